/-! QUERIES: the best cells to dig -/
section BST
/-- what digging asks of a mine, the crew not asked -/
def wOK (p : aP) (m : aM) : Prop := stOK (pW p) (pH p) (aS m) ∧ aW m ≤ pH p
theorem wOK_of {p : aP} {m : aM} (I : mOK p m) : wOK p m := ⟨I.1, I.2.2.2.2.2.1⟩
section DMW
variable {u : Nat} {p : aP} {m : aM} {LF LH : (Nat → Int32) → Int32}
theorem xdigW (P : pOK p) (I : wOK p m) {a6 a7 c13 c16 : Nat → Int32} {l12 l15 : Int32} (E : kbA a6 a7 (pK p) (pB p)) (L : lawX l12 c13 LF) (L2 : lawX l15 c16 LH) (hu : 160 ≤ u) {c : Nat} (hc : c < 48) (hS : aS m c = 0 ∨ aS m c = 3)
    {shift digs props pence lungs wetr raised fell : Int32} {dug prp fal : Int64} {belt sold gone fates : Nat → Int32} (X : xMine m shift digs props pence lungs wetr raised fell dug prp fal belt sold gone fates) (a14 a17 : Nat → Int32) :
    ∃ o, f_X3_breakOpen u shift digs lungs wetr raised fell dug prp fal belt a6 a7 l12 c13 a14 l15 c16 a17 (nI c) = some o ∧ xMine (digM LF LH p m c) shift o.1 props pence o.2.1 o.2.2.1 o.2.2.2.1 o.2.2.2.2.1 o.2.2.2.2.2.1 prp o.2.2.2.2.2.2.1 o.2.2.2.2.2.2.2.1 sold gone fates := by
  obtain ⟨M, hb, rfl, rfl, rfl, rfl, rfl, rfl, rfl, rfl, hso, hgo, hfa⟩ := X
  have hc' := P.2.2.2.2.2.1 c hc
  obtain ⟨r, b14, b17, e, M2⟩ := x_dig (u := u) (sh := aSh m) (w := aW m) (bl := belt) (dg := nI (aDg m)) (lg := aLu m) (ra := aRa m) (fe := aFe m) M E L L2 hu hc hS hc'.1 hc'.2.1 (Nat.le_trans I.2 P.2.1.2) a14 a17
  refine ⟨_, e, M2, ?_, rfl, nI_1 _, rfl, rfl, rfl, rfl, rfl, rfl, hso, hgo, hfa⟩
  intro k hk
  show (if brl (aS m) (pB p) c = 0 then belt else upd belt (pK p c) (belt (pK p c) + nI (brl (aS m) (pB p) c))) k = nI ((if brl (aS m) (pB p) c = 0 then aB m else fun k => if k = pK p c then aB m k + brl (aS m) (pB p) c else aB m k) k)
  by_cases z : brl (aS m) (pB p) c = 0
  · rw [if_pos z, if_pos z]; exact hb k hk
  · rw [if_neg z, if_neg z]
    simp only [z_upd]
    by_cases y : k = pK p c
    · rw [if_pos y, if_pos y, ← y, hb k hk, nI_add]
    · rw [if_neg y, if_neg y]; exact hb k hk
theorem mdigW (P : pOK p) (I : wOK p m) {a7 a8 m13 m14 m15 : Nat → Int32} (E : kbA a7 a8 (pK p) (pB p)) (L : lawM 0 m13 m14 m15 LF) (L2 : lawM 1 m13 m14 m15 LH) (hc1 : lcong LF) (hc2 : lcong LH) (hu : 160 ≤ u) {c : Nat} (hc : c < 48) (hg : inG (pW p) (pH p) c = true) (hS : aS m c = 0 ∨ aS m c = 3) {g : Nat → Int32} (X : mMine m g) (b16 b17 b23 : Nat → Int32) :
    ∃ d16 d17 d d23, f_X11_digs u (nI (pW p)) (nI (pH p)) a7 a8 m13 m14 m15 b16 b17 (upd g 70 (g 70 + (1 : Int32))) b23 (nI c) = some (d16, d17, d, d23) ∧ mMine (digM LF LH p m c) d := by
  obtain ⟨A, hb, h69, h70, h71, h74, h72, h73, h75, h76, hso, hgo, hfa⟩ := X
  have hc' := P.2.2.2.2.2.1 c hc
  have up : ∀ j, j ≠ 70 → upd g 70 (g 70 + (1 : Int32)) j = g j := fun j hj => by simp only [z_upd]; rw [if_neg hj]
  obtain ⟨d16, d17, d, d23, e, A2, r73, r74, r75, r76, rb, ro⟩ := m_dig (u := u) (sh := aSh m) (w := aW m) P.1.2 P.2.1.2 I.1 E L L2 hc1 hc2 hu hc hg hS hc'.1 (fun h => (hc'.2.2.1 h).2) hc'.2.1 (Nat.le_trans I.2 P.2.1.2) (g := upd g 70 (g 70 + (1 : Int32))) (fun k hk => by rw [up k (by omega)]; exact A k hk) (by rw [up 69 (by omega)]; exact h69) (by rw [up 74 (by omega)]; exact h74) b16 b17 b23
  refine ⟨d16, d17, d, d23, e, A2, ?_, ?_, ?_, ?_, r74, ?_, ?_, ?_, ?_, ?_, ?_, ?_⟩
  · intro k hk
    rw [rb k hk, up (48 + k) (by omega), hb k hk]
    show _ = nI ((if brl (aS m) (pB p) c = 0 then aB m else fun k => if k = pK p c then aB m k + brl (aS m) (pB p) c else aB m k) k)
    by_cases z : brl (aS m) (pB p) c = 0
    · rw [if_pos z, if_pos z]
    · rw [if_neg z, if_neg z]
      by_cases y : k = pK p c
      · rw [if_pos y, if_pos y, nI_add]
      · rw [if_neg y, if_neg y]
  · rw [ro 69 (by omega) (by omega), up 69 (by omega)]; exact h69
  · rw [ro 70 (by omega) (by omega)]
    simp only [z_upd]
    rw [if_pos trivial, h70]
    exact nI_1 _
  · rw [ro 71 (by omega) (by omega), up 71 (by omega)]; exact h71
  · rw [ro 72 (by omega) (by omega), up 72 (by omega)]; exact h72
  · rw [r73, up 73 (by omega), h73]; rfl
  · rw [r75, up 75 (by omega), h75]; rfl
  · rw [r76, up 76 (by omega), h76]; rfl
  · intro k hk; rw [ro (53 + k) (by omega) (by omega), up (53 + k) (by omega)]; exact hso k hk
  · intro k hk; rw [ro (58 + k) (by omega) (by omega), up (58 + k) (by omega)]; exact hgo k hk
  · intro k hk; rw [ro (63 + k) (by omega) (by omega), up (63 + k) (by omega)]; exact hfa k hk
theorem wOK_dig (I : wOK p m) {c : Nat} (hg : inG (pW p) (pH p) c = true) : wOK p (digM LF LH p m c) := by
  refine ⟨stOK_dig I.1 hg, ?_⟩
  show dW (aS m) (pK p) (aW m) c ≤ pH p
  have := I.2
  unfold dW
  split <;> omega
end DMW
def ablM (p : aP) (m : aM) (c : Nat) : Bool := able (pW p) (pH p) (pD p) (aS m) (aW m) c
def pnc (p : aP) (m : aM) (c : Nat) : Nat := brl (aS m) (pB p) c * pP p (pK p c)
theorem pnc_le {p : aP} {m : aM} (P : pOK p) {c : Nat} (hc : c < 48) : pnc p m c ≤ 891 := by
  have h1 := P.2.2.2.2.2.1 c hc
  have h2 : brl (aS m) (pB p) c ≤ pB p c := by
    unfold brl
    split <;> omega
  unfold pnc
  by_cases z : brl (aS m) (pB p) c = 0
  · rw [z, Nat.zero_mul]; omega
  · have h3 := P.2.2.2.2.2.2 (pK p c) (by have := (h1.2.2.1 (by omega)).2; omega)
    have : brl (aS m) (pB p) c * pP p (pK p c) ≤ 9 * 99 := Nat.mul_le_mul (by omega) h3
    omega
theorem ablM_S {p : aP} {m : aM} (I : wOK p m) {c : Nat} (hc : c < 48) (h : ablM p m c = true) : inG (pW p) (pH p) c = true ∧ (aS m c = 0 ∨ aS m c = 3) ∧ why (pW p) (pH p) (pD p) (aS m) (aW m) c = 0 := by
  unfold ablM able at h
  rw [Bool.and_eq_true, Bool.and_eq_true] at h
  obtain ⟨h1, h2, h3⟩ := h
  have hg : inG (pW p) (pH p) c = true := by
    unfold hnd at h1
    rw [Bool.and_eq_true] at h1
    exact h1.1
  have ho : opn (aS m) c = false := by
    cases z : opn (aS m) c with
    | false => rfl
    | true => rw [z] at h2; exact absurd h2 (by decide)
  have hw : ¬ aW m ≤ c / 8 := by
    intro z
    unfold wet at h3
    rw [hg, decide_eq_true z] at h3
    exact absurd h3 (by decide)
  refine ⟨hg, ?_, ?_⟩
  · have := I.1.1 c hc
    unfold opn at ho
    by_cases z : aS m c = 0
    · exact Or.inl z
    · by_cases y : aS m c = 1
      · rw [y] at ho; exact absurd ho (by decide)
      · by_cases x : aS m c = 2
        · rw [x] at ho; exact absurd ho (by decide)
        · right; omega
  · unfold why
    rw [if_neg (by rw [ho]; decide), if_pos h1, if_neg hw]
theorem ablM_why {p : aP} {m : aM} {c : Nat} (h : ablM p m c = false) : inG (pW p) (pH p) c = false ∨ ¬ why (pW p) (pH p) (pD p) (aS m) (aW m) c = 0 := by
  cases hg : inG (pW p) (pH p) c with
  | false => exact Or.inl rfl
  | true =>
    right
    unfold why
    cases ho : opn (aS m) c with
    | true => rw [if_pos rfl]; omega
    | false =>
      rw [if_neg (by decide)]
      cases hh : hnd (pW p) (pH p) (pD p) (aS m) c with
      | false => rw [if_neg (by decide)]; omega
      | true =>
        rw [if_pos rfl]
        by_cases z : aW m ≤ c / 8
        · rw [if_pos z]; omega
        · exfalso
          unfold ablM able wet at h
          rw [hh, ho, hg, decide_eq_false z] at h
          exact absurd h (by decide)
/-- pence, how many, cells -/
abbrev bT : Type := Nat × Nat × Int64
def bcn (b : bT) (pe lv : Nat) (dg : Int64) : bT := if b.1 < pe ∨ (pe = b.1 ∧ lv < b.2.1) then (pe, lv, dg) else b
def fdF (f : Nat → bT → bT) : Nat → Nat → bT → bT
  | 0, _, b => b
  | r + 1, k, b => fdF f r (k + 1) (f k b)
def bsS (LF LH : (Nat → Int32) → Int32) (p : aP) : Nat → Nat → aM → Nat → Int64 → bT → bT
  | 0, _, _, _, _, b => b
  | r + 1, lv, m, pe, dg, b => fdF (fun c b => if ablM p m c = true then bsS LF LH p r (lv + 1) (digM LF LH p m c) (pe + pnc p m c) (dg * (64 : Int64) + (nI c).toInt64 + (1 : Int64)) (bcn b (pe + pnc p m c) (lv + 1) (dg * (64 : Int64) + (nI c).toInt64 + (1 : Int64))) else b) 48 0 b
def bOK (b : bT) : Prop := b.1 ≤ 2673 ∧ b.2.1 ≤ 3
theorem bcn_ok {b : bT} (h : bOK b) {pe lv : Nat} (h1 : pe ≤ 2673) (h2 : lv ≤ 3) (dg : Int64) : bOK (bcn b pe lv dg) := by
  unfold bcn
  split
  · exact ⟨h1, h2⟩
  · exact h
theorem fdF_ok {f : Nat → bT → bT} : ∀ r k b, k + r = 48 → (∀ c b, c < 48 → bOK b → bOK (f c b)) → bOK b → bOK (fdF f r k b)
  | 0, _, _, _, _, h => h
  | r + 1, k, b, hk, hf, h => fdF_ok r (k + 1) _ (by omega) hf (hf k b (by omega) h)
theorem bsS_ok {LF LH : (Nat → Int32) → Int32} {p : aP} (P : pOK p) : ∀ r lv m pe dg b, lv + r ≤ 3 → pe ≤ 891 * lv → bOK b → bOK (bsS LF LH p r lv m pe dg b)
  | 0, _, _, _, _, _, _, _, h => h
  | r + 1, lv, m, pe, dg, b, hl, hp, h => by
    refine fdF_ok 48 0 b (by omega) (fun c b hc hb => ?_) h
    show bOK (if ablM p m c = true then _ else b)
    split
    · have := pnc_le (m := m) P hc
      exact bsS_ok P r (lv + 1) _ _ _ _ (by omega) (by omega) (bcn_ok hb (by omega) (by omega) _)
    · exact hb
section BX
variable {u : Nat} {p : aP} {LF LH : (Nat → Int32) → Int32}
theorem x_penceLeft (P : pOK p) {m : aM} (I : wOK p m) {dug prp fal : Int64} (M : mS dug prp fal (aS m)) {a6 a7 a8 : Nat → Int32} (E : kbA a6 a7 (pK p) (pB p)) (hP : ∀ k, k < 5 → a8 k = nI (pP p k)) {c : Nat} (hc : c < 48) : f_X3_penceLeft u dug prp fal a6 a7 a8 (nI c) = some (nI (pnc p m c)) := by
  have hp := pnc_le (m := m) P hc
  have h1 := P.2.2.2.2.2.1 c hc
  have h2 : brl (aS m) (pB p) c ≤ pB p c := by
    unfold brl
    split <;> omega
  unfold f_X3_penceLeft bX3_penceLeft_0
  rw [x_bars M E.2 hc (I.1.1 c hc), z_b]
  by_cases z : brl (aS m) (pB p) c = 0
  · rw [z]
    refine (if_pos (show nI 0 ≤ (0 : Int32) by decide)).trans ?_
    unfold pnc
    rw [z, Nat.zero_mul]
    rfl
  · have hk := h1.2.2.1 (by omega)
    refine (if_neg (show ¬ nI (brl (aS m) (pB p) c) ≤ (0 : Int32) from nI_ge (a := 0) (by omega) (by omega))).trans ?_
    rw [z_ki (by omega) (by omega), z_cl (by omega), E.1 c hc, z_ki (by omega) (by omega), z_cl (by omega), hP _ (by omega)]
    exact congrArg some (Int32.ofNat_mul (brl (aS m) (pB p) c) (pP p (pK p c))).symm
theorem x_consider {b : bT} (hb : bOK b) {pe lv : Nat} (h1 : pe ≤ 2673) (h2 : lv ≤ 3) (dg : Int64) : f_X7_consider u (nI b.1) (nI b.2.1) b.2.2 (nI pe) (nI lv) dg = some (nI (bcn b pe lv dg).1, nI (bcn b pe lv dg).2.1, (bcn b pe lv dg).2.2) := by
  have q1 := hb.1
  have q2 := hb.2
  unfold f_X7_consider bX7_consider_0 bX7_consider_24 bcn
  by_cases z : b.1 < pe
  · rw [if_pos (nI_lt z (by omega)), if_pos (Or.inl z)]
  · rw [if_neg (nI_nlt (by omega) (by omega))]
    by_cases y : pe = b.1
    · rw [if_pos (by rw [y])]
      by_cases x : lv < b.2.1
      · rw [if_neg (nI_ge x (by omega)), if_pos (Or.inr ⟨y, x⟩)]
      · rw [if_pos (nI_le (by omega) (by omega)), if_neg (by rintro (w | ⟨-, w⟩) <;> omega)]
    · rw [if_neg (fun w => y ((nI_eq (by omega) (by omega)).mp w)), if_neg (by rintro (w | ⟨w, -⟩) <;> omega)]
variable {wid hei cr od : Int32} {al sf : Int64} {k4 k5 k6 k7 k8 k9 k18 k21 : Nat → Int32} {l12 l15 : Int32}
theorem x_s3 (v : Int32) (w : Int32) (d : Int64) : f_X7_search_3 u v w d = some () := by
  unfold f_X7_search_3 bX7_search_3_0
  by_cases z : v ≤ (3 : Int32)
  · rw [if_pos z]
  · rw [if_neg z]
set_option maxRecDepth 8000 in
theorem x_s2 (P : pOK p) (E : xPit p wid hei al sf cr od k4 k5 k6 k7 k8 k9) (L : lawX l12 k18 LF) (L2 : lawX l15 k21 LH) (hu : 160 ≤ u) {m : aM} (I : wOK p m) {y10 y11 y12 y13 y14 y15 y16 y17 : Int32} {y3 y4 y5 : Int64} {ya yb yc yd : Nat → Int32} (X : xMine m y10 y11 y12 y13 y14 y15 y16 y17 y3 y4 y5 ya yb yc yd) {most : Nat} (hm : most ≤ 3) {pe : Nat} (hp : pe ≤ 1782) (dg : Int64) (s19 s22 : Nat → Int32) {b : bT} (hb : bOK b) (z10 z11 z12 z13 z14 z15 z16 z17 : Int32) (z3 z4 z5 : Int64) (za zb zc zd : Nat → Int32) : ∃ o, f_X7_search_2 u al sf k4 k5 k6 l12 k18 s19 l15 k21 s22 (nI b.1) (nI b.2.1) b.2.2 y10 y11 y12 y13 y14 y15 y16 y17 y3 y4 y5 ya yb yc yd z10 z11 z12 z13 z14 z15 z16 z17 z3 z4 z5 za zb zc zd (nI most) (nI pe) dg = some o ∧ o.2.2.1 = nI (bsS LF LH p (most - 2) 2 m pe dg b).1 ∧ o.2.2.2.1 = nI (bsS LF LH p (most - 2) 2 m pe dg b).2.1 ∧ o.2.2.2.2.1 = (bsS LF LH p (most - 2) 2 m pe dg b).2.2 := by
  unfold f_X7_search_2 bX7_search_2_0
  by_cases hq : most ≤ 2
  · rw [if_pos (show nI most ≤ (2 : Int32) from nI_le (b := 2) hq (by omega)), show most - 2 = 0 by omega]
    exact ⟨_, rfl, rfl, rfl, rfl⟩
  · have X' := X
    obtain ⟨M, hbe, hs, hdg, hpr, hwe, hpe, hlu, hra, hfe, hso, hgo, hfa⟩ := X'
    obtain ⟨rr, e1, e2⟩ := x_able (u := u) (D := pD p) M.1 M.2.1 E.2.2.1 E.2.2.2.1 (Nat.le_trans I.2 P.2.1.2)
    rw [if_neg (show ¬ nI most ≤ (2 : Int32) from nI_ge (a := 2) (by omega) (by omega)), hwe, e1, z_b]
    have st : ∀ b, bsS LF LH p (most - 2) 2 m pe dg b = fdF (fun c b => if ablM p m c = true then bsS LF LH p (most - 3) 3 (digM LF LH p m c) (pe + pnc p m c) (dg * (64 : Int64) + (nI c).toInt64 + (1 : Int64)) (bcn b (pe + pnc p m c) 3 (dg * (64 : Int64) + (nI c).toInt64 + (1 : Int64))) else b) 48 0 b := by
      intro b
      rw [show most - 2 = (most - 3) + 1 by omega]
      rfl
    rw [st]
    rw [← hwe]
    have key : ∀ r k n (s19 s22 : Nat → Int32) (b : bT) (z10 z11 z12 z13 z14 z15 z16 z17 : Int32) (z3 z4 z5 : Int64) (za zb zc zd : Nat → Int32), k + r = 48 → r < n → bOK b → ∃ o, bX7_search_2_28 u al sf k4 k5 k6 l12 k18 l15 k21 y10 y11 y12 y13 y14 y15 y16 y17 y3 y4 y5 ya yb yc yd n s19 s22 (nI b.1) (nI b.2.1) b.2.2 z10 z11 z12 z13 z14 z15 z16 z17 z3 z4 z5 za zb zc zd (nI most) (nI pe) dg rr (nI k) = some o ∧ o.2.2.1 = nI (fdF (fun c b => if ablM p m c = true then bsS LF LH p (most - 3) 3 (digM LF LH p m c) (pe + pnc p m c) (dg * (64 : Int64) + (nI c).toInt64 + (1 : Int64)) (bcn b (pe + pnc p m c) 3 (dg * (64 : Int64) + (nI c).toInt64 + (1 : Int64))) else b) r k b).1 ∧ o.2.2.2.1 = nI (fdF (fun c b => if ablM p m c = true then bsS LF LH p (most - 3) 3 (digM LF LH p m c) (pe + pnc p m c) (dg * (64 : Int64) + (nI c).toInt64 + (1 : Int64)) (bcn b (pe + pnc p m c) 3 (dg * (64 : Int64) + (nI c).toInt64 + (1 : Int64))) else b) r k b).2.1 ∧ o.2.2.2.2.1 = (fdF (fun c b => if ablM p m c = true then bsS LF LH p (most - 3) 3 (digM LF LH p m c) (pe + pnc p m c) (dg * (64 : Int64) + (nI c).toInt64 + (1 : Int64)) (bcn b (pe + pnc p m c) 3 (dg * (64 : Int64) + (nI c).toInt64 + (1 : Int64))) else b) r k b).2.2 := by
      intro r
      induction r with
      | zero =>
        intro k n s19 s22 b z10 z11 z12 z13 z14 z15 z16 z17 z3 z4 z5 za zb zc zd hk hn hb
        obtain ⟨n, rfl⟩ := z_suc hn
        obtain rfl : k = 48 := by omega
        rw [bX7_search_2_28, if_pos (show (48 : Int32) ≤ nI 48 by decide)]
        exact ⟨_, rfl, rfl, rfl, rfl⟩
      | succ r ih =>
        intro k n s19 s22 b z10 z11 z12 z13 z14 z15 z16 z17 z3 z4 z5 za zb zc zd hk hn hb
        obtain ⟨n, rfl⟩ := z_suc hn
        have hk2 : k < 48 := by omega
        have ek : nI k + (1 : Int32) = nI (k + 1) := nI_1 k
        have hpn := pnc_le (m := m) P hk2
        have hbit : lb rr k = ablM p m k := lS_get e2 hk2
        rw [bX7_search_2_28, if_neg (show ¬ (48 : Int32) ≤ nI k from nI_ge (a := k) (b := 48) hk2 (by omega))]
        unfold bX7_search_2_120
        rw [ek]
        have sf2 : ∀ (f : Nat → bT → bT) b, fdF f (r + 1) k b = fdF f r (k + 1) (f k b) := fun f b => rfl
        simp only [sf2]
        cases ha : ablM p m k with
        | false =>
          rw [if_pos (show lg_cmp ((rr.toUInt64 >>> ((nI k).toInt64.toUInt64 &&& Int64.toUInt64 63)).toInt64 &&& (1 : Int64)) (0 : Int64) = (0 : Int32) from (lb_t (by omega)).mpr (by rw [hbit, ha]))]
          rw [if_neg (show ¬ false = true by decide)]
          exact ih (k + 1) n s19 s22 b z10 z11 z12 z13 z14 z15 z16 z17 z3 z4 z5 za zb zc zd (by omega) (by omega) hb
        | true =>
          obtain ⟨hg, hS, -⟩ := ablM_S I hk2 ha
          rw [if_neg (show ¬ lg_cmp ((rr.toUInt64 >>> ((nI k).toInt64.toUInt64 &&& Int64.toUInt64 63)).toInt64 &&& (1 : Int64)) (0 : Int64) = (0 : Int32) from fun w => by have := (lb_t (m := rr) (show k < 64 by omega)).mp w; rw [hbit, ha] at this; exact absurd this (by decide))]
          rw [if_pos rfl, x_penceLeft P I M E.2.2.2.2.2.2.1 E.2.2.2.2.2.2.2.1 hk2, z_b, nI_add, show (3 : Int32) = nI 3 from rfl, x_consider hb (by omega) (by omega), z_b]
          have hb' := bcn_ok hb (pe := pe + pnc p m k) (lv := 3) (by omega) (by omega) (dg * (64 : Int64) + (nI k).toInt64 + (1 : Int64))
          by_cases hl : most ≤ 3
          · rw [if_pos (show nI most ≤ nI 3 from nI_le hl (by omega)), show most - 3 = 0 by omega]
            have := ih (k + 1) n s19 s22 (bcn b (pe + pnc p m k) 3 (dg * (64 : Int64) + (nI k).toInt64 + (1 : Int64))) z10 z11 z12 z13 z14 z15 z16 z17 z3 z4 z5 za zb zc zd (by omega) (by omega) hb'
            rw [show most - 3 = 0 by omega] at this
            exact this
          · rw [if_neg (show ¬ nI most ≤ nI 3 from nI_ge (by omega) (by omega))]
            unfold f_X3_copyFrom bX3_copyFrom_0
            rw [z_b]
            obtain ⟨o, f1, f2⟩ := xdigW (u := u) P I E.2.2.2.2.2.2.1 L L2 hu hk2 hS (xMine_cp X za zb zc zd) s19 s22
            rw [f1, z_b]
            rw [x_s3, z_b]
            have hz : most - 3 = 0 := by omega
            rw [hz]
            have := ih (k + 1) n o.2.2.2.2.2.2.2.2.1 o.2.2.2.2.2.2.2.2.2 (bcn b (pe + pnc p m k) 3 (dg * (64 : Int64) + (nI k).toInt64 + (1 : Int64))) y10 o.1 y12 y13 o.2.1 o.2.2.1 o.2.2.2.1 o.2.2.2.2.1 o.2.2.2.2.2.1 y4 o.2.2.2.2.2.2.1 o.2.2.2.2.2.2.2.1 (va_cpy yb zb 0 0 6) (va_cpy yc zc 0 0 6) (va_cpy yd zd 0 0 6) (by omega) (by omega) hb'
            rw [hz] at this
            exact this
    exact key 48 0 u s19 s22 b z10 z11 z12 z13 z14 z15 z16 z17 z3 z4 z5 za zb zc zd (by omega) (by omega) hb
set_option maxRecDepth 8000 in
theorem x_s1 (P : pOK p) (E : xPit p wid hei al sf cr od k4 k5 k6 k7 k8 k9) (L : lawX l12 k18 LF) (L2 : lawX l15 k21 LH) (hu : 160 ≤ u) {m : aM} (I : wOK p m) {y10 y11 y12 y13 y14 y15 y16 y17 : Int32} {y3 y4 y5 : Int64} {ya yb yc yd : Nat → Int32} (X : xMine m y10 y11 y12 y13 y14 y15 y16 y17 y3 y4 y5 ya yb yc yd) {most : Nat} (hm : most ≤ 3) {pe : Nat} (hp : pe ≤ 891) (dg : Int64) (s19 s22 : Nat → Int32) {b : bT} (hb : bOK b) (z10 z11 z12 z13 z14 z15 z16 z17 : Int32) (z3 z4 z5 : Int64) (za zb zc zd : Nat → Int32) (v10 v11 v12 v13 v14 v15 v16 v17 : Int32) (v3 v4 v5 : Int64) (va vb vc vd : Nat → Int32) : ∃ o, f_X7_search_1 u al sf k4 k5 k6 l12 k18 s19 l15 k21 s22 (nI b.1) (nI b.2.1) b.2.2 y10 y11 y12 y13 y14 y15 y16 y17 y3 y4 y5 ya yb yc yd z10 z11 z12 z13 z14 z15 z16 z17 z3 z4 z5 za zb zc zd v10 v11 v12 v13 v14 v15 v16 v17 v3 v4 v5 va vb vc vd (nI most) (nI pe) dg = some o ∧ o.2.2.1 = nI (bsS LF LH p (most - 1) 1 m pe dg b).1 ∧ o.2.2.2.1 = nI (bsS LF LH p (most - 1) 1 m pe dg b).2.1 ∧ o.2.2.2.2.1 = (bsS LF LH p (most - 1) 1 m pe dg b).2.2 := by
  unfold f_X7_search_1 bX7_search_1_0
  by_cases hq : most ≤ 1
  · rw [if_pos (show nI most ≤ (1 : Int32) from nI_le (b := 1) hq (by omega)), show most - 1 = 0 by omega]
    exact ⟨_, rfl, rfl, rfl, rfl⟩
  · have X' := X
    obtain ⟨M, hbe, hs, hdg, hpr, hwe, hpe, hlu, hra, hfe, hso, hgo, hfa⟩ := X'
    obtain ⟨rr, e1, e2⟩ := x_able (u := u) (D := pD p) M.1 M.2.1 E.2.2.1 E.2.2.2.1 (Nat.le_trans I.2 P.2.1.2)
    rw [if_neg (show ¬ nI most ≤ (1 : Int32) from nI_ge (a := 1) (by omega) (by omega)), hwe, e1, z_b]
    have st : ∀ b, bsS LF LH p (most - 1) 1 m pe dg b = fdF (fun c b => if ablM p m c = true then bsS LF LH p (most - 2) 2 (digM LF LH p m c) (pe + pnc p m c) (dg * (64 : Int64) + (nI c).toInt64 + (1 : Int64)) (bcn b (pe + pnc p m c) 2 (dg * (64 : Int64) + (nI c).toInt64 + (1 : Int64))) else b) 48 0 b := by
      intro b
      rw [show most - 1 = (most - 2) + 1 by omega]
      rfl
    rw [st]
    rw [← hwe]
    have key : ∀ r k n (s19 s22 : Nat → Int32) (b : bT) (z10 z11 z12 z13 z14 z15 z16 z17 : Int32) (z3 z4 z5 : Int64) (za zb zc zd : Nat → Int32) (v10 v11 v12 v13 v14 v15 v16 v17 : Int32) (v3 v4 v5 : Int64) (va vb vc vd : Nat → Int32), k + r = 48 → r < n → bOK b → ∃ o, bX7_search_1_28 u al sf k4 k5 k6 l12 k18 l15 k21 y10 y11 y12 y13 y14 y15 y16 y17 y3 y4 y5 ya yb yc yd n s19 s22 (nI b.1) (nI b.2.1) b.2.2 z10 z11 z12 z13 z14 z15 z16 z17 z3 z4 z5 za zb zc zd v10 v11 v12 v13 v14 v15 v16 v17 v3 v4 v5 va vb vc vd (nI most) (nI pe) dg rr (nI k) = some o ∧ o.2.2.1 = nI (fdF (fun c b => if ablM p m c = true then bsS LF LH p (most - 2) 2 (digM LF LH p m c) (pe + pnc p m c) (dg * (64 : Int64) + (nI c).toInt64 + (1 : Int64)) (bcn b (pe + pnc p m c) 2 (dg * (64 : Int64) + (nI c).toInt64 + (1 : Int64))) else b) r k b).1 ∧ o.2.2.2.1 = nI (fdF (fun c b => if ablM p m c = true then bsS LF LH p (most - 2) 2 (digM LF LH p m c) (pe + pnc p m c) (dg * (64 : Int64) + (nI c).toInt64 + (1 : Int64)) (bcn b (pe + pnc p m c) 2 (dg * (64 : Int64) + (nI c).toInt64 + (1 : Int64))) else b) r k b).2.1 ∧ o.2.2.2.2.1 = (fdF (fun c b => if ablM p m c = true then bsS LF LH p (most - 2) 2 (digM LF LH p m c) (pe + pnc p m c) (dg * (64 : Int64) + (nI c).toInt64 + (1 : Int64)) (bcn b (pe + pnc p m c) 2 (dg * (64 : Int64) + (nI c).toInt64 + (1 : Int64))) else b) r k b).2.2 := by
      intro r
      induction r with
      | zero =>
        intro k n s19 s22 b z10 z11 z12 z13 z14 z15 z16 z17 z3 z4 z5 za zb zc zd v10 v11 v12 v13 v14 v15 v16 v17 v3 v4 v5 va vb vc vd hk hn hb
        obtain ⟨n, rfl⟩ := z_suc hn
        obtain rfl : k = 48 := by omega
        rw [bX7_search_1_28, if_pos (show (48 : Int32) ≤ nI 48 by decide)]
        exact ⟨_, rfl, rfl, rfl, rfl⟩
      | succ r ih =>
        intro k n s19 s22 b z10 z11 z12 z13 z14 z15 z16 z17 z3 z4 z5 za zb zc zd v10 v11 v12 v13 v14 v15 v16 v17 v3 v4 v5 va vb vc vd hk hn hb
        obtain ⟨n, rfl⟩ := z_suc hn
        have hk2 : k < 48 := by omega
        have ek : nI k + (1 : Int32) = nI (k + 1) := nI_1 k
        have hpn := pnc_le (m := m) P hk2
        have hbit : lb rr k = ablM p m k := lS_get e2 hk2
        rw [bX7_search_1_28, if_neg (show ¬ (48 : Int32) ≤ nI k from nI_ge (a := k) (b := 48) hk2 (by omega))]
        unfold bX7_search_1_120
        rw [ek]
        have sf2 : ∀ (f : Nat → bT → bT) b, fdF f (r + 1) k b = fdF f r (k + 1) (f k b) := fun f b => rfl
        simp only [sf2]
        cases ha : ablM p m k with
        | false =>
          rw [if_pos (show lg_cmp ((rr.toUInt64 >>> ((nI k).toInt64.toUInt64 &&& Int64.toUInt64 63)).toInt64 &&& (1 : Int64)) (0 : Int64) = (0 : Int32) from (lb_t (by omega)).mpr (by rw [hbit, ha]))]
          rw [if_neg (show ¬ false = true by decide)]
          exact ih (k + 1) n s19 s22 b z10 z11 z12 z13 z14 z15 z16 z17 z3 z4 z5 za zb zc zd v10 v11 v12 v13 v14 v15 v16 v17 v3 v4 v5 va vb vc vd (by omega) (by omega) hb
        | true =>
          obtain ⟨hg, hS, -⟩ := ablM_S I hk2 ha
          rw [if_neg (show ¬ lg_cmp ((rr.toUInt64 >>> ((nI k).toInt64.toUInt64 &&& Int64.toUInt64 63)).toInt64 &&& (1 : Int64)) (0 : Int64) = (0 : Int32) from fun w => by have := (lb_t (m := rr) (show k < 64 by omega)).mp w; rw [hbit, ha] at this; exact absurd this (by decide))]
          rw [if_pos rfl, x_penceLeft P I M E.2.2.2.2.2.2.1 E.2.2.2.2.2.2.2.1 hk2, z_b, nI_add, show (2 : Int32) = nI 2 from rfl, x_consider hb (by omega) (by omega), z_b]
          have hb' := bcn_ok hb (pe := pe + pnc p m k) (lv := 2) (by omega) (by omega) (dg * (64 : Int64) + (nI k).toInt64 + (1 : Int64))
          by_cases hl : most ≤ 2
          · rw [if_pos (show nI most ≤ nI 2 from nI_le hl (by omega)), show most - 2 = 0 by omega]
            have := ih (k + 1) n s19 s22 (bcn b (pe + pnc p m k) 2 (dg * (64 : Int64) + (nI k).toInt64 + (1 : Int64))) z10 z11 z12 z13 z14 z15 z16 z17 z3 z4 z5 za zb zc zd v10 v11 v12 v13 v14 v15 v16 v17 v3 v4 v5 va vb vc vd (by omega) (by omega) hb'
            rw [show most - 2 = 0 by omega] at this
            exact this
          · rw [if_neg (show ¬ nI most ≤ nI 2 from nI_ge (by omega) (by omega))]
            unfold f_X3_copyFrom bX3_copyFrom_0
            rw [z_b]
            obtain ⟨o, f1, f2⟩ := xdigW (u := u) P I E.2.2.2.2.2.2.1 L L2 hu hk2 hS (xMine_cp X za zb zc zd) s19 s22
            rw [f1, z_b]
            obtain ⟨t, g1, g2, g3, g4⟩ := x_s2 (u := u) P E L L2 hu (wOK_dig (LF := LF) (LH := LH) I hg) f2 hm (pe := pe + pnc p m k) (by omega) (dg * (64 : Int64) + (nI k).toInt64 + (1 : Int64)) o.2.2.2.2.2.2.2.2.1 o.2.2.2.2.2.2.2.2.2 hb' v10 v11 v12 v13 v14 v15 v16 v17 v3 v4 v5 va vb vc vd
            rw [g1, z_b]
            have hb2 := bsS_ok (LF := LF) (LH := LH) P (most - 2) 2 (digM LF LH p m k) (pe + pnc p m k) (dg * (64 : Int64) + (nI k).toInt64 + (1 : Int64)) _ (by omega) (by omega) hb'
            rw [show t.2.2.1 = _ from g2, show t.2.2.2.1 = _ from g3, show t.2.2.2.2.1 = _ from g4]
            exact ih (k + 1) n t.1 t.2.1 _ y10 o.1 y12 y13 o.2.1 o.2.2.1 o.2.2.2.1 o.2.2.2.2.1 o.2.2.2.2.2.1 y4 o.2.2.2.2.2.2.1 o.2.2.2.2.2.2.2.1 (va_cpy yb zb 0 0 6) (va_cpy yc zc 0 0 6) (va_cpy yd zd 0 0 6) t.2.2.2.2.2.1 t.2.2.2.2.2.2.1 t.2.2.2.2.2.2.2.1 t.2.2.2.2.2.2.2.2.1 t.2.2.2.2.2.2.2.2.2.1 t.2.2.2.2.2.2.2.2.2.2.1 t.2.2.2.2.2.2.2.2.2.2.2.1 t.2.2.2.2.2.2.2.2.2.2.2.2.1 t.2.2.2.2.2.2.2.2.2.2.2.2.2.1 t.2.2.2.2.2.2.2.2.2.2.2.2.2.2.1 t.2.2.2.2.2.2.2.2.2.2.2.2.2.2.2.1 t.2.2.2.2.2.2.2.2.2.2.2.2.2.2.2.2.1 t.2.2.2.2.2.2.2.2.2.2.2.2.2.2.2.2.2.1 t.2.2.2.2.2.2.2.2.2.2.2.2.2.2.2.2.2.2.1 t.2.2.2.2.2.2.2.2.2.2.2.2.2.2.2.2.2.2.2 (by omega) (by omega) hb2
    exact key 48 0 u s19 s22 b z10 z11 z12 z13 z14 z15 z16 z17 z3 z4 z5 za zb zc zd v10 v11 v12 v13 v14 v15 v16 v17 v3 v4 v5 va vb vc vd (by omega) (by omega) hb
set_option maxRecDepth 8000 in
theorem x_s0 (P : pOK p) (E : xPit p wid hei al sf cr od k4 k5 k6 k7 k8 k9) (L : lawX l12 k18 LF) (L2 : lawX l15 k21 LH) (hu : 160 ≤ u) {m : aM} (I : wOK p m) {y10 y11 y12 y13 y14 y15 y16 y17 : Int32} {y3 y4 y5 : Int64} {ya yb yc yd : Nat → Int32} (X : xMine m y10 y11 y12 y13 y14 y15 y16 y17 y3 y4 y5 ya yb yc yd) {most : Nat} (hm : most ≤ 3) {pe : Nat} (hp : pe ≤ 0) (dg : Int64) (s19 s22 : Nat → Int32) {b : bT} (hb : bOK b) (z10 z11 z12 z13 z14 z15 z16 z17 : Int32) (z3 z4 z5 : Int64) (za zb zc zd : Nat → Int32) (v10 v11 v12 v13 v14 v15 v16 v17 : Int32) (v3 v4 v5 : Int64) (va vb vc vd : Nat → Int32) (w10 w11 w12 w13 w14 w15 w16 w17 : Int32) (w3 w4 w5 : Int64) (wa wb wc wd : Nat → Int32) : ∃ o, f_X7_search_0 u al sf k4 k5 k6 l12 k18 s19 l15 k21 s22 y10 y11 y12 y13 y14 y15 y16 y17 y3 y4 y5 ya yb yc yd (nI b.1) (nI b.2.1) b.2.2 z10 z11 z12 z13 z14 z15 z16 z17 z3 z4 z5 za zb zc zd v10 v11 v12 v13 v14 v15 v16 v17 v3 v4 v5 va vb vc vd w10 w11 w12 w13 w14 w15 w16 w17 w3 w4 w5 wa wb wc wd (nI most) (nI pe) dg = some o ∧ o.2.2.1 = nI (bsS LF LH p (most - 0) 0 m pe dg b).1 ∧ o.2.2.2.1 = nI (bsS LF LH p (most - 0) 0 m pe dg b).2.1 ∧ o.2.2.2.2.1 = (bsS LF LH p (most - 0) 0 m pe dg b).2.2 := by
  unfold f_X7_search_0 bX7_search_0_0
  by_cases hq : most ≤ 0
  · rw [if_pos (show nI most ≤ (0 : Int32) from nI_le (b := 0) hq (by omega)), show most - 0 = 0 by omega]
    exact ⟨_, rfl, rfl, rfl, rfl⟩
  · have X' := X
    obtain ⟨M, hbe, hs, hdg, hpr, hwe, hpe, hlu, hra, hfe, hso, hgo, hfa⟩ := X'
    obtain ⟨rr, e1, e2⟩ := x_able (u := u) (D := pD p) M.1 M.2.1 E.2.2.1 E.2.2.2.1 (Nat.le_trans I.2 P.2.1.2)
    rw [if_neg (show ¬ nI most ≤ (0 : Int32) from nI_ge (a := 0) (by omega) (by omega)), hwe, e1, z_b]
    have st : ∀ b, bsS LF LH p (most - 0) 0 m pe dg b = fdF (fun c b => if ablM p m c = true then bsS LF LH p (most - 1) 1 (digM LF LH p m c) (pe + pnc p m c) (dg * (64 : Int64) + (nI c).toInt64 + (1 : Int64)) (bcn b (pe + pnc p m c) 1 (dg * (64 : Int64) + (nI c).toInt64 + (1 : Int64))) else b) 48 0 b := by
      intro b
      rw [show most - 0 = (most - 1) + 1 by omega]
      rfl
    rw [st]
    rw [← hwe]
    have key : ∀ r k n (s19 s22 : Nat → Int32) (b : bT) (z10 z11 z12 z13 z14 z15 z16 z17 : Int32) (z3 z4 z5 : Int64) (za zb zc zd : Nat → Int32) (v10 v11 v12 v13 v14 v15 v16 v17 : Int32) (v3 v4 v5 : Int64) (va vb vc vd : Nat → Int32) (w10 w11 w12 w13 w14 w15 w16 w17 : Int32) (w3 w4 w5 : Int64) (wa wb wc wd : Nat → Int32), k + r = 48 → r < n → bOK b → ∃ o, bX7_search_0_28 u al sf k4 k5 k6 l12 k18 l15 k21 y10 y11 y12 y13 y14 y15 y16 y17 y3 y4 y5 ya yb yc yd n s19 s22 (nI b.1) (nI b.2.1) b.2.2 z10 z11 z12 z13 z14 z15 z16 z17 z3 z4 z5 za zb zc zd v10 v11 v12 v13 v14 v15 v16 v17 v3 v4 v5 va vb vc vd w10 w11 w12 w13 w14 w15 w16 w17 w3 w4 w5 wa wb wc wd (nI most) (nI pe) dg rr (nI k) = some o ∧ o.2.2.1 = nI (fdF (fun c b => if ablM p m c = true then bsS LF LH p (most - 1) 1 (digM LF LH p m c) (pe + pnc p m c) (dg * (64 : Int64) + (nI c).toInt64 + (1 : Int64)) (bcn b (pe + pnc p m c) 1 (dg * (64 : Int64) + (nI c).toInt64 + (1 : Int64))) else b) r k b).1 ∧ o.2.2.2.1 = nI (fdF (fun c b => if ablM p m c = true then bsS LF LH p (most - 1) 1 (digM LF LH p m c) (pe + pnc p m c) (dg * (64 : Int64) + (nI c).toInt64 + (1 : Int64)) (bcn b (pe + pnc p m c) 1 (dg * (64 : Int64) + (nI c).toInt64 + (1 : Int64))) else b) r k b).2.1 ∧ o.2.2.2.2.1 = (fdF (fun c b => if ablM p m c = true then bsS LF LH p (most - 1) 1 (digM LF LH p m c) (pe + pnc p m c) (dg * (64 : Int64) + (nI c).toInt64 + (1 : Int64)) (bcn b (pe + pnc p m c) 1 (dg * (64 : Int64) + (nI c).toInt64 + (1 : Int64))) else b) r k b).2.2 := by
      intro r
      induction r with
      | zero =>
        intro k n s19 s22 b z10 z11 z12 z13 z14 z15 z16 z17 z3 z4 z5 za zb zc zd v10 v11 v12 v13 v14 v15 v16 v17 v3 v4 v5 va vb vc vd w10 w11 w12 w13 w14 w15 w16 w17 w3 w4 w5 wa wb wc wd hk hn hb
        obtain ⟨n, rfl⟩ := z_suc hn
        obtain rfl : k = 48 := by omega
        rw [bX7_search_0_28, if_pos (show (48 : Int32) ≤ nI 48 by decide)]
        exact ⟨_, rfl, rfl, rfl, rfl⟩
      | succ r ih =>
        intro k n s19 s22 b z10 z11 z12 z13 z14 z15 z16 z17 z3 z4 z5 za zb zc zd v10 v11 v12 v13 v14 v15 v16 v17 v3 v4 v5 va vb vc vd w10 w11 w12 w13 w14 w15 w16 w17 w3 w4 w5 wa wb wc wd hk hn hb
        obtain ⟨n, rfl⟩ := z_suc hn
        have hk2 : k < 48 := by omega
        have ek : nI k + (1 : Int32) = nI (k + 1) := nI_1 k
        have hpn := pnc_le (m := m) P hk2
        have hbit : lb rr k = ablM p m k := lS_get e2 hk2
        rw [bX7_search_0_28, if_neg (show ¬ (48 : Int32) ≤ nI k from nI_ge (a := k) (b := 48) hk2 (by omega))]
        unfold bX7_search_0_120
        rw [ek]
        have sf2 : ∀ (f : Nat → bT → bT) b, fdF f (r + 1) k b = fdF f r (k + 1) (f k b) := fun f b => rfl
        simp only [sf2]
        cases ha : ablM p m k with
        | false =>
          rw [if_pos (show lg_cmp ((rr.toUInt64 >>> ((nI k).toInt64.toUInt64 &&& Int64.toUInt64 63)).toInt64 &&& (1 : Int64)) (0 : Int64) = (0 : Int32) from (lb_t (by omega)).mpr (by rw [hbit, ha]))]
          rw [if_neg (show ¬ false = true by decide)]
          exact ih (k + 1) n s19 s22 b z10 z11 z12 z13 z14 z15 z16 z17 z3 z4 z5 za zb zc zd v10 v11 v12 v13 v14 v15 v16 v17 v3 v4 v5 va vb vc vd w10 w11 w12 w13 w14 w15 w16 w17 w3 w4 w5 wa wb wc wd (by omega) (by omega) hb
        | true =>
          obtain ⟨hg, hS, -⟩ := ablM_S I hk2 ha
          rw [if_neg (show ¬ lg_cmp ((rr.toUInt64 >>> ((nI k).toInt64.toUInt64 &&& Int64.toUInt64 63)).toInt64 &&& (1 : Int64)) (0 : Int64) = (0 : Int32) from fun w => by have := (lb_t (m := rr) (show k < 64 by omega)).mp w; rw [hbit, ha] at this; exact absurd this (by decide))]
          rw [if_pos rfl, x_penceLeft P I M E.2.2.2.2.2.2.1 E.2.2.2.2.2.2.2.1 hk2, z_b, nI_add, show (1 : Int32) = nI 1 from rfl, x_consider hb (by omega) (by omega), z_b]
          have hb' := bcn_ok hb (pe := pe + pnc p m k) (lv := 1) (by omega) (by omega) (dg * (64 : Int64) + (nI k).toInt64 + (1 : Int64))
          by_cases hl : most ≤ 1
          · rw [if_pos (show nI most ≤ nI 1 from nI_le hl (by omega)), show most - 1 = 0 by omega]
            have := ih (k + 1) n s19 s22 (bcn b (pe + pnc p m k) 1 (dg * (64 : Int64) + (nI k).toInt64 + (1 : Int64))) z10 z11 z12 z13 z14 z15 z16 z17 z3 z4 z5 za zb zc zd v10 v11 v12 v13 v14 v15 v16 v17 v3 v4 v5 va vb vc vd w10 w11 w12 w13 w14 w15 w16 w17 w3 w4 w5 wa wb wc wd (by omega) (by omega) hb'
            rw [show most - 1 = 0 by omega] at this
            exact this
          · rw [if_neg (show ¬ nI most ≤ nI 1 from nI_ge (by omega) (by omega))]
            unfold f_X3_copyFrom bX3_copyFrom_0
            rw [z_b]
            obtain ⟨o, f1, f2⟩ := xdigW (u := u) P I E.2.2.2.2.2.2.1 L L2 hu hk2 hS (xMine_cp X za zb zc zd) s19 s22
            rw [f1, z_b]
            obtain ⟨t, g1, g2, g3, g4⟩ := x_s1 (u := u) P E L L2 hu (wOK_dig (LF := LF) (LH := LH) I hg) f2 hm (pe := pe + pnc p m k) (by omega) (dg * (64 : Int64) + (nI k).toInt64 + (1 : Int64)) o.2.2.2.2.2.2.2.2.1 o.2.2.2.2.2.2.2.2.2 hb' v10 v11 v12 v13 v14 v15 v16 v17 v3 v4 v5 va vb vc vd w10 w11 w12 w13 w14 w15 w16 w17 w3 w4 w5 wa wb wc wd
            rw [g1, z_b]
            have hb2 := bsS_ok (LF := LF) (LH := LH) P (most - 1) 1 (digM LF LH p m k) (pe + pnc p m k) (dg * (64 : Int64) + (nI k).toInt64 + (1 : Int64)) _ (by omega) (by omega) hb'
            rw [show t.2.2.1 = _ from g2, show t.2.2.2.1 = _ from g3, show t.2.2.2.2.1 = _ from g4]
            exact ih (k + 1) n t.1 t.2.1 _ y10 o.1 y12 y13 o.2.1 o.2.2.1 o.2.2.2.1 o.2.2.2.2.1 o.2.2.2.2.2.1 y4 o.2.2.2.2.2.2.1 o.2.2.2.2.2.2.2.1 (va_cpy yb zb 0 0 6) (va_cpy yc zc 0 0 6) (va_cpy yd zd 0 0 6) t.2.2.2.2.2.1 t.2.2.2.2.2.2.1 t.2.2.2.2.2.2.2.1 t.2.2.2.2.2.2.2.2.1 t.2.2.2.2.2.2.2.2.2.1 t.2.2.2.2.2.2.2.2.2.2.1 t.2.2.2.2.2.2.2.2.2.2.2.1 t.2.2.2.2.2.2.2.2.2.2.2.2.1 t.2.2.2.2.2.2.2.2.2.2.2.2.2.1 t.2.2.2.2.2.2.2.2.2.2.2.2.2.2.1 t.2.2.2.2.2.2.2.2.2.2.2.2.2.2.2.1 t.2.2.2.2.2.2.2.2.2.2.2.2.2.2.2.2.1 t.2.2.2.2.2.2.2.2.2.2.2.2.2.2.2.2.2.1 t.2.2.2.2.2.2.2.2.2.2.2.2.2.2.2.2.2.2.1 t.2.2.2.2.2.2.2.2.2.2.2.2.2.2.2.2.2.2.2.1 t.2.2.2.2.2.2.2.2.2.2.2.2.2.2.2.2.2.2.2.2.1 t.2.2.2.2.2.2.2.2.2.2.2.2.2.2.2.2.2.2.2.2.2.1 t.2.2.2.2.2.2.2.2.2.2.2.2.2.2.2.2.2.2.2.2.2.2.1 t.2.2.2.2.2.2.2.2.2.2.2.2.2.2.2.2.2.2.2.2.2.2.2.1 t.2.2.2.2.2.2.2.2.2.2.2.2.2.2.2.2.2.2.2.2.2.2.2.2.1 t.2.2.2.2.2.2.2.2.2.2.2.2.2.2.2.2.2.2.2.2.2.2.2.2.2.1 t.2.2.2.2.2.2.2.2.2.2.2.2.2.2.2.2.2.2.2.2.2.2.2.2.2.2.1 t.2.2.2.2.2.2.2.2.2.2.2.2.2.2.2.2.2.2.2.2.2.2.2.2.2.2.2.1 t.2.2.2.2.2.2.2.2.2.2.2.2.2.2.2.2.2.2.2.2.2.2.2.2.2.2.2.2.1 t.2.2.2.2.2.2.2.2.2.2.2.2.2.2.2.2.2.2.2.2.2.2.2.2.2.2.2.2.2.1 t.2.2.2.2.2.2.2.2.2.2.2.2.2.2.2.2.2.2.2.2.2.2.2.2.2.2.2.2.2.2.1 t.2.2.2.2.2.2.2.2.2.2.2.2.2.2.2.2.2.2.2.2.2.2.2.2.2.2.2.2.2.2.2.1 t.2.2.2.2.2.2.2.2.2.2.2.2.2.2.2.2.2.2.2.2.2.2.2.2.2.2.2.2.2.2.2.2.1 t.2.2.2.2.2.2.2.2.2.2.2.2.2.2.2.2.2.2.2.2.2.2.2.2.2.2.2.2.2.2.2.2.2.1 t.2.2.2.2.2.2.2.2.2.2.2.2.2.2.2.2.2.2.2.2.2.2.2.2.2.2.2.2.2.2.2.2.2.2 (by omega) (by omega) hb2
    exact key 48 0 u s19 s22 b z10 z11 z12 z13 z14 z15 z16 z17 z3 z4 z5 za zb zc zd v10 v11 v12 v13 v14 v15 v16 v17 v3 v4 v5 va vb vc vd w10 w11 w12 w13 w14 w15 w16 w17 w3 w4 w5 wa wb wc wd (by omega) (by omega) hb
end BX
end BST
