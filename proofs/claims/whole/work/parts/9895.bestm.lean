/-! QUERIES: the best cells to dig, the reference -/
section BSM
variable {u : Nat} {S : aT} {h : k_H} {p : aP} {LF LH : (Nat → Int32) → Int32}
/-- a mine with other digs in its shift -/
def sdg (m : aM) (e : Nat) : aM := (aS m, aB m, aSh m, e, aPr m, aW m, aPe m, aLu m, aRa m, aFe m, aSo m, aGo m, aFa m)
theorem mMine_77 {m : aM} {g g' : Nat → Int32} (G : mMine m g) (h : ∀ j, j < 77 → g' j = g j) : mMine m g' := by
  obtain ⟨A, mb, m69, m70, m71, m74, m72, m73, m75, m76, mso, mgo, mfa⟩ := G
  exact ⟨fun c hc => by rw [h c (by omega)]; exact A c hc, fun k hk => by rw [h _ (by omega)]; exact mb k hk, by rw [h _ (by omega)]; exact m69, by rw [h _ (by omega)]; exact m70, by rw [h _ (by omega)]; exact m71, by rw [h _ (by omega)]; exact m74, by rw [h _ (by omega)]; exact m72, by rw [h _ (by omega)]; exact m73, by rw [h _ (by omega)]; exact m75, by rw [h _ (by omega)]; exact m76, fun k hk => by rw [h _ (by omega)]; exact mso k hk, fun k hk => by rw [h _ (by omega)]; exact mgo k hk, fun k hk => by rw [h _ (by omega)]; exact mfa k hk⟩
theorem nI_m1 : nI 4294967295 = (-1 : Int32) := by decide
theorem mdig0 (P : pOK p) {m : aM} (I : wOK p m) {a7 a8 m13 m14 m15 : Nat → Int32} (E : kbA a7 a8 (pK p) (pB p)) (L : lawM 0 m13 m14 m15 LF) (L2 : lawM 1 m13 m14 m15 LH) (hc1 : lcong LF) (hc2 : lcong LH) (hu : 160 ≤ u) {c : Nat} (hc : c < 48) (hg : inG (pW p) (pH p) c = true) (hS : aS m c = 0 ∨ aS m c = 3) {g : Nat → Int32} {e : Nat} (X : mMine (sdg m e) g) (b16 b17 b23 : Nat → Int32) :
    ∃ d16 d17 d d23, f_X11_digs u (nI (pW p)) (nI (pH p)) a7 a8 m13 m14 m15 b16 b17 g b23 (nI c) = some (d16, d17, d, d23) ∧ ∃ e, mMine (sdg (digM LF LH p m c) e) d := by
  have hG : upd (upd g 70 (nI (e + 4294967295))) 70 (upd g 70 (nI (e + 4294967295)) 70 + (1 : Int32)) = g := by
    funext j
    simp only [z_upd]
    by_cases z : j = 70
    · rw [if_pos z, if_pos trivial, z, X.2.2.2.1, ← nI_add, nI_m1]
      show nI e + -1 + 1 = nI e
      rw [Int32.add_assoc]
      show nI e + 0 = nI e
      exact Int32.add_zero _
    · rw [if_neg z, if_neg z]
  obtain ⟨A, mb, m69, m70, m71, m74, m72, m73, m75, m76, mso, mgo, mfa⟩ := X
  have o : ∀ j, j ≠ 70 → upd g 70 (nI (e + 4294967295)) j = g j := fun j hj => by simp only [z_upd]; rw [if_neg hj]
  have X' : mMine (sdg m (e + 4294967295)) (upd g 70 (nI (e + 4294967295))) := ⟨fun c hc => by rw [o c (by omega)]; exact A c hc, fun k hk => by rw [o _ (by omega)]; exact mb k hk, by rw [o _ (by omega)]; exact m69, by simp only [z_upd]; rw [if_pos trivial]; rfl, by rw [o _ (by omega)]; exact m71, by rw [o _ (by omega)]; exact m74, by rw [o _ (by omega)]; exact m72, by rw [o _ (by omega)]; exact m73, by rw [o _ (by omega)]; exact m75, by rw [o _ (by omega)]; exact m76, fun k hk => by rw [o _ (by omega)]; exact mso k hk, fun k hk => by rw [o _ (by omega)]; exact mgo k hk, fun k hk => by rw [o _ (by omega)]; exact mfa k hk⟩
  obtain ⟨d16, d17, d, d23, f1, f2⟩ := mdigW (u := u) (m := sdg m (e + 4294967295)) P I E L L2 hc1 hc2 hu hc hg hS X' b16 b17 b23
  rw [hG] at f1
  exact ⟨d16, d17, d, d23, f1, _, f2⟩
theorem m_cons0 {F : Int32 → Int32 → Int64 → Option (Int32 × Int32 × Int64 × (Nat → Int32) × (Nat → Int32) × (Nat → Int32) × (Nat → Int32) × (Nat → Int32))} {b : bT} (hb : bOK b) {pe lv : Nat} (h1 : pe ≤ 2673) (h2 : lv ≤ 3) (dg : Int64) : (if nI b.1 < nI pe then F (nI pe) (nI lv) dg else (if nI pe = nI b.1 then (if nI b.2.1 ≤ nI lv then F (nI b.1) (nI b.2.1) b.2.2 else F (nI pe) (nI lv) dg) else F (nI b.1) (nI b.2.1) b.2.2)) = F (nI (bcn b pe lv dg).1) (nI (bcn b pe lv dg).2.1) (bcn b pe lv dg).2.2 := by
  have q1 := hb.1
  have q2 := hb.2
  unfold bcn
  by_cases z : b.1 < pe
  · rw [if_pos (nI_lt z (by omega)), if_pos (Or.inl z)]
  · rw [if_neg (nI_nlt (by omega) (by omega))]
    by_cases y : pe = b.1
    · rw [if_pos (by rw [y])]
      by_cases x : lv < b.2.1
      · rw [if_neg (nI_ge x (by omega)), if_pos (Or.inr ⟨y, x⟩)]
      · rw [if_pos (nI_le (by omega) (by omega)), if_neg (by rintro (w | ⟨-, w⟩) <;> omega)]
    · rw [if_neg (fun w => y ((nI_eq (by omega) (by omega)).mp w)), if_neg (by rintro (w | ⟨w, -⟩) <;> omega)]
variable {a7 a8 a9 m13 m14 m15 : Nat → Int32} {d27 : Int32}
abbrev gT : Type := Int32 → Int32 → Int32 → Int32 → Int32 → Int64 → (Nat → Int32) → (Nat → Int32) → (Nat → Int32) → (Nat → Int32) → (Nat → Int32) → (Nat → Int32) → (Nat → Int32) → (Nat → Int32) → (Nat → Int32) → (Nat → Int32) → (Nat → Int32) → Int32 → Int32 → Int32 → Int64 → Option (Int32 × Int32 × Int64 × (Nat → Int32) × (Nat → Int32) × (Nat → Int32) × (Nat → Int32) × (Nat → Int32))
/-- a row is put back -/
theorem m_back (gg : gT) (W H : Int32) (k84 : Int32 → Int32 → Int64 → (Nat → Int32) → (Nat → Int32) → (Nat → Int32) → (Nat → Int32) → (Nat → Int32) → Int32 → Int32 → Int32 → Int64 → Int32 → Option (Int32 × Int32 × Int64 × (Nat → Int32) × (Nat → Int32) × (Nat → Int32) × (Nat → Int32) × (Nat → Int32))) (v56 v57 : Int32) (v58 : Int64) (b16 b17 b23 b27 : Nat → Int32) {lv : Nat} (hl : lv ≤ 3) (v2 v3 : Int32) (v4 : Int64) (c : Nat) :
    ∀ r k n g, k + r = 77 → r < n → ∃ g', bX11_bestsOn_199 u gg W H d27 a7 a8 a9 m13 m14 m15 k84 n v56 v57 v58 b16 b17 g b23 b27 (nI lv) v2 v3 v4 (nI c) (nI k) = k84 v56 v57 v58 b16 b17 g' b23 b27 (nI lv) v2 v3 v4 (nI (c + 1)) ∧ (∀ j, j < k → g' j = g j) ∧ ∀ j, k ≤ j → j < 77 → g' j = b27 (77 * lv + j) := by
  intro r
  induction r with
  | zero =>
    intro k n g hk hn
    obtain ⟨n, rfl⟩ := z_suc hn
    obtain rfl : k = 77 := by omega
    refine ⟨g, ?_, fun j hj => rfl, fun j h1 h2 => by omega⟩
    rw [bX11_bestsOn_199, if_pos (show (77 : Int32) ≤ nI 77 by decide)]
    unfold bX11_bestsOn_231
    rw [show nI c + (1 : Int32) = nI (c + 1) from nI_1 c]
  | succ r ih =>
    intro k n g hk hn
    obtain ⟨n, rfl⟩ := z_suc hn
    have e1 : nI k + (1 : Int32) = nI (k + 1) := nI_1 k
    have e2 : (77 : Int32) * nI lv + nI k = nI (77 * lv + k) := by rw [show (77 : Int32) * nI lv = nI (77 * lv) from (Int32.ofNat_mul 77 lv).symm, nI_add]
    rw [bX11_bestsOn_199, if_neg (show ¬ (77 : Int32) ≤ nI k from nI_ge (a := k) (b := 77) (by omega) (by omega)), e1, e2, z_ki (by omega) (by omega), z_ki (by omega) (by omega), z_cl (by omega), z_cl (by omega)]
    obtain ⟨g', f1, f2, f3⟩ := ih (k + 1) n (upd g k (b27 (77 * lv + k))) (by omega) (by omega)
    refine ⟨g', f1, fun j hj => ?_, fun j h1 h2 => ?_⟩
    · rw [f2 j (by omega)]; simp only [z_upd]; rw [if_neg (by omega)]
    · by_cases z : j = k
      · rw [z, f2 k (by omega)]; simp only [z_upd]; rw [if_pos trivial]
      · exact f3 j (by omega) h2
/-- a row is kept -/
theorem m_save (gg : gT) (W H : Int32) (v56 v57 : Int32) (v58 : Int64) (b16 b17 g b23 : Nat → Int32) {lv : Nat} (hl : lv ≤ 3) (v2 v3 : Int32) (v4 : Int64) :
    ∀ r k n b27, k + r = 77 → r < n → ∃ c27, bX11_bestsOn_49 u gg W H d27 a7 a8 a9 m13 m14 m15 n v56 v57 v58 b16 b17 g b23 b27 (nI lv) v2 v3 v4 (nI k) = bX11_bestsOn_84 u gg W H d27 a7 a8 a9 m13 m14 m15 u v56 v57 v58 b16 b17 g b23 c27 (nI lv) v2 v3 v4 (0 : Int32) ∧ (∀ j, j < 77 * lv + k → c27 j = b27 j) ∧ ∀ j, k ≤ j → j < 77 → c27 (77 * lv + j) = g j := by
  intro r
  induction r with
  | zero =>
    intro k n b27 hk hn
    obtain ⟨n, rfl⟩ := z_suc hn
    obtain rfl : k = 77 := by omega
    refine ⟨b27, ?_, fun j hj => rfl, fun j h1 h2 => by omega⟩
    rw [bX11_bestsOn_49, if_pos (show (77 : Int32) ≤ nI 77 by decide)]
  | succ r ih =>
    intro k n b27 hk hn
    obtain ⟨n, rfl⟩ := z_suc hn
    have e1 : nI k + (1 : Int32) = nI (k + 1) := nI_1 k
    have e2 : (77 : Int32) * nI lv + nI k = nI (77 * lv + k) := by rw [show (77 : Int32) * nI lv = nI (77 * lv) from (Int32.ofNat_mul 77 lv).symm, nI_add]
    rw [bX11_bestsOn_49, if_neg (show ¬ (77 : Int32) ≤ nI k from nI_ge (a := k) (b := 77) (by omega) (by omega)), e1, e2, z_ki (by omega) (by omega), z_ki (by omega) (by omega), z_cl (by omega), z_cl (by omega)]
    obtain ⟨c27, f1, f2, f3⟩ := ih (k + 1) n (upd b27 (77 * lv + k) (g k)) (by omega) (by omega)
    refine ⟨c27, f1, fun j hj => ?_, fun j h1 h2 => ?_⟩
    · rw [f2 j (by omega)]; simp only [z_upd]; rw [if_neg (by omega)]
    · by_cases z : j = k
      · rw [z, f2 (77 * lv + k) (by omega)]; simp only [z_upd]; rw [if_pos trivial]
      · exact f3 j (by omega) h2
set_option maxRecDepth 8000 in
theorem m_b40 (P : pOK p) (mh : shA d27 (pD p)) (E : kbA a7 a8 (pK p) (pB p)) (hP : ∀ k, k < 5 → a9 k = nI (pP p k)) (L : lawM 0 m13 m14 m15 LF) (L2 : lawM 1 m13 m14 m15 LH) (hc1 : lcong LF) (hc2 : lcong LH) (hu : 160 ≤ u) {N : Nat} (hN : N ≤ 3) :
    ∀ r d lv m pe dg b e b16 b17 g b23 b27, lv + r = N → r ≤ d → wOK p m → mMine (sdg m e) g → pe ≤ 891 * lv → bOK b → ∃ o, bX11_bestsOn_40 u (f_X11_bestsOn_r u d) (nI (pW p)) (nI (pH p)) d27 a7 a8 a9 m13 m14 m15 (nI b.1) (nI b.2.1) b.2.2 b16 b17 g b23 b27 (nI lv) (nI N) (nI pe) dg = some o ∧ o.1 = nI (bsS LF LH p r lv m pe dg b).1 ∧ o.2.1 = nI (bsS LF LH p r lv m pe dg b).2.1 ∧ o.2.2.1 = (bsS LF LH p r lv m pe dg b).2.2 ∧ ∀ j, j < 77 * lv → o.2.2.2.2.2.2.2 j = b27 j := by
  have h8 := P.1.2
  have h6 := P.2.1.2
  intro r
  induction r with
  | zero =>
    intro d lv m pe dg b e b16 b17 g b23 b27 hl hd I G hp hb
    obtain rfl : lv = N := by omega
    unfold bX11_bestsOn_40
    rw [if_pos rfl]
    exact ⟨_, rfl, rfl, rfl, rfl, fun j hj => rfl⟩
  | succ r ihr =>
    intro d lv m pe dg b e b16 b17 g b23 b27 hl hd I G hp hb
    obtain ⟨d, rfl⟩ : ∃ k, d = k + 1 := ⟨d - 1, by omega⟩
    unfold bX11_bestsOn_40
    rw [if_neg (show ¬ nI lv = nI N from fun w => by have := (nI_eq (by omega) (by omega)).mp w; omega)]
    obtain ⟨c27, f1, f2, f3⟩ := m_save (u := u) (d27 := d27) (a7 := a7) (a8 := a8) (a9 := a9) (m13 := m13) (m14 := m14) (m15 := m15) (f_X11_bestsOn_r u (d + 1)) (nI (pW p)) (nI (pH p)) (nI b.1) (nI b.2.1) b.2.2 b16 b17 g b23 (show lv ≤ 3 by omega) (nI N) (nI pe) dg 77 0 u b27 (by omega) (by omega)
    rw [show bX11_bestsOn_49 u (f_X11_bestsOn_r u (d + 1)) (nI (pW p)) (nI (pH p)) d27 a7 a8 a9 m13 m14 m15 u (nI b.1) (nI b.2.1) b.2.2 b16 b17 g b23 b27 (nI lv) (nI N) (nI pe) dg (0 : Int32) = _ from f1]
    have key : ∀ s k n b16 b17 g' b23 x27 b, k + s = 48 → s < n → bOK b → (∀ j, j < 77 → g' j = g j) → (∀ j, j < 77 * lv → x27 j = b27 j) → (∀ j, j < 77 → x27 (77 * lv + j) = g j) → ∃ o, bX11_bestsOn_84 u (f_X11_bestsOn_r u (d + 1)) (nI (pW p)) (nI (pH p)) d27 a7 a8 a9 m13 m14 m15 n (nI b.1) (nI b.2.1) b.2.2 b16 b17 g' b23 x27 (nI lv) (nI N) (nI pe) dg (nI k) = some o ∧ o.1 = nI (fdF (fun c b => if ablM p m c = true then bsS LF LH p r (lv + 1) (digM LF LH p m c) (pe + pnc p m c) (dg * (64 : Int64) + (nI c).toInt64 + (1 : Int64)) (bcn b (pe + pnc p m c) (lv + 1) (dg * (64 : Int64) + (nI c).toInt64 + (1 : Int64))) else b) s k b).1 ∧ o.2.1 = nI (fdF (fun c b => if ablM p m c = true then bsS LF LH p r (lv + 1) (digM LF LH p m c) (pe + pnc p m c) (dg * (64 : Int64) + (nI c).toInt64 + (1 : Int64)) (bcn b (pe + pnc p m c) (lv + 1) (dg * (64 : Int64) + (nI c).toInt64 + (1 : Int64))) else b) s k b).2.1 ∧ o.2.2.1 = (fdF (fun c b => if ablM p m c = true then bsS LF LH p r (lv + 1) (digM LF LH p m c) (pe + pnc p m c) (dg * (64 : Int64) + (nI c).toInt64 + (1 : Int64)) (bcn b (pe + pnc p m c) (lv + 1) (dg * (64 : Int64) + (nI c).toInt64 + (1 : Int64))) else b) s k b).2.2 ∧ ∀ j, j < 77 * lv → o.2.2.2.2.2.2.2 j = b27 j := by
      intro s
      induction s with
      | zero =>
        intro k n b16 b17 g' b23 x27 b hk hn hb hg hx1 hx2
        obtain ⟨n, rfl⟩ := z_suc hn
        obtain rfl : k = 48 := by omega
        rw [bX11_bestsOn_84, if_pos (show (48 : Int32) ≤ nI 48 by decide)]
        exact ⟨_, rfl, rfl, rfl, rfl, hx1⟩
      | succ s ih =>
        intro k n b16 b17 g' b23 x27 b hk hn hb hg hx1 hx2
        obtain ⟨n, rfl⟩ := z_suc hn
        have hk2 : k < 48 := by omega
        have hpn := pnc_le (m := m) P hk2
        have G' := mMine_77 G hg
        have ek : nI k + (1 : Int32) = nI (k + 1) := nI_1 k
        have ex : nI k - nI k / (8 : Int32) * (8 : Int32) = nI (k % 8) := by
          simp (disch := omega) only [z_lit, z_div, pk_mul, z_sub]
          rw [show k - k / 8 * 8 = k % 8 by omega]
        have ey : nI k / (8 : Int32) = nI (k / 8) := by
          simp (disch := omega) only [z_lit, z_div]
        have sf2 : ∀ (f : Nat → bT → bT) b, fdF f (s + 1) k b = fdF f s (k + 1) (f k b) := fun f b => rfl
        have no : ablM p m k = false → ∃ o, bX11_bestsOn_231 u (f_X11_bestsOn_r u (d + 1)) (nI (pW p)) (nI (pH p)) d27 a7 a8 a9 m13 m14 m15 (bX11_bestsOn_84 u (f_X11_bestsOn_r u (d + 1)) (nI (pW p)) (nI (pH p)) d27 a7 a8 a9 m13 m14 m15 n) (nI b.1) (nI b.2.1) b.2.2 b16 b17 g' b23 x27 (nI lv) (nI N) (nI pe) dg (nI k) = some o ∧ o.1 = nI (fdF (fun c b => if ablM p m c = true then bsS LF LH p r (lv + 1) (digM LF LH p m c) (pe + pnc p m c) (dg * (64 : Int64) + (nI c).toInt64 + (1 : Int64)) (bcn b (pe + pnc p m c) (lv + 1) (dg * (64 : Int64) + (nI c).toInt64 + (1 : Int64))) else b) (s + 1) k b).1 ∧ o.2.1 = nI (fdF (fun c b => if ablM p m c = true then bsS LF LH p r (lv + 1) (digM LF LH p m c) (pe + pnc p m c) (dg * (64 : Int64) + (nI c).toInt64 + (1 : Int64)) (bcn b (pe + pnc p m c) (lv + 1) (dg * (64 : Int64) + (nI c).toInt64 + (1 : Int64))) else b) (s + 1) k b).2.1 ∧ o.2.2.1 = (fdF (fun c b => if ablM p m c = true then bsS LF LH p r (lv + 1) (digM LF LH p m c) (pe + pnc p m c) (dg * (64 : Int64) + (nI c).toInt64 + (1 : Int64)) (bcn b (pe + pnc p m c) (lv + 1) (dg * (64 : Int64) + (nI c).toInt64 + (1 : Int64))) else b) (s + 1) k b).2.2 ∧ ∀ j, j < 77 * lv → o.2.2.2.2.2.2.2 j = b27 j := by
          intro ha
          unfold bX11_bestsOn_231
          rw [ek]
          simp only [sf2]
          rw [ha, if_neg (show ¬ false = true by decide)]
          exact ih (k + 1) n b16 b17 g' b23 x27 b (by omega) (by omega) hb hg hx1 hx2
        rw [bX11_bestsOn_84, if_neg (show ¬ (48 : Int32) ≤ nI k from nI_ge (a := k) (b := 48) hk2 (by omega)), ex, ey, m_isIn (u := u) (by omega) (by omega) (by omega) (by omega), z_b]
        have hgi : (decide (k % 8 < pW p) && decide (k / 8 < pH p)) = inG (pW p) (pH p) k := rfl
        rw [hgi]
        cases hi : inG (pW p) (pH p) k with
        | false =>
          rw [if_pos (show zB false = (0 : Int32) from rfl)]
          refine no ?_
          cases ha : ablM p m k with
          | false => rfl
          | true =>
            have := (ablM_S I hk2 ha).1
            rw [hi] at this
            exact absurd this (by decide)
        | true =>
          rw [if_neg (show ¬ zB true = (0 : Int32) from d_10), m_why (u := u) (S := aS m) (w := aW m) h8 h6 G'.1 I.1 mh G'.2.2.2.2.2.1 (Nat.le_trans I.2 h6) hk2 hi, z_b]
          cases ha : ablM p m k with
          | false =>
            rcases ablM_why ha with w | w
            · rw [hi] at w; exact absurd w (by decide)
            · have hwle : why (pW p) (pH p) (pD p) (aS m) (aW m) k < 2147483648 := by
                unfold why; repeat (first | split | omega)
              rw [if_neg (show ¬ nI (why (pW p) (pH p) (pD p) (aS m) (aW m) k) = (0 : Int32) from fun z => w ((nI_eq (b := 0) hwle (by omega)).mp z))]
              exact no ha
          | true =>
            obtain ⟨hg2, hS, hw0⟩ := ablM_S I hk2 ha
            rw [hw0, if_pos (show nI 0 = (0 : Int32) from rfl)]
            have hb' := bcn_ok hb (pe := pe + pnc p m k) (lv := lv + 1) (by omega) (by omega) (dg * (64 : Int64) + (nI k).toInt64 + (1 : Int64))
            have yes : ∃ o, bX11_bestsOn_164 u (f_X11_bestsOn_r u (d + 1)) (nI (pW p)) (nI (pH p)) d27 a7 a8 a9 m13 m14 m15 (bX11_bestsOn_84 u (f_X11_bestsOn_r u (d + 1)) (nI (pW p)) (nI (pH p)) d27 a7 a8 a9 m13 m14 m15 n) (nI b.1) (nI b.2.1) b.2.2 b16 b17 g' b23 x27 (nI lv) (nI N) (nI pe) dg (nI k) (nI (pnc p m k)) = some o ∧ o.1 = nI (fdF (fun c b => if ablM p m c = true then bsS LF LH p r (lv + 1) (digM LF LH p m c) (pe + pnc p m c) (dg * (64 : Int64) + (nI c).toInt64 + (1 : Int64)) (bcn b (pe + pnc p m c) (lv + 1) (dg * (64 : Int64) + (nI c).toInt64 + (1 : Int64))) else b) (s + 1) k b).1 ∧ o.2.1 = nI (fdF (fun c b => if ablM p m c = true then bsS LF LH p r (lv + 1) (digM LF LH p m c) (pe + pnc p m c) (dg * (64 : Int64) + (nI c).toInt64 + (1 : Int64)) (bcn b (pe + pnc p m c) (lv + 1) (dg * (64 : Int64) + (nI c).toInt64 + (1 : Int64))) else b) (s + 1) k b).2.1 ∧ o.2.2.1 = (fdF (fun c b => if ablM p m c = true then bsS LF LH p r (lv + 1) (digM LF LH p m c) (pe + pnc p m c) (dg * (64 : Int64) + (nI c).toInt64 + (1 : Int64)) (bcn b (pe + pnc p m c) (lv + 1) (dg * (64 : Int64) + (nI c).toInt64 + (1 : Int64))) else b) (s + 1) k b).2.2 ∧ ∀ j, j < 77 * lv → o.2.2.2.2.2.2.2 j = b27 j := by
              obtain ⟨d16, d17, dd, d23, t1, e2, t2⟩ := mdig0 (u := u) P I E L L2 hc1 hc2 hu hk2 hg2 hS G' b16 b17 b23
              unfold bX11_bestsOn_164
              rw [t1, z_b]
              have e5 : (64 : Int64) * dg + (nI k).toInt64 + (1 : Int64) = dg * (64 : Int64) + (nI k).toInt64 + (1 : Int64) := by rw [Int64.mul_comm]
              rw [show nI lv + (1 : Int32) = nI (lv + 1) from nI_1 lv, nI_add, e5]
              obtain ⟨o, q1, q2, q3, q4, q5⟩ := ihr d (lv + 1) (digM LF LH p m k) (pe + pnc p m k) (dg * (64 : Int64) + (nI k).toInt64 + (1 : Int64)) _ e2 d16 d17 dd d23 x27 (by omega) (by omega) (wOK_dig (LF := LF) (LH := LH) I hg2) t2 (by omega) hb'
              have hcall : f_X11_bestsOn_r u (d + 1) (nI (pW p)) (nI (pH p)) d27 (nI b.1) (nI b.2.1) b.2.2 a7 a8 a9 m13 m14 m15 d16 d17 dd d23 x27 (nI (lv + 1)) (nI N) (nI (pe + pnc p m k)) (dg * (64 : Int64) + (nI k).toInt64 + (1 : Int64)) = some o := by
                refine Eq.trans ?_ q1
                show bX11_bestsOn_0 u (f_X11_bestsOn_r u d) (nI (pW p)) (nI (pH p)) d27 a7 a8 a9 m13 m14 m15 (nI b.1) (nI b.2.1) b.2.2 d16 d17 dd d23 x27 (nI (lv + 1)) (nI N) (nI (pe + pnc p m k)) (dg * (64 : Int64) + (nI k).toInt64 + (1 : Int64)) = _
                unfold bX11_bestsOn_0 bX11_bestsOn_24
                exact m_cons0 (F := fun x y z => bX11_bestsOn_40 u (f_X11_bestsOn_r u d) (nI (pW p)) (nI (pH p)) d27 a7 a8 a9 m13 m14 m15 x y z d16 d17 dd d23 x27 (nI (lv + 1)) (nI N) (nI (pe + pnc p m k)) (dg * (64 : Int64) + (nI k).toInt64 + (1 : Int64))) hb (by omega) (by omega) _
              rw [hcall, z_b]
              obtain ⟨g2, w1, -, w3⟩ := m_back (u := u) (d27 := d27) (a7 := a7) (a8 := a8) (a9 := a9) (m13 := m13) (m14 := m14) (m15 := m15) (f_X11_bestsOn_r u (d + 1)) (nI (pW p)) (nI (pH p)) (bX11_bestsOn_84 u (f_X11_bestsOn_r u (d + 1)) (nI (pW p)) (nI (pH p)) d27 a7 a8 a9 m13 m14 m15 n) o.1 o.2.1 o.2.2.1 o.2.2.2.1 o.2.2.2.2.1 o.2.2.2.2.2.2.1 o.2.2.2.2.2.2.2 (show lv ≤ 3 by omega) (nI N) (nI pe) dg k 77 0 u o.2.2.2.2.2.1 (by omega) (by omega)
              rw [show bX11_bestsOn_199 u (f_X11_bestsOn_r u (d + 1)) (nI (pW p)) (nI (pH p)) d27 a7 a8 a9 m13 m14 m15 (bX11_bestsOn_84 u (f_X11_bestsOn_r u (d + 1)) (nI (pW p)) (nI (pH p)) d27 a7 a8 a9 m13 m14 m15 n) u o.1 o.2.1 o.2.2.1 o.2.2.2.1 o.2.2.2.2.1 o.2.2.2.2.2.1 o.2.2.2.2.2.2.1 o.2.2.2.2.2.2.2 (nI lv) (nI N) (nI pe) dg (nI k) (0 : Int32) = _ from w1]
              have hb2 := bsS_ok (LF := LF) (LH := LH) P r (lv + 1) (digM LF LH p m k) (pe + pnc p m k) (dg * (64 : Int64) + (nI k).toInt64 + (1 : Int64)) _ (by omega) (by omega) hb'
              rw [q2, q3, q4]
              simp only [sf2]
              rw [ha, if_pos rfl]
              exact ih (k + 1) n _ _ g2 _ _ _ (by omega) (by omega) hb2 (fun j hj => by rw [w3 j (by omega) hj, q5 _ (by omega)]; exact hx2 j hj) (fun j hj => by rw [q5 j (by omega)]; exact hx1 j hj) (fun j hj => by rw [q5 _ (by omega)]; exact hx2 j hj)
            have hK := (P.2.2.2.2.2.1 k hk2)
            rw [z_ki (by omega) (by omega), z_cl (by omega), G'.1 k hk2]
            by_cases z : aS m k = 0
            · rw [show aS (sdg m e) k = aS m k from rfl, z, if_pos (show nI 0 = (0 : Int32) from rfl), z_ki (by omega) (by omega), E.2 k hk2]
              have hbr : brl (aS m) (pB p) k = pB p k := by unfold brl; rw [if_pos z]
              by_cases y : pB p k = 0
              · rw [y, if_pos (show nI 0 ≤ (0 : Int32) by decide)]
                unfold bX11_bestsOn_163
                have : pnc p m k = 0 := by unfold pnc; rw [hbr, y, Nat.zero_mul]
                rw [this] at yes
                exact yes
              · have hk5 := hK.2.2.1 (by omega)
                rw [if_neg (show ¬ nI (pB p k) ≤ (0 : Int32) from nI_ge (a := 0) (by omega) (by omega)), z_ki (by omega) (by omega), z_ki (by omega) (by omega), E.1 k hk2, z_ki (by omega) (by omega), z_cl (by omega), hP _ (by omega)]
                have : nI (pB p k) * nI (pP p (pK p k)) = nI (pnc p m k) := by
                  unfold pnc
                  rw [hbr]
                  exact (Int32.ofNat_mul _ _).symm
                rw [this]
                exact yes
            · have hS3 : aS m k = 3 := by omega
              rw [show aS (sdg m e) k = aS m k from rfl, hS3, if_neg (show ¬ nI 3 = (0 : Int32) by decide)]
              unfold bX11_bestsOn_163
              have : pnc p m k = 0 := by unfold pnc brl; rw [if_neg z, Nat.zero_mul]
              rw [this] at yes
              exact yes
    exact key 48 0 u b16 b17 g b23 c27 b (by omega) (by omega) hb (fun j hj => rfl) (fun j hj => f2 j (by omega)) (fun j hj => f3 j (by omega) hj)
set_option maxRecDepth 8000 in
theorem n_17 (hu : 700 ≤ u) (R : Rel S h) (a1 a2 : Int32) : N_17 u h a1 a2 := by
  obtain ⟨-, ⟨P, xE, ⟨mw, mh, ms, mc, mo, mk, mp, mor⟩⟩, ⟨lF, lH, xF, xH, mF, mH⟩, ⟨I, X, M⟩, -, -, ⟨r, -, -⟩, -, -⟩ := R
  unfold N_17
  rw [mw, mh]
  unfold f_X10_best bX10_best_0 f_X11_best bX11_best_0
  have bad : ∃ o o', bX10_best_21 u (h.2.2.1 3 5) (h.2.2.1 3 6) (h.2.1 4) (h.2.1 5) (h.2.1 6) (h.2.1 17 2) (h.2.1 18) (h.2.1 20 2) (h.2.1 21) (h.2.1 26 10) (h.2.1 26 11) (h.2.1 26 12) (h.2.1 26 13) (h.2.1 26 14) (h.2.1 26 15) (h.2.1 26 16) (h.2.1 26 17) (h.2.2.1 26 3) (h.2.2.1 26 4) (h.2.2.1 26 5) (h.2.1 27) (h.2.1 28) (h.2.1 29) (h.2.1 30) (h.2.1 19) (h.2.1 22) (h.2.1 40 3) (h.2.1 40 4) (h.2.2.1 40 5) (h.2.1 43 10) (h.2.1 43 11) (h.2.1 43 12) (h.2.1 43 13) (h.2.1 43 14) (h.2.1 43 15) (h.2.1 43 16) (h.2.1 43 17) (h.2.2.1 43 3) (h.2.2.1 43 4) (h.2.2.1 43 5) (h.2.1 44) (h.2.1 45) (h.2.1 46) (h.2.1 47) (h.2.1 48 10) (h.2.1 48 11) (h.2.1 48 12) (h.2.1 48 13) (h.2.1 48 14) (h.2.1 48 15) (h.2.1 48 16) (h.2.1 48 17) (h.2.2.1 48 3) (h.2.2.1 48 4) (h.2.2.1 48 5) (h.2.1 49) (h.2.1 50) (h.2.1 51) (h.2.1 52) (h.2.1 53 10) (h.2.1 53 11) (h.2.1 53 12) (h.2.1 53 13) (h.2.1 53 14) (h.2.1 53 15) (h.2.1 53 16) (h.2.1 53 17) (h.2.2.1 53 3) (h.2.2.1 53 4) (h.2.2.1 53 5) (h.2.1 54) (h.2.1 55) (h.2.1 56) (h.2.1 57) (h.2.1 69) a1 a2 = some o ∧ bX11_best_28 u (nI (pW (rS_P S))) (nI (pH (rS_P S))) (h.2.1 70 27) (h.2.1 77) (h.2.1 78) (h.2.1 79) (h.2.1 83) (h.2.1 84) (h.2.1 85) (h.2.1 90) (0 : Int32) (h.2.1 70 56) (h.2.1 70 57) (h.2.2.1 70 58) (h.2.1 71) (h.2.1 86) (h.2.1 87) (h.2.1 91) (h.2.1 93) (h.2.1 97) a1 a2 = some o' ∧ ((o.1 = 0 ∧ o'.2.1 = 0 ∧ o.2.1 = o'.1) ∨ (o.1 = 3 ∧ o'.2.1 = 1)) ∧ ∀ k, k < 3 → o.2.2.2.2.2.2.2.2.2.2.2.2.2.2.2.2.2.2.2.2.2.2.2.2.2.2.2.2.2.2.2.2.2.2.2.2.2.2.2.2.2.2.2.2.2.2.2.2.2.2.2.2 k = o'.2.2.2.2.2.1 k := by
    unfold bX11_best_28 bX11_best_29
    rw [m_need0, z_b, if_pos rfl]
    exact ⟨_, _, rfl, rfl, Or.inr ⟨rfl, rfl⟩, r_upd r (by omega)⟩
  rcases d_to (u := u) (n := 3) (by omega) a1 with ⟨N, hN, rfl, q1, q2, e⟩ | ⟨q, e⟩
  · rw [show f_X11_within u (nI N) (0 : Int32) (3 : Int32) = _ from e, z_b, if_neg d_10, if_neg q1, if_neg (show ¬ (3 : Int32) < nI N from q2)]
    rcases d_either (u := u) a2 with ⟨q, e3, e4⟩ | ⟨e3, e4⟩
    · rw [e3, e4, z_b, z_b, if_neg d_10, if_neg d_10]
      unfold bX10_best_22 bX11_best_29
      obtain ⟨g, t1, t2⟩ := m_take (u := u) (by omega) M (h.2.1 91)
      obtain ⟨o, f1, f2, f3, f4⟩ := x_s0 (u := u) P xE xF xH (by omega) (wOK_of I) X hN (pe := 0) (by omega) 0 (h.2.1 19) (h.2.1 22) (b := (0, 0, 0)) ⟨Nat.zero_le _, Nat.zero_le _⟩ (h.2.1 43 10) (h.2.1 43 11) (h.2.1 43 12) (h.2.1 43 13) (h.2.1 43 14) (h.2.1 43 15) (h.2.1 43 16) (h.2.1 43 17) (h.2.2.1 43 3) (h.2.2.1 43 4) (h.2.2.1 43 5) (h.2.1 44) (h.2.1 45) (h.2.1 46) (h.2.1 47) (h.2.1 48 10) (h.2.1 48 11) (h.2.1 48 12) (h.2.1 48 13) (h.2.1 48 14) (h.2.1 48 15) (h.2.1 48 16) (h.2.1 48 17) (h.2.2.1 48 3) (h.2.2.1 48 4) (h.2.2.1 48 5) (h.2.1 49) (h.2.1 50) (h.2.1 51) (h.2.1 52) (h.2.1 53 10) (h.2.1 53 11) (h.2.1 53 12) (h.2.1 53 13) (h.2.1 53 14) (h.2.1 53 15) (h.2.1 53 16) (h.2.1 53 17) (h.2.2.1 53 3) (h.2.2.1 53 4) (h.2.2.1 53 5) (h.2.1 54) (h.2.1 55) (h.2.1 56) (h.2.1 57)
      obtain ⟨t, g1, g2, g3, g4, -⟩ := m_b40 (u := u) P ms mk mp mF mH lF lH (by omega) hN N 4 0 (rS_M S) 0 0 (0, 0, 0) (aDg (rS_M S)) (h.2.1 86) (h.2.1 87) g (h.2.1 93) (h.2.1 97) (by omega) (by omega) (wOK_of I) t2 (by omega) ⟨Nat.zero_le _, Nat.zero_le _⟩
      have hcall : f_X11_bestsOn_r u 5 (nI (pW (rS_P S))) (nI (pH (rS_P S))) (h.2.1 70 27) (-1 : Int32) (0 : Int32) (h.2.2.1 70 58) (h.2.1 77) (h.2.1 78) (h.2.1 79) (h.2.1 83) (h.2.1 84) (h.2.1 85) (h.2.1 86) (h.2.1 87) g (h.2.1 93) (h.2.1 97) (0 : Int32) (nI N) (0 : Int32) (0 : Int64) = some t := by
        refine Eq.trans ?_ g1
        show bX11_bestsOn_0 u (f_X11_bestsOn_r u 4) (nI (pW (rS_P S))) (nI (pH (rS_P S))) (h.2.1 70 27) (h.2.1 77) (h.2.1 78) (h.2.1 79) (h.2.1 83) (h.2.1 84) (h.2.1 85) (-1 : Int32) (0 : Int32) (h.2.2.1 70 58) (h.2.1 86) (h.2.1 87) g (h.2.1 93) (h.2.1 97) (0 : Int32) (nI N) (0 : Int32) (0 : Int64) = _
        unfold bX11_bestsOn_0 bX11_bestsOn_24
        exact if_pos (show (-1 : Int32) < 0 by decide)
      rw [x_need1, m_need1, z_b, z_b, if_pos rfl, if_neg d_10, t1, z_b, hcall, z_b]
      unfold f_X7_findBest bX7_findBest_0
      rw [show f_X7_search_0 u (h.2.2.1 3 5) (h.2.2.1 3 6) (h.2.1 4) (h.2.1 5) (h.2.1 6) (h.2.1 17 2) (h.2.1 18) (h.2.1 19) (h.2.1 20 2) (h.2.1 21) (h.2.1 22) (h.2.1 26 10) (h.2.1 26 11) (h.2.1 26 12) (h.2.1 26 13) (h.2.1 26 14) (h.2.1 26 15) (h.2.1 26 16) (h.2.1 26 17) (h.2.2.1 26 3) (h.2.2.1 26 4) (h.2.2.1 26 5) (h.2.1 27) (h.2.1 28) (h.2.1 29) (h.2.1 30) (0 : Int32) (0 : Int32) (0 : Int64) (h.2.1 43 10) (h.2.1 43 11) (h.2.1 43 12) (h.2.1 43 13) (h.2.1 43 14) (h.2.1 43 15) (h.2.1 43 16) (h.2.1 43 17) (h.2.2.1 43 3) (h.2.2.1 43 4) (h.2.2.1 43 5) (h.2.1 44) (h.2.1 45) (h.2.1 46) (h.2.1 47) (h.2.1 48 10) (h.2.1 48 11) (h.2.1 48 12) (h.2.1 48 13) (h.2.1 48 14) (h.2.1 48 15) (h.2.1 48 16) (h.2.1 48 17) (h.2.2.1 48 3) (h.2.2.1 48 4) (h.2.2.1 48 5) (h.2.1 49) (h.2.1 50) (h.2.1 51) (h.2.1 52) (h.2.1 53 10) (h.2.1 53 11) (h.2.1 53 12) (h.2.1 53 13) (h.2.1 53 14) (h.2.1 53 15) (h.2.1 53 16) (h.2.1 53 17) (h.2.2.1 53 3) (h.2.2.1 53 4) (h.2.2.1 53 5) (h.2.1 54) (h.2.1 55) (h.2.1 56) (h.2.1 57) (nI N) (0 : Int32) (0 : Int64) = some o from f1, z_b, z_b]
      rcases q with rfl | rfl
      · rw [if_pos rfl, if_pos rfl]
        exact ⟨_, _, rfl, rfl, Or.inl ⟨rfl, rfl, by show o.2.2.1.toInt64 = t.1.toInt64; rw [f2, g2]; rfl⟩, r⟩
      · rw [if_neg d_10, if_neg d_10]
        exact ⟨_, _, rfl, rfl, Or.inl ⟨rfl, rfl, by show o.2.2.2.2.1 = t.2.2.1; rw [f4, g4]; rfl⟩, r⟩
    · rw [e3, e4, z_b, z_b, if_pos rfl, if_pos rfl]; exact bad
  · rw [show f_X11_within u a1 (0 : Int32) (3 : Int32) = _ from e, z_b, if_pos rfl]
    obtain ⟨o, o', b1, b2, b3⟩ := bad
    exact ⟨o, o', (r_ifR (n := 3) q).trans b1, b2, b3⟩
end BSM
