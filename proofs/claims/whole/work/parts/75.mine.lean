/-! A MINE AS A VALUE, and what holds of it -/
/-- states, belt, shift, digs, props, wet row, pence, lungs, raised, fell, sold, gone, fates -/
abbrev aM : Type := (Nat → Nat) × (Nat → Nat) × Nat × Nat × Nat × Nat × Int32 × Int32 × Int32 × Int32 × (Nat → Int32) × (Nat → Int32) × (Nat → Int32)
def aS (m : aM) : Nat → Nat := m.1
def aB (m : aM) : Nat → Nat := m.2.1
def aSh (m : aM) : Nat := m.2.2.1
def aDg (m : aM) : Nat := m.2.2.2.1
def aPr (m : aM) : Nat := m.2.2.2.2.1
def aW (m : aM) : Nat := m.2.2.2.2.2.1
def aPe (m : aM) : Int32 := m.2.2.2.2.2.2.1
def aLu (m : aM) : Int32 := m.2.2.2.2.2.2.2.1
def aRa (m : aM) : Int32 := m.2.2.2.2.2.2.2.2.1
def aFe (m : aM) : Int32 := m.2.2.2.2.2.2.2.2.2.1
def aSo (m : aM) : Nat → Int32 := m.2.2.2.2.2.2.2.2.2.2.1
def aGo (m : aM) : Nat → Int32 := m.2.2.2.2.2.2.2.2.2.2.2.1
def aFa (m : aM) : Nat → Int32 := m.2.2.2.2.2.2.2.2.2.2.2.2
/-- the pit as a value: size, orders, crew, store, kinds, bars, prices, shifts and sizes of orders, notes, shafts -/
abbrev aP : Type := Nat × Nat × Nat × Nat × Nat × (Nat → Nat) × (Nat → Nat) × (Nat → Nat) × (Nat → Nat) × (Nat → Nat) × (Nat → Nat → Nat) × (Nat → Bool)
def pW (p : aP) : Nat := p.1
def pH (p : aP) : Nat := p.2.1
def pO (p : aP) : Nat := p.2.2.1
def pC (p : aP) : Nat := p.2.2.2.1
def pSt (p : aP) : Nat := p.2.2.2.2.1
def pK (p : aP) : Nat → Nat := p.2.2.2.2.2.1
def pB (p : aP) : Nat → Nat := p.2.2.2.2.2.2.1
def pP (p : aP) : Nat → Nat := p.2.2.2.2.2.2.2.1
def pT (p : aP) : Nat → Nat := p.2.2.2.2.2.2.2.2.1
def pZ (p : aP) : Nat → Nat := p.2.2.2.2.2.2.2.2.2.1
def pN (p : aP) : Nat → Nat → Nat := p.2.2.2.2.2.2.2.2.2.2.1
def pD (p : aP) : Nat → Bool := p.2.2.2.2.2.2.2.2.2.2.2
/-- what holds of a pit that was read -/
def pOK (p : aP) : Prop := (1 ≤ pW p ∧ pW p ≤ 8) ∧ (1 ≤ pH p ∧ pH p ≤ 6) ∧ (1 ≤ pC p ∧ pC p ≤ 9) ∧ pSt p ≤ 20 ∧ ordOK (pO p) (pT p) (pZ p) (pN p) ∧
  (∀ c, c < 48 → pK p c ≤ 5 ∧ pB p c ≤ 9 ∧ (0 < pB p c → 1 ≤ pK p c ∧ pK p c ≤ 4) ∧ (inG (pW p) (pH p) c = false → pK p c = 0 ∧ pB p c = 0)) ∧ (∀ k, k < 5 → pP p k ≤ 99)
/-- the bars that were ever dug, by kind -/
def dugB (p : aP) (S : Nat → Nat) (k : Nat) : Nat := nsm (fun c => if S c ≠ 0 ∧ pK p c = k then pB p c else 0) 48
/-- what holds of a mine in a pit -/
def mOK (p : aP) (m : aM) : Prop := stOK (pW p) (pH p) (aS m) ∧ (∀ k, k < 5 → aB m k ≤ dugB p (aS m) k) ∧ (1 ≤ aSh m ∧ aSh m ≤ 200) ∧ aDg m ≤ pC p ∧ aPr m ≤ 20 ∧ aW m ≤ pH p ∧
  ∀ i, i < pO p → ∃ f, f ≤ 2 ∧ aFa m i = nI f ∧ (pT p i < aSh m ↔ f ≠ 0)
theorem dugB_le {p : aP} (P : pOK p) (S : Nat → Nat) (k : Nat) : dugB p S k ≤ 432 := by
  have := nsm_le (f := fun c => if S c ≠ 0 ∧ pK p c = k then pB p c else 0) (b := 9) (n := 48) (fun c hc => by
    have := (P.2.2.2.2.2.1 c hc).2.1
    show (if S c ≠ 0 ∧ pK p c = k then pB p c else 0) ≤ 9
    split <;> omega)
  exact this
theorem mOK_B {p : aP} {m : aM} (P : pOK p) (I : mOK p m) {k : Nat} (hk : k < 5) : aB m k ≤ 432 := Nat.le_trans (I.2.1 k hk) (dugB_le P (aS m) k)
/-- the class's mine -/
def xMine (m : aM) (shift digs props pence lungs wetr raised fell : Int32) (dug prp fal : Int64) (belt sold gone fates : Nat → Int32) : Prop :=
  mS dug prp fal (aS m) ∧ (∀ k, k < 5 → belt k = nI (aB m k)) ∧ shift = nI (aSh m) ∧ digs = nI (aDg m) ∧ props = nI (aPr m) ∧ wetr = nI (aW m) ∧ pence = aPe m ∧ lungs = aLu m ∧ raised = aRa m ∧ fell = aFe m ∧ (∀ k, k < 5 → sold k = aSo m k) ∧ (∀ k, k < 5 → gone k = aGo m k) ∧ ∀ i, i < 6 → fates i = aFa m i
/-- the reference's row -/
def mMine (m : aM) (g : Nat → Int32) : Prop :=
  sA g (aS m) ∧ (∀ k, k < 5 → g (48 + k) = nI (aB m k)) ∧ g 69 = nI (aSh m) ∧ g 70 = nI (aDg m) ∧ g 71 = nI (aPr m) ∧ g 74 = nI (aW m) ∧ g 72 = aPe m ∧ g 73 = aLu m ∧ g 75 = aRa m ∧ g 76 = aFe m ∧ (∀ k, k < 5 → g (53 + k) = aSo m k) ∧ (∀ k, k < 5 → g (58 + k) = aGo m k) ∧ ∀ i, i < 6 → g (63 + i) = aFa m i
/-! DIG -/
def digM (LF LH : (Nat → Int32) → Int32) (p : aP) (m : aM) (c : Nat) : aM :=
  (digS LF (aS m) (pK p) (pB p) (aSh m) c, (if brl (aS m) (pB p) c = 0 then aB m else fun k => if k = pK p c then aB m k + brl (aS m) (pB p) c else aB m k), aSh m, aDg m + 1, aPr m, dW (aS m) (pK p) (aW m) c, aPe m,
    (if brl (aS m) (pB p) c = 0 then aLu m else aLu m + nI (brl (aS m) (pB p) c) * hrm LH (aS m) (pK p) (pB p) (aSh m) c), (if brl (aS m) (pB p) c = 0 then aRa m else aRa m + nI (brl (aS m) (pB p) c)), aFe m + nI (cntB (fl LF (digS1 (aS m) c) (pK p) (pB p) (aSh m)) 48), aSo m, aGo m, aFa m)
section DM
variable {u : Nat} {p : aP} {m : aM} {LF LH : (Nat → Int32) → Int32}
theorem xdig (P : pOK p) (I : mOK p m) {a6 a7 c13 c16 : Nat → Int32} {l12 l15 : Int32} (E : kbA a6 a7 (pK p) (pB p)) (L : lawX l12 c13 LF) (L2 : lawX l15 c16 LH) (hu : 160 ≤ u) {c : Nat} (hc : c < 48) (hS : aS m c = 0 ∨ aS m c = 3)
    {shift digs props pence lungs wetr raised fell : Int32} {dug prp fal : Int64} {belt sold gone fates : Nat → Int32} (X : xMine m shift digs props pence lungs wetr raised fell dug prp fal belt sold gone fates) (a14 a17 : Nat → Int32) :
    ∃ o, f_X3_breakOpen u shift digs lungs wetr raised fell dug prp fal belt a6 a7 l12 c13 a14 l15 c16 a17 (nI c) = some o ∧ xMine (digM LF LH p m c) shift o.1 props pence o.2.1 o.2.2.1 o.2.2.2.1 o.2.2.2.2.1 o.2.2.2.2.2.1 prp o.2.2.2.2.2.2.1 o.2.2.2.2.2.2.2.1 sold gone fates := by
  obtain ⟨M, hb, rfl, rfl, rfl, rfl, rfl, rfl, rfl, rfl, hso, hgo, hfa⟩ := X
  have hc' := P.2.2.2.2.2.1 c hc
  obtain ⟨r, b14, b17, e, M2⟩ := x_dig (u := u) (sh := aSh m) (w := aW m) (bl := belt) (dg := nI (aDg m)) (lg := aLu m) (ra := aRa m) (fe := aFe m) M E L L2 hu hc hS hc'.1 hc'.2.1 (Nat.le_trans I.2.2.2.2.2.1 P.2.1.2) a14 a17
  refine ⟨_, e, M2, ?_, rfl, nI_1 _, rfl, rfl, rfl, rfl, rfl, rfl, hso, hgo, hfa⟩
  intro k hk
  show (if brl (aS m) (pB p) c = 0 then belt else upd belt (pK p c) (belt (pK p c) + nI (brl (aS m) (pB p) c))) k = nI ((if brl (aS m) (pB p) c = 0 then aB m else fun k => if k = pK p c then aB m k + brl (aS m) (pB p) c else aB m k) k)
  by_cases z : brl (aS m) (pB p) c = 0
  · rw [if_pos z, if_pos z]; exact hb k hk
  · rw [if_neg z, if_neg z]
    simp only [z_upd]
    by_cases y : k = pK p c
    · rw [if_pos y, if_pos y, ← y, hb k hk, nI_add]
    · rw [if_neg y, if_neg y]; exact hb k hk
theorem mdig (P : pOK p) (I : mOK p m) {a7 a8 m13 m14 m15 : Nat → Int32} (E : kbA a7 a8 (pK p) (pB p)) (L : lawM 0 m13 m14 m15 LF) (L2 : lawM 1 m13 m14 m15 LH) (hc1 : lcong LF) (hc2 : lcong LH) (hu : 160 ≤ u) {c : Nat} (hc : c < 48) (hg : inG (pW p) (pH p) c = true) (hS : aS m c = 0 ∨ aS m c = 3) {g : Nat → Int32} (X : mMine m g) (b16 b17 b23 : Nat → Int32) :
    ∃ d16 d17 d d23, f_X11_digs u (nI (pW p)) (nI (pH p)) a7 a8 m13 m14 m15 b16 b17 (upd g 70 (g 70 + (1 : Int32))) b23 (nI c) = some (d16, d17, d, d23) ∧ mMine (digM LF LH p m c) d := by
  obtain ⟨A, hb, h69, h70, h71, h74, h72, h73, h75, h76, hso, hgo, hfa⟩ := X
  have hc' := P.2.2.2.2.2.1 c hc
  have up : ∀ j, j ≠ 70 → upd g 70 (g 70 + (1 : Int32)) j = g j := fun j hj => by simp only [z_upd]; rw [if_neg hj]
  obtain ⟨d16, d17, d, d23, e, A2, r73, r74, r75, r76, rb, ro⟩ := m_dig (u := u) (sh := aSh m) (w := aW m) P.1.2 P.2.1.2 I.1 E L L2 hc1 hc2 hu hc hg hS hc'.1 (fun h => (hc'.2.2.1 h).2) hc'.2.1 (Nat.le_trans I.2.2.2.2.2.1 P.2.1.2) (g := upd g 70 (g 70 + (1 : Int32))) (fun k hk => by rw [up k (by omega)]; exact A k hk) (by rw [up 69 (by omega)]; exact h69) (by rw [up 74 (by omega)]; exact h74) b16 b17 b23
  refine ⟨d16, d17, d, d23, e, A2, ?_, ?_, ?_, ?_, r74, ?_, ?_, ?_, ?_, ?_, ?_, ?_⟩
  · intro k hk
    rw [rb k hk, up (48 + k) (by omega), hb k hk]
    show _ = nI ((if brl (aS m) (pB p) c = 0 then aB m else fun k => if k = pK p c then aB m k + brl (aS m) (pB p) c else aB m k) k)
    by_cases z : brl (aS m) (pB p) c = 0
    · rw [if_pos z, if_pos z]
    · rw [if_neg z, if_neg z]
      by_cases y : k = pK p c
      · rw [if_pos y, if_pos y, nI_add]
      · rw [if_neg y, if_neg y]
  · rw [ro 69 (by omega) (by omega), up 69 (by omega)]; exact h69
  · rw [ro 70 (by omega) (by omega)]
    simp only [z_upd]
    rw [if_pos trivial, h70]
    exact nI_1 _
  · rw [ro 71 (by omega) (by omega), up 71 (by omega)]; exact h71
  · rw [ro 72 (by omega) (by omega), up 72 (by omega)]; exact h72
  · rw [r73, up 73 (by omega), h73]; rfl
  · rw [r75, up 75 (by omega), h75]; rfl
  · rw [r76, up 76 (by omega), h76]; rfl
  · intro k hk; rw [ro (53 + k) (by omega) (by omega), up (53 + k) (by omega)]; exact hso k hk
  · intro k hk; rw [ro (58 + k) (by omega) (by omega), up (58 + k) (by omega)]; exact hgo k hk
  · intro k hk; rw [ro (63 + k) (by omega) (by omega), up (63 + k) (by omega)]; exact hfa k hk
theorem dugB_dig {c0 : Nat} (hS : aS m c0 = 0 ∨ aS m c0 = 3) (hc : c0 < 48) (k : Nat) : dugB p (digS LF (aS m) (pK p) (pB p) (aSh m) c0) k = dugB p (aS m) k + (if aS m c0 = 0 ∧ pK p c0 = k then pB p c0 else 0) := by
  have ne : ∀ c, (digS LF (aS m) (pK p) (pB p) (aSh m) c0 c ≠ 0) = (aS m c ≠ 0 ∨ c = c0) := by
    intro c
    unfold digS
    cases h : fl LF (digS1 (aS m) c0) (pK p) (pB p) (aSh m) c with
    | true =>
      have := fl_1 h
      unfold digS1 at this
      by_cases e : c = c0
      · simp [e]
      · rw [if_neg e] at this; simp [this]
    | false =>
      unfold digS1
      by_cases e : c = c0
      · simp [e]
      · simp [e]
  have key : ∀ n, nsm (fun c => if digS LF (aS m) (pK p) (pB p) (aSh m) c0 c ≠ 0 ∧ pK p c = k then pB p c else 0) n = nsm (fun c => if aS m c ≠ 0 ∧ pK p c = k then pB p c else 0) n + (if c0 < n ∧ aS m c0 = 0 ∧ pK p c0 = k then pB p c0 else 0) := by
    intro n
    induction n with
    | zero => rw [if_neg (by omega)]; rfl
    | succ n ih =>
      show nsm _ n + (if digS LF (aS m) (pK p) (pB p) (aSh m) c0 n ≠ 0 ∧ pK p n = k then pB p n else 0) = nsm _ n + (if aS m n ≠ 0 ∧ pK p n = k then pB p n else 0) + _
      rw [ih]
      simp only [ne n]
      by_cases e : n = c0
      · subst e
        rw [if_neg (show ¬ (n < n ∧ aS m n = 0 ∧ pK p n = k) by omega)]
        by_cases z : aS m n = 0
        · by_cases y : pK p n = k
          · simp [z, y]
          · simp [y]
        · by_cases y : pK p n = k
          · simp [z, y]
          · simp [y]
      · have e2 : (c0 < n + 1) = (c0 < n) := by rw [eq_iff_iff]; omega
        simp only [e2, e, or_false]
        omega
  have := key 48
  unfold dugB
  rw [this]
  simp only [hc, true_and]
theorem digM_ok (P : pOK p) (I : mOK p m) {c : Nat} (hc : c < 48) (hg : inG (pW p) (pH p) c = true) (hS : aS m c = 0 ∨ aS m c = 3) (hd : aDg m < pC p) : mOK p (digM LF LH p m c) := by
  have hc' := P.2.2.2.2.2.1 c hc
  refine ⟨stOK_dig I.1 hg, ?_, I.2.2.1, hd, I.2.2.2.2.1, ?_, I.2.2.2.2.2.2⟩
  · intro k hk
    have := I.2.1 k hk
    show (if brl (aS m) (pB p) c = 0 then aB m else fun k => if k = pK p c then aB m k + brl (aS m) (pB p) c else aB m k) k ≤ dugB p (digS LF (aS m) (pK p) (pB p) (aSh m) c) k
    rw [dugB_dig hS hc]
    by_cases z : brl (aS m) (pB p) c = 0
    · rw [if_pos z]; omega
    · rw [if_neg z]
      show (if k = pK p c then aB m k + brl (aS m) (pB p) c else aB m k) ≤ _
      by_cases y : k = pK p c
      · rw [if_pos y]
        unfold brl at z ⊢
        by_cases q : aS m c = 0
        · rw [if_pos q, if_pos ⟨q, y.symm⟩]; omega
        · rw [if_neg q] at z; exact absurd rfl z
      · rw [if_neg y]; omega
  · show dW (aS m) (pK p) (aW m) c ≤ pH p
    have := I.2.2.2.2.2.1
    unfold dW
    split <;> omega
end DM
