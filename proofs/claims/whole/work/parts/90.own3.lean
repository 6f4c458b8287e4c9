/-! OWNERS: the counts over all pairs -/
def cntS (s : oS) (a b : Nat) : oS := if s.1 = 0 then (1, a, b) else (s.1 + 1, s.2)
theorem scB_s (P n a : Nat) (s : oS) (b : Nat) : scB P n a s (b + 1) = if restB P n a b then cntS (scB P n a s b) a b else scB P n a s b := rfl
theorem cntS_1 (s : oS) (a b : Nat) : (cntS s a b).1 = s.1 + 1 := by
  unfold cntS
  by_cases z : s.1 = 0
  · rw [if_pos z, z]
  · rw [if_neg z]
theorem cntS_r {s : oS} {a b : Nat} (ha : a ≤ 20) (hb : b ≤ 20) (hs : s.2.1 ≤ 20 ∧ s.2.2 ≤ 20) : (cntS s a b).2.1 ≤ 20 ∧ (cntS s a b).2.2 ≤ 20 := by
  unfold cntS
  by_cases z : s.1 = 0
  · rw [if_pos z]; exact ⟨ha, hb⟩
  · rw [if_neg z]; exact hs
theorem scB_le (P n a : Nat) (s : oS) : ∀ b, (scB P n a s b).1 ≤ s.1 + b
  | 0 => Nat.le_refl _
  | b + 1 => by
    have h := scB_le P n a s b
    rw [scB_s]
    by_cases q : restB P n a b = true
    · rw [if_pos q, cntS_1]; omega
    · rw [if_neg q]; omega
theorem scB_r {P n a : Nat} {s : oS} (ha : a ≤ 20) (hs : s.2.1 ≤ 20 ∧ s.2.2 ≤ 20) : ∀ b, b ≤ 21 → (scB P n a s b).2.1 ≤ 20 ∧ (scB P n a s b).2.2 ≤ 20
  | 0, _ => hs
  | b + 1, hb => by
    have h := scB_r (P := P) (n := n) ha hs b (by omega)
    rw [scB_s]
    by_cases q : restB P n a b = true
    · rw [if_pos q]; exact cntS_r ha (by omega) h
    · rw [if_neg q]; exact h
theorem scA_le (P : Nat) {n : Nat} (hn : n ≤ 20) : ∀ a, (scA P n a).1 ≤ 21 * a
  | 0 => Nat.le_refl _
  | a + 1 => by
    have h := scA_le P hn a
    have h2 := scB_le P n a (scA P n a) (n + 1)
    show (scB P n a (scA P n a) (n + 1)).1 ≤ _
    omega
theorem scA_r (P : Nat) {n : Nat} (hn : n ≤ 20) : ∀ a, a ≤ 21 → (scA P n a).2.1 ≤ 20 ∧ (scA P n a).2.2 ≤ 20
  | 0, _ => ⟨Nat.zero_le _, Nat.zero_le _⟩
  | a + 1, h => scB_r (by omega) (scA_r P hn a (by omega)) (n + 1) (by omega)
section OWN3
variable {u : Nat}
theorem x_cnt {P a b : Nat} {s : oS} {c1 c2 c3 : Int32} (hP : P ≤ 99) (ha : a ≤ 20) (hb : b ≤ 20) (hs : s.1 ≤ 1000) (h : oX P s c1 c2 c3) :
    ∃ d1 d2 d3, f_X2_countRest u c1 c2 c3 (nI P) (nI a) (nI b) = some (d1, d2, d3) ∧ oX P (cntS s a b) d1 d2 d3 := by
  obtain ⟨rfl, rfl, rfl⟩ := h
  have e1 : nI s.1 + (1 : Int32) = nI (s.1 + 1) := nI_1 s.1
  unfold f_X2_countRest bX2_countRest_0 bX2_countRest_27
  by_cases z : s.1 = 0
  · have c : cntS s a b = (1, a, b) := if_pos z
    refine ⟨nI (s.1 + 1), nI (100 * a + b), nI (gts P a b), ?_, ?_⟩
    · refine (if_pos (show nI s.1 = (0 : Int32) by rw [z]; rfl)).trans ?_
      rw [x_gets hP ha hb, z_b, e1, show ((100 : Int32) * nI a) + nI b = nI (100 * a + b) by rw [show (100 : Int32) = nI 100 from rfl, pk_mul, nI_add]]
    · rw [c, z]
      exact ⟨rfl, rfl, rfl⟩
  · have c : cntS s a b = (s.1 + 1, s.2) := if_neg z
    refine ⟨nI (s.1 + 1), (if s.1 = 0 then -nI 1 else nI (100 * s.2.1 + s.2.2)), (if s.1 = 0 then nI 0 else nI (gts P s.2.1 s.2.2)), ?_, ?_⟩
    · refine (if_neg (show ¬ nI s.1 = (0 : Int32) from fun h => z ((nI_eq (b := 0) (by omega) (by omega)).mp h))).trans ?_
      rw [e1]
    · rw [c, if_neg z, if_neg z]
      exact ⟨rfl, (if_neg (Nat.succ_ne_zero _)).symm, (if_neg (Nat.succ_ne_zero _)).symm⟩
theorem x_cntB {P n a : Nat} {s : oS} (hP : P ≤ 99) (hn : n ≤ 20) (ha : a ≤ n) (hs : s.1 ≤ 500) {k88 : Int32 → Int32 → Int32 → (Nat → Int32) → Int32 → Int32 → Int32 → Option (Int32 × Int32 × Int32 × (Nat → Int32))} {a1 : Nat → Int32} (h1 : ∀ i, i < n + 1 → a1 i = nI (mxg P i (n + 1))) :
    ∀ r b m c1 c2 c3, b + r = n + 1 → r < m → oX P (scB P n a s b) c1 c2 c3 → ∃ d1 d2 d3, bX2_findRests_97 u k88 m c1 c2 c3 a1 (nI P) (nI n) (nI a) (nI b) = k88 d1 d2 d3 a1 (nI P) (nI n) (nI (a + 1)) ∧ oX P (scB P n a s (n + 1)) d1 d2 d3 := by
  intro r
  induction r with
  | zero =>
    intro b m c1 c2 c3 hb hm h
    obtain ⟨m, rfl⟩ := z_suc hm
    have ea : nI a + (1 : Int32) = nI (a + 1) := nI_1 a
    refine ⟨c1, c2, c3, ?_, by rw [show n + 1 = b by omega]; exact h⟩
    rw [bX2_findRests_97]
    refine (if_pos (nI_lt (a := n) (b := b) (by omega) (by omega))).trans ?_
    rw [ea]
  | succ r ih =>
    intro b m c1 c2 c3 hb hm h
    obtain ⟨m, rfl⟩ := z_suc hm
    have eb : nI b + (1 : Int32) = nI (b + 1) := nI_1 b
    have g1 := gts_le (b := b) hP (show a ≤ 20 by omega)
    have g2 := gts_le (b := a) hP (show b ≤ 20 by omega)
    have m1 := mxg_le (b := b) hP (n + 1) (by omega)
    have m2 := mxg_le (b := a) hP (n + 1) (by omega)
    have sl := scB_le P n a s b
    rw [bX2_findRests_97]
    have goon : ∀ d1 d2 d3, oX P (scB P n a s (b + 1)) d1 d2 d3 → ∃ e1 e2 e3, bX2_findRests_148 u k88 (bX2_findRests_97 u k88 m) d1 d2 d3 a1 (nI P) (nI n) (nI a) (nI b) = k88 e1 e2 e3 a1 (nI P) (nI n) (nI (a + 1)) ∧ oX P (scB P n a s (n + 1)) e1 e2 e3 := by
      intro d1 d2 d3 hd
      unfold bX2_findRests_148
      rw [eb]
      exact ih (b + 1) m d1 d2 d3 (by omega) (by omega) hd
    have same : restB P n a b = false → oX P (scB P n a s (b + 1)) c1 c2 c3 := by
      intro q
      rw [scB_s, q]
      exact h
    have go : ∀ {x y z : Option (Int32 × Int32 × Int32 × (Nat → Int32))} {o : oS}, x = y → (∃ d1 d2 d3, y = k88 d1 d2 d3 a1 (nI P) (nI n) (nI (a + 1)) ∧ oX P o d1 d2 d3) → ∃ d1 d2 d3, x = k88 d1 d2 d3 a1 (nI P) (nI n) (nI (a + 1)) ∧ oX P o d1 d2 d3 := fun e h => e ▸ h
    refine go (z := none) (if_neg (nI_nlt (a := n) (b := b) (by omega) (by omega))) ?_
    rw [x_gets hP (by omega) (by omega), z_b, z_ki (by omega) (by omega), z_cl (by omega), h1 b (by omega)]
    by_cases q : gts P a b = mxg P b (n + 1)
    · refine go (z := none) (if_pos (by rw [q])) ?_
      rw [x_gets hP (by omega) (by omega), z_b, z_ki (by omega) (by omega), z_cl (by omega), h1 a (by omega)]
      by_cases q2 : gts P b a = mxg P a (n + 1)
      · obtain ⟨d1, d2, d3, e, hd⟩ := x_cnt (u := u) (s := scB P n a s b) hP (show a ≤ 20 by omega) (show b ≤ 20 by omega) (by omega) h
        refine go (z := none) (if_pos (by rw [q2])) ?_
        rw [e, z_b]
        refine goon d1 d2 d3 ?_
        rw [scB_s, show restB P n a b = true by unfold restB rstB; rw [decide_eq_true q, decide_eq_true q2]; rfl]
        exact hd
      · refine go (z := none) (if_neg (fun h => q2 ((nI_eq (by omega) (by omega)).mp h))) ?_
        exact goon _ _ _ (same (by unfold restB rstB; rw [decide_eq_true q, decide_eq_false q2]; rfl))
    · refine go (z := none) (if_neg (fun h => q ((nI_eq (by omega) (by omega)).mp h))) ?_
      exact goon _ _ _ (same (by unfold restB rstB; rw [decide_eq_false q]; rfl))
theorem x_cntA {P n : Nat} (hP : P ≤ 99) (hn : n ≤ 20) (hu : 60 ≤ u) {a1 : Nat → Int32} (h1 : ∀ i, i < n + 1 → a1 i = nI (mxg P i (n + 1))) :
    ∀ r a m c1 c2 c3, a + r = n + 1 → r < m → oX P (scA P n a) c1 c2 c3 → ∃ d1 d2 d3, bX2_findRests_88 u m c1 c2 c3 a1 (nI P) (nI n) (nI a) = some (d1, d2, d3, a1) ∧ oX P (scA P n (n + 1)) d1 d2 d3 := by
  intro r
  induction r with
  | zero =>
    intro a m c1 c2 c3 hb hm h
    obtain ⟨m, rfl⟩ := z_suc hm
    refine ⟨c1, c2, c3, ?_, by rw [show n + 1 = a by omega]; exact h⟩
    rw [bX2_findRests_88]
    exact if_pos (nI_lt (a := n) (b := a) (by omega) (by omega))
  | succ r ih =>
    intro a m c1 c2 c3 hb hm h
    obtain ⟨m, rfl⟩ := z_suc hm
    have sl := scA_le P hn a
    obtain ⟨d1, d2, d3, e, hd⟩ := x_cntB (u := u) (s := scA P n a) (k88 := bX2_findRests_88 u m) hP hn (show a ≤ n by omega) (by omega) h1 (n + 1) 0 u c1 c2 c3 (by omega) (by omega) h
    obtain ⟨e1, e2, e3, e', he⟩ := ih (a + 1) m d1 d2 d3 (by omega) (by omega) hd
    refine ⟨e1, e2, e3, ?_, he⟩
    rw [bX2_findRests_88]
    refine (if_neg (nI_nlt (a := n) (b := a) (by omega) (by omega))).trans ?_
    exact e.trans e'
/-- the class: all rests of a vein of P and a count of at most n -/
theorem x_rests {P N : Nat} {c1 c2 c3 : Int32} {a1 : Nat → Int32} (hP : P ≤ 99) (hN : N < 2147483648) (hu : 60 ≤ u) :
    ∃ d1 d2 d3 a2, f_X2_findRests u c1 c2 c3 a1 (nI P) (nI N) = some (d1, d2, d3, a2) ∧ oX P (scA P (min 20 N) (min 20 N + 1)) d1 d2 d3 := by
  unfold f_X2_findRests bX2_findRests_0
  have e : (if (20 : Int32) < nI N then (20 : Int32) else nI N) = nI (min 20 N) := by
    by_cases q : 20 < N
    · rw [show min 20 N = 20 by omega]; exact if_pos (nI_lt (a := 20) (b := N) q hN)
    · rw [show min 20 N = N by omega]; exact if_neg (nI_nlt (a := 20) (b := N) (by omega) (by omega))
  rw [e]
  obtain ⟨a2, e1, h1⟩ := x_mostAll (u := u) (c1 := (0 : Int32)) (c2 := (-1 : Int32)) (c3 := (0 : Int32)) hP (show min 20 N ≤ 20 by omega) hu (min 20 N + 1) 0 u a1 (by omega) (by omega) (fun i h => absurd h (Nat.not_lt_zero i))
  obtain ⟨d1, d2, d3, e2, h2⟩ := x_cntA (u := u) hP (show min 20 N ≤ 20 by omega) hu h1 (min 20 N + 1) 0 u (0 : Int32) (-1 : Int32) (0 : Int32) (by omega) (by omega) ⟨rfl, rfl, rfl⟩
  exact ⟨d1, d2, d3, a2, e1.trans e2, h2⟩
end OWN3
