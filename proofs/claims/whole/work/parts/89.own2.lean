/-! OWNERS: the scans of pairs -/
/-- how many rests so far, and the first -/
abbrev oS : Type := Nat × Nat × Nat
def restB (P n a b : Nat) : Bool := rstB P n a b && rstB P n b a
def scB (P n a : Nat) (s : oS) : Nat → oS
  | 0 => s
  | b + 1 => if restB P n a b then (if (scB P n a s b).1 = 0 then (1, a, b) else ((scB P n a s b).1 + 1, (scB P n a s b).2)) else scB P n a s b
def scA (P n : Nat) : Nat → oS
  | 0 => (0, 0, 0)
  | a + 1 => scB P n a (scA P n a) (n + 1)
/-- the class's three numbers -/
def oX (P : Nat) (s : oS) (r f g : Int32) : Prop := r = nI s.1 ∧ f = (if s.1 = 0 then -nI 1 else nI (100 * s.2.1 + s.2.2)) ∧ g = (if s.1 = 0 then nI 0 else nI (gts P s.2.1 s.2.2))
section OWN2
variable {u : Nat}
theorem x_most {P n : Nat} (hP : P ≤ 99) (hn : n ≤ 20) (hu : 60 ≤ u) {k25 : Int32 → Int32 → Int32 → (Nat → Int32) → Int32 → Int32 → Int32 → Option (Int32 × Int32 × Int32 × (Nat → Int32))} {c1 c2 c3 : Int32} {b : Nat} (hb : b ≤ n) :
    ∀ r j m (a1 : Nat → Int32), j + r = n + 1 → r < m → a1 b = nI (mxg P b j) → ∃ a2, bX2_findRests_42 u k25 m c1 c2 c3 a1 (nI P) (nI n) (nI b) (nI j) = k25 c1 c2 c3 a2 (nI P) (nI n) (nI (b + 1)) ∧ a2 b = nI (mxg P b (n + 1)) ∧ ∀ i, i ≠ b → a2 i = a1 i := by
  intro r
  induction r with
  | zero =>
    intro j m a1 hj hm ha
    obtain ⟨m, rfl⟩ := z_suc hm
    have eb : nI b + (1 : Int32) = nI (b + 1) := nI_1 b
    refine ⟨a1, ?_, by rw [ha, show j = n + 1 by omega], fun _ _ => rfl⟩
    rw [bX2_findRests_42]
    refine (if_pos (nI_lt (a := n) (b := j) (by omega) (by omega))).trans ?_
    rw [eb]
  | succ r ih =>
    intro j m a1 hj hm ha
    obtain ⟨m, rfl⟩ := z_suc hm
    have ej : nI j + (1 : Int32) = nI (j + 1) := nI_1 j
    have g := gts_le (b := b) hP (show j ≤ 20 by omega)
    have mx := mxg_le (b := b) hP j (by omega)
    have ev : (if nI (mxg P b j) < nI (gts P j b) then nI (gts P j b) else nI (mxg P b j)) = nI (mxg P b (j + 1)) := by
      show _ = nI (if mxg P b j < gts P j b then gts P j b else mxg P b j)
      by_cases q : mxg P b j < gts P j b
      · rw [if_pos q]; exact if_pos (nI_lt q (by omega))
      · rw [if_neg q]; exact if_neg (nI_nlt (a := mxg P b j) (by omega) (by omega))
    obtain ⟨a2, e, f1, f2⟩ := ih (j + 1) m (upd a1 b (nI (mxg P b (j + 1)))) (by omega) (by omega) (by simp only [z_upd]; rw [if_pos trivial])
    refine ⟨a2, ?_, f1, fun i hi => by rw [f2 i hi]; simp only [z_upd]; rw [if_neg hi]⟩
    rw [bX2_findRests_42]
    refine (if_neg (nI_nlt (a := n) (b := j) (by omega) (by omega))).trans ?_
    rw [z_ki (by omega) (by omega), x_gets hP (by omega) (by omega), z_b, z_ki (by omega) (by omega), z_cl (by omega), ha, ev, ej]
    exact e
theorem x_mostAll {P n : Nat} (hP : P ≤ 99) (hn : n ≤ 20) (hu : 60 ≤ u) {c1 c2 c3 : Int32} :
    ∀ r b m (a1 : Nat → Int32), b + r = n + 1 → r < m → (∀ i, i < b → a1 i = nI (mxg P i (n + 1))) → ∃ a2, bX2_findRests_25 u m c1 c2 c3 a1 (nI P) (nI n) (nI b) = bX2_findRests_88 u u c1 c2 c3 a2 (nI P) (nI n) (nI 0) ∧ ∀ i, i < n + 1 → a2 i = nI (mxg P i (n + 1)) := by
  intro r
  induction r with
  | zero =>
    intro b m a1 hb hm ha
    obtain ⟨m, rfl⟩ := z_suc hm
    refine ⟨a1, ?_, fun i hi => ha i (by omega)⟩
    rw [bX2_findRests_25]
    exact if_pos (nI_lt (a := n) (b := b) (by omega) (by omega))
  | succ r ih =>
    intro b m a1 hb hm ha
    obtain ⟨m, rfl⟩ := z_suc hm
    obtain ⟨a2, e, f1, f2⟩ := x_most (u := u) (c1 := c1) (c2 := c2) (c3 := c3) (k25 := bX2_findRests_25 u m) hP hn hu (show b ≤ n by omega) (n + 1) 0 u (upd a1 b (0 : Int32)) (by omega) (by omega) (by simp only [z_upd]; rw [if_pos trivial]; rfl)
    obtain ⟨a3, e2, g⟩ := ih (b + 1) m a2 (by omega) (by omega) (fun i hi => by
      by_cases z : i = b
      · subst z; exact f1
      · rw [f2 i z]
        simp only [z_upd]
        rw [if_neg z]
        exact ha i (by omega))
    refine ⟨a3, ?_, g⟩
    rw [bX2_findRests_25]
    refine (if_neg (nI_nlt (a := n) (b := b) (by omega) (by omega))).trans ?_
    rw [z_ki (by omega) (by omega), z_cl (by omega)]
    exact e.trans e2
end OWN2
