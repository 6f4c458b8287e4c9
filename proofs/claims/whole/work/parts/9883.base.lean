/-! THE REFUSALS OF BOTH SIDES -/
section DCH
variable {u : Nat}
theorem r_upd {a b : Nat → Int32} (h : ∀ k, k < 3 → a k = b k) {j : Nat} (hj : j < 3) : ∀ k, k < 3 → upd a j (a j + (1 : Int32)) k = upd b j (b j + (1 : Int32)) k := by
  intro k hk
  simp only [z_upd]
  rw [h k hk, h j hj]
theorem x_need (b : Bool) (a : Nat → Int32) : f_X10_need u a (zB b) = some ((if b then (0 : Int32) else 3), (if b then a else upd a 2 (a 2 + (1 : Int32)))) := by
  cases b <;> rfl
theorem m_need (b : Bool) (a : Nat → Int32) : f_X11_may u (0 : Int32) a (zB b) (1 : Int32) (2 : Int32) = some (zB b, (if b then (0 : Int32) else 1), (if b then a else upd a 2 (a 2 + (1 : Int32)))) :=
  m_may b 1 (by decide) (k := 2) (by omega) a
theorem m_need2 (b : Bool) (a : Nat → Int32) : f_X11_may u (0 : Int32) a (zB b) (2 : Int32) (2 : Int32) = some (zB b, (if b then (0 : Int32) else 2), (if b then a else upd a 2 (a 2 + (1 : Int32)))) :=
  m_may b 2 (by decide) (k := 2) (by omega) a
/-- a number in a range, or not -/
theorem d_in {x : Int32} {n : Nat} (hn : n < 2147483648) : (∃ i, i < n ∧ x = nI i ∧ ¬ x < 0 ∧ ¬ nI n ≤ x ∧ x < nI n) ∨ (x < 0) ∨ (¬ x < 0 ∧ nI n ≤ x ∧ ¬ x < nI n) := by
  by_cases h0 : x < 0
  · exact Or.inr (Or.inl h0)
  · obtain ⟨i, hi, rfl⟩ := nI_of h0
    by_cases h : i < n
    · exact Or.inl ⟨i, h, rfl, h0, nI_ge h hn, nI_lt h hn⟩
    · exact Or.inr (Or.inr ⟨h0, nI_le (by omega) hi, nI_nlt (by omega) hi⟩)
theorem d_cell {W H : Nat} (hW : W ≤ 8) (hH : H ≤ 6) (x y : Int32) (a b : Nat → Int32) : (∃ i j, i < W ∧ j < H ∧ x = nI i ∧ y = nI j ∧ f_X10_cellAt u (nI W) (nI H) a x y = some ((0 : Int32), nI (8 * j + i), a) ∧ f_X11_isCell u (0 : Int32) (nI W) (nI H) b x y (1 : Int32) = some ((1 : Int32), (0 : Int32), b)) ∨
    (f_X10_cellAt u (nI W) (nI H) a x y = some ((1 : Int32), (0 : Int32), upd a 0 (a 0 + (1 : Int32))) ∧ f_X11_isCell u (0 : Int32) (nI W) (nI H) b x y (1 : Int32) = some ((0 : Int32), (1 : Int32), upd b 0 (b 0 + (1 : Int32)))) := by
  have out : ∀ r : Option Int32, f_X11_isIn u (nI W) (nI H) x y = r → r = some (0 : Int32) → f_X11_isCell u (0 : Int32) (nI W) (nI H) b x y (1 : Int32) = some ((0 : Int32), (1 : Int32), upd b 0 (b 0 + (1 : Int32))) := by
    intro r hr h0
    unfold f_X11_isCell bX11_isCell_0
    rw [hr, h0, z_b]
    have := m_may (u := u) false 1 (by decide) (k := 0) (by omega) b
    have e : f_X11_may u (0 : Int32) b (0 : Int32) (1 : Int32) (0 : Int32) = some ((0 : Int32), (1 : Int32), upd b 0 (b 0 + (1 : Int32))) := this
    rw [e, z_b]
    rfl
  rcases d_in (x := x) (n := W) (by omega) with ⟨i, hi, rfl, q1, q2, q3⟩ | q1 | ⟨q1, q2, q3⟩
  · rcases d_in (x := y) (n := H) (by omega) with ⟨j, hj, rfl, p1, p2, p3⟩ | p1 | ⟨p1, p2, p3⟩
    · refine Or.inl ⟨i, j, hi, hj, rfl, rfl, ?_, ?_⟩
      · unfold f_X10_cellAt bX10_cellAt_0
        rw [if_neg q1, if_neg q2, if_neg p1, if_pos p3]
        have e1 : (8 : Int32) * nI j = nI (8 * j) := (Int32.ofNat_mul 8 j).symm
        rw [e1, nI_add]
      · unfold f_X11_isCell bX11_isCell_0 f_X11_isIn bX11_isIn_0
        rw [if_neg q1, if_neg q2, if_neg p1, if_neg p2, z_b]
        have := m_may (u := u) true 1 (by decide) (k := 0) (by omega) b
        have e : f_X11_may u (0 : Int32) b (1 : Int32) (1 : Int32) (0 : Int32) = some ((1 : Int32), (0 : Int32), b) := this
        rw [e, z_b]
        rfl
    · refine Or.inr ⟨?_, out _ rfl ?_⟩
      · unfold f_X10_cellAt bX10_cellAt_0; rw [if_neg q1, if_neg q2, if_pos p1]; rfl
      · unfold f_X11_isIn bX11_isIn_0; rw [if_neg q1, if_neg q2, if_pos p1]
    · refine Or.inr ⟨?_, out _ rfl ?_⟩
      · unfold f_X10_cellAt bX10_cellAt_0; rw [if_neg q1, if_neg q2, if_neg p1, if_neg p3]; rfl
      · unfold f_X11_isIn bX11_isIn_0; rw [if_neg q1, if_neg q2, if_neg p1, if_pos p2]
  · refine Or.inr ⟨?_, out _ rfl ?_⟩
    · unfold f_X10_cellAt bX10_cellAt_0; rw [if_pos q1]; rfl
    · unfold f_X11_isIn bX11_isIn_0; rw [if_pos q1]
  · refine Or.inr ⟨?_, out _ rfl ?_⟩
    · unfold f_X10_cellAt bX10_cellAt_0; rw [if_neg q1, if_pos q2]; rfl
    · unfold f_X11_isIn bX11_isIn_0; rw [if_neg q1, if_pos q2]
theorem d_ord {O : Nat} (hO : O ≤ 6) (x : Int32) (a b : Nat → Int32) : (∃ i, i < O ∧ x = nI i ∧ f_X10_needOrder u (nI O) a x = some ((0 : Int32), a) ∧ f_X11_isOrder u (0 : Int32) (nI O) b x (1 : Int32) = some ((1 : Int32), (0 : Int32), b)) ∨
    (f_X10_needOrder u (nI O) a x = some ((2 : Int32), upd a 1 (a 1 + (1 : Int32))) ∧ f_X11_isOrder u (0 : Int32) (nI O) b x (1 : Int32) = some ((0 : Int32), (1 : Int32), upd b 1 (b 1 + (1 : Int32)))) := by
  have hi : ∀ v : Bool, (decide ((0 : Int32) ≤ x) && decide (x ≤ nI O - (1 : Int32))) = v → f_X11_isOrder u (0 : Int32) (nI O) b x (1 : Int32) = some (zB v, (if v then (0 : Int32) else 1), (if v then b else upd b 1 (b 1 + (1 : Int32)))) := by
    intro v hv
    unfold f_X11_isOrder bX11_isOrder_0
    rw [m_within, hv, z_b]
    have e : f_X11_may u (0 : Int32) b (zB v) (1 : Int32) (1 : Int32) = some (zB v, (if v then (0 : Int32) else 1), (if v then b else upd b 1 (b 1 + (1 : Int32)))) := m_may (u := u) v 1 (by decide) (k := 1) (by omega) b
    rw [e, z_b]
    cases v <;> rfl
  have hle : ∀ i, i < 2147483648 → (nI i ≤ nI O - (1 : Int32) ↔ i < O) := by
    intro i h1
    have e : (nI O - (1 : Int32)).toInt = (O : Int) - 1 := by
      rw [Int32.toInt_sub, nI_toInt (by omega)]
      have : (1 : Int32).toInt = 1 := rfl
      rw [this]
      exact Int.bmod_eq_of_le (by omega) (by omega)
    rw [Int32.le_iff_toInt_le, e, nI_toInt h1]
    omega
  rcases d_in (x := x) (n := O) (by omega) with ⟨i, h1, rfl, q1, q2, q3⟩ | q1 | ⟨q1, q2, q3⟩
  · refine Or.inl ⟨i, h1, rfl, ?_, ?_⟩
    · unfold f_X10_needOrder bX10_needOrder_0; rw [if_neg q1, if_pos q3]
    · refine hi true ?_
      rw [decide_eq_true ((hle i (by omega)).mpr h1), decide_eq_true (fa_of_nlt q1)]
      rfl
  · refine Or.inr ⟨?_, hi false ?_⟩
    · unfold f_X10_needOrder bX10_needOrder_0; rw [if_pos q1]; rfl
    · rw [decide_eq_false (fa_of_lt q1).2.1]; rfl
  · refine Or.inr ⟨?_, hi false ?_⟩
    · unfold f_X10_needOrder bX10_needOrder_0; rw [if_neg q1, if_neg q3]; rfl
    · obtain ⟨i, h1, rfl⟩ := nI_of q1
      have : ¬ i < O := fun h => q3 (nI_lt h (by omega))
      rw [decide_eq_false (fun h => this ((hle i h1).mp h)), Bool.and_false]
theorem d_col {W : Nat} (hW : W ≤ 8) (x : Int32) : (∃ i, i < W ∧ x = nI i ∧ f_X10_isColumn u (nI W) x = some (1 : Int32) ∧ f_X11_isColumn u (nI W) x = some (1 : Int32)) ∨ (f_X10_isColumn u (nI W) x = some (0 : Int32) ∧ f_X11_isColumn u (nI W) x = some (0 : Int32)) := by
  unfold f_X10_isColumn bX10_isColumn_0 f_X11_isColumn bX11_isColumn_0
  rcases d_in (x := x) (n := W) (by omega) with ⟨i, h1, rfl, q1, q2, q3⟩ | q1 | ⟨q1, q2, q3⟩
  · exact Or.inl ⟨i, h1, rfl, by rw [if_neg q1, if_neg q2], by rw [if_neg q1, if_neg q2]⟩
  · exact Or.inr ⟨by rw [if_pos q1], by rw [if_pos q1]⟩
  · exact Or.inr ⟨by rw [if_neg q1, if_pos q2], by rw [if_neg q1, if_pos q2]⟩
theorem d_either (x : Int32) : ((x = 0 ∨ x = 1) ∧ f_X10_isEither u x = some (1 : Int32) ∧ f_X11_within u x 0 1 = some (1 : Int32)) ∨ (f_X10_isEither u x = some (0 : Int32) ∧ f_X11_within u x 0 1 = some (0 : Int32)) := by
  by_cases h0 : x = 0
  · subst h0; exact Or.inl ⟨Or.inl rfl, rfl, rfl⟩
  · by_cases h1 : x = 1
    · subst h1; exact Or.inl ⟨Or.inr rfl, rfl, rfl⟩
    · refine Or.inr ⟨by unfold f_X10_isEither bX10_isEither_0; rw [if_neg h0, if_neg h1], ?_⟩
      rw [m_within]
      rcases d_in (x := x) (n := 2) (by omega) with ⟨i, h2, rfl, q1, q2, q3⟩ | q1 | ⟨q1, q2, q3⟩
      · match i, h2 with
        | 0, _ => exact absurd rfl h0
        | 1, _ => exact absurd rfl h1
        | i + 2, h => omega
      · rw [decide_eq_false (fa_of_lt q1).2.1]; rfl
      · obtain ⟨i, h2, rfl⟩ := nI_of q1
        have h3 : ¬ nI i ≤ (1 : Int32) := by
          have h4 : ¬ i < 2 := fun h => q3 (nI_lt h (by omega))
          exact nI_ge (a := 1) (b := i) (by omega) h2
        rw [decide_eq_false h3, Bool.and_false]; rfl
end DCH
