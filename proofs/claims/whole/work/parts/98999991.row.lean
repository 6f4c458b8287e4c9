/-! WORK: the reference keeps the row -/
section STY
variable {u : Nat} {c25 c26 c27 c28 c30 d0 d2 d3 d4 d5 d6 d7 d8 d41 d43 d44 d45 d46 : Int32} {t2 a7 a8 a9 a10 a13 a14 a15 a1 a16 a17 a18 a19 a20 a21 a22 a23 a24 : Nat → Int32}
theorem m_123 (hu : 100 ≤ u) {W : Nat} (hW : W < 16) : ∃ g, bX11_work_123 u c25 c26 c27 c28 c30 t2 a7 a8 a9 a10 a13 a14 a15 u d0 d2 d3 d4 d5 d6 d7 d8 d41 (nI W) d43 d44 d45 d46 a1 a16 a17 a18 a19 a20 a21 a22 a23 a24 (0 : Int32) = bX11_work_123 u c25 c26 c27 c28 c30 t2 a7 a8 a9 a10 a13 a14 a15 (0 + 1) d0 d2 d3 d4 d5 d6 d7 d8 d41 (nI W) d43 d44 d45 d46 a1 a16 a17 a18 a19 a20 a21 g a23 a24 (nI 77) ∧ (∀ j, j < 77 → g (77 * W + j) = a20 j) ∧ ∀ j, (j < 77 * W ∨ 77 * W + 77 ≤ j) → g j = a22 j := by
  have fin : ∀ (n : Nat) (g : Nat → Int32), bX11_work_123 u c25 c26 c27 c28 c30 t2 a7 a8 a9 a10 a13 a14 a15 (n + 1) d0 d2 d3 d4 d5 d6 d7 d8 d41 (nI W) d43 d44 d45 d46 a1 a16 a17 a18 a19 a20 a21 g a23 a24 (nI 77) = bX11_work_123 u c25 c26 c27 c28 c30 t2 a7 a8 a9 a10 a13 a14 a15 (0 + 1) d0 d2 d3 d4 d5 d6 d7 d8 d41 (nI W) d43 d44 d45 d46 a1 a16 a17 a18 a19 a20 a21 g a23 a24 (nI 77) := by
    intro n g
    rw [bX11_work_123, bX11_work_123, if_pos (show (77 : Int32) ≤ nI 77 by decide), if_pos (show (77 : Int32) ≤ nI 77 by decide)]
  have key : ∀ r k n g, k + r = 77 → r < n → (∀ j, j < k → g (77 * W + j) = a20 j) → (∀ j, (j < 77 * W ∨ 77 * W + 77 ≤ j) → g j = a22 j) → ∃ g', bX11_work_123 u c25 c26 c27 c28 c30 t2 a7 a8 a9 a10 a13 a14 a15 n d0 d2 d3 d4 d5 d6 d7 d8 d41 (nI W) d43 d44 d45 d46 a1 a16 a17 a18 a19 a20 a21 g a23 a24 (nI k) = bX11_work_123 u c25 c26 c27 c28 c30 t2 a7 a8 a9 a10 a13 a14 a15 (0 + 1) d0 d2 d3 d4 d5 d6 d7 d8 d41 (nI W) d43 d44 d45 d46 a1 a16 a17 a18 a19 a20 a21 g' a23 a24 (nI 77) ∧ (∀ j, j < 77 → g' (77 * W + j) = a20 j) ∧ ∀ j, (j < 77 * W ∨ 77 * W + 77 ≤ j) → g' j = a22 j := by
    intro r
    induction r with
    | zero =>
      intro k n g hk hn h1 h2
      obtain ⟨n, rfl⟩ := z_suc hn
      obtain rfl : k = 77 := by omega
      exact ⟨g, fin n g, h1, h2⟩
    | succ r ih =>
      intro k n g hk hn h1 h2
      obtain ⟨n, rfl⟩ := z_suc hn
      rw [bX11_work_123, if_neg (show ¬ (77 : Int32) ≤ nI k from nI_ge (b := 77) (by omega) (by omega)), show (77 : Int32) * nI W = nI (77 * W) from (Int32.ofNat_mul 77 W).symm, nI_add, z_ki (show k < 77 by omega) (by omega), z_ki (show 77 * W + k < 1232 by omega) (by omega), z_cl (by omega), z_cl (by omega), show nI k + (1 : Int32) = nI (k + 1) from nI_1 k]
      refine ih (k + 1) n _ (by omega) (by omega) (fun j hj => ?_) (fun j hj => ?_)
      · simp only [z_upd]
        by_cases z : j = k
        · rw [z, if_pos rfl]
        · rw [if_neg (by omega)]; exact h1 j (by omega)
      · simp only [z_upd]
        rw [if_neg (by omega)]; exact h2 j hj
  exact key 77 0 u a22 (by omega) (by omega) (fun j hj => absurd hj (Nat.not_lt_zero j)) (fun j _ => rfl)
end STY
