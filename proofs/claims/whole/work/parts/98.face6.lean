/-! FACE: the reference -/
section FACE6
variable {u : Nat}
theorem lnF_f {b : Nat → Bool} {x r : Nat} (h : b x = false) : lnF b x r = 0 := by
  cases r with
  | zero => rfl
  | succ r => exact if_neg (by rw [h]; exact Bool.false_ne_true)
theorem lnF_t {b : Nat → Bool} {x r : Nat} (h : b x = true) : lnF b x (r + 1) = lnF b (x + 1) r + 1 := if_pos h
theorem m_faceLen {W H : Nat} (hW : W ≤ 8) (hH : H ≤ 6) {a7 a20 : Nat → Int32} {K S : Nat → Nat} (hK : ∀ c, c < 48 → K c ≤ 5 ∧ a7 c = nI (K c)) (hS : ∀ c, c < 48 → S c ≤ 3 ∧ a20 c = nI (S c)) {k x y : Nat} (hk : k ≤ 5) (hy : y < 6) (hx : x < 8) (out : ∀ i, i < 8 → W ≤ i ∨ H ≤ y → ¬ K (8 * y + i) = k)
    {k47 : Int32 → (Nat → Int32) → Int32 → Int32 → Int32 → Int32 → Int32 → Option (Int32 × Int32 × (Nat → Int32))} {c0 v2 v3 v4 : Int32} {a1 : Nat → Int32} :
    ∀ r j m, x + j + r = 8 → r < m → bX11_face_57 u (nI W) (nI H) a7 a20 k47 m c0 a1 (nI k) v2 v3 v4 (nI (8 * y + x)) (nI j) = bX11_face_117 u (nI W) (nI H) a7 a20 k47 c0 a1 (nI k) v2 v3 v4 (nI (8 * y + x)) (nI (j + lnF (fun i => K (8 * y + i) == k && S (8 * y + i) == 0) (x + j) r)) := by
  intro r
  induction r with
  | zero =>
    intro j m hj hm
    obtain ⟨m, rfl⟩ := z_suc hm
    have em : (nI (8 * y + x) - nI (8 * y + x) / (8 : Int32) * (8 : Int32)) + nI j = nI (x + j) := by
      rw [show (8 : Int32) = nI 8 from rfl, z_rem (by omega) (by omega) (by omega), show (8 * y + x) % 8 = x by omega, nI_add]
    rw [bX11_face_57, em]
    exact if_pos (nI_le (by omega) (by omega))
  | succ r ih =>
    intro j m hj hm
    obtain ⟨m, rfl⟩ := z_suc hm
    have em : (nI (8 * y + x) - nI (8 * y + x) / (8 : Int32) * (8 : Int32)) + nI j = nI (x + j) := by
      rw [show (8 : Int32) = nI 8 from rfl, z_rem (by omega) (by omega) (by omega), show (8 * y + x) % 8 = x by omega, nI_add]
    have ed : nI (8 * y + x) / (8 : Int32) = nI y := by
      rw [show (8 : Int32) = nI 8 from rfl, z_div (by omega) (by omega) (by omega), show (8 * y + x) / 8 = y by omega]
    have ej : nI j + (1 : Int32) = nI (j + 1) := nI_1 j
    have ec : nI (8 * y + x) + nI j = nI (8 * y + (x + j)) := by rw [nI_add, show 8 * y + x + j = 8 * y + (x + j) by omega]
    have hlam : (fun i => K (8 * y + i) == k && S (8 * y + i) == 0) (x + j) = (K (8 * y + (x + j)) == k && S (8 * y + (x + j)) == 0) := rfl
    have nk : ¬ K (8 * y + (x + j)) = k → (fun i => K (8 * y + i) == k && S (8 * y + i) == 0) (x + j) = false := fun h => by
      rw [hlam, show (K (8 * y + (x + j)) == k) = false from beq_eq_false_iff_ne.mpr h, Bool.false_and]
    rw [bX11_face_57, em, ed, ec, ej]
    by_cases q1 : W ≤ x + j
    · rw [lnF_f (nk (out (x + j) (by omega) (Or.inl q1)))]
      exact if_pos (nI_le q1 (by omega))
    · refine (if_neg (nI_ge (a := x + j) (b := W) (by omega) (by omega))).trans ?_
      by_cases q2 : H ≤ y
      · rw [lnF_f (nk (out (x + j) (by omega) (Or.inr q2)))]
        exact if_pos (nI_le q2 (by omega))
      · refine (if_neg (nI_ge (a := y) (b := H) (by omega) (by omega))).trans ?_
        obtain ⟨k1, k2⟩ := hK (8 * y + (x + j)) (by omega)
        obtain ⟨s1, s2⟩ := hS (8 * y + (x + j)) (by omega)
        rw [z_ki (by omega) (by omega), z_cl (by omega), k2]
        by_cases q3 : K (8 * y + (x + j)) = k
        · refine (if_pos (by rw [q3])).trans ?_
          rw [z_ki (by omega) (by omega), s2]
          by_cases q4 : S (8 * y + (x + j)) = 0
          · refine (if_pos (show nI (S (8 * y + (x + j))) = (0 : Int32) by rw [q4]; rfl)).trans ?_
            rw [ih (j + 1) m (by omega) (by omega), lnF_t (show (fun i => K (8 * y + i) == k && S (8 * y + i) == 0) (x + j) = true by rw [hlam, q3, q4, beq_self_eq_true]; rfl), show x + (j + 1) = x + j + 1 by omega]
            rw [show j + 1 + lnF (fun i => K (8 * y + i) == k && S (8 * y + i) == 0) (x + j + 1) r = j + (lnF (fun i => K (8 * y + i) == k && S (8 * y + i) == 0) (x + j + 1) r + 1) by omega]
          · refine (if_neg (show ¬ nI (S (8 * y + (x + j))) = (0 : Int32) from fun h => q4 ((nI_eq (b := 0) (by omega) (by omega)).mp h))).trans ?_
            rw [lnF_f (show (fun i => K (8 * y + i) == k && S (8 * y + i) == 0) (x + j) = false by rw [hlam, show (S (8 * y + (x + j)) == 0) = false from beq_eq_false_iff_ne.mpr q4, Bool.and_false])]
            rfl
        · refine (if_neg (fun h => q3 ((nI_eq (by omega) (by omega)).mp h))).trans ?_
          rw [lnF_f (nk q3)]
          rfl
end FACE6
