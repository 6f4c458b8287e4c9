/-! FACE: the reference answers as the class -/
section FACE9
variable {u : Nat}
theorem m_faceY {W H : Nat} (hW : W ≤ 8) (hH : H ≤ 6) {a7 a20 : Nat → Int32} {K S : Nat → Nat} (hK : ∀ c, c < 48 → K c ≤ 5 ∧ a7 c = nI (K c)) (hS : ∀ c, c < 48 → S c ≤ 3 ∧ a20 c = nI (S c)) {k w : Nat} (h0 : 1 ≤ k) (hk : k ≤ 4) (hw : w ≤ 1) (hu : 60 ≤ u) (out : ∀ y i, y < 6 → i < 8 → W ≤ i ∨ H ≤ y → ¬ K (8 * y + i) = k) {c0 : Int32} {a1 : Nat → Int32} :
    f_X11_face u c0 (nI W) (nI H) a1 a7 a20 (nI k) (nI w) = some (fcV K S k w, nI 0, a1) := by
  unfold f_X11_face bX11_face_0
  have w1 : f_X11_within u (nI k) (1 : Int32) (4 : Int32) = some (zB true) := (m_within _ _ _).trans (by rw [show (1 : Int32) = nI 1 from rfl, show (4 : Int32) = nI 4 from rfl, m_wi h0 hk (by omega)])
  have w2 : f_X11_within u (nI w) (0 : Int32) (1 : Int32) = some (zB true) := (m_within _ _ _).trans (by rw [show (0 : Int32) = nI 0 from rfl, show (1 : Int32) = nI 1 from rfl, m_wi (Nat.zero_le _) hw (by omega)])
  rw [w1, z_b]
  refine (if_neg (show ¬ zB true = (0 : Int32) by decide)).trans ?_
  rw [w2, z_b]
  refine (if_neg (show ¬ zB true = (0 : Int32) by decide)).trans ?_
  unfold bX11_face_29
  have h2 : f_X11_may u (0 : Int32) a1 (1 : Int32) (1 : Int32) (2 : Int32) = some (nI 1, nI 0, a1) := m_may (u := u) true (1 : Int32) (by decide) (k := 2) (by omega) a1
  rw [h2, z_b]
  refine (if_neg (show ¬ nI 1 = (0 : Int32) by decide)).trans ?_
  have e := m_faceAll (u := u) (c0 := nI 0) (v2 := nI w) (a1 := a1) hW hH hK hS (show k ≤ 5 by omega) hu out 6 0 (u - 49 + 1) rfl
  rw [show u - 49 + 1 + 8 * 6 = u by omega] at e
  refine Eq.trans e ?_
  rw [bX11_face_47]
  refine (if_pos (nI_le (a := 48) (Nat.le_refl _) (by omega))).trans ?_
  rcases (show w = 0 ∨ w = 1 by omega) with rfl | rfl
  · exact if_pos rfl
  · exact if_neg (show ¬ nI 1 = (0 : Int32) by decide)
end FACE9
