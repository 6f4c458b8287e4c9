/-! FACE: the reference's rows -/
section FACE7
variable {u : Nat}
theorem fcM_le (b : Nat → Bool) {M : Nat} (hM : M ≤ 8) (h : ∀ x r, lnF b x r ≤ r) : ∀ x, (fcM b M x).1 ≤ 8
  | 0 => hM
  | x + 1 => by
    have e := fcM_le b hM h x
    have l := h x (8 - x)
    unfold fcM
    split
    · show lnF b x (8 - x) ≤ 8; omega
    · exact e
theorem lnF_le (b : Nat → Bool) : ∀ r x, lnF b x r ≤ r
  | 0, _ => Nat.le_refl _
  | r + 1, x => by
    have h := lnF_le b r (x + 1)
    unfold lnF
    split <;> omega
theorem m_faceRow {W H : Nat} (hW : W ≤ 8) (hH : H ≤ 6) {a7 a20 : Nat → Int32} {K S : Nat → Nat} (hK : ∀ c, c < 48 → K c ≤ 5 ∧ a7 c = nI (K c)) (hS : ∀ c, c < 48 → S c ≤ 3 ∧ a20 c = nI (S c)) {k y T : Nat} (hk : k ≤ 5) (hy : y < 6) (hT : T ≤ 8) (hu : 60 ≤ u) (out : ∀ i, i < 8 → W ≤ i ∨ H ≤ y → ¬ K (8 * y + i) = k)
    {c0 v2 f : Int32} {a1 : Nat → Int32} :
    ∀ r x n, x + r = 8 → bX11_face_47 u (nI W) (nI H) a7 a20 (n + r) c0 a1 (nI k) v2 (fcI y f (fcM (fun i => K (8 * y + i) == k && S (8 * y + i) == 0) T x).2) (nI (fcM (fun i => K (8 * y + i) == k && S (8 * y + i) == 0) T x).1) (nI (8 * y + x)) = bX11_face_47 u (nI W) (nI H) a7 a20 n c0 a1 (nI k) v2 (fcI y f (fcM (fun i => K (8 * y + i) == k && S (8 * y + i) == 0) T 8).2) (nI (fcM (fun i => K (8 * y + i) == k && S (8 * y + i) == 0) T 8).1) (nI (8 * y + 8)) := by
  intro r
  induction r with
  | zero =>
    intro x n hx
    have : x = 8 := by omega
    subst this
    rfl
  | succ r ih =>
    intro x n hx
    have e1 : nI (8 * y + x) + (1 : Int32) = nI (8 * y + (x + 1)) := nI_1 (8 * y + x)
    have l1 := fcM_le (fun i => K (8 * y + i) == k && S (8 * y + i) == 0) hT (fun x r => lnF_le _ r x) x
    have l2 := lnF_le (fun i => K (8 * y + i) == k && S (8 * y + i) == 0) (8 - x) x
    have len := m_faceLen (u := u) (k47 := bX11_face_47 u (nI W) (nI H) a7 a20 (n + r)) (c0 := c0) (v2 := v2) (v3 := fcI y f (fcM (fun i => K (8 * y + i) == k && S (8 * y + i) == 0) T x).2) (v4 := nI (fcM (fun i => K (8 * y + i) == k && S (8 * y + i) == 0) T x).1) (a1 := a1) hW hH hK hS hk hy (show x < 8 by omega) out (8 - x) 0 u (by omega) (by omega)
    rw [Nat.zero_add, Nat.add_zero] at len
    rw [← ih (x + 1) n (by omega), show n + (r + 1) = (n + r) + 1 by omega, bX11_face_47]
    refine (if_neg (nI_ge (a := 8 * y + x) (b := 48) (by omega) (by omega))).trans ?_
    refine Eq.trans len ?_
    unfold bX11_face_117 bX11_face_134
    rw [e1]
    by_cases q : (fcM (fun i => K (8 * y + i) == k && S (8 * y + i) == 0) T x).1 < lnF (fun i => K (8 * y + i) == k && S (8 * y + i) == 0) x (8 - x)
    · rw [show fcM (fun i => K (8 * y + i) == k && S (8 * y + i) == 0) T (x + 1) = (lnF (fun i => K (8 * y + i) == k && S (8 * y + i) == 0) x (8 - x), some x) from if_pos q]
      exact if_pos (nI_lt q (by omega))
    · rw [show fcM (fun i => K (8 * y + i) == k && S (8 * y + i) == 0) T (x + 1) = fcM (fun i => K (8 * y + i) == k && S (8 * y + i) == 0) T x from if_neg q]
      exact if_neg (nI_nlt (by omega) (by omega))
end FACE7
