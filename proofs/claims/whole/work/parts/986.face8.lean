/-! FACE: the reference's whole method -/
section FACE8
variable {u : Nat}
theorem m_faceAll {W H : Nat} (hW : W ≤ 8) (hH : H ≤ 6) {a7 a20 : Nat → Int32} {K S : Nat → Nat} (hK : ∀ c, c < 48 → K c ≤ 5 ∧ a7 c = nI (K c)) (hS : ∀ c, c < 48 → S c ≤ 3 ∧ a20 c = nI (S c)) {k : Nat} (hk : k ≤ 5) (hu : 60 ≤ u) (out : ∀ y i, y < 6 → i < 8 → W ≤ i ∨ H ≤ y → ¬ K (8 * y + i) = k)
    {c0 v2 : Int32} {a1 : Nat → Int32} :
    ∀ q y n, y + q = 6 → bX11_face_47 u (nI W) (nI H) a7 a20 (n + 8 * q) c0 a1 (nI k) v2 (fcA (fun c => K c == k && S c == 0) y).2 (nI (fcA (fun c => K c == k && S c == 0) y).1) (nI (8 * y)) = bX11_face_47 u (nI W) (nI H) a7 a20 n c0 a1 (nI k) v2 (fcA (fun c => K c == k && S c == 0) 6).2 (nI (fcA (fun c => K c == k && S c == 0) 6).1) (nI 48) := by
  intro q
  induction q with
  | zero =>
    intro y n hy
    have : y = 6 := by omega
    subst this
    rfl
  | succ q ih =>
    intro y n hy
    have l := fcA_le (fun c => K c == k && S c == 0) y
    have e := m_faceRow (u := u) (y := y) (T := (fcA (fun c => K c == k && S c == 0) y).1) (c0 := c0) (v2 := v2) (f := (fcA (fun c => K c == k && S c == 0) y).2) (a1 := a1) hW hH hK hS hk (by omega) l hu (fun i hi h => out y i (by omega) hi h) 8 0 (n + 8 * q) rfl
    exact Eq.trans e (ih (y + 1) n (by omega))
end FACE8
