/-! FACE: all rows -/
def fcA (F : Nat → Bool) : Nat → Nat × Int32
  | 0 => (0, -nI 1)
  | y + 1 => ((fcM (fun x => F (8 * y + x)) (fcA F y).1 8).1, fcI y (fcA F y).2 (fcM (fun x => F (8 * y + x)) (fcA F y).1 8).2)
theorem fcA_le (F : Nat → Bool) : ∀ y, (fcA F y).1 ≤ 8
  | 0 => Nat.zero_le _
  | y + 1 => by
    have h := fcA_le F y
    have h2 := (fcX_le (fun x => F (8 * y + x)) (fcA F y).1 8).2
    rw [fc_row (fun x => F (8 * y + x)) h] at h2
    show (fcM (fun x => F (8 * y + x)) (fcA F y).1 8).1 ≤ 8
    omega
section FACE4
variable {u : Nat}
theorem x_faceAll {dug prp fal : Int64} {S : Nat → Nat} (M : mS dug prp fal S) (hS : ∀ c, c < 48 → S c ≤ 3) {a6 : Nat → Int32} {K : Nat → Nat} (hK : ∀ c, c < 48 → K c ≤ 5 ∧ a6 c = nI (K c)) {k : Nat} {v2 : Int32} (hk : k ≤ 5) :
    ∀ q y n v5, y + q = 6 → ∃ v5', bX3_longestFace_11 u dug prp fal a6 (n + 8 * q) (nI k) v2 (nI (fcA (fun c => K c == k && S c == 0) y).1) (fcA (fun c => K c == k && S c == 0) y).2 v5 (nI (8 * y)) = bX3_longestFace_11 u dug prp fal a6 n (nI k) v2 (nI (fcA (fun c => K c == k && S c == 0) 6).1) (fcA (fun c => K c == k && S c == 0) 6).2 v5' (nI 48) := by
  intro q
  induction q with
  | zero =>
    intro y n v5 hy
    have : y = 6 := by omega
    subst this
    exact ⟨v5, rfl⟩
  | succ q ih =>
    intro y n v5 hy
    have l := fcA_le (fun c => K c == k && S c == 0) y
    obtain ⟨w, e⟩ := x_faceRow (u := u) (y := y) (T := (fcA (fun c => K c == k && S c == 0) y).1) (v2 := v2) (f := (fcA (fun c => K c == k && S c == 0) y).2) M hS hK hk (by omega) l 8 0 (n + 8 * q) v5 rfl (Or.inl rfl)
    rw [fc_row _ l] at e
    obtain ⟨w', e'⟩ := ih (y + 1) n w (by omega)
    exact ⟨w', e.trans e'⟩
end FACE4
