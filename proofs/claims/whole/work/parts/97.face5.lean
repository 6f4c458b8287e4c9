/-! FACE: the class's whole method -/
section FACE5
variable {u : Nat}
/-- the longest face of a kind, or where it begins -/
def fcV (K S : Nat → Nat) (k w : Nat) : Int32 := if w = 0 then nI (fcA (fun c => K c == k && S c == 0) 6).1 else (fcA (fun c => K c == k && S c == 0) 6).2
theorem x_face {dug prp fal : Int64} {S : Nat → Nat} (M : mS dug prp fal S) (hS : ∀ c, c < 48 → S c ≤ 3) {a6 : Nat → Int32} {K : Nat → Nat} (hK : ∀ c, c < 48 → K c ≤ 5 ∧ a6 c = nI (K c)) {k w : Nat} (hk : k ≤ 5) (hw : w ≤ 1) (hu : 60 ≤ u) :
    f_X3_longestFace u dug prp fal a6 (nI k) (nI w) = some (fcV K S k w) := by
  unfold f_X3_longestFace bX3_longestFace_0
  obtain ⟨v5, e⟩ := x_faceAll (u := u) (v2 := nI w) M hS hK hk 6 0 (u - 49 + 1) (0 : Int32) rfl
  rw [show u - 49 + 1 + 8 * 6 = u by omega] at e
  refine Eq.trans e ?_
  rw [bX3_longestFace_11]
  refine (if_pos (nI_le (a := 48) (Nat.le_refl _) (by omega))).trans ?_
  rcases (show w = 0 ∨ w = 1 by omega) with rfl | rfl
  · exact if_pos rfl
  · exact if_neg (show ¬ nI 1 = (0 : Int32) by decide)
end FACE5
