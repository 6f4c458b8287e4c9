/-! FACE: the class's row -/
theorem fcX_le (b : Nat → Bool) (M : Nat) : ∀ x, (fcX b M x).1 ≤ x ∧ (fcX b M x).2.1 ≤ max M x
  | 0 => ⟨Nat.le_refl _, Nat.le_max_left _ _⟩
  | x + 1 => by
    obtain ⟨h1, h2⟩ := fcX_le b M x
    unfold fcX
    split
    · split
      · exact ⟨by show (fcX b M x).1 + 1 ≤ x + 1; omega, by show (fcX b M x).1 + 1 ≤ max M (x + 1); omega⟩
      · exact ⟨by show (fcX b M x).1 + 1 ≤ x + 1; omega, by show (fcX b M x).2.1 ≤ max M (x + 1); omega⟩
    · exact ⟨Nat.zero_le _, by show (fcX b M x).2.1 ≤ max M (x + 1); omega⟩
theorem fcX_t {b : Nat → Bool} {M x : Nat} (h : b x = true) : fcX b M (x + 1) = if (fcX b M x).2.1 < (fcX b M x).1 + 1 then ((fcX b M x).1 + 1, (fcX b M x).1 + 1, some (x - (fcX b M x).1)) else ((fcX b M x).1 + 1, (fcX b M x).2) := if_pos h
theorem fcX_f {b : Nat → Bool} {M x : Nat} (h : b x = false) : fcX b M (x + 1) = (0, (fcX b M x).2) := if_neg (by rw [h]; exact Bool.false_ne_true)
/-- the first as an int: what it was, or this row's -/
def fcI (y : Nat) (f : Int32) : Option Nat → Int32
  | none => f
  | some x => nI (8 * y + x)
section FACE3
variable {u : Nat}
theorem x_faceRow {dug prp fal : Int64} {S : Nat → Nat} (M : mS dug prp fal S) (hS : ∀ c, c < 48 → S c ≤ 3) {a6 : Nat → Int32} {K : Nat → Nat} (hK : ∀ c, c < 48 → K c ≤ 5 ∧ a6 c = nI (K c)) {k y T : Nat} {v2 f : Int32} (hk : k ≤ 5) (hy : y < 6) (hT : T ≤ 8) :
    ∀ r x n v5, x + r = 8 → (x = 0 ∨ v5 = nI (fcX (fun x => K (8 * y + x) == k && S (8 * y + x) == 0) T x).1) →
      ∃ v5', bX3_longestFace_11 u dug prp fal a6 (n + r) (nI k) v2 (nI (fcX (fun x => K (8 * y + x) == k && S (8 * y + x) == 0) T x).2.1) (fcI y f (fcX (fun x => K (8 * y + x) == k && S (8 * y + x) == 0) T x).2.2) v5 (nI (8 * y + x)) = bX3_longestFace_11 u dug prp fal a6 n (nI k) v2 (nI (fcX (fun x => K (8 * y + x) == k && S (8 * y + x) == 0) T 8).2.1) (fcI y f (fcX (fun x => K (8 * y + x) == k && S (8 * y + x) == 0) T 8).2.2) v5' (nI (8 * y + 8)) := by
  intro r
  induction r with
  | zero =>
    intro x n v5 hx _
    have : x = 8 := by omega
    subst this
    exact ⟨v5, rfl⟩
  | succ r ih =>
    intro x n v5 hx h5
    have e1 : nI (8 * y + x) + (1 : Int32) = nI (8 * y + (x + 1)) := nI_1 (8 * y + x)
    have em : (nI (8 * y + x) - nI (8 * y + x) / (8 : Int32) * (8 : Int32)) = nI x := by
      rw [show (8 : Int32) = nI 8 from rfl, z_rem (by omega) (by omega) (by omega), show (8 * y + x) % 8 = x by omega]
    obtain ⟨l1, l2⟩ := fcX_le (fun x => K (8 * y + x) == k && S (8 * y + x) == 0) T x
    have i := ih (x + 1) n (nI (fcX (fun x => K (8 * y + x) == k && S (8 * y + x) == 0) T (x + 1)).1) (by omega) (Or.inr rfl)
    refine Exists.imp (fun v5' h => Eq.trans ?_ h) i
    rw [show n + (r + 1) = (n + r) + 1 by omega, bX3_longestFace_11]
    refine (if_neg (nI_ge (a := 8 * y + x) (b := 48) (by omega) (by omega))).trans ?_
    rw [em]
    have hw : ∀ w, w = nI (fcX (fun x => K (8 * y + x) == k && S (8 * y + x) == 0) T x).1 → bX3_longestFace_32 u dug prp fal a6 (bX3_longestFace_11 u dug prp fal a6 (n + r)) (nI k) v2 (nI (fcX (fun x => K (8 * y + x) == k && S (8 * y + x) == 0) T x).2.1) (fcI y f (fcX (fun x => K (8 * y + x) == k && S (8 * y + x) == 0) T x).2.2) (nI (8 * y + x)) w = bX3_longestFace_11 u dug prp fal a6 (n + r) (nI k) v2 (nI (fcX (fun x => K (8 * y + x) == k && S (8 * y + x) == 0) T (x + 1)).2.1) (fcI y f (fcX (fun x => K (8 * y + x) == k && S (8 * y + x) == 0) T (x + 1)).2.2) (nI (fcX (fun x => K (8 * y + x) == k && S (8 * y + x) == 0) T (x + 1)).1) (nI (8 * y + (x + 1))) := by
      intro w hw
      subst hw
      obtain ⟨hk1, hk2⟩ := hK (8 * y + x) (by omega)
      unfold bX3_longestFace_32 bX3_longestFace_64 bX3_longestFace_65 bX3_longestFace_85
      rw [z_ki (by omega) (by omega), z_cl (by omega), hk2, e1]
      have hlam : (fun x => K (8 * y + x) == k && S (8 * y + x) == 0) x = (K (8 * y + x) == k && S (8 * y + x) == 0) := rfl
      have no : (fun x => K (8 * y + x) == k && S (8 * y + x) == 0) x = false → (if (0 : Int32) ≤ nI (fcX (fun x => K (8 * y + x) == k && S (8 * y + x) == 0) T x).2.1 then bX3_longestFace_11 u dug prp fal a6 (n + r) (nI k) v2 (nI (fcX (fun x => K (8 * y + x) == k && S (8 * y + x) == 0) T x).2.1) (fcI y f (fcX (fun x => K (8 * y + x) == k && S (8 * y + x) == 0) T x).2.2) (0 : Int32) (nI (8 * y + (x + 1))) else bX3_longestFace_11 u dug prp fal a6 (n + r) (nI k) v2 (0 : Int32) ((nI (8 * y + x) - (0 : Int32)) + (1 : Int32)) (0 : Int32) (nI (8 * y + (x + 1)))) = bX3_longestFace_11 u dug prp fal a6 (n + r) (nI k) v2 (nI (fcX (fun x => K (8 * y + x) == k && S (8 * y + x) == 0) T (x + 1)).2.1) (fcI y f (fcX (fun x => K (8 * y + x) == k && S (8 * y + x) == 0) T (x + 1)).2.2) (nI (fcX (fun x => K (8 * y + x) == k && S (8 * y + x) == 0) T (x + 1)).1) (nI (8 * y + (x + 1))) := fun hb => by
        rw [fcX_f hb]
        exact if_pos (nI_le (a := 0) (Nat.zero_le _) (by omega))
      by_cases q : K (8 * y + x) = k
      · refine (if_pos (by rw [q])).trans ?_
        rw [x_whole M (by omega) (hS _ (by omega)), z_b]
        by_cases s : S (8 * y + x) = 0
        · have hb : (fun x => K (8 * y + x) == k && S (8 * y + x) == 0) x = true := by rw [hlam, q, s, beq_self_eq_true]; rfl
          rw [fcX_t hb, s]
          refine (if_neg (show ¬ zB (0 == 0) = (0 : Int32) by decide)).trans ?_
          rw [show nI (fcX (fun x => K (8 * y + x) == k && S (8 * y + x) == 0) T x).1 + (1 : Int32) = nI ((fcX (fun x => K (8 * y + x) == k && S (8 * y + x) == 0) T x).1 + 1) from nI_1 _]
          generalize fcX (fun x => K (8 * y + x) == k && S (8 * y + x) == 0) T x = o at *
          by_cases lt : o.2.1 < o.1 + 1
          · rw [if_pos lt]
            refine (if_neg (nI_ge (a := o.2.1) (b := o.1 + 1) lt (by omega))).trans ?_
            have en : (nI (8 * y + x) - nI (o.1 + 1)) + (1 : Int32) = nI (8 * y + (x - o.1)) := by
              rw [zI_n, zI_n, zI_n, zI_sub, show (1 : Int32) = zI 1 from rfl, zI_add]
              exact congrArg zI (by omega)
            rw [en]
            rfl
          · rw [if_neg lt]
            exact if_pos (nI_le (by omega) (by omega))
        · have sb : (S (8 * y + x) == 0) = false := beq_eq_false_iff_ne.mpr s
          rw [sb]
          refine (if_pos (show zB false = (0 : Int32) from rfl)).trans ?_
          exact no (by rw [hlam, sb, Bool.and_false])
      · refine (if_neg (fun h => q ((nI_eq (by omega) (by omega)).mp h))).trans ?_
        exact no (by rw [hlam, show (K (8 * y + x) == k) = false from beq_eq_false_iff_ne.mpr q, Bool.false_and])
    by_cases z : x = 0
    · refine (if_pos (show nI x = (0 : Int32) by rw [z]; rfl)).trans ?_
      exact hw _ (by rw [z]; rfl)
    · refine (if_neg (show ¬ nI x = (0 : Int32) from fun h => z ((nI_eq (b := 0) (by omega) (by omega)).mp h))).trans ?_
      exact hw _ (h5.resolve_left z)
end FACE3
