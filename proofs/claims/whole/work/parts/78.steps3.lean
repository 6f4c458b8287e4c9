/-! THE CLASS'S STEP -/
section XSTEPS
variable {u : Nat} {p : aP} {m : aM} {LF LH : (Nat → Int32) → Int32}
/-- what the class's pit says -/
def xPit (p : aP) (wid hei : Int32) (all shf : Int64) (crew ords : Int32) (a6 a7 a8 a9 a10 a11 : Nat → Int32) : Prop := wid = nI (pW p) ∧ hei = nI (pH p) ∧ lS all (inG (pW p) (pH p)) ∧ lS shf (fun c => decide (c < 8) && pD p c) ∧ crew = nI (pC p) ∧ ords = nI (pO p) ∧ kbA a6 a7 (pK p) (pB p) ∧ (∀ k, k < 5 → a8 k = nI (pP p k)) ∧ ordX (pO p) (pT p) (pZ p) (pN p) a9 a10 a11
variable {shift digs props pence lungs wetr raised fell : Int32} {dug prp fal : Int64} {belt sold gone fates : Nat → Int32}
variable {wid c51 c58 c510 : Int32} {c55 c56 : Int64} {a6 a7 a8 a9 a10 a11 c13 c16 : Nat → Int32} {l12 l15 : Int32}
theorem xstep (P : pOK p) (I : mOK p m) (E : xPit p wid c51 c55 c56 c58 c510 a6 a7 a8 a9 a10 a11) (L : lawX l12 c13 LF) (L2 : lawX l15 c16 LH) (hu : 160 ≤ u) {q a b : Nat} (t : stepT p q a b) (X : xMine m shift digs props pence lungs wetr raised fell dug prp fal belt sold gone fates) (a14 a17 : Nat → Int32) :
    ∃ o, f_X6_isDone u shift digs props pence lungs wetr raised fell dug prp fal belt sold gone fates c51 c58 c510 c55 c56 a6 a7 a8 a9 a10 a11 l12 c13 a14 l15 c16 a17 (nI q) (nI a) (nI b) = some (zB (stepOK p m q a b), o) ∧
      xMine (if stepOK p m q a b then stepM LF LH p m q a b else m) o.1 o.2.1 o.2.2.1 o.2.2.2.1 o.2.2.2.2.1 o.2.2.2.2.2.1 o.2.2.2.2.2.2.1 o.2.2.2.2.2.2.2.1 o.2.2.2.2.2.2.2.2.1 o.2.2.2.2.2.2.2.2.2.1 o.2.2.2.2.2.2.2.2.2.2.1 o.2.2.2.2.2.2.2.2.2.2.2.1 o.2.2.2.2.2.2.2.2.2.2.2.2.1 o.2.2.2.2.2.2.2.2.2.2.2.2.2.1 o.2.2.2.2.2.2.2.2.2.2.2.2.2.2.1 := by
  obtain ⟨-, rfl, hall, hshf, rfl, rfl, hKB, hPr, hOr⟩ := E
  have X0 := X
  obtain ⟨M, hb, es, ed, ep, ew, -⟩ := X
  have hwH := I.2.2.2.2.2.1
  have hH := P.2.1.2
  have hC := P.2.2.1.2
  have hd := I.2.2.2.1
  have d3 : ∀ (Q : Prop) [Decidable Q] (A B : Option (Int32 × Int32 × Int32 × Int32 × Int32 × Int32 × Int32 × Int32 × Int32 × Int64 × Int64 × Int64 × (Nat → Int32) × (Nat → Int32) × (Nat → Int32) × (Nat → Int32) × (Nat → Int32) × (Nat → Int32))), Q → (if Q then A else B) = A := fun Q _ A B h => if_pos h
  have d4 : ∀ (Q : Prop) [Decidable Q] (A B : Option (Int32 × Int32 × Int32 × Int32 × Int32 × Int32 × Int32 × Int32 × Int32 × Int64 × Int64 × Int64 × (Nat → Int32) × (Nat → Int32) × (Nat → Int32) × (Nat → Int32) × (Nat → Int32) × (Nat → Int32))), ¬ Q → (if Q then A else B) = B := fun Q _ A B h => if_neg h
  unfold f_X6_isDone bX6_isDone_0
  rcases (show q = 0 ∨ q = 1 ∨ q = 2 ∨ q = 3 ∨ q = 4 by have := t.1; omega) with rfl | rfl | rfl | rfl | rfl
  · have t2 := t.2.1 (by omega)
    have eo := x_obst (u := u) (dg := aDg m) (cr := pC p) (w := aW m) M.1 M.2.1 hall hshf (by omega) t2.1 (by omega) (by omega)
    rw [d3 _ _ _ (show nI 0 = (0 : Int32) from rfl), ed, ew, eo, z_b]
    rw [← ed, ← ew]
    have hw3 : why (pW p) (pH p) (pD p) (aS m) (aW m) a ≤ 3 := by
      unfold why
      split
      · omega
      · split
        · split <;> omega
        · omega
    by_cases w : why (pW p) (pH p) (pD p) (aS m) (aW m) a = 0
    · by_cases z : aDg m < pC p
      · rw [d3 _ _ _ (show nI (if why (pW p) (pH p) (pD p) (aS m) (aW m) a = 0 then (if pC p ≤ aDg m then 4 else 0) else why (pW p) (pH p) (pD p) (aS m) (aW m) a) = (0 : Int32) by rw [if_pos w, if_neg (by omega)]; rfl)]
        obtain ⟨o, e, f⟩ := xdig (u := u) P I hKB L L2 hu t2.1 (why_0 I t2.1 w) X0 a14 a17
        rw [e, z_b]
        have ho : stepOK p m 0 a b = true := by simp [stepOK, w, z]
        refine ⟨_, by rw [ho]; rfl, ?_⟩
        rw [ho]
        exact f
      · rw [d4 _ _ _ (show ¬ nI (if why (pW p) (pH p) (pD p) (aS m) (aW m) a = 0 then (if pC p ≤ aDg m then 4 else 0) else why (pW p) (pH p) (pD p) (aS m) (aW m) a) = (0 : Int32) by rw [if_pos w, if_pos (by omega)]; decide)]
        have ho : stepOK p m 0 a b = false := by simp [stepOK, z]
        refine ⟨_, by rw [ho]; rfl, ?_⟩
        rw [ho]
        exact X0
    · rw [d4 _ _ _ (show ¬ nI (if why (pW p) (pH p) (pD p) (aS m) (aW m) a = 0 then (if pC p ≤ aDg m then 4 else 0) else why (pW p) (pH p) (pD p) (aS m) (aW m) a) = (0 : Int32) by
        rw [if_neg w]
        intro h
        exact w ((nI_eq (b := 0) (by omega) (by omega)).mp h))]
      have ho : stepOK p m 0 a b = false := by simp [stepOK, w]
      refine ⟨_, by rw [ho]; rfl, ?_⟩
      rw [ho]
      exact X0
  · have t2 := t.2.1 (by omega)
    rw [d4 _ _ _ (show ¬ nI 1 = (0 : Int32) by decide), d3 _ _ _ (show nI 1 = (1 : Int32) from rfl)]
    rcases xprop (u := u) P I hall t2.1 X0 with ⟨ho, o, e, f⟩ | ⟨ho, e⟩
    · have ho2 : stepOK p m 1 a b = true := ho
      rw [e, z_b]
      refine ⟨_, by rw [ho2]; rfl, ?_⟩
      rw [ho2]
      exact f
    · have ho2 : stepOK p m 1 a b = false := ho
      rw [e, z_b]
      refine ⟨_, by rw [ho2]; rfl, ?_⟩
      rw [ho2]
      exact X0
  · rw [d4 _ _ _ (show ¬ nI 2 = (0 : Int32) by decide), d4 _ _ _ (show ¬ nI 2 = (1 : Int32) by decide), d3 _ _ _ (show nI 2 = (2 : Int32) from rfl)]
    rcases xpump (u := u) P I X0 with ⟨ho, o, e, f⟩ | ⟨ho, e⟩
    · have ho2 : stepOK p m 2 a b = true := ho
      rw [e, z_b]
      refine ⟨_, by rw [ho2]; rfl, ?_⟩
      rw [ho2]
      exact f
    · have ho2 : stepOK p m 2 a b = false := ho
      rw [e, z_b]
      refine ⟨_, by rw [ho2]; rfl, ?_⟩
      rw [ho2]
      exact X0
  · rw [d4 _ _ _ (show ¬ nI 3 = (0 : Int32) by decide), d4 _ _ _ (show ¬ nI 3 = (1 : Int32) by decide), d4 _ _ _ (show ¬ nI 3 = (2 : Int32) by decide), d3 _ _ _ (show nI 3 = (3 : Int32) from rfl)]
    rcases xshift (u := u) P I hOr hPr (by omega) X0 with ⟨ho, o, e, f⟩ | ⟨ho, e⟩
    · have ho2 : stepOK p m 3 a b = true := by simp [stepOK, ho]
      rw [e, z_b]
      refine ⟨_, by rw [ho2]; rfl, ?_⟩
      rw [ho2]
      exact f
    · have ho2 : stepOK p m 3 a b = false := by simp [stepOK]; omega
      rw [e, z_b]
      refine ⟨_, by rw [ho2]; rfl, ?_⟩
      rw [ho2]
      exact X0
  · have t2 := t.2.2 rfl
    rw [d4 _ _ _ (show ¬ nI 4 = (0 : Int32) by decide), d4 _ _ _ (show ¬ nI 4 = (1 : Int32) by decide), d4 _ _ _ (show ¬ nI 4 = (2 : Int32) by decide), d4 _ _ _ (show ¬ nI 4 = (3 : Int32) by decide)]
    rcases xsell (u := u) P I hPr ⟨t2.1, t2.2.1⟩ t2.2.2 X0 with ⟨ho, o, e, f⟩ | ⟨ho, e⟩
    · have ho2 : stepOK p m 4 a b = true := by simp [stepOK, ho]
      rw [e, z_b]
      refine ⟨_, by rw [ho2]; rfl, ?_⟩
      rw [ho2]
      exact f
    · have ho2 : stepOK p m 4 a b = false := by simp [stepOK]; omega
      rw [e, z_b]
      refine ⟨_, by rw [ho2]; rfl, ?_⟩
      rw [ho2]
      exact X0
end XSTEPS
