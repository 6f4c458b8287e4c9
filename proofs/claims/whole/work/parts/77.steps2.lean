/-! THE REFERENCE'S STEPS -/
section MSTEPS
variable {u : Nat} {p : aP} {m : aM} {LF LH : (Nat → Int32) → Int32} {d27 : Int32} {a7 a8 a9 a10 m13 m14 m15 g : Nat → Int32}
/-- what the reference's pit arrays say -/
def mPit (p : aP) (c25 c26 c27 c28 c30 : Int32) (a7 a8 a9 a10 : Nat → Int32) : Prop := c25 = nI (pW p) ∧ c26 = nI (pH p) ∧ shA c27 (pD p) ∧ c28 = nI (pC p) ∧ c30 = nI (pO p) ∧ kbA a7 a8 (pK p) (pB p) ∧ (∀ k, k < 5 → a9 k = nI (pP p k)) ∧ ordM (pO p) (pT p) (pZ p) (pN p) a10
/-- what a step is: 0 dig at a, 1 prop at a, 2 pump, 3 shift, 4 sell b of kind a; whether it is done, and the mine behind it -/
def stepOK (p : aP) (m : aM) (q a b : Nat) : Bool := match q with
  | 0 => decide (why (pW p) (pH p) (pD p) (aS m) (aW m) a = 0) && decide (aDg m < pC p)
  | 1 => propOK p m a
  | 2 => pumpOK p m
  | 3 => decide (aSh m < 200)
  | _ => decide (b ≤ aB m a)
def stepM (LF LH : (Nat → Int32) → Int32) (p : aP) (m : aM) (q a b : Nat) : aM := match q with
  | 0 => digM LF LH p m a
  | 1 => propM m a
  | 2 => pumpM p m
  | 3 => shiftM p m
  | _ => sellM p m a b
/-- a step that can be told -/
def stepT (p : aP) (q a b : Nat) : Prop := q ≤ 4 ∧ (q ≤ 1 → a < 48 ∧ inG (pW p) (pH p) a = true) ∧ (q = 4 → 1 ≤ a ∧ a ≤ 4 ∧ b ≤ 99)
theorem why_0 {p : aP} {m : aM} (I : mOK p m) {c : Nat} (hc : c < 48) (h : why (pW p) (pH p) (pD p) (aS m) (aW m) c = 0) : aS m c = 0 ∨ aS m c = 3 := by
  have := I.1.1 c hc
  unfold why opn at h
  rcases (show aS m c = 0 ∨ aS m c = 1 ∨ aS m c = 2 ∨ aS m c = 3 by omega) with q | q | q | q
  · exact Or.inl q
  · rw [q] at h; simp at h
  · rw [q] at h; simp at h
  · exact Or.inr q
theorem step_ok (P : pOK p) (I : mOK p m) {q a b : Nat} (t : stepT p q a b) (h : stepOK p m q a b = true) : mOK p (stepM LF LH p m q a b) := by
  rcases (show q = 0 ∨ q = 1 ∨ q = 2 ∨ q = 3 ∨ q = 4 by have := t.1; omega) with rfl | rfl | rfl | rfl | rfl
  · have h2 : why (pW p) (pH p) (pD p) (aS m) (aW m) a = 0 ∧ aDg m < pC p := by simpa [stepOK] using h
    have t2 := t.2.1 (by omega)
    exact digM_ok P I t2.1 t2.2 (why_0 I t2.1 h2.1) h2.2
  · exact prop_ok P I (t.2.1 (by omega)).1 h
  · exact pump_ok P I h
  · exact shift_ok P I (by simpa [stepOK] using h)
  · exact sell_ok I
theorem mstep {c25 c26 c27 c28 c30 : Int32} (P : pOK p) (I : mOK p m) (E : mPit p c25 c26 c27 c28 c30 a7 a8 a9 a10) (L : lawM 0 m13 m14 m15 LF) (L2 : lawM 1 m13 m14 m15 LH) (hc1 : lcong LF) (hc2 : lcong LH) (hu : 160 ≤ u) {q a b : Nat} (t : stepT p q a b) (X : mMine m g) (b16 b17 b23 b24 : Nat → Int32) :
    ∃ d16 d17 d d23 d24, f_X11_goes u c25 c26 c27 c28 c30 a7 a8 a9 a10 m13 m14 m15 b16 b17 g b23 b24 (nI q) (nI a) (nI b) = some (zB (stepOK p m q a b), d16, d17, d, d23, d24) ∧ mMine (if stepOK p m q a b then stepM LF LH p m q a b else m) d := by
  obtain ⟨rfl, rfl, hD, rfl, rfl, hKB, hPr, hOr⟩ := E
  have X0 := X
  obtain ⟨A, hb, h69, h70, h71, h74, h72, h73, h75, h76, hso, hgo, hfa⟩ := X
  have hwH := I.2.2.2.2.2.1
  have hH := P.2.1.2
  have hC := P.2.2.1.2
  have hd := I.2.2.2.1
  have hpr := I.2.2.2.2.1
  have d3 : ∀ (Q : Prop) [Decidable Q] (A B : Option (Int32 × (Nat → Int32) × (Nat → Int32) × (Nat → Int32) × (Nat → Int32) × (Nat → Int32))), Q → (if Q then A else B) = A := fun Q _ A B h => if_pos h
  have d4 : ∀ (Q : Prop) [Decidable Q] (A B : Option (Int32 × (Nat → Int32) × (Nat → Int32) × (Nat → Int32) × (Nat → Int32) × (Nat → Int32))), ¬ Q → (if Q then A else B) = B := fun Q _ A B h => if_neg h
  unfold f_X11_goes bX11_goes_0
  rcases (show q = 0 ∨ q = 1 ∨ q = 2 ∨ q = 3 ∨ q = 4 by have := t.1; omega) with rfl | rfl | rfl | rfl | rfl
  · have t2 := t.2.1 (by omega)
    rw [d4 _ _ _ (show ¬ nI 0 = (3 : Int32) by decide), d3 _ _ _ (show nI 0 = (0 : Int32) from rfl), m_why P.1.2 hH A I.1 hD h74 (by omega) t2.1 t2.2, z_b]
    have hw3 : why (pW p) (pH p) (pD p) (aS m) (aW m) a ≤ 3 := by
      unfold why
      split
      · omega
      · split
        · split <;> omega
        · omega
    by_cases w : why (pW p) (pH p) (pD p) (aS m) (aW m) a = 0
    · rw [d3 _ _ _ (show nI (why (pW p) (pH p) (pD p) (aS m) (aW m) a) = (0 : Int32) by rw [w]; rfl), h70]
      by_cases z : aDg m < pC p
      · rw [d4 _ _ _ (show ¬ nI (aDg m) = nI (pC p) from fun h => by have := (nI_eq (by omega) (by omega)).mp h; omega)]
        obtain ⟨d16, d17, d, d23, e, f⟩ := mdig (u := u) P I hKB L L2 hc1 hc2 hu t2.1 t2.2 (why_0 I t2.1 w) X0 b16 b17 b23
        rw [h70] at e
        rw [e, z_b]
        have ho : stepOK p m 0 a b = true := by simp [stepOK, w, z]
        refine ⟨d16, d17, d, d23, b24, by rw [ho]; rfl, ?_⟩
        rw [ho]
        exact f
      · rw [d3 _ _ _ (show nI (aDg m) = nI (pC p) by rw [show aDg m = pC p by omega])]
        have ho : stepOK p m 0 a b = false := by simp [stepOK, z]
        refine ⟨b16, b17, g, b23, b24, by rw [ho]; rfl, ?_⟩
        rw [ho]
        exact X0
    · rw [d4 _ _ _ (show ¬ nI (why (pW p) (pH p) (pD p) (aS m) (aW m) a) = (0 : Int32) from fun h => w ((nI_eq (b := 0) (by omega) (by omega)).mp h))]
      have ho : stepOK p m 0 a b = false := by simp [stepOK, w]
      refine ⟨b16, b17, g, b23, b24, by rw [ho]; rfl, ?_⟩
      rw [ho]
      exact X0
  · have t2 := t.2.1 (by omega)
    have hSa := I.1.1 a t2.1
    have a1' := t2.1
    rw [d4 _ _ _ (show ¬ nI 1 = (3 : Int32) by decide), d4 _ _ _ (show ¬ nI 1 = (0 : Int32) by decide), d3 _ _ _ (show nI 1 = (1 : Int32) from rfl), z_ki (by omega) (by omega), z_cl (by omega), A a t2.1]
    have e8 : nI a / (8 : Int32) = nI (a / 8) := pk_div (d := 8) (by omega) (by omega) (by omega)
    have no : stepOK p m 1 a b = false → ∃ d16 d17 d d23 d24, some ((0 : Int32), b16, b17, g, b23, b24) = some (zB (stepOK p m 1 a b), d16, d17, d, d23, d24) ∧ mMine (if stepOK p m 1 a b then stepM LF LH p m 1 a b else m) d := by
      intro ho
      refine ⟨b16, b17, g, b23, b24, by rw [ho]; rfl, ?_⟩
      rw [ho]
      exact X0
    by_cases q1 : aS m a = 1
    · rw [d3 _ _ _ (show nI (aS m a) = (1 : Int32) by rw [q1]; rfl), h74, e8]
      by_cases q2 : aW m ≤ a / 8
      · rw [d3 _ _ _ (nI_le q2 (by omega))]
        exact no (by simp [stepOK, propOK, q2])
      · rw [d4 _ _ _ (nI_ge (a := a / 8) (b := aW m) (by omega) (by omega)), h71]
        by_cases q3 : aPr m = 0
        · rw [d3 _ _ _ (show nI (aPr m) = (0 : Int32) by rw [q3]; rfl)]
          exact no (by simp [stepOK, propOK, q3])
        · rw [d4 _ _ _ (show ¬ nI (aPr m) = (0 : Int32) from fun h => q3 ((nI_eq (b := 0) (by omega) (by omega)).mp h)), z_ki (by omega) (by omega)]
          have ho : stepOK p m 1 a b = true := by simp [stepOK, propOK, q1, show 0 < aPr m by omega]; omega
          have up : ∀ j, j ≠ a → j ≠ 71 → upd (upd g a (2 : Int32)) 71 ((upd g a (2 : Int32)) 71 - (1 : Int32)) j = g j := fun j h1 h2 => by
            simp only [z_upd]
            rw [if_neg h2, if_neg h1]
          refine ⟨b16, b17, _, b23, b24, by rw [ho]; rfl, ?_⟩
          rw [ho]
          show mMine (propM m a) _
          refine ⟨?_, ?_, ?_, ?_, ?_, ?_, ?_, ?_, ?_, ?_, ?_, ?_, ?_⟩
          · intro c hc
            show _ = nI (if c = a then 2 else aS m c)
            by_cases e : c = a
            · simp only [z_upd]; rw [if_neg (by omega), if_pos e, if_pos e]; rfl
            · rw [up c e (by omega), if_neg e]; exact A c hc
          · intro k hk; rw [up (48 + k) (by omega) (by omega)]; exact hb k hk
          · rw [up 69 (by omega) (by omega)]; exact h69
          · rw [up 70 (by omega) (by omega)]; exact h70
          · simp only [z_upd]
            rw [if_pos trivial, if_neg (by omega), h71]
            exact z_sub (a := aPr m) (b := 1) (by omega)
          · rw [up 74 (by omega) (by omega)]; exact h74
          · rw [up 72 (by omega) (by omega)]; exact h72
          · rw [up 73 (by omega) (by omega)]; exact h73
          · rw [up 75 (by omega) (by omega)]; exact h75
          · rw [up 76 (by omega) (by omega)]; exact h76
          · intro k hk; rw [up (53 + k) (by omega) (by omega)]; exact hso k hk
          · intro k hk; rw [up (58 + k) (by omega) (by omega)]; exact hgo k hk
          · intro k hk; rw [up (63 + k) (by omega) (by omega)]; exact hfa k hk
    · rw [d4 _ _ _ (show ¬ nI (aS m a) = (1 : Int32) from fun h => q1 ((nI_eq (b := 1) (by omega) (by omega)).mp h))]
      exact no (by simp [stepOK, propOK, q1])
  · have no : stepOK p m 2 a b = false → ∃ d16 d17 d d23 d24, some ((0 : Int32), b16, b17, g, b23, b24) = some (zB (stepOK p m 2 a b), d16, d17, d, d23, d24) ∧ mMine (if stepOK p m 2 a b then stepM LF LH p m 2 a b else m) d := by
      intro ho
      refine ⟨b16, b17, g, b23, b24, by rw [ho]; rfl, ?_⟩
      rw [ho]
      exact X0
    rw [d4 _ _ _ (show ¬ nI 2 = (3 : Int32) by decide), d4 _ _ _ (show ¬ nI 2 = (0 : Int32) by decide), d4 _ _ _ (show ¬ nI 2 = (1 : Int32) by decide), d3 _ _ _ (show nI 2 = (2 : Int32) from rfl), h74, h70]
    by_cases q1 : aW m = pH p
    · rw [d3 _ _ _ (show nI (aW m) = nI (pH p) by rw [q1])]
      exact no (by simp [stepOK, pumpOK, q1])
    · rw [d4 _ _ _ (show ¬ nI (aW m) = nI (pH p) from fun h => q1 ((nI_eq (by omega) (by omega)).mp h))]
      by_cases q2 : aDg m = pC p
      · rw [d3 _ _ _ (show nI (aDg m) = nI (pC p) by rw [q2])]
        exact no (by simp [stepOK, pumpOK, q2])
      · rw [d4 _ _ _ (show ¬ nI (aDg m) = nI (pC p) from fun h => q2 ((nI_eq (by omega) (by omega)).mp h))]
        have ho : stepOK p m 2 a b = true := by simp [stepOK, pumpOK]; omega
        have up : ∀ j, j ≠ 74 → j ≠ 70 → upd (upd g 74 (nI (pH p))) 70 ((upd g 74 (nI (pH p))) 70 + (1 : Int32)) j = g j := fun j h1 h2 => by
          simp only [z_upd]
          rw [if_neg h2, if_neg h1]
        refine ⟨b16, b17, _, b23, b24, by rw [ho]; rfl, ?_⟩
        rw [ho]
        show mMine (pumpM p m) _
        refine ⟨?_, ?_, ?_, ?_, ?_, ?_, ?_, ?_, ?_, ?_, ?_, ?_, ?_⟩
        · intro c hc; rw [up c (by omega) (by omega)]; exact A c hc
        · intro k hk; rw [up (48 + k) (by omega) (by omega)]; exact hb k hk
        · rw [up 69 (by omega) (by omega)]; exact h69
        · simp only [z_upd]
          rw [if_pos trivial, if_neg (by omega), h70]
          exact nI_1 _
        · rw [up 71 (by omega) (by omega)]; exact h71
        · simp only [z_upd]
          rw [if_neg (by omega), if_pos trivial]
          rfl
        · rw [up 72 (by omega) (by omega)]; exact h72
        · rw [up 73 (by omega) (by omega)]; exact h73
        · rw [up 75 (by omega) (by omega)]; exact h75
        · rw [up 76 (by omega) (by omega)]; exact h76
        · intro k hk; rw [up (53 + k) (by omega) (by omega)]; exact hso k hk
        · intro k hk; rw [up (58 + k) (by omega) (by omega)]; exact hgo k hk
        · intro k hk; rw [up (63 + k) (by omega) (by omega)]; exact hfa k hk
  · rw [d3 _ _ _ (show nI 3 = (3 : Int32) from rfl)]
    by_cases q1 : aSh m < 200
    · obtain ⟨d, w, e, ⟨r1, r2, r3, r4, r5⟩, r69, r70⟩ := m_next (u := u) (sh := aSh m) (wt := b24) P.2.2.2.2.1 hOr hPr (by omega) (fun k hk => Nat.le_trans (mOK_B P I hk) (by omega)) q1 h69 hb
      have ho : stepOK p m 3 a b = true := by simp [stepOK, q1]
      rw [e, z_b]
      refine ⟨b16, b17, d, b23, w, by rw [ho]; rfl, ?_⟩
      rw [ho]
      show mMine (shiftM p m) d
      refine ⟨?_, r1, r69, r70, ?_, ?_, ?_, ?_, ?_, ?_, ?_, ?_, ?_⟩
      · intro c hc; rw [r5 c (by omega)]; exact A c hc
      · rw [r5 71 (by omega)]; exact h71
      · rw [r5 74 (by omega)]; exact h74
      · rw [r4, h72]; rfl
      · rw [r5 73 (by omega)]; exact h73
      · rw [r5 75 (by omega)]; exact h75
      · rw [r5 76 (by omega)]; exact h76
      · intro k hk; rw [r5 (53 + k) (by omega)]; exact hso k hk
      · intro k hk
        rw [r2 k hk]
        show _ = esG (pT p) (pZ p) (pN p) (aSh m) (aB m) (aGo m) (pO p) k
        have cg : ∀ i, esG (pT p) (pZ p) (pN p) (aSh m) (aB m) (fun k => g (58 + k)) i k = esG (pT p) (pZ p) (pN p) (aSh m) (aB m) (aGo m) i k := by
          intro i
          induction i with
          | zero => exact hgo k hk
          | succ i ih =>
            unfold esG
            split
            · show esG _ _ _ _ _ (fun k => g (58 + k)) i k + _ = esG _ _ _ _ _ (aGo m) i k + _
              rw [ih]
            · exact ih
        exact cg _
      · intro j hj
        rw [r3 j hj]
        show _ = esF (pT p) (pZ p) (pN p) (aSh m) (aB m) (aFa m) (pO p) j
        rw [esF_at, esF_at, hfa j hj]
    · have hs := I.2.2.1.2
      have e : f_X11_next u (nI (pO p)) a9 a10 g b24 = some (nI 0, g, b24) := by
        unfold f_X11_next bX11_next_0
        rw [h69]
        exact if_pos (show nI (aSh m) = (200 : Int32) by rw [show aSh m = 200 by omega]; rfl)
      have ho : stepOK p m 3 a b = false := by simp [stepOK, q1]
      rw [e, z_b]
      refine ⟨b16, b17, g, b23, b24, by rw [ho]; rfl, ?_⟩
      rw [ho]
      exact X0
  · have t2 := t.2.2 rfl
    have hB := mOK_B P I (show a < 5 by omega)
    have e48 : (48 : Int32) + nI a = nI (48 + a) := nI_add 48 a
    have e53 : (53 : Int32) + nI a = nI (53 + a) := nI_add 53 a
    rw [d4 _ _ _ (show ¬ nI 4 = (3 : Int32) by decide), d4 _ _ _ (show ¬ nI 4 = (0 : Int32) by decide), d4 _ _ _ (show ¬ nI 4 = (1 : Int32) by decide), d4 _ _ _ (show ¬ nI 4 = (2 : Int32) by decide), e48, e53, z_ki (by omega) (by omega), z_cl (by omega), hb a (by omega)]
    by_cases q1 : b ≤ aB m a
    · rw [d3 _ _ _ (nI_le q1 (by omega)), z_ki (by omega) (by omega), z_ki (by omega) (by omega), z_ki (by omega) (by omega), z_ki (by omega) (by omega), z_ki (by omega) (by omega), z_cl (by omega), z_cl (by omega), hPr a (by omega), pk_mul]
      have ho : stepOK p m 4 a b = true := by simp [stepOK, q1]
      refine ⟨b16, b17, _, b23, b24, by rw [ho]; rfl, ?_⟩
      rw [ho]
      show mMine (sellM p m a b) _
      have up : ∀ (x y z : Int32) j, j ≠ 48 + a → j ≠ 53 + a → j ≠ 72 → upd (upd (upd g (48 + a) x) (53 + a) y) 72 z j = g j := fun x y z j h1 h2 h3 => by
        simp only [z_upd]
        rw [if_neg h3, if_neg h2, if_neg h1]
      refine ⟨?_, ?_, ?_, ?_, ?_, ?_, ?_, ?_, ?_, ?_, ?_, ?_, ?_⟩
      · intro c hc; rw [up _ _ _ c (by omega) (by omega) (by omega)]; exact A c hc
      · intro k hk
        show _ = nI (if k = a then aB m k - b else aB m k)
        by_cases e : k = a
        · subst e
          simp only [z_upd]
          rw [if_neg (by omega), if_neg (by omega), if_pos trivial, if_pos trivial, z_sub q1]
        · rw [up _ _ _ (48 + k) (by omega) (by omega) (by omega), if_neg e]; exact hb k hk
      · rw [up _ _ _ 69 (by omega) (by omega) (by omega)]; exact h69
      · rw [up _ _ _ 70 (by omega) (by omega) (by omega)]; exact h70
      · rw [up _ _ _ 71 (by omega) (by omega) (by omega)]; exact h71
      · rw [up _ _ _ 74 (by omega) (by omega) (by omega)]; exact h74
      · simp only [z_upd]
        rw [if_pos trivial, if_neg (by omega), if_neg (by omega), h72]
        rfl
      · rw [up _ _ _ 73 (by omega) (by omega) (by omega)]; exact h73
      · rw [up _ _ _ 75 (by omega) (by omega) (by omega)]; exact h75
      · rw [up _ _ _ 76 (by omega) (by omega) (by omega)]; exact h76
      · intro k hk
        show _ = if k = a then aSo m k + nI b else aSo m k
        by_cases e : k = a
        · subst e
          simp only [z_upd]
          rw [if_neg (by omega), if_pos trivial, if_neg (by omega), if_pos trivial, hso k hk]
        · rw [up _ _ _ (53 + k) (by omega) (by omega) (by omega), if_neg e]; exact hso k hk
      · intro k hk; rw [up _ _ _ (58 + k) (by omega) (by omega) (by omega)]; exact hgo k hk
      · intro k hk; rw [up _ _ _ (63 + k) (by omega) (by omega) (by omega)]; exact hfa k hk
    · rw [d4 _ _ _ (nI_ge (a := aB m a) (b := b) (by omega) (by omega))]
      have ho : stepOK p m 4 a b = false := by simp [stepOK]; omega
      refine ⟨b16, b17, g, b23, b24, by rw [ho]; rfl, ?_⟩
      rw [ho]
      exact X0
end MSTEPS
