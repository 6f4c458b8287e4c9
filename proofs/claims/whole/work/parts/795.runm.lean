/-! PROGRAMS: the reference runs them -/
abbrev tM : Type := Int32 × Int32 × Int32 × (Nat → Int32) × (Nat → Int32) × (Nat → Int32) × (Nat → Int32) × (Nat → Int32)
def mRun (p : aP) (s : rS) (o : tM) : Prop := mOK p s.1 ∧ s.2.1 ≤ 200 ∧ o.1 = nI s.2.1 ∧ o.2.1 = nI s.2.2.1 ∧ o.2.2.1 = nI s.2.2.2 ∧ mMine s.1 o.2.2.2.2.2.1
/-- the reference's rows of steps -/
def stR (Q A I : Nat → Nat) (n : Nat) (st : Nat → Int32) : Prop := ∀ j, j < n → st (3 * j) = nI (Q j) ∧ st (3 * j + 1) = nI (A j) ∧ st (3 * j + 2) = nI (if Q j = 5 then 3 * (j + 1 + I j) else I j)
theorem exB_200 {LF LH : (Nat → Int32) → Int32} {p : aP} {Q A I : Nat → Nat} : ∀ (f lo hi : Nat) (s : rS), 200 ≤ s.2.1 → exB LF LH p Q A I f lo hi s = s
  | 0, _, _, _, _ => rfl
  | f + 1, lo, hi, s, h => by
    show (if hi ≤ lo ∨ 200 ≤ s.2.1 then s else _) = s
    rw [if_pos (Or.inr h)]
theorem itR_id {g : rS → rS} {s : rS} (h : g s = s) : ∀ r, itR g r s = s
  | 0 => rfl
  | r + 1 => by
    show itR g r (g s) = s
    rw [h]
    exact itR_id h r
section MRUN
variable {u : Nat} {p : aP} {LF LH : (Nat → Int32) → Int32} {c25 c26 c27 c28 c30 : Int32} {a7 a8 a9 a10 m13 m14 m15 st : Nat → Int32} {Q A I : Nat → Nat}
theorem mrun (P : pOK p) (E : mPit p c25 c26 c27 c28 c30 a7 a8 a9 a10) (L : lawM 0 m13 m14 m15 LF) (L2 : lawM 1 m13 m14 m15 LH) (hc1 : lcong LF) (hc2 : lcong LH) (hu : 160 ≤ u) (h1 : stR Q A I 30 st) :
    ∀ f d lo hi, wfB p Q A I f d lo hi → hi ≤ 30 → d ≤ 6 → ∀ D, 6 ≤ d + D → ∀ n (s : rS) (i : tM), hi - lo < n → mRun p s i → ∃ o : tM, bX11_goesSteps_2 u (f_X11_goesSteps_r u D) c25 c26 c27 c28 c30 a7 a8 a9 a10 m13 m14 m15 st n i.1 i.2.1 i.2.2.1 i.2.2.2.1 i.2.2.2.2.1 i.2.2.2.2.2.1 i.2.2.2.2.2.2.1 i.2.2.2.2.2.2.2 (nI (3 * hi)) (nI (3 * lo)) = some o ∧ mRun p (exB LF LH p Q A I f lo hi s) o := by
  intro f
  induction f with
  | zero =>
    intro d lo hi w hh hd D hD n s i hn X
    obtain ⟨n, rfl⟩ := z_suc hn
    have w' : lo = hi := w
    subst w'
    refine ⟨i, ?_, X⟩
    rw [bX11_goesSteps_2]
    exact if_pos (nI_le (Nat.le_refl _) (by omega))
  | succ f ih =>
    intro d lo hi w hh hd D hD n s i hn X
    obtain ⟨n, rfl⟩ := z_suc hn
    obtain ⟨X1, X2, X3, X4, X5, X6⟩ := X
    have ex : exB LF LH p Q A I (f + 1) lo hi s = if hi ≤ lo ∨ 200 ≤ s.2.1 then s else if Q lo = 5 then exB LF LH p Q A I f (lo + 1 + I lo) hi (itR (exB LF LH p Q A I f (lo + 1) (lo + 1 + I lo)) (A lo) (s.1, s.2.1 + 1, s.2.2)) else exB LF LH p Q A I f (lo + 1) hi (exS LF LH p (Q lo) (A lo) (I lo) s) := rfl
    rw [ex, bX11_goesSteps_2]
    by_cases c1 : hi ≤ lo
    · rw [if_pos (Or.inl c1)]
      exact ⟨i, if_pos (nI_le (a := 3 * hi) (b := 3 * lo) (by omega) (by rcases w with w | w <;> omega)), X1, X2, X3, X4, X5, X6⟩
    · have wl : lo < hi := by omega
      have w2 := w.resolve_left (by omega)
      by_cases c2 : 200 ≤ s.2.1
      · rw [if_pos (Or.inr c2)]
        refine ⟨i, ?_, X1, X2, X3, X4, X5, X6⟩
        refine (if_neg (nI_ge (a := 3 * lo) (b := 3 * hi) (by omega) (by omega))).trans ?_
        exact if_pos (show (200 : Int32) ≤ i.1 by rw [X3]; exact nI_le (a := 200) c2 (by omega))
      · rw [if_neg (show ¬ (hi ≤ lo ∨ 200 ≤ s.2.1) by omega)]
        have eb : nI s.2.1 + (1 : Int32) = nI (s.2.1 + 1) := nI_1 _
        have e1 : nI (3 * lo) + (1 : Int32) = nI (3 * lo + 1) := nI_1 _
        have e2 : nI (3 * lo) + (2 : Int32) = nI (3 * lo + 2) := nI_add _ 2
        have e3 : nI (3 * lo) + (3 : Int32) = nI (3 * (lo + 1)) := by rw [show 3 * (lo + 1) = 3 * lo + 3 by omega]; exact nI_add _ 3
        have pre : ∀ Y : Option tM, (∃ o : tM, Y = some o ∧ mRun p (if Q lo = 5 then exB LF LH p Q A I f (lo + 1 + I lo) hi (itR (exB LF LH p Q A I f (lo + 1) (lo + 1 + I lo)) (A lo) (s.1, s.2.1 + 1, s.2.2)) else exB LF LH p Q A I f (lo + 1) hi (exS LF LH p (Q lo) (A lo) (I lo) s)) o) → ∃ o : tM, (if nI (3 * hi) ≤ nI (3 * lo) then some ((i.1, i.2.1, i.2.2.1, i.2.2.2.1, i.2.2.2.2.1, i.2.2.2.2.2.1, i.2.2.2.2.2.2.1, i.2.2.2.2.2.2.2) : tM) else if (200 : Int32) ≤ i.1 then some ((i.1, i.2.1, i.2.2.1, i.2.2.2.1, i.2.2.2.2.1, i.2.2.2.2.2.1, i.2.2.2.2.2.2.1, i.2.2.2.2.2.2.2) : tM) else Y) = some o ∧ mRun p (if Q lo = 5 then exB LF LH p Q A I f (lo + 1 + I lo) hi (itR (exB LF LH p Q A I f (lo + 1) (lo + 1 + I lo)) (A lo) (s.1, s.2.1 + 1, s.2.2)) else exB LF LH p Q A I f (lo + 1) hi (exS LF LH p (Q lo) (A lo) (I lo) s)) o := by
          rintro Y ⟨o, hY, ho⟩
          refine ⟨o, ?_, ho⟩
          refine (if_neg (nI_ge (a := 3 * lo) (b := 3 * hi) (by omega) (by omega))).trans ?_
          refine (if_neg (show ¬ (200 : Int32) ≤ i.1 by rw [X3]; exact nI_ge (a := s.2.1) (b := 200) (by omega) (by omega))).trans ?_
          exact hY
        apply pre
        obtain ⟨hq, ha, hb⟩ := h1 lo (by omega)
        rw [e1, e2, z_ki (by omega) (by omega), z_cl (by omega), hq]
        rcases w2.2 with ⟨q5, w3, w4, w5, w6, w7⟩ | ⟨t, w6⟩
        · rw [if_pos q5]
          rw [if_pos q5] at hb
          have hQ5 : nI (Q lo) = (5 : Int32) := by rw [q5]; rfl
          obtain ⟨D, rfl⟩ : ∃ D', D = D' + 1 := ⟨D - 1, by omega⟩
          have inner : ∀ r j, j + r = A lo → ∀ k (s : rS) (i : tM), r < k → mRun p s i → ∃ o : tM, bX11_goesSteps_50 u (f_X11_goesSteps_r u (D + 1)) c25 c26 c27 c28 c30 a7 a8 a9 a10 m13 m14 m15 st (bX11_goesSteps_2 u (f_X11_goesSteps_r u (D + 1)) c25 c26 c27 c28 c30 a7 a8 a9 a10 m13 m14 m15 st n) k i.1 i.2.1 i.2.2.1 i.2.2.2.1 i.2.2.2.2.1 i.2.2.2.2.2.1 i.2.2.2.2.2.2.1 i.2.2.2.2.2.2.2 (nI (3 * hi)) (nI (3 * lo)) (nI (3 * (lo + 1 + I lo))) (nI j) = bX11_goesSteps_2 u (f_X11_goesSteps_r u (D + 1)) c25 c26 c27 c28 c30 a7 a8 a9 a10 m13 m14 m15 st n o.1 o.2.1 o.2.2.1 o.2.2.2.1 o.2.2.2.2.1 o.2.2.2.2.2.1 o.2.2.2.2.2.2.1 o.2.2.2.2.2.2.2 (nI (3 * hi)) (nI (3 * (lo + 1 + I lo))) ∧ mRun p (itR (exB LF LH p Q A I f (lo + 1) (lo + 1 + I lo)) r s) o := by
            intro r
            induction r with
            | zero =>
              intro j hj k s i hk X
              obtain ⟨k, rfl⟩ := z_suc hk
              refine ⟨i, ?_, X⟩
              rw [bX11_goesSteps_50, e1, z_ki (by omega) (by omega), z_cl (by omega), ha]
              refine (if_pos (nI_le (a := A lo) (b := j) (by omega) (by omega))).trans ?_
              unfold bX11_goesSteps_88
              rfl
            | succ r ih2 =>
              intro j hj k s i hk X
              obtain ⟨k, rfl⟩ := z_suc hk
              rw [bX11_goesSteps_50, e1, z_ki (by omega) (by omega), z_cl (by omega), ha]
              by_cases c3 : 200 ≤ s.2.1
              · refine ⟨i, ?_, ?_⟩
                · refine (if_neg (nI_ge (a := j) (b := A lo) (by omega) (by omega))).trans ?_
                  refine (if_pos (show (200 : Int32) ≤ i.1 by rw [X.2.2.1]; exact nI_le (a := 200) c3 (by have := X.2.1; omega))).trans ?_
                  unfold bX11_goesSteps_88
                  rfl
                · rw [itR_id (exB_200 f (lo + 1) (lo + 1 + I lo) s c3)]
                  exact X
              · obtain ⟨o, e, f2⟩ := ih (d + 1) (lo + 1) (lo + 1 + I lo) w6 (by omega) (by omega) D (by omega) u s i (by omega) X
                obtain ⟨o2, e4, f3⟩ := ih2 (j + 1) (by omega) k _ o (by omega) f2
                refine ⟨o2, ?_, f3⟩
                refine (if_neg (nI_ge (a := j) (b := A lo) (by omega) (by omega))).trans ?_
                have c4 : ¬ (200 : Int32) ≤ i.1 := by rw [X.2.2.1]; exact nI_ge (a := s.2.1) (b := 200) (by omega) (by omega)
                refine (if_neg c4).trans ?_
                rw [e3]
                have e5 : f_X11_goesSteps_r u (D + 1) c25 c26 c27 c28 c30 i.1 i.2.1 i.2.2.1 a7 a8 a9 a10 m13 m14 m15 i.2.2.2.1 i.2.2.2.2.1 st i.2.2.2.2.2.1 i.2.2.2.2.2.2.1 i.2.2.2.2.2.2.2 (nI (3 * (lo + 1))) (nI (3 * (lo + 1 + I lo))) = some o := e
                rw [e5, z_b]
                have ej : nI j + (1 : Int32) = nI (j + 1) := nI_1 _
                rw [ej]
                exact e4
          obtain ⟨o, e, f2⟩ := inner (A lo) 0 (by omega) u (s.1, s.2.1 + 1, s.2.2) (i.1 + (1 : Int32), i.2) (by omega) ⟨X1, by show s.2.1 + 1 ≤ 200; omega, by show i.1 + (1 : Int32) = nI (s.2.1 + 1); rw [X3]; exact eb, X4, X5, X6⟩
          obtain ⟨o2, e4, f3⟩ := ih d (lo + 1 + I lo) hi w7 hh hd (D + 1) hD n _ o (by omega) f2
          refine ⟨o2, ?_, f3⟩
          refine (if_pos hQ5).trans ?_
          rw [z_ki (by omega) (by omega), z_cl (by omega), hb]
          exact e.trans e4
        · have hq4 := t.1
          rw [if_neg (show ¬ Q lo = 5 by omega)]
          rw [if_neg (show ¬ Q lo = 5 by omega)] at hb
          have hQ5 : ¬ nI (Q lo) = (5 : Int32) := fun h => by have := (nI_eq (b := 5) (by omega) (by omega)).mp h; omega
          obtain ⟨d16, d17, dd, d23, d24, e, f2⟩ := mstep (u := u) P X1 E L L2 hc1 hc2 hu t X6 i.2.2.2.1 i.2.2.2.2.1 i.2.2.2.2.2.2.1 i.2.2.2.2.2.2.2
          have fin : mRun p (exS LF LH p (Q lo) (A lo) (I lo) s) (i.1 + (1 : Int32), (if stepOK p s.1 (Q lo) (A lo) (I lo) then i.2.1 + (1 : Int32) else i.2.1), (if stepOK p s.1 (Q lo) (A lo) (I lo) then i.2.2.1 else i.2.2.1 + (1 : Int32)), d16, d17, dd, d23, d24) := by
            have hm := exS_ok (LF := LF) (LH := LH) P t X1
            rw [X3, X4, X5]
            unfold exS at hm ⊢
            cases hs : stepOK p s.1 (Q lo) (A lo) (I lo) with
            | true =>
              rw [hs] at hm f2
              exact ⟨hm, by show s.2.1 + 1 ≤ 200; omega, nI_1 _, nI_1 _, rfl, f2⟩
            | false =>
              rw [hs] at hm f2
              exact ⟨hm, by show s.2.1 + 1 ≤ 200; omega, nI_1 _, rfl, nI_1 _, f2⟩
          obtain ⟨o2, e4, f3⟩ := ih d (lo + 1) hi w6 hh hd D hD n _ _ (by omega) fin
          refine ⟨o2, ?_, f3⟩
          refine (if_neg hQ5).trans ?_
          rw [z_ki (by omega) (by omega), z_ki (by omega) (by omega), z_ki (by omega) (by omega), z_cl (by omega), z_cl (by omega), ha, hb, e, z_b]
          unfold bX11_goesSteps_146
          rw [e3]
          cases hs : stepOK p s.1 (Q lo) (A lo) (I lo) with
          | true =>
            rw [hs] at e4
            refine (if_neg (show ¬ zB true = (0 : Int32) by decide)).trans ?_
            exact e4
          | false =>
            rw [hs] at e4
            refine (if_pos rfl).trans ?_
            exact e4
end MRUN
