/-! PROGRAMS: the class runs them -/
abbrev tR : Type := Int32 × Int32 × Int32 × Int32 × Int32 × Int32 × Int32 × Int32 × Int32 × Int32 × Int32 × Int64 × Int64 × Int64 × (Nat → Int32) × (Nat → Int32) × (Nat → Int32) × (Nat → Int32) × (Nat → Int32) × (Nat → Int32)
/-- mine, begun, done, refused -/
abbrev rS : Type := aM × Nat × Nat × Nat
def xRun (p : aP) (s : rS) (o : tR) : Prop := mOK p s.1 ∧ s.2.1 ≤ 200 ∧ o.1 = nI s.2.1 ∧ o.2.1 = nI s.2.2.1 ∧ o.2.2.1 = nI s.2.2.2 ∧ xMine s.1 o.2.2.2.1 o.2.2.2.2.1 o.2.2.2.2.2.1 o.2.2.2.2.2.2.1 o.2.2.2.2.2.2.2.1 o.2.2.2.2.2.2.2.2.1 o.2.2.2.2.2.2.2.2.2.1 o.2.2.2.2.2.2.2.2.2.2.1 o.2.2.2.2.2.2.2.2.2.2.2.1 o.2.2.2.2.2.2.2.2.2.2.2.2.1 o.2.2.2.2.2.2.2.2.2.2.2.2.2.1 o.2.2.2.2.2.2.2.2.2.2.2.2.2.2.1 o.2.2.2.2.2.2.2.2.2.2.2.2.2.2.2.1 o.2.2.2.2.2.2.2.2.2.2.2.2.2.2.2.2.1 o.2.2.2.2.2.2.2.2.2.2.2.2.2.2.2.2.2.1
/-- so many times -/
def itR (g : rS → rS) : Nat → rS → rS
  | 0, s => s
  | n + 1, s => itR g n (g s)
/-- a program: Q what, A the first number, I the second one (of an again: how many steps it holds) -/
def wfB (p : aP) (Q A I : Nat → Nat) : Nat → Nat → Nat → Nat → Prop
  | 0, _, lo, hi => lo = hi
  | f + 1, d, lo, hi => lo = hi ∨ (lo < hi ∧ ((Q lo = 5 ∧ d < 6 ∧ A lo ≤ 20 ∧ lo + 1 + I lo ≤ hi ∧ wfB p Q A I f (d + 1) (lo + 1) (lo + 1 + I lo) ∧ wfB p Q A I f d (lo + 1 + I lo) hi) ∨ (stepT p (Q lo) (A lo) (I lo) ∧ wfB p Q A I f d (lo + 1) hi)))
/-- one step that is no again -/
def exS (LF LH : (Nat → Int32) → Int32) (p : aP) (q a b : Nat) (s : rS) : rS :=
  if stepOK p s.1 q a b then (stepM LF LH p s.1 q a b, s.2.1 + 1, s.2.2.1 + 1, s.2.2.2) else (s.1, s.2.1 + 1, s.2.2.1, s.2.2.2 + 1)
def exB (LF LH : (Nat → Int32) → Int32) (p : aP) (Q A I : Nat → Nat) : Nat → Nat → Nat → rS → rS
  | 0, _, _, s => s
  | f + 1, lo, hi, s => if hi ≤ lo ∨ 200 ≤ s.2.1 then s else if Q lo = 5 then exB LF LH p Q A I f (lo + 1 + I lo) hi (itR (exB LF LH p Q A I f (lo + 1) (lo + 1 + I lo)) (A lo) (s.1, s.2.1 + 1, s.2.2)) else exB LF LH p Q A I f (lo + 1) hi (exS LF LH p (Q lo) (A lo) (I lo) s)
section XRUN
variable {u : Nat} {p : aP} {LF LH : (Nat → Int32) → Int32} {wid c51 c58 c510 : Int32} {c55 c56 : Int64} {a6 a7 a8 a9 a10 a11 c13 c16 : Nat → Int32} {l12 l15 : Int32} {Q A I : Nat → Nat} {x1 x2 x3 : Nat → Int32}
theorem exS_ok (P : pOK p) {q a b : Nat} (t : stepT p q a b) {s : rS} (I0 : mOK p s.1) : mOK p (exS LF LH p q a b s).1 := by
  unfold exS
  cases h : stepOK p s.1 q a b with
  | true => exact step_ok P I0 t h
  | false => exact I0
theorem xrun (P : pOK p) (E : xPit p wid c51 c55 c56 c58 c510 a6 a7 a8 a9 a10 a11) (L : lawX l12 c13 LF) (L2 : lawX l15 c16 LH) (hu : 160 ≤ u) (h1 : ∀ j, j < 30 → x1 j = nI (Q j)) (h2 : ∀ j, j < 30 → x2 j = nI (A j)) (h3 : ∀ j, j < 30 → x3 j = nI (I j)) :
    ∀ f d lo hi, wfB p Q A I f d lo hi → hi ≤ 30 → d ≤ 6 → ∀ D, 6 ≤ d + D → ∀ n (s : rS) (i : tR), hi - lo < n → xRun p s i → ∃ o : tR, bX6_run_3 u (f_X6_run_r u D) x1 x2 x3 c51 c58 c510 c55 c56 a6 a7 a8 a9 a10 a11 l12 c13 l15 c16 n i.1 i.2.1 i.2.2.1 i.2.2.2.1 i.2.2.2.2.1 i.2.2.2.2.2.1 i.2.2.2.2.2.2.1 i.2.2.2.2.2.2.2.1 i.2.2.2.2.2.2.2.2.1 i.2.2.2.2.2.2.2.2.2.1 i.2.2.2.2.2.2.2.2.2.2.1 i.2.2.2.2.2.2.2.2.2.2.2.1 i.2.2.2.2.2.2.2.2.2.2.2.2.1 i.2.2.2.2.2.2.2.2.2.2.2.2.2.1 i.2.2.2.2.2.2.2.2.2.2.2.2.2.2.1 i.2.2.2.2.2.2.2.2.2.2.2.2.2.2.2.1 i.2.2.2.2.2.2.2.2.2.2.2.2.2.2.2.2.1 i.2.2.2.2.2.2.2.2.2.2.2.2.2.2.2.2.2.1 i.2.2.2.2.2.2.2.2.2.2.2.2.2.2.2.2.2.2.1 i.2.2.2.2.2.2.2.2.2.2.2.2.2.2.2.2.2.2.2 (nI hi) (nI d) (nI lo) = some o ∧ xRun p (exB LF LH p Q A I f lo hi s) o := by
  intro f
  induction f with
  | zero =>
    intro d lo hi w hh hd D hD n s i hn X
    obtain ⟨n, rfl⟩ := z_suc hn
    have w' : lo = hi := w
    subst w'
    refine ⟨i, ?_, X⟩
    rw [bX6_run_3]
    exact if_pos (nI_le (Nat.le_refl _) (by omega))
  | succ f ih =>
    intro d lo hi w hh hd D hD n s i hn X
    obtain ⟨n, rfl⟩ := z_suc hn
    obtain ⟨X1, X2, X3, X4, X5, X6⟩ := X
    have ex : exB LF LH p Q A I (f + 1) lo hi s = if hi ≤ lo ∨ 200 ≤ s.2.1 then s else if Q lo = 5 then exB LF LH p Q A I f (lo + 1 + I lo) hi (itR (exB LF LH p Q A I f (lo + 1) (lo + 1 + I lo)) (A lo) (s.1, s.2.1 + 1, s.2.2)) else exB LF LH p Q A I f (lo + 1) hi (exS LF LH p (Q lo) (A lo) (I lo) s) := rfl
    rw [ex, bX6_run_3]
    by_cases c1 : hi ≤ lo
    · rw [if_pos (Or.inl c1)]
      exact ⟨i, if_pos (nI_le c1 (by rcases w with w | w <;> omega)), X1, X2, X3, X4, X5, X6⟩
    · have wl : lo < hi := by omega
      have w2 := w.resolve_left (by omega)
      by_cases c2 : 200 ≤ s.2.1
      · rw [if_pos (Or.inr c2)]
        refine ⟨i, ?_, X1, X2, X3, X4, X5, X6⟩
        refine (if_neg (nI_ge (a := lo) (b := hi) (by omega) (by omega))).trans ?_
        refine (if_neg (nI_ge (a := lo) (b := 30) (by omega) (by omega))).trans ?_
        exact if_pos (show (200 : Int32) ≤ i.1 by rw [X3]; exact nI_le (a := 200) c2 (by omega))
      · rw [if_neg (show ¬ (hi ≤ lo ∨ 200 ≤ s.2.1) by omega)]
        have eb : nI s.2.1 + (1 : Int32) = nI (s.2.1 + 1) := nI_1 _
        have el : nI lo + (1 : Int32) = nI (lo + 1) := nI_1 _
        have ed : nI d + (1 : Int32) = nI (d + 1) := nI_1 _
        have pre : ∀ Y : Option tR, (∃ o : tR, Y = some o ∧ xRun p (if Q lo = 5 then exB LF LH p Q A I f (lo + 1 + I lo) hi (itR (exB LF LH p Q A I f (lo + 1) (lo + 1 + I lo)) (A lo) (s.1, s.2.1 + 1, s.2.2)) else exB LF LH p Q A I f (lo + 1) hi (exS LF LH p (Q lo) (A lo) (I lo) s)) o) → ∃ o : tR, (if nI hi ≤ nI lo then some ((i.1, i.2.1, i.2.2.1, i.2.2.2.1, i.2.2.2.2.1, i.2.2.2.2.2.1, i.2.2.2.2.2.2.1, i.2.2.2.2.2.2.2.1, i.2.2.2.2.2.2.2.2.1, i.2.2.2.2.2.2.2.2.2.1, i.2.2.2.2.2.2.2.2.2.2.1, i.2.2.2.2.2.2.2.2.2.2.2.1, i.2.2.2.2.2.2.2.2.2.2.2.2.1, i.2.2.2.2.2.2.2.2.2.2.2.2.2.1, i.2.2.2.2.2.2.2.2.2.2.2.2.2.2.1, i.2.2.2.2.2.2.2.2.2.2.2.2.2.2.2.1, i.2.2.2.2.2.2.2.2.2.2.2.2.2.2.2.2.1, i.2.2.2.2.2.2.2.2.2.2.2.2.2.2.2.2.2.1, i.2.2.2.2.2.2.2.2.2.2.2.2.2.2.2.2.2.2.1, i.2.2.2.2.2.2.2.2.2.2.2.2.2.2.2.2.2.2.2) : tR) else if (30 : Int32) ≤ nI lo then some ((i.1, i.2.1, i.2.2.1, i.2.2.2.1, i.2.2.2.2.1, i.2.2.2.2.2.1, i.2.2.2.2.2.2.1, i.2.2.2.2.2.2.2.1, i.2.2.2.2.2.2.2.2.1, i.2.2.2.2.2.2.2.2.2.1, i.2.2.2.2.2.2.2.2.2.2.1, i.2.2.2.2.2.2.2.2.2.2.2.1, i.2.2.2.2.2.2.2.2.2.2.2.2.1, i.2.2.2.2.2.2.2.2.2.2.2.2.2.1, i.2.2.2.2.2.2.2.2.2.2.2.2.2.2.1, i.2.2.2.2.2.2.2.2.2.2.2.2.2.2.2.1, i.2.2.2.2.2.2.2.2.2.2.2.2.2.2.2.2.1, i.2.2.2.2.2.2.2.2.2.2.2.2.2.2.2.2.2.1, i.2.2.2.2.2.2.2.2.2.2.2.2.2.2.2.2.2.2.1, i.2.2.2.2.2.2.2.2.2.2.2.2.2.2.2.2.2.2.2) : tR) else if (200 : Int32) ≤ i.1 then some ((i.1, i.2.1, i.2.2.1, i.2.2.2.1, i.2.2.2.2.1, i.2.2.2.2.2.1, i.2.2.2.2.2.2.1, i.2.2.2.2.2.2.2.1, i.2.2.2.2.2.2.2.2.1, i.2.2.2.2.2.2.2.2.2.1, i.2.2.2.2.2.2.2.2.2.2.1, i.2.2.2.2.2.2.2.2.2.2.2.1, i.2.2.2.2.2.2.2.2.2.2.2.2.1, i.2.2.2.2.2.2.2.2.2.2.2.2.2.1, i.2.2.2.2.2.2.2.2.2.2.2.2.2.2.1, i.2.2.2.2.2.2.2.2.2.2.2.2.2.2.2.1, i.2.2.2.2.2.2.2.2.2.2.2.2.2.2.2.2.1, i.2.2.2.2.2.2.2.2.2.2.2.2.2.2.2.2.2.1, i.2.2.2.2.2.2.2.2.2.2.2.2.2.2.2.2.2.2.1, i.2.2.2.2.2.2.2.2.2.2.2.2.2.2.2.2.2.2.2) : tR) else Y) = some o ∧ xRun p (if Q lo = 5 then exB LF LH p Q A I f (lo + 1 + I lo) hi (itR (exB LF LH p Q A I f (lo + 1) (lo + 1 + I lo)) (A lo) (s.1, s.2.1 + 1, s.2.2)) else exB LF LH p Q A I f (lo + 1) hi (exS LF LH p (Q lo) (A lo) (I lo) s)) o := by
          rintro Y ⟨o, hY, ho⟩
          refine ⟨o, ?_, ho⟩
          refine (if_neg (nI_ge (a := lo) (b := hi) (by omega) (by omega))).trans ?_
          refine (if_neg (nI_ge (a := lo) (b := 30) (by omega) (by omega))).trans ?_
          refine (if_neg (show ¬ (200 : Int32) ≤ i.1 by rw [X3]; exact nI_ge (a := s.2.1) (b := 200) (by omega) (by omega))).trans ?_
          exact hY
        apply pre
        rw [z_ki (by omega) (by omega), z_ki (by omega) (by omega), z_ki (by omega) (by omega), z_cl (by omega), h1 lo (by omega), h2 lo (by omega), h3 lo (by omega)]
        rcases w2.2 with ⟨q5, w3, w4, w5, w6, w7⟩ | ⟨t, w6⟩
        · rw [if_pos q5]
          have hQ5 : nI (Q lo) = (5 : Int32) := by rw [q5]; rfl
          obtain ⟨D, rfl⟩ : ∃ D', D = D' + 1 := ⟨D - 1, by omega⟩
          have inner : ∀ r j, j + r = A lo → ∀ k (s : rS) (i : tR), r < k → xRun p s i → ∃ o : tR, bX6_run_68 u (f_X6_run_r u (D + 1)) x1 x2 x3 c51 c58 c510 c55 c56 a6 a7 a8 a9 a10 a11 l12 c13 l15 c16 (bX6_run_3 u (f_X6_run_r u (D + 1)) x1 x2 x3 c51 c58 c510 c55 c56 a6 a7 a8 a9 a10 a11 l12 c13 l15 c16 n) k i.1 i.2.1 i.2.2.1 i.2.2.2.1 i.2.2.2.2.1 i.2.2.2.2.2.1 i.2.2.2.2.2.2.1 i.2.2.2.2.2.2.2.1 i.2.2.2.2.2.2.2.2.1 i.2.2.2.2.2.2.2.2.2.1 i.2.2.2.2.2.2.2.2.2.2.1 i.2.2.2.2.2.2.2.2.2.2.2.1 i.2.2.2.2.2.2.2.2.2.2.2.2.1 i.2.2.2.2.2.2.2.2.2.2.2.2.2.1 i.2.2.2.2.2.2.2.2.2.2.2.2.2.2.1 i.2.2.2.2.2.2.2.2.2.2.2.2.2.2.2.1 i.2.2.2.2.2.2.2.2.2.2.2.2.2.2.2.2.1 i.2.2.2.2.2.2.2.2.2.2.2.2.2.2.2.2.2.1 i.2.2.2.2.2.2.2.2.2.2.2.2.2.2.2.2.2.2.1 i.2.2.2.2.2.2.2.2.2.2.2.2.2.2.2.2.2.2.2 (nI hi) (nI d) (nI lo) (nI (A lo)) (nI (I lo)) (nI j) = bX6_run_3 u (f_X6_run_r u (D + 1)) x1 x2 x3 c51 c58 c510 c55 c56 a6 a7 a8 a9 a10 a11 l12 c13 l15 c16 n o.1 o.2.1 o.2.2.1 o.2.2.2.1 o.2.2.2.2.1 o.2.2.2.2.2.1 o.2.2.2.2.2.2.1 o.2.2.2.2.2.2.2.1 o.2.2.2.2.2.2.2.2.1 o.2.2.2.2.2.2.2.2.2.1 o.2.2.2.2.2.2.2.2.2.2.1 o.2.2.2.2.2.2.2.2.2.2.2.1 o.2.2.2.2.2.2.2.2.2.2.2.2.1 o.2.2.2.2.2.2.2.2.2.2.2.2.2.1 o.2.2.2.2.2.2.2.2.2.2.2.2.2.2.1 o.2.2.2.2.2.2.2.2.2.2.2.2.2.2.2.1 o.2.2.2.2.2.2.2.2.2.2.2.2.2.2.2.2.1 o.2.2.2.2.2.2.2.2.2.2.2.2.2.2.2.2.2.1 o.2.2.2.2.2.2.2.2.2.2.2.2.2.2.2.2.2.2.1 o.2.2.2.2.2.2.2.2.2.2.2.2.2.2.2.2.2.2.2 (nI hi) (nI d) (nI (lo + 1 + I lo)) ∧ xRun p (itR (exB LF LH p Q A I f (lo + 1) (lo + 1 + I lo)) r s) o := by
            intro r
            induction r with
            | zero =>
              intro j hj k s i hk X
              obtain ⟨k, rfl⟩ := z_suc hk
              refine ⟨i, ?_, X⟩
              rw [bX6_run_68]
              refine (if_pos (nI_le (a := A lo) (b := j) (by omega) (by omega))).trans ?_
              unfold bX6_run_108 bX6_run_159
              rw [nI_add, show nI (lo + I lo) + (1 : Int32) = nI (lo + 1 + I lo) by rw [show lo + 1 + I lo = lo + I lo + 1 by omega]; exact nI_1 _]
            | succ r ih2 =>
              intro j hj k s i hk X
              obtain ⟨k, rfl⟩ := z_suc hk
              obtain ⟨o, e, f2⟩ := ih (d + 1) (lo + 1) (lo + 1 + I lo) w6 (by omega) (by omega) D (by omega) u s i (by omega) X
              obtain ⟨o2, e2, f3⟩ := ih2 (j + 1) (by omega) k _ o (by omega) f2
              refine ⟨o2, ?_, f3⟩
              rw [bX6_run_68]
              refine (if_neg (nI_ge (a := j) (b := A lo) (by omega) (by omega))).trans ?_
              refine (if_neg (nI_ge (a := d) (b := 6) (by omega) (by omega))).trans ?_
              rw [el, ed, nI_add]
              have e3 : f_X6_run_r u (D + 1) i.1 i.2.1 i.2.2.1 x1 x2 x3 i.2.2.2.1 i.2.2.2.2.1 i.2.2.2.2.2.1 i.2.2.2.2.2.2.1 i.2.2.2.2.2.2.2.1 i.2.2.2.2.2.2.2.2.1 i.2.2.2.2.2.2.2.2.2.1 i.2.2.2.2.2.2.2.2.2.2.1 i.2.2.2.2.2.2.2.2.2.2.2.1 i.2.2.2.2.2.2.2.2.2.2.2.2.1 i.2.2.2.2.2.2.2.2.2.2.2.2.2.1 i.2.2.2.2.2.2.2.2.2.2.2.2.2.2.1 i.2.2.2.2.2.2.2.2.2.2.2.2.2.2.2.1 i.2.2.2.2.2.2.2.2.2.2.2.2.2.2.2.2.1 i.2.2.2.2.2.2.2.2.2.2.2.2.2.2.2.2.2.1 c51 c58 c510 c55 c56 a6 a7 a8 a9 a10 a11 l12 c13 i.2.2.2.2.2.2.2.2.2.2.2.2.2.2.2.2.2.2.1 l15 c16 i.2.2.2.2.2.2.2.2.2.2.2.2.2.2.2.2.2.2.2 (nI (lo + 1)) (nI (lo + 1 + I lo)) (nI (d + 1)) = some o := e
              rw [e3, z_b]
              have ej : nI j + (1 : Int32) = nI (j + 1) := nI_1 _
              rw [ej]
              exact e2
          obtain ⟨o, e, f2⟩ := inner (A lo) 0 (by omega) u (s.1, s.2.1 + 1, s.2.2) (i.1 + (1 : Int32), i.2) (by omega) ⟨X1, by show s.2.1 + 1 ≤ 200; omega, by show i.1 + (1 : Int32) = nI (s.2.1 + 1); rw [X3]; exact eb, X4, X5, X6⟩
          obtain ⟨o2, e2, f3⟩ := ih d (lo + 1 + I lo) hi w7 hh hd (D + 1) hD n _ o (by omega) f2
          refine ⟨o2, ?_, f3⟩
          refine (if_pos hQ5).trans ?_
          exact e.trans e2
        · have hq4 := t.1
          rw [if_neg (show ¬ Q lo = 5 by omega)]
          have hQ5 : ¬ nI (Q lo) = (5 : Int32) := fun h => by have := (nI_eq (b := 5) (by omega) (by omega)).mp h; omega
          obtain ⟨o, e, f2⟩ := xstep (u := u) P X1 E L L2 hu t X6 i.2.2.2.2.2.2.2.2.2.2.2.2.2.2.2.2.2.2.1 i.2.2.2.2.2.2.2.2.2.2.2.2.2.2.2.2.2.2.2
          have fin : xRun p (exS LF LH p (Q lo) (A lo) (I lo) s) (i.1 + (1 : Int32), (if stepOK p s.1 (Q lo) (A lo) (I lo) then i.2.1 + (1 : Int32) else i.2.1), (if stepOK p s.1 (Q lo) (A lo) (I lo) then i.2.2.1 else i.2.2.1 + (1 : Int32)), o) := by
            have hm := exS_ok (LF := LF) (LH := LH) P t X1
            rw [X3, X4, X5]
            unfold exS at hm ⊢
            cases hs : stepOK p s.1 (Q lo) (A lo) (I lo) with
            | true =>
              rw [hs] at hm f2
              exact ⟨hm, by show s.2.1 + 1 ≤ 200; omega, nI_1 _, nI_1 _, rfl, f2⟩
            | false =>
              rw [hs] at hm f2
              exact ⟨hm, by show s.2.1 + 1 ≤ 200; omega, nI_1 _, rfl, nI_1 _, f2⟩
          obtain ⟨o2, e2, f3⟩ := ih d (lo + 1) hi w6 hh hd D hD n _ _ (by omega) fin
          refine ⟨o2, ?_, f3⟩
          refine (if_neg hQ5).trans ?_
          rw [z_ki (by omega) (by omega), e, z_b]
          unfold bX6_run_159
          rw [el]
          cases hs : stepOK p s.1 (Q lo) (A lo) (I lo) with
          | true =>
            rw [hs] at e2
            refine (if_neg (show ¬ zB true = (0 : Int32) by decide)).trans ?_
            exact e2
          | false =>
            rw [hs] at e2
            refine (if_pos rfl).trans ?_
            exact e2
end XRUN
