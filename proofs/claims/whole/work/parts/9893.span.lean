/-! QUERIES: spans of seeds -/
section NQA
variable {u : Nat} {S : aT} {h : k_H}
/-- bars in cells that were ever dug -/
def tbS (p : aP) (T : Nat → Nat) : Nat := nsm (fun c => if T c ≠ 0 then pB p c else 0) 48
theorem tbS_le {p : aP} (P : pOK p) (T : Nat → Nat) : tbS p T ≤ 432 := by
  have := nsm_le (f := fun c => if T c ≠ 0 then pB p c else 0) (b := 9) (n := 48) (fun c hc => by
    have := (P.2.2.2.2.2.1 c hc).2.1
    show (if T c ≠ 0 then pB p c else 0) ≤ 9
    split <;> omega)
  exact this
theorem tbS_dig {LF : (Nat → Int32) → Int32} {p : aP} {m : aM} {c0 : Nat} (hc : c0 < 48) : tbS p (digS LF (aS m) (pK p) (pB p) (aSh m) c0) = tbS p (aS m) + (if aS m c0 = 0 then pB p c0 else 0) := by
  have ne : ∀ c, (digS LF (aS m) (pK p) (pB p) (aSh m) c0 c ≠ 0) = (aS m c ≠ 0 ∨ c = c0) := by
    intro c
    unfold digS
    cases h : fl LF (digS1 (aS m) c0) (pK p) (pB p) (aSh m) c with
    | true =>
      have := fl_1 h
      unfold digS1 at this
      by_cases e : c = c0
      · simp [e]
      · rw [if_neg e] at this; simp [this]
    | false =>
      unfold digS1
      by_cases e : c = c0
      · simp [e]
      · simp [e]
  have key : ∀ n, nsm (fun c => if digS LF (aS m) (pK p) (pB p) (aSh m) c0 c ≠ 0 then pB p c else 0) n = nsm (fun c => if aS m c ≠ 0 then pB p c else 0) n + (if c0 < n ∧ aS m c0 = 0 then pB p c0 else 0) := by
    intro n
    induction n with
    | zero => rw [if_neg (by omega)]; rfl
    | succ n ih =>
      show nsm _ n + (if digS LF (aS m) (pK p) (pB p) (aSh m) c0 n ≠ 0 then pB p n else 0) = nsm _ n + (if aS m n ≠ 0 then pB p n else 0) + _
      rw [ih]
      simp only [ne n]
      by_cases e : n = c0
      · subst e
        rw [if_neg (show ¬ (n < n ∧ aS m n = 0) by omega)]
        by_cases z : aS m n = 0
        · simp [z]
        · simp [z]
      · have e2 : (c0 < n + 1) = (c0 < n) := by rw [eq_iff_iff]; omega
        simp only [e2, e, or_false]
        omega
  have := key 48
  unfold tbS
  rw [this]
  simp only [hc, true_and]
/-- what was raised since -/
def grB (p : aP) (m0 m : aM) : Prop := ∃ d, aRa m = aRa m0 + nI d ∧ d + tbS p (aS m0) ≤ tbS p (aS m)
theorem grB_0 (p : aP) (m : aM) : grB p m m := ⟨0, (Int32.add_zero _).symm, by omega⟩
theorem grB_dig {p : aP} {m0 m : aM} {LF LH : (Nat → Int32) → Int32} (G : grB p m0 m) {c : Nat} (hc : c < 48) : grB p m0 (digM LF LH p m c) := by
  obtain ⟨d, h1, h2⟩ := G
  have e : aRa (digM LF LH p m c) = if brl (aS m) (pB p) c = 0 then aRa m else aRa m + nI (brl (aS m) (pB p) c) := rfl
  have e2 : aS (digM LF LH p m c) = digS LF (aS m) (pK p) (pB p) (aSh m) c := rfl
  have e3 : brl (aS m) (pB p) c = if aS m c = 0 then pB p c else 0 := rfl
  refine ⟨d + brl (aS m) (pB p) c, ?_, ?_⟩
  · rw [e, h1]
    by_cases z : brl (aS m) (pB p) c = 0
    · rw [if_pos z, z]; rfl
    · rw [if_neg z, Int32.add_assoc, nI_add]
  · rw [e2, tbS_dig hc, e3]; omega
theorem grB_digS {p : aP} (P : pOK p) {m0 : aM} {LF LH : (Nat → Int32) → Int32} : ∀ (r : Nat) (m : aM), mOK p m → aDg m + r = pC p → grB p m0 m → grB p m0 (dgS LF LH p r m)
  | 0, m, _, _, G => G
  | r + 1, m, I, hr, G => by
    unfold dgS
    by_cases z : pkb p m 48 = 0
    · rw [if_pos z]; exact G
    · rw [if_neg z]
      have k := pick_ok I z
      have e2 : aDg (digM LF LH p m (pkb p m 48 - 1)) = aDg m + 1 := rfl
      exact grB_digS P r _ (digM_ok P I k.1 k.2.1 k.2.2 (by omega)) (by rw [e2]; omega) (grB_dig G k.1)
theorem grB_sh {p : aP} {m0 m : aM} (G : grB p m0 m) : grB p m0 (shS p m) := by
  unfold shS
  by_cases z : aSh m < 200
  · rw [if_pos z]; exact G
  · rw [if_neg z]; exact G
theorem grB_dec {p : aP} (P : pOK p) {m0 : aM} {LF LH : (Nat → Int32) → Int32} (q : Nat) : ∀ (n : Nat) (m : aM) (k x : Int32), mOK p m → grB p m0 m → grB p m0 (decG dv sd LF LH p q n m k x).1
  | 0, m, _, _, _, G => G
  | n + 1, m, k, x, I, G => by
    by_cases w : dv (sd x) < q
    · rw [decA dv sd w]
      exact grB_dec P q n _ _ _ (shS_ok P I) (grB_sh G)
    · rw [decB dv sd w]
      have hd := I.2.2.2.1
      exact grB_dec P q n _ _ _ (shS_ok P (dgS_ok P _ m I (by omega)).1) (grB_sh (grB_digS P _ m I (by omega) G))
/-- bars of a decade, and whether none fell -/
def spD (S : aT) (x : Int32) (q sf k : Nat) : Int32 × Bool := (aRa (decG dv sd (rS_F S) (rS_H S) (rS_P S) q sf (rS_M S) 0 (x + nI k)).1 - aRa (rS_M S), decide (aFe (decG dv sd (rS_F S) (rS_H S) (rS_P S) q sf (rS_M S) 0 (x + nI k)).1 = aFe (rS_M S)))
theorem spD_le (R : Rel S h) (x : Int32) (q sf k : Nat) : ∃ d, d ≤ 432 ∧ (spD S x q sf k).1 = nI d := by
  obtain ⟨-, ⟨P, -, -⟩, -, ⟨I, -, -⟩, -⟩ := R
  obtain ⟨d, h1, h2⟩ := grB_dec (LF := rS_F S) (LH := rS_H S) P q sf (rS_M S) 0 (x + nI k) I (grB_0 (rS_P S) (rS_M S))
  have := tbS_le P (aS (decG dv sd (rS_F S) (rS_H S) (rS_P S) q sf (rS_M S) 0 (x + nI k)).1)
  refine ⟨d, by omega, ?_⟩
  show aRa _ - aRa _ = _
  rw [h1, Int32.add_comm, Int32.add_sub_cancel]
def spX (D : Nat → Int32 × Bool) : Nat → Nat → Int32 → Int32 → Int32 → Int32 × Int32 × Int32
  | 0, _, v6, v7, v8 => (v6, v7, v8)
  | r + 1, k, v6, v7, v8 => spX D r (k + 1) (if k = 0 then (D k).1 else if (D k).1 < v6 then (D k).1 else v6) (if v7 < (D k).1 then (D k).1 else v7) (v8 + (if (D k).2 = true then (1 : Int32) else 0))
def spM (D : Nat → Int32 × Bool) : Nat → Nat → Int32 → Int32 → Int32 → Int32 × Int32 × Int32
  | 0, _, v6, v7, v8 => (v6, v7, v8)
  | r + 1, k, v6, v7, v8 => spM D r (k + 1) (if v6 = -1 then (D k).1 else if v6 ≤ (D k).1 then v6 else (D k).1) (if (D k).1 ≤ v7 then v7 else (D k).1) (v8 + (if (D k).2 = true then (1 : Int32) else 0))
theorem sp_eq {D : Nat → Int32 × Bool} (hD : ∀ k, ∃ d, d ≤ 432 ∧ (D k).1 = nI d) : ∀ r k v6 v6' v7 v8, ((k = 0 ∧ v6' = -1 ∧ 0 < r) ∨ (0 < k ∧ v6 = v6' ∧ ¬ v6' = -1)) → spX D r k v6 v7 v8 = spM D r k v6' v7 v8
  | 0, k, v6, v6', v7, v8, h => by
    rcases h with ⟨-, -, h⟩ | ⟨-, rfl, -⟩
    · omega
    · rfl
  | r + 1, k, v6, v6', v7, v8, h => by
    obtain ⟨d, d1, d2⟩ := hD k
    have dm : ¬ (D k).1 = -1 := by
      rw [d2]
      intro w
      have := congrArg Int32.toInt w
      rw [nI_toInt (by omega)] at this
      have e : (-1 : Int32).toInt = -1 := rfl
      omega
    have e7 : (if v7 < (D k).1 then (D k).1 else v7) = (if (D k).1 ≤ v7 then v7 else (D k).1) := by
      by_cases z : v7 < (D k).1
      · rw [if_pos z, if_neg (fa_of_lt z).2.1]
      · rw [if_neg z, if_pos (fa_of_nlt z)]
    have e6 : (if k = 0 then (D k).1 else if (D k).1 < v6 then (D k).1 else v6) = (if v6' = -1 then (D k).1 else if v6' ≤ (D k).1 then v6' else (D k).1) := by
      rcases h with ⟨z0, rfl, -⟩ | ⟨h0, rfl, h2⟩
      · rw [if_pos z0, if_pos rfl]
      · rw [if_neg (show ¬ k = 0 by omega), if_neg h2]
        by_cases z : (D k).1 < v6
        · rw [if_pos z, if_neg (fa_of_lt z).2.1]
        · rw [if_neg z, if_pos (fa_of_nlt z)]
    show spX D r (k + 1) _ _ _ = spM D r (k + 1) _ _ _
    rw [e7, e6]
    refine sp_eq hD r (k + 1) _ _ _ _ (Or.inr ⟨by omega, rfl, ?_⟩)
    by_cases z : v6' = -1
    · rw [if_pos z]; exact dm
    · rw [if_neg z]
      by_cases y : v6' ≤ (D k).1
      · rw [if_pos y]; exact z
      · rw [if_neg y]; exact dm
def spW (w : Int32) (t : Int32 × Int32 × Int32) : Int32 := if w = 0 then t.1 else if w = 1 then t.2.1 else t.2.2
set_option maxRecDepth 4000 in
theorem x_span (hu : 700 ≤ u) (R : Rel S h) (x w : Int32) {q sf many : Nat} (hq : q ≤ 16) (hs : sf ≤ 40) (hm : many ≤ 20) (a69 : Nat → Int32) :
    ∀ r k n (s15 s18 : Nat → Int32) (d1 d2 d3 d4 e10 e11 e12 e13 e14 e15 e16 e17 : Int32) (e3 e4 e5 : Int64) (b2 b3 b4 b5 : Nat → Int32) (v6 v7 v8 : Int32), k + r = many → r < n → ∃ o, bX10_span_52 u (h.2.1 3 8) (h.2.1 3 10) (h.2.2.1 3 5) (h.2.2.1 3 6) (h.2.1 4) (h.2.1 5) (h.2.1 6) (h.2.1 7) (h.2.1 8) (h.2.1 9) (h.2.1 17 2) (h.2.1 18) (h.2.1 20 2) (h.2.1 21) (h.2.1 26 10) (h.2.1 26 11) (h.2.1 26 12) (h.2.1 26 13) (h.2.1 26 14) (h.2.1 26 15) (h.2.1 26 16) (h.2.1 26 17) (h.2.2.1 26 3) (h.2.2.1 26 4) (h.2.2.1 26 5) (h.2.1 27) (h.2.1 28) (h.2.1 29) (h.2.1 30) n s15 s18 d1 d2 d3 d4 e10 e11 e12 e13 e14 e15 e16 e17 e3 e4 e5 b2 b3 b4 b5 a69 x (nI many) (nI q) (nI sf) w v6 v7 v8 (nI k) = some o ∧ o.1 = (0 : Int32) ∧ o.2.1 = spW w (spX (spD S x q sf) r k v6 v7 v8) ∧ o.2.2.2.2.2.2.2.2.2.2.2.2.2.2.2.2.2.2.2.2.2.2.2 = a69 := by
  intro r
  induction r with
  | zero =>
    intro k n s15 s18 d1 d2 d3 d4 e10 e11 e12 e13 e14 e15 e16 e17 e3 e4 e5 b2 b3 b4 b5 v6 v7 v8 hk hn
    obtain ⟨n, rfl⟩ := z_suc hn
    obtain rfl : k = many := by omega
    rw [bX10_span_52, if_pos (nI_le (Nat.le_refl _) (by omega))]
    unfold spW
    by_cases z : w = 0
    · rw [if_pos z, if_pos z]; exact ⟨_, rfl, rfl, rfl, rfl⟩
    · rw [if_neg z, if_neg z]
      by_cases y : w = 1
      · rw [if_pos y, if_pos y]; exact ⟨_, rfl, rfl, rfl, rfl⟩
      · rw [if_neg y, if_neg y]; exact ⟨_, rfl, rfl, rfl, rfl⟩
  | succ r ih =>
    intro k n s15 s18 d1 d2 d3 d4 e10 e11 e12 e13 e14 e15 e16 e17 e3 e4 e5 b2 b3 b4 b5 v6 v7 v8 hk hn
    obtain ⟨n, rfl⟩ := z_suc hn
    have e1 : nI k + (1 : Int32) = nI (k + 1) := nI_1 k
    obtain ⟨o, f1, o1, o2, o3, o4⟩ := r_play hu R (x + nI k) hq hs d1 d2 d3 d4 e10 e11 e12 e13 e14 e15 e16 e17 e3 e4 e5 b2 b3 b4 b5 s15 s18
    have D1 : o.1 = (spD S x q sf k).1 := o1
    have st : ∀ v6 v7 v8, spX (spD S x q sf) (r + 1) k v6 v7 v8 = spX (spD S x q sf) r (k + 1) (if k = 0 then (spD S x q sf k).1 else if (spD S x q sf k).1 < v6 then (spD S x q sf k).1 else v6) (if v7 < (spD S x q sf k).1 then (spD S x q sf k).1 else v7) (v8 + (if (spD S x q sf k).2 = true then (1 : Int32) else 0)) := fun _ _ _ => rfl
    rw [bX10_span_52, if_neg (nI_ge (a := k) (b := many) (by omega) (by omega)), f1, z_b]
    rw [st, ← D1]
    have last : ∀ w6, ∃ t, bX10_span_103 u (h.2.1 3 8) (h.2.1 3 10) (h.2.2.1 3 5) (h.2.2.1 3 6) (h.2.1 4) (h.2.1 5) (h.2.1 6) (h.2.1 7) (h.2.1 8) (h.2.1 9) (h.2.1 17 2) (h.2.1 18) (h.2.1 20 2) (h.2.1 21) (h.2.1 26 10) (h.2.1 26 11) (h.2.1 26 12) (h.2.1 26 13) (h.2.1 26 14) (h.2.1 26 15) (h.2.1 26 16) (h.2.1 26 17) (h.2.2.1 26 3) (h.2.2.1 26 4) (h.2.2.1 26 5) (h.2.1 27) (h.2.1 28) (h.2.1 29) (h.2.1 30) (bX10_span_52 u (h.2.1 3 8) (h.2.1 3 10) (h.2.2.1 3 5) (h.2.2.1 3 6) (h.2.1 4) (h.2.1 5) (h.2.1 6) (h.2.1 7) (h.2.1 8) (h.2.1 9) (h.2.1 17 2) (h.2.1 18) (h.2.1 20 2) (h.2.1 21) (h.2.1 26 10) (h.2.1 26 11) (h.2.1 26 12) (h.2.1 26 13) (h.2.1 26 14) (h.2.1 26 15) (h.2.1 26 16) (h.2.1 26 17) (h.2.2.1 26 3) (h.2.2.1 26 4) (h.2.2.1 26 5) (h.2.1 27) (h.2.1 28) (h.2.1 29) (h.2.1 30) n) o.2.2.2.2.2.2.2.2.2.2.2.2.2.2.2.2.2.2.2.1 o.2.2.2.2.2.2.2.2.2.2.2.2.2.2.2.2.2.2.2.2 o.1 o.2.1 o.2.2.1 o.2.2.2.1 o.2.2.2.2.1 o.2.2.2.2.2.1 o.2.2.2.2.2.2.1 o.2.2.2.2.2.2.2.1 o.2.2.2.2.2.2.2.2.1 o.2.2.2.2.2.2.2.2.2.1 o.2.2.2.2.2.2.2.2.2.2.1 o.2.2.2.2.2.2.2.2.2.2.2.1 o.2.2.2.2.2.2.2.2.2.2.2.2.1 o.2.2.2.2.2.2.2.2.2.2.2.2.2.1 o.2.2.2.2.2.2.2.2.2.2.2.2.2.2.1 o.2.2.2.2.2.2.2.2.2.2.2.2.2.2.2.1 o.2.2.2.2.2.2.2.2.2.2.2.2.2.2.2.2.1 o.2.2.2.2.2.2.2.2.2.2.2.2.2.2.2.2.2.1 o.2.2.2.2.2.2.2.2.2.2.2.2.2.2.2.2.2.2.1 a69 x (nI many) (nI q) (nI sf) w v7 v8 (nI k) w6 = some t ∧ t.1 = (0 : Int32) ∧ t.2.1 = spW w (spX (spD S x q sf) r (k + 1) w6 (if v7 < o.1 then o.1 else v7) (v8 + (if (spD S x q sf k).2 = true then (1 : Int32) else 0))) ∧ t.2.2.2.2.2.2.2.2.2.2.2.2.2.2.2.2.2.2.2.2.2.2.2 = a69 := by
      intro w6
      unfold bX10_span_103 bX10_span_136
      rw [e1]
      by_cases z : o.2.1 = (0 : Int32)
      · have hd : (spD S x q sf k).2 = true := by
          rw [o2] at z
          refine decide_eq_true ?_
          have := Int32.sub_eq_iff_eq_add.mp z
          rw [Int32.zero_add] at this
          exact this
        rw [if_pos z, hd, if_pos rfl]
        exact ih (k + 1) n o.2.2.2.2.2.2.2.2.2.2.2.2.2.2.2.2.2.2.2.1 o.2.2.2.2.2.2.2.2.2.2.2.2.2.2.2.2.2.2.2.2 o.1 o.2.1 o.2.2.1 o.2.2.2.1 o.2.2.2.2.1 o.2.2.2.2.2.1 o.2.2.2.2.2.2.1 o.2.2.2.2.2.2.2.1 o.2.2.2.2.2.2.2.2.1 o.2.2.2.2.2.2.2.2.2.1 o.2.2.2.2.2.2.2.2.2.2.1 o.2.2.2.2.2.2.2.2.2.2.2.1 o.2.2.2.2.2.2.2.2.2.2.2.2.1 o.2.2.2.2.2.2.2.2.2.2.2.2.2.1 o.2.2.2.2.2.2.2.2.2.2.2.2.2.2.1 o.2.2.2.2.2.2.2.2.2.2.2.2.2.2.2.1 o.2.2.2.2.2.2.2.2.2.2.2.2.2.2.2.2.1 o.2.2.2.2.2.2.2.2.2.2.2.2.2.2.2.2.2.1 o.2.2.2.2.2.2.2.2.2.2.2.2.2.2.2.2.2.2.1 _ _ _ (by omega) (by omega)
      · have hd : (spD S x q sf k).2 = false := by
          refine decide_eq_false (fun y => z ?_)
          rw [o2, y, Int32.sub_self]
        rw [if_neg z, hd, if_neg (show ¬ false = true by decide)]
        exact ih (k + 1) n o.2.2.2.2.2.2.2.2.2.2.2.2.2.2.2.2.2.2.2.1 o.2.2.2.2.2.2.2.2.2.2.2.2.2.2.2.2.2.2.2.2 o.1 o.2.1 o.2.2.1 o.2.2.2.1 o.2.2.2.2.1 o.2.2.2.2.2.1 o.2.2.2.2.2.2.1 o.2.2.2.2.2.2.2.1 o.2.2.2.2.2.2.2.2.1 o.2.2.2.2.2.2.2.2.2.1 o.2.2.2.2.2.2.2.2.2.2.1 o.2.2.2.2.2.2.2.2.2.2.2.1 o.2.2.2.2.2.2.2.2.2.2.2.2.1 o.2.2.2.2.2.2.2.2.2.2.2.2.2.1 o.2.2.2.2.2.2.2.2.2.2.2.2.2.2.1 o.2.2.2.2.2.2.2.2.2.2.2.2.2.2.2.1 o.2.2.2.2.2.2.2.2.2.2.2.2.2.2.2.2.1 o.2.2.2.2.2.2.2.2.2.2.2.2.2.2.2.2.2.1 o.2.2.2.2.2.2.2.2.2.2.2.2.2.2.2.2.2.2.1 _ _ _ (by omega) (by omega)
    by_cases y : k = 0
    · rw [if_pos y, if_pos (show nI k = (0 : Int32) by rw [y]; rfl)]
      exact last _
    · rw [if_neg y, if_neg (show ¬ nI k = (0 : Int32) from fun w0 => by have := (nI_eq (b := 0) (by omega) (by omega)).mp w0; omega)]
      exact last _
theorem m_span (hu : 700 ≤ u) (R : Rel S h) (x w : Int32) {q sf many : Nat} (hq : q ≤ 16) (hs : sf ≤ 40) (hm : many ≤ 20) (c0 : Int32) (a1 : Nat → Int32) :
    ∀ r k n (c62 c63 : Int32) (b16 b17 b21 b23 b24 : Nat → Int32) (v6 v7 v8 : Int32), k + r = many → r < n → ∃ o, bX11_span_62 u (h.2.1 70 25) (h.2.1 70 26) (h.2.1 70 27) (h.2.1 70 28) (h.2.1 70 30) (h.2.1 77) (h.2.1 78) (h.2.1 79) (h.2.1 80) (h.2.1 83) (h.2.1 84) (h.2.1 85) (h.2.1 90) n c0 c62 c63 a1 b16 b17 b21 b23 b24 x (nI many) (nI q) (nI sf) w v6 v7 v8 (nI k) = some o ∧ o.1 = spW w (spM (spD S x q sf) r k v6 v7 v8) ∧ o.2.1 = c0 ∧ o.2.2.2.2.1 = a1 := by
  have M := R.2.2.2.1.2.2
  have m75 := M.2.2.2.2.2.2.2.2.1
  have m76 := M.2.2.2.2.2.2.2.2.2.1
  intro r
  induction r with
  | zero =>
    intro k n c62 c63 b16 b17 b21 b23 b24 v6 v7 v8 hk hn
    obtain ⟨n, rfl⟩ := z_suc hn
    obtain rfl : k = many := by omega
    rw [bX11_span_62, if_pos (nI_le (Nat.le_refl _) (by omega))]
    unfold spW
    by_cases z : w = 0
    · rw [if_pos z, if_pos z]; exact ⟨_, rfl, rfl, rfl, rfl⟩
    · rw [if_neg z, if_neg z]
      by_cases y : w = 1
      · rw [if_pos y, if_pos y]; exact ⟨_, rfl, rfl, rfl, rfl⟩
      · rw [if_neg y, if_neg y]; exact ⟨_, rfl, rfl, rfl, rfl⟩
  | succ r ih =>
    intro k n c62 c63 b16 b17 b21 b23 b24 v6 v7 v8 hk hn
    obtain ⟨n, rfl⟩ := z_suc hn
    have e1 : nI k + (1 : Int32) = nI (k + 1) := nI_1 k
    obtain ⟨o, f1, o1, o2⟩ := r_goes hu R (x + nI k) hq hs c62 c63 b16 b17 b21 b23 b24
    have t75 := o2.2.2.2.2.2.2.2.2.1
    have t76 := o2.2.2.2.2.2.2.2.2.2.1
    have D1 : o.2.2.2.2.1 75 - h.2.1 90 75 = (spD S x q sf k).1 := by rw [t75, m75]; rfl
    have st : ∀ v6 v7 v8, spM (spD S x q sf) (r + 1) k v6 v7 v8 = spM (spD S x q sf) r (k + 1) (if v6 = -1 then (spD S x q sf k).1 else if v6 ≤ (spD S x q sf k).1 then v6 else (spD S x q sf k).1) (if (spD S x q sf k).1 ≤ v7 then v7 else (spD S x q sf k).1) (v8 + (if (spD S x q sf k).2 = true then (1 : Int32) else 0)) := fun _ _ _ => rfl
    have last : ∀ v6 v7, ∃ t, bX11_span_132 u (h.2.1 70 25) (h.2.1 70 26) (h.2.1 70 27) (h.2.1 70 28) (h.2.1 70 30) (h.2.1 77) (h.2.1 78) (h.2.1 79) (h.2.1 80) (h.2.1 83) (h.2.1 84) (h.2.1 85) (h.2.1 90) (bX11_span_62 u (h.2.1 70 25) (h.2.1 70 26) (h.2.1 70 27) (h.2.1 70 28) (h.2.1 70 30) (h.2.1 77) (h.2.1 78) (h.2.1 79) (h.2.1 80) (h.2.1 83) (h.2.1 84) (h.2.1 85) (h.2.1 90) n) c0 o.1 o.2.1 a1 o.2.2.1 o.2.2.2.1 o.2.2.2.2.1 o.2.2.2.2.2.1 o.2.2.2.2.2.2 x (nI many) (nI q) (nI sf) w v6 v8 (nI k) v7 = some t ∧ t.1 = spW w (spM (spD S x q sf) r (k + 1) v6 v7 (v8 + (if (spD S x q sf k).2 = true then (1 : Int32) else 0))) ∧ t.2.1 = c0 ∧ t.2.2.2.2.1 = a1 := by
      intro v6 v7
      unfold bX11_span_132 bX11_span_158
      rw [e1]
      by_cases z : o.2.2.2.2.1 76 = h.2.1 90 76
      · have hd : (spD S x q sf k).2 = true := by
          rw [t76, m76] at z
          exact decide_eq_true z
        rw [if_pos z, hd, if_pos rfl]
        exact ih (k + 1) n _ _ _ _ _ _ _ _ _ _ (by omega) (by omega)
      · have hd : (spD S x q sf k).2 = false := by
          rw [t76, m76] at z
          exact decide_eq_false z
        rw [if_neg z, hd, if_neg (show ¬ false = true by decide)]
        exact ih (k + 1) n _ _ _ _ _ _ _ _ _ _ (by omega) (by omega)
    have mid : ∀ v6, ∃ t, bX11_span_116 u (h.2.1 70 25) (h.2.1 70 26) (h.2.1 70 27) (h.2.1 70 28) (h.2.1 70 30) (h.2.1 77) (h.2.1 78) (h.2.1 79) (h.2.1 80) (h.2.1 83) (h.2.1 84) (h.2.1 85) (h.2.1 90) (bX11_span_62 u (h.2.1 70 25) (h.2.1 70 26) (h.2.1 70 27) (h.2.1 70 28) (h.2.1 70 30) (h.2.1 77) (h.2.1 78) (h.2.1 79) (h.2.1 80) (h.2.1 83) (h.2.1 84) (h.2.1 85) (h.2.1 90) n) c0 o.1 o.2.1 a1 o.2.2.1 o.2.2.2.1 o.2.2.2.2.1 o.2.2.2.2.2.1 o.2.2.2.2.2.2 x (nI many) (nI q) (nI sf) w v7 v8 (nI k) (spD S x q sf k).1 v6 = some t ∧ t.1 = spW w (spM (spD S x q sf) r (k + 1) v6 (if (spD S x q sf k).1 ≤ v7 then v7 else (spD S x q sf k).1) (v8 + (if (spD S x q sf k).2 = true then (1 : Int32) else 0))) ∧ t.2.1 = c0 ∧ t.2.2.2.2.1 = a1 := by
      intro v6
      unfold bX11_span_116
      by_cases z : (spD S x q sf k).1 ≤ v7
      · rw [if_pos z, if_pos z]; exact last v6 v7
      · rw [if_neg z, if_neg z]; exact last v6 _
    rw [bX11_span_62, if_neg (nI_ge (a := k) (b := many) (by omega) (by omega)), f1, z_b, st, D1]
    unfold bX11_span_109
    by_cases z : v6 = -1
    · rw [if_pos z, if_pos z]; exact mid _
    · rw [if_neg z, if_neg z]
      by_cases y : v6 ≤ (spD S x q sf k).1
      · rw [if_pos y, if_pos y]; exact mid _
      · rw [if_neg y, if_neg y]; exact mid _
set_option maxRecDepth 4000 in
theorem n_31 (hu : 700 ≤ u) (R : Rel S h) (a1 a2 a3 a4 a5 : Int32) : N_31 u h a1 a2 a3 a4 a5 := by
  have r := R.2.2.2.2.2.2.1.1
  unfold N_31
  unfold f_X10_span bX10_span_0 f_X11_span bX11_span_0
  have bad : ∃ o o', bX10_span_36 u (h.2.1 3 8) (h.2.1 3 10) (h.2.2.1 3 5) (h.2.2.1 3 6) (h.2.1 4) (h.2.1 5) (h.2.1 6) (h.2.1 7) (h.2.1 8) (h.2.1 9) (h.2.1 17 2) (h.2.1 18) (h.2.1 20 2) (h.2.1 21) (h.2.1 26 10) (h.2.1 26 11) (h.2.1 26 12) (h.2.1 26 13) (h.2.1 26 14) (h.2.1 26 15) (h.2.1 26 16) (h.2.1 26 17) (h.2.2.1 26 3) (h.2.2.1 26 4) (h.2.2.1 26 5) (h.2.1 27) (h.2.1 28) (h.2.1 29) (h.2.1 30) (h.2.1 19) (h.2.1 22) (h.2.1 61 1) (h.2.1 61 2) (h.2.1 61 3) (h.2.1 61 4) (h.2.1 62 10) (h.2.1 62 11) (h.2.1 62 12) (h.2.1 62 13) (h.2.1 62 14) (h.2.1 62 15) (h.2.1 62 16) (h.2.1 62 17) (h.2.2.1 62 3) (h.2.2.1 62 4) (h.2.2.1 62 5) (h.2.1 63) (h.2.1 64) (h.2.1 65) (h.2.1 66) (h.2.1 69) a1 a2 a3 a4 a5 = some o ∧ bX11_span_39 u (h.2.1 70 25) (h.2.1 70 26) (h.2.1 70 27) (h.2.1 70 28) (h.2.1 70 30) (h.2.1 77) (h.2.1 78) (h.2.1 79) (h.2.1 80) (h.2.1 83) (h.2.1 84) (h.2.1 85) (h.2.1 90) (0 : Int32) (h.2.1 70 62) (h.2.1 70 63) (h.2.1 71) (h.2.1 86) (h.2.1 87) (h.2.1 91) (h.2.1 93) (h.2.1 94) a1 a2 a3 a4 a5 = some o' ∧ ((o.1 = 0 ∧ o'.2.1 = 0 ∧ o.2.1 = o'.1) ∨ (o.1 = 3 ∧ o'.2.1 = 1)) ∧ ∀ k, k < 3 → o.2.2.2.2.2.2.2.2.2.2.2.2.2.2.2.2.2.2.2.2.2.2.2 k = o'.2.2.2.2.1 k := by
    unfold bX11_span_39 bX11_span_40
    rw [m_need0, z_b, if_pos rfl]
    exact ⟨_, _, rfl, rfl, Or.inr ⟨rfl, rfl⟩, r_upd r (by omega)⟩
  rw [m_within, z_b]
  by_cases h1 : a2 < (1 : Int32)
  · rw [if_pos h1, decide_eq_false (fa_of_lt h1).2.1, Bool.false_and, if_pos (show zB false = (0 : Int32) from rfl)]
    exact bad
  · by_cases h2 : (20 : Int32) < a2
    · rw [if_neg h1, if_pos h2, decide_eq_false (fa_of_lt h2).2.1, Bool.and_false, if_pos (show zB false = (0 : Int32) from rfl)]
      exact bad
    · rw [if_neg h1, if_neg h2, decide_eq_true (fa_of_nlt h1), decide_eq_true (fa_of_nlt h2), if_neg (show ¬ zB (true && true) = (0 : Int32) from d_10)]
      obtain ⟨many, hm0, rfl⟩ := nI_of (fun z => h1 (Int32.lt_iff_toInt_lt.mpr (Int.lt_trans (Int32.lt_iff_toInt_lt.mp z) (by decide))))
      have hm1 : 1 ≤ many := Nat.le_of_not_lt (fun z => h1 (nI_lt (a := many) (b := 1) z (by omega)))
      have hm2 : many ≤ 20 := Nat.le_of_not_lt (fun z => h2 (nI_lt (a := 20) (b := many) z hm0))
      rcases d_dec (u := u) a3 a4 with ⟨q, sf, hq, hs1, hs, rfl, rfl, e1, e2⟩ | ⟨e1, e2⟩
      · rw [e1, e2, z_b, z_b, if_neg d_10, if_neg d_10]
        rcases d_to (u := u) (n := 2) (by omega) a5 with ⟨w, hw, rfl, q1, q2, e⟩ | ⟨p, e⟩
        · rw [show f_X11_within u (nI w) (0 : Int32) (2 : Int32) = _ from e, z_b, if_neg d_10, if_neg q1, if_neg (show ¬ (2 : Int32) < nI w from q2)]
          unfold bX10_span_37 bX11_span_40
          rw [x_need1, m_need1, z_b, z_b, if_pos rfl, if_neg d_10]
          obtain ⟨o, f1, o1, o2, o3⟩ := x_span hu R a1 (nI w) hq hs hm2 (h.2.1 69) many 0 u (h.2.1 19) (h.2.1 22) (h.2.1 61 1) (h.2.1 61 2) (h.2.1 61 3) (h.2.1 61 4) (h.2.1 62 10) (h.2.1 62 11) (h.2.1 62 12) (h.2.1 62 13) (h.2.1 62 14) (h.2.1 62 15) (h.2.1 62 16) (h.2.1 62 17) (h.2.2.1 62 3) (h.2.2.1 62 4) (h.2.2.1 62 5) (h.2.1 63) (h.2.1 64) (h.2.1 65) (h.2.1 66) (0 : Int32) (0 : Int32) (0 : Int32) (by omega) (by omega)
          obtain ⟨t, g1, t1, t2, t3⟩ := m_span hu R a1 (nI w) hq hs hm2 (0 : Int32) (h.2.1 71) many 0 u (h.2.1 70 62) (h.2.1 70 63) (h.2.1 86) (h.2.1 87) (h.2.1 91) (h.2.1 93) (h.2.1 94) (-1 : Int32) (0 : Int32) (0 : Int32) (by omega) (by omega)
          refine ⟨o, t, f1, g1, Or.inl ⟨o1, t2, ?_⟩, ?_⟩
          · rw [o2, t1, sp_eq (spD_le R a1 q sf) many 0 _ _ _ _ (Or.inl ⟨rfl, rfl, by omega⟩)]
          · intro k hk
            rw [o3, t3]
            exact r k hk
        · rw [show f_X11_within u a5 (0 : Int32) (2 : Int32) = _ from e, z_b, if_pos rfl]
          obtain ⟨o, o', b1, b2, b3⟩ := bad
          exact ⟨o, o', (r_ifR (n := 2) p).trans b1, b2, b3⟩
      · rw [e1, e2, z_b, z_b, if_pos rfl, if_pos rfl]
        exact bad
end NQA
