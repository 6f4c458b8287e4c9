/-! THE OTHER STEPS: prop, pump, shift, sell -/
def propM (m : aM) (c : Nat) : aM := ((fun k => if k = c then 2 else aS m k), aB m, aSh m, aDg m, aPr m - 1, aW m, aPe m, aLu m, aRa m, aFe m, aSo m, aGo m, aFa m)
def propOK (p : aP) (m : aM) (c : Nat) : Bool := decide (aS m c = 1) && (!decide (aW m ≤ c / 8) && decide (0 < aPr m))
def pumpM (p : aP) (m : aM) : aM := (aS m, aB m, aSh m, aDg m + 1, aPr m, pH p, aPe m, aLu m, aRa m, aFe m, aSo m, aGo m, aFa m)
def pumpOK (p : aP) (m : aM) : Bool := decide (aW m < pH p) && decide (aDg m < pC p)
def shiftM (p : aP) (m : aM) : aM := (aS m, esB (pT p) (pZ p) (pN p) (aSh m) (aB m) (pO p), aSh m + 1, 0, aPr m, aW m, esP (pT p) (pZ p) (pN p) (pP p) (aSh m) (aB m) (aPe m) (pO p), aLu m, aRa m, aFe m, aSo m, esG (pT p) (pZ p) (pN p) (aSh m) (aB m) (aGo m) (pO p), esF (pT p) (pZ p) (pN p) (aSh m) (aB m) (aFa m) (pO p))
def sellM (p : aP) (m : aM) (k n : Nat) : aM := (aS m, (fun j => if j = k then aB m j - n else aB m j), aSh m, aDg m, aPr m, aW m, aPe m + nI (n * pP p k), aLu m, aRa m, aFe m, (fun j => if j = k then aSo m j + nI n else aSo m j), aGo m, aFa m)
section STEPS
variable {u : Nat} {p : aP} {m : aM}
variable {shift digs props pence lungs wetr raised fell : Int32} {dug prp fal all : Int64} {belt sold gone fates : Nat → Int32}
theorem xprop (P : pOK p) (I : mOK p m) (ha : lS all (inG (pW p) (pH p))) {c : Nat} (hc : c < 48) (X : xMine m shift digs props pence lungs wetr raised fell dug prp fal belt sold gone fates) :
    (propOK p m c = true ∧ ∃ o, f_X3_propUp u props wetr dug prp all (nI c) = some (nI 1, o) ∧ xMine (propM m c) shift digs o.1 pence lungs wetr raised fell o.2.1 o.2.2 fal belt sold gone fates) ∨ (propOK p m c = false ∧ f_X3_propUp u props wetr dug prp all (nI c) = some (nI 0, props, dug, prp)) := by
  obtain ⟨M, hb, rfl, rfl, rfl, rfl, rfl, rfl, rfl, rfl, hso, hgo, hfa⟩ := X
  have hwH := I.2.2.2.2.2.1
  have hH := P.2.1.2
  have hpr := I.2.2.2.2.1
  obtain ⟨r, hr, hr2⟩ := x_wet (u := u) (w := aW m) ha (by omega)
  unfold f_X3_propUp bX3_propUp_0
  rw [hr, z_b]
  have hb1 : lb (dug &&& (r ^^^ (-1))) c = (decide (aS m c = 1) && !decide (aW m ≤ c / 8)) := by
    rw [lb_and, lb_not (show c < 64 by omega), lS_get M.1 hc, lS_get hr2 hc]
    unfold wet
    by_cases q : aS m c = 1
    · have g : inG (pW p) (pH p) c = true := by
        cases z : inG (pW p) (pH p) c with
        | true => rfl
        | false => have := I.1.2 c hc z; omega
      simp [q, g]
    · simp [q]
  have e1 : (lg_cmp ((dug &&& (r ^^^ (-1))) &&& ((1 : Int64) <<< ((nI c).toInt64 &&& 63))) 0 = (0 : Int32)) = ((decide (aS m c = 1) && !decide (aW m ≤ c / 8)) = false) := by
    rw [← hb1]
    exact lb_m (show c < 64 by omega)
  have d3 : ∀ (Q : Prop) [Decidable Q] (A B : Option (Int32 × Int32 × Int64 × Int64)), Q → (if Q then A else B) = A := fun Q _ A B h => if_pos h
  have d4 : ∀ (Q : Prop) [Decidable Q] (A B : Option (Int32 × Int32 × Int64 × Int64)), ¬ Q → (if Q then A else B) = B := fun Q _ A B h => if_neg h
  unfold propOK
  by_cases q : aS m c = 1 ∧ ¬ aW m ≤ c / 8
  · rw [d4 _ _ _ (by rw [e1]; simp [q.1]; omega)]
    by_cases t : 0 < aPr m
    · rw [d3 _ _ _ (show (0 : Int32) < nI (aPr m) from nI_lt (a := 0) t (by omega))]
      refine Or.inl ⟨by simp [q.1, t]; omega, _, rfl, ⟨?_, ?_, ?_⟩, hb, rfl, rfl, ?_, rfl, rfl, rfl, rfl, rfl, hso, hgo, hfa⟩
      · refine lS_cong (lS_min M.1 (lS_bit hc)) (fun k _ => ?_)
        show _ = ((if k = c then 2 else aS m k) == 1)
        by_cases e : k = c
        · simp [e]
        · simp [e]
      · refine lS_cong (lS_or M.2.1 (lS_bit hc)) (fun k _ => ?_)
        show _ = ((if k = c then 2 else aS m k) == 2)
        by_cases e : k = c
        · simp [e]
        · simp [e]
      · refine lS_cong M.2.2 (fun k _ => ?_)
        show _ = ((if k = c then 2 else aS m k) == 3)
        by_cases e : k = c
        · subst e; simp [q.1]
        · simp [e]
      · exact z_sub (a := aPr m) (b := 1) (by omega)
    · rw [d4 _ _ _ (show ¬ (0 : Int32) < nI (aPr m) from nI_nlt (a := 0) (b := aPr m) (by omega) (by omega))]
      exact Or.inr ⟨by simp [t], rfl⟩
  · have hf : (decide (aS m c = 1) && !decide (aW m ≤ c / 8)) = false := by
      by_cases q1 : aS m c = 1
      · have : aW m ≤ c / 8 := by omega
        simp [this]
      · simp [q1]
    rw [d3 _ _ _ (by rw [e1]; exact hf)]
    refine Or.inr ⟨?_, rfl⟩
    rw [← Bool.and_assoc, hf]
    rfl
theorem prop_ok (P : pOK p) (I : mOK p m) {c : Nat} (hc : c < 48) (h : propOK p m c = true) : mOK p (propM m c) := by
  have q1 : aS m c = 1 := by unfold propOK at h; simp at h; exact h.1
  have hg : inG (pW p) (pH p) c = true := by
    cases z : inG (pW p) (pH p) c with
    | true => rfl
    | false => have := I.1.2 c hc z; omega
  refine ⟨⟨fun k hk => ?_, fun k hk hn => ?_⟩, ?_, I.2.2.1, I.2.2.2.1, ?_, I.2.2.2.2.2.1, I.2.2.2.2.2.2⟩
  · show (if k = c then 2 else aS m k) ≤ 3
    have := I.1.1 k hk
    split <;> omega
  · show (if k = c then 2 else aS m k) = 0
    by_cases e : k = c
    · subst e; rw [hg] at hn; cases hn
    · rw [if_neg e]; exact I.1.2 k hk hn
  · intro k hk
    have e : dugB p (aS (propM m c)) k = dugB p (aS m) k := by
      refine nsm_cong (fun j hj => ?_)
      show (if (if j = c then 2 else aS m j) ≠ 0 ∧ pK p j = k then pB p j else 0) = (if aS m j ≠ 0 ∧ pK p j = k then pB p j else 0)
      by_cases e : j = c
      · subst e; simp [q1]
      · simp [e]
    rw [e]
    exact I.2.1 k hk
  · show aPr m - 1 ≤ 20
    have := I.2.2.2.2.1
    omega
theorem xpump (P : pOK p) (I : mOK p m) (X : xMine m shift digs props pence lungs wetr raised fell dug prp fal belt sold gone fates) :
    (pumpOK p m = true ∧ ∃ o, f_X3_pumpDry u digs wetr (nI (pH p)) (nI (pC p)) = some (nI 1, o) ∧ xMine (pumpM p m) shift o.1 props pence lungs o.2 raised fell dug prp fal belt sold gone fates) ∨ (pumpOK p m = false ∧ f_X3_pumpDry u digs wetr (nI (pH p)) (nI (pC p)) = some (nI 0, digs, wetr)) := by
  obtain ⟨M, hb, rfl, rfl, rfl, rfl, rfl, rfl, rfl, rfl, hso, hgo, hfa⟩ := X
  have hwH := I.2.2.2.2.2.1
  have hH := P.2.1.2
  have hd := I.2.2.2.1
  have hC := P.2.2.1.2
  unfold f_X3_pumpDry bX3_pumpDry_0 f_X3_crewIsDone bX3_crewIsDone_0 pumpOK
  simp (disch := omega) only [z_lit, z_le, z_lt]
  by_cases q : pH p ≤ aW m
  · refine Or.inr ⟨by simp; omega, ?_⟩
    rw [if_pos q]
  · rw [if_neg q]
    by_cases t : aDg m < pC p
    · refine Or.inl ⟨by simp [t]; omega, (nI (aDg m + 1), nI (pH p)), ?_, M, hb, rfl, rfl, rfl, rfl, rfl, rfl, rfl, rfl, hso, hgo, hfa⟩
      rw [if_pos t, z_b, nI_add]
      exact if_pos rfl
    · refine Or.inr ⟨by simp [t], ?_⟩
      rw [if_neg t, z_b]
      exact if_neg (by decide)
theorem pump_ok (P : pOK p) (I : mOK p m) (h : pumpOK p m = true) : mOK p (pumpM p m) := by
  have q1 : aDg m < pC p := by unfold pumpOK at h; simp at h; exact h.2
  exact ⟨I.1, I.2.1, I.2.2.1, q1, I.2.2.2.2.1, Nat.le_refl _, I.2.2.2.2.2.2⟩
theorem esF_at {T Z : Nat → Nat} {N : Nat → Nat → Nat} {sh : Nat} (bl : Nat → Nat) (f : Nat → Int32) : ∀ i j, esF T Z N sh bl f i j = if j < i ∧ T j = sh then (if esO T Z N sh bl j then nI 1 else nI 2) else f j
  | 0, j => by rw [if_neg (by omega)]; rfl
  | i + 1, j => by
    have ih := esF_at bl f i j (T := T) (Z := Z) (N := N) (sh := sh)
    unfold esF
    by_cases q : T i = sh
    · rw [if_pos q]
      simp only [z_upd]
      by_cases e : j = i
      · subst e
        rw [if_pos (rfl : j = j), if_pos (show j < j + 1 ∧ T j = sh from ⟨by omega, q⟩)]
      · rw [if_neg e, ih]
        have e2 : (j < i + 1) = (j < i) := by rw [eq_iff_iff]; omega
        simp only [e2]
    · rw [if_neg q, ih]
      by_cases e : j = i
      · subst e
        rw [if_neg (by omega), if_neg (fun h => q h.2)]
      · have e2 : (j < i + 1) = (j < i) := by rw [eq_iff_iff]; omega
        simp only [e2]
theorem shift_ok (P : pOK p) (I : mOK p m) (h : aSh m < 200) : mOK p (shiftM p m) := by
  refine ⟨I.1, ?_, ⟨Nat.le_succ_of_le I.2.2.1.1, h⟩, Nat.zero_le _, I.2.2.2.2.1, I.2.2.2.2.2.1, ?_⟩
  · intro k hk
    exact Nat.le_trans (esB_le (pT p) (pZ p) (pN p) (aSh m) (aB m) (pO p) k) (I.2.1 k hk)
  · intro i hi
    obtain ⟨f, h1, h2, h3⟩ := I.2.2.2.2.2.2 i hi
    show ∃ f, f ≤ 2 ∧ esF (pT p) (pZ p) (pN p) (aSh m) (aB m) (aFa m) (pO p) i = nI f ∧ (pT p i < aSh m + 1 ↔ f ≠ 0)
    rw [esF_at]
    by_cases q : pT p i = aSh m
    · rw [if_pos ⟨hi, q⟩]
      cases esO (pT p) (pZ p) (pN p) (aSh m) (aB m) i with
      | true => exact ⟨1, by omega, rfl, by constructor <;> intro _ <;> omega⟩
      | false => exact ⟨2, by omega, rfl, by constructor <;> intro _ <;> omega⟩
    · rw [if_neg (fun h => q h.2)]
      exact ⟨f, h1, h2, by rw [← h3]; omega⟩
theorem xshift (P : pOK p) (I : mOK p m) {a8 a9 a10 a11 : Nat → Int32} (O : ordX (pO p) (pT p) (pZ p) (pN p) a9 a10 a11) (hP : ∀ k, k < 5 → a8 k = nI (pP p k)) (hu : 20 ≤ u) (X : xMine m shift digs props pence lungs wetr raised fell dug prp fal belt sold gone fates) :
    (aSh m < 200 ∧ ∃ o, f_X3_endShift u shift digs pence belt gone fates (nI (pO p)) a8 a9 a10 a11 = some (nI 1, o) ∧ xMine (shiftM p m) o.1 o.2.1 props o.2.2.1 lungs wetr raised fell dug prp fal o.2.2.2.1 sold o.2.2.2.2.1 o.2.2.2.2.2) ∨ (¬ aSh m < 200 ∧ f_X3_endShift u shift digs pence belt gone fates (nI (pO p)) a8 a9 a10 a11 = some (nI 0, shift, digs, pence, belt, gone, fates)) := by
  obtain ⟨M, hb, rfl, rfl, rfl, rfl, rfl, rfl, rfl, rfl, hso, hgo, hfa⟩ := X
  have hs := I.2.2.1.2
  by_cases q : aSh m < 200
  · obtain ⟨b1, b3, e, x1, x3⟩ := x_shift (u := u) (sh := aSh m) (a1 := belt) (a3 := gone) (a4 := fates) (pe := aPe m) (dg := nI (aDg m)) P.2.2.2.2.1 O hP hu (fun k hk => Nat.le_trans (mOK_B P I hk) (by omega)) q hb
    refine Or.inl ⟨q, _, e, M, x1, rfl, rfl, rfl, rfl, rfl, rfl, rfl, rfl, hso, ?_, ?_⟩
    · intro k hk
      show b3 k = _
      rw [x3 k hk]
      show _ = esG (pT p) (pZ p) (pN p) (aSh m) (aB m) (aGo m) (pO p) k
      have cg : ∀ i, esG (pT p) (pZ p) (pN p) (aSh m) (aB m) gone i k = esG (pT p) (pZ p) (pN p) (aSh m) (aB m) (aGo m) i k := by
        intro i
        induction i with
        | zero => exact hgo k hk
        | succ i ih =>
          unfold esG
          split
          · show esG _ _ _ _ _ gone i k + _ = esG _ _ _ _ _ (aGo m) i k + _
            rw [ih]
          · exact ih
      exact cg _
    · intro j hj
      show esF (pT p) (pZ p) (pN p) (aSh m) (aB m) fates (pO p) j = esF (pT p) (pZ p) (pN p) (aSh m) (aB m) (aFa m) (pO p) j
      rw [esF_at, esF_at, hfa j hj]
  · refine Or.inr ⟨q, ?_⟩
    unfold f_X3_endShift bX3_endShift_0
    exact if_neg (nI_nlt (a := aSh m) (b := 200) (by omega) (by omega))
theorem xsell (P : pOK p) (I : mOK p m) {a8 : Nat → Int32} (hP : ∀ k, k < 5 → a8 k = nI (pP p k)) {k n : Nat} (hk : 1 ≤ k ∧ k ≤ 4) (hn : n ≤ 99) (X : xMine m shift digs props pence lungs wetr raised fell dug prp fal belt sold gone fates) :
    (n ≤ aB m k ∧ ∃ o, f_X3_sellBars u pence belt sold a8 (nI k) (nI n) = some (nI 1, o) ∧ xMine (sellM p m k n) shift digs props o.1 lungs wetr raised fell dug prp fal o.2.1 o.2.2 gone fates) ∨ (¬ n ≤ aB m k ∧ f_X3_sellBars u pence belt sold a8 (nI k) (nI n) = some (nI 0, pence, belt, sold)) := by
  obtain ⟨M, hb, rfl, rfl, rfl, rfl, rfl, rfl, rfl, rfl, hso, hgo, hfa⟩ := X
  have hB := mOK_B P I (show k < 5 by omega)
  have em : f_X10_isMusic u (nI k) = some (nI 1) := by
    unfold f_X10_isMusic bX10_isMusic_0
    refine (if_neg (show ¬ nI k < (1 : Int32) from nI_nlt (a := k) (b := 1) (by omega) (by omega))).trans ?_
    exact if_neg (show ¬ (4 : Int32) < nI k from nI_nlt (a := 4) (b := k) (by omega) (by omega))
  unfold f_X3_sellBars bX3_sellBars_0
  rw [em, z_b]
  have d4 : ∀ (Q : Prop) [Decidable Q] (A B : Option (Int32 × Int32 × (Nat → Int32) × (Nat → Int32))), ¬ Q → (if Q then A else B) = B := fun Q _ A B h => if_neg h
  have d3 : ∀ (Q : Prop) [Decidable Q] (A B : Option (Int32 × Int32 × (Nat → Int32) × (Nat → Int32))), Q → (if Q then A else B) = A := fun Q _ A B h => if_pos h
  rw [d4 _ _ _ (show ¬ nI 1 = (0 : Int32) by decide), z_ki (by omega) (by omega), z_cl (by omega), hb k (by omega)]
  by_cases q : n ≤ aB m k
  · rw [d3 _ _ _ (nI_le q (by omega))]
    rw [z_ki (by omega) (by omega), z_ki (by omega) (by omega), z_ki (by omega) (by omega), z_ki (by omega) (by omega), z_ki (by omega) (by omega)]
    refine Or.inl ⟨q, _, rfl, M, ?_, rfl, rfl, rfl, rfl, ?_, rfl, rfl, rfl, ?_, hgo, hfa⟩
    · intro j hj
      show upd belt k (nI (aB m k) - nI n) j = nI (if j = k then aB m j - n else aB m j)
      simp only [z_upd]
      by_cases e : j = k
      · rw [if_pos e, if_pos e, z_sub q, e]
      · rw [if_neg e, if_neg e]; exact hb j hj
    · show aPe m + nI n * a8 k = aPe m + nI (n * pP p k)
      rw [hP k (by omega), pk_mul]
    · intro j hj
      show upd sold k (sold k + nI n) j = if j = k then aSo m j + nI n else aSo m j
      simp only [z_upd]
      by_cases e : j = k
      · rw [if_pos e, if_pos e, e, hso k (by omega)]
      · rw [if_neg e, if_neg e]; exact hso j hj
  · rw [d4 _ _ _ (nI_ge (a := aB m k) (b := n) (by omega) (by omega))]
    exact Or.inr ⟨q, rfl⟩
theorem sell_ok (I : mOK p m) {k n : Nat} : mOK p (sellM p m k n) := by
  refine ⟨I.1, ?_, I.2.2.1, I.2.2.2.1, I.2.2.2.2.1, I.2.2.2.2.2.1, I.2.2.2.2.2.2⟩
  intro j hj
  have := I.2.1 j hj
  show (if j = k then aB m j - n else aB m j) ≤ dugB p (aS m) j
  split <;> omega
end STEPS
