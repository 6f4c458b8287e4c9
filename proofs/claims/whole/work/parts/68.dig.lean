/-! FALLS, HARM, DIGGING: the class and the reference against one telling -/
def lawX (len : Int32) (cod : Nat → Int32) (LV : (Nat → Int32) → Int32) : Prop := ∃ (q o : Nat → Nat) (n : Nat), 0 < n ∧ cOK q o n ∧ len = nI n ∧ (∀ k, k < n → cod k = cnum (q k) (o k)) ∧ ∀ fa, LV fa = evs q o fa n 0
def lawM (w : Nat) (m13 m14 m15 : Nat → Int32) (LV : (Nat → Int32) → Int32) : Prop := (m15 w = nI 0 ∧ ∀ fa, LV fa = if w = 0 then fa 0 - nI 2 else fa 6) ∨ ∃ (q o : Nat → Nat) (n : Nat), 0 < n ∧ cOK q o n ∧ (∀ k, k < n → m13 (150 * w + k) = nI (q k)) ∧ (∀ k, k < n → m14 (150 * w + k) = nI (o k)) ∧ m15 w = nI n ∧ ∀ fa, LV fa = evs q o fa n 0
def lcong (LV : (Nat → Int32) → Int32) : Prop := ∀ fa fb : Nat → Int32, (∀ i, i < 8 → fa i = fb i) → LV fa = LV fb
theorem evs_cong {q o : Nat → Nat} {n : Nat} {fa fb : Nat → Int32} (C : cOK q o n) (h : ∀ i, i < 8 → fa i = fb i) : ∀ k, k ≤ n → evs q o fa k = evs q o fb k
  | 0, _ => rfl
  | k + 1, hk => by
    have ih := evs_cong C h k (by omega)
    have c := C.2 k (by omega)
    unfold evs
    rw [ih]
    by_cases r : q k = 0
    · rw [if_pos r, if_pos r]
    · rw [if_neg r, if_neg r]
      by_cases r1 : q k = 1
      · rw [if_pos r1, if_pos r1, h _ (c.2.2.1 r1)]
      · rw [if_neg r1, if_neg r1]
theorem lawX_cong {len : Int32} {cod : Nat → Int32} {LV : (Nat → Int32) → Int32} (L : lawX len cod LV) : lcong LV := by
  obtain ⟨q, o, n, h0, C, -, -, hv⟩ := L
  intro fa fb h
  rw [hv, hv, evs_cong C h n (Nat.le_refl n)]
theorem x_val {u : Nat} {sh : Int32} {dug prp : Int64} {a6 a7 cod fa : Nat → Int32} {len cl lu : Int32} {LV : (Nat → Int32) → Int32} (L : lawX len cod LV) (hs : ∀ i, i < 8 → f_X3_sight u sh dug prp a6 a7 (-nI (i + 1)) cl lu = some (fa i)) (hu : 160 ≤ u) (a : Nat → Int32) :
    ∃ a', f_X1_value_F u sh dug prp a6 a7 len cod a cl lu = some (LV fa, a') := by
  obtain ⟨q, o, n, h0, C, rfl, h1, hv⟩ := L
  have hn := C.1
  rw [hv]
  exact ev_x C h1 hs (hts_pos C h0) n 0 (by omega) u a (by omega) (fun i hi => absurd hi (Nat.not_lt_zero i))
theorem m_val {u w : Nat} {m13 m14 m15 fa : Nat → Int32} {LV : (Nat → Int32) → Int32} (hw : w < 2) (L : lawM w m13 m14 m15 LV) (hu : 160 ≤ u) (b : Nat → Int32) :
    (m15 w = nI 0 ∧ LV fa = if w = 0 then fa 0 - nI 2 else fa 6) ∨ (¬ m15 w = nI 0 ∧ ∃ b', f_X11_valueOf u m13 m14 m15 b fa (nI w) = some (LV fa, b')) := by
  rcases L with ⟨h1, h2⟩ | ⟨q, o, n, h0, C, h1, h2, h3, hv⟩
  · exact Or.inl ⟨h1, h2 fa⟩
  · have hn := C.1
    refine Or.inr ⟨?_, ?_⟩
    · rw [h3, z_eq (by omega) (by omega)]; omega
    · rw [hv]
      have e := ev_m (u := u) (fa := fa) hw C h1 h2 h3 (hts_pos C h0) n 0 (by omega) u b (by omega) (fun i hi => absurd hi (Nat.not_lt_zero i))
      unfold f_X11_valueOf bX11_valueOf_0
      have e2 : (150 : Int32) * nI w = nI (150 * w + 0) := pk_mul 150 w
      rw [e2]
      exact e
def fav (S K B : Nat → Nat) (sh ac c : Nat) : Nat → Int32 := fun i => nI (fct S K B sh ac c i)
def fl (LF : (Nat → Int32) → Int32) (S K B : Nat → Nat) (sh c : Nat) : Bool := decide (S c = 1) && decide (nI 0 < LF (fav S K B sh (wd S c) c))
def hrm (LH : (Nat → Int32) → Int32) (S K B : Nat → Nat) (sh c : Nat) : Int32 := if nI 0 ≤ LH (fav S K B sh 1 c) then (if LH (fav S K B sh 1 c) ≤ nI 99 then LH (fav S K B sh 1 c) else nI 99) else nI 0
/-- kinds and bars as both have them -/
def kbA (a b : Nat → Int32) (K B : Nat → Nat) : Prop := (∀ c, c < 48 → a c = nI (K c)) ∧ ∀ c, c < 48 → b c = nI (B c)
section CLS
variable {u sh : Nat} {dug prp : Int64} {a6 a7 c13 : Nat → Int32} {S K B : Nat → Nat} {len : Int32} {LV : (Nat → Int32) → Int32}
theorem x_falls (h1 : lS dug (fun c => S c == 1)) (h2 : lS prp (fun c => S c == 2)) (E : kbA a6 a7 K B) (L : lawX len c13 LV) (hu : 160 ≤ u) {c : Nat} (hc : c < 48) (a : Nat → Int32) :
    ∃ a', f_X3_wouldFall u (nI sh) dug prp a6 a7 len c13 a (nI c) = some (zB (fl LV S K B sh c), a') := by
  unfold f_X3_wouldFall bX3_wouldFall_0 fl
  simp only [z_lit, lb_t (show c < 64 by omega), lS_get h1 hc]
  by_cases q : S c = 1
  · rw [if_neg (by simp [q])]
    obtain ⟨a', e⟩ := x_val (fa := fav S K B sh (wd S c) c) (cl := nI c) (lu := nI 0) L (fun i hi => by
      have := x_sight (u := u) (sh := sh) h1 h2 E.1 E.2 false hc hi (by omega)
      exact this) hu a
    rw [e, z_b]
    by_cases r : LV (fav S K B sh (wd S c) c) ≤ nI 0
    · refine ⟨a', (if_pos r).trans ?_⟩
      have : ¬ nI 0 < LV (fav S K B sh (wd S c) c) := fun h => (fa_of_lt h).2.1 r
      simp [q, this]
      rfl
    · refine ⟨a', (if_neg r).trans ?_⟩
      have : nI 0 < LV (fav S K B sh (wd S c) c) := fa_of_nle r
      simp [q, this]
      rfl
  · refine ⟨a, ?_⟩
    rw [if_pos (by simp [q])]
    simp [q]
    rfl
theorem x_doomed (h1 : lS dug (fun c => S c == 1)) (h2 : lS prp (fun c => S c == 2)) (E : kbA a6 a7 K B) (L : lawX len c13 LV) (hu : 160 ≤ u) (a : Nat → Int32) :
    ∃ r a', f_X3_doomedCells u (nI sh) dug prp a6 a7 len c13 a = some (r, a') ∧ lS r (fl LV S K B sh) := by
  have key : ∀ j k, k + j = 48 → ∀ n a m, j < n → (∀ i, i < 64 → lb m i = (decide (i < k) && fl LV S K B sh i)) → ∃ r a', bX3_doomedCells_4 u (nI sh) dug prp a6 a7 len c13 n a m (nI k) = some (r, a') ∧ lS r (fl LV S K B sh) := by
    intro j
    induction j with
    | zero =>
      intro k hk n a m hn hm
      obtain ⟨n, rfl⟩ := z_suc hn
      rw [bX3_doomedCells_4]
      simp (disch := omega) only [z_lit, z_le]
      rw [if_pos (by omega)]
      refine ⟨m, a, rfl, fun i hi => ?_⟩
      rw [hm i hi, show k = 48 by omega]
    | succ j ih =>
      intro k hk n a m hn hm
      obtain ⟨n, rfl⟩ := z_suc hn
      rw [bX3_doomedCells_4]
      unfold bX3_doomedCells_42
      simp (disch := omega) only [z_lit, z_le, lb_t, lS_get h1, nI_add]
      rw [if_neg (show ¬ 48 ≤ k by omega)]
      have skip : fl LV S K B sh k = false → ∀ i, i < 64 → lb m i = (decide (i < k + 1) && fl LV S K B sh i) := by
        intro z i hi
        rw [hm i hi]
        by_cases e : i = k
        · subst e; rw [z]; simp
        · congr 1; simp; omega
      by_cases q : S k = 1
      · rw [if_neg (by simp [q])]
        obtain ⟨a', e⟩ := x_val (fa := fav S K B sh (wd S k) k) (cl := nI k) (lu := nI 0) L (fun i hi => by
          have := x_sight (u := u) (sh := sh) h1 h2 E.1 E.2 false (show k < 48 by omega) hi (by omega)
          exact this) hu a
        rw [e, z_b]
        by_cases r : LV (fav S K B sh (wd S k) k) ≤ nI 0
        · dsimp only
          rw [if_pos r]
          have : ¬ nI 0 < LV (fav S K B sh (wd S k) k) := fun h => (fa_of_lt h).2.1 r
          exact ih (k + 1) (by omega) n a' m (by omega) (skip (by unfold fl; simp [this]))
        · dsimp only
          rw [if_neg r]
          have t : nI 0 < LV (fav S K B sh (wd S k) k) := fa_of_nle r
          refine ih (k + 1) (by omega) n a' _ (by omega) (fun i hi => ?_)
          rw [lb_or, hm i hi, lb_bit (by omega) hi]
          by_cases e : i = k
          · subst e
            unfold fl
            simp [q, t]
          · simp [e, show (i < k + 1) = (i < k) by rw [eq_iff_iff]; omega]
      · rw [if_pos (by simp [q])]
        exact ih (k + 1) (by omega) n a m (by omega) (skip (by unfold fl; simp [q]))
  exact key 48 0 rfl u a 0 (by omega) (fun i _ => by rw [lb_0]; simp)
theorem x_harm (h1 : lS dug (fun c => S c == 1)) (h2 : lS prp (fun c => S c == 2)) (E : kbA a6 a7 K B) (L : lawX len c13 LV) (hu : 160 ≤ u) {c : Nat} (hc : c < 48) (a : Nat → Int32) :
    ∃ a', f_X3_harmOf u (nI sh) dug prp a6 a7 len c13 a (nI c) = some (hrm LV S K B sh c, a') := by
  unfold f_X3_harmOf bX3_harmOf_0 hrm
  rw [vH]
  obtain ⟨a', e⟩ := x_val (fa := fav S K B sh 1 c) (cl := nI c) (lu := (1 : Int32)) L (fun i hi => by
    have := x_sight (u := u) (sh := sh) h1 h2 E.1 E.2 true hc hi (by omega)
    exact this) hu a
  rw [e, z_b]
  simp only [z_lit]
  refine ⟨a', ?_⟩
  by_cases r : nI 0 ≤ LV (fav S K B sh 1 c)
  · refine (if_pos r).trans ?_
    rw [if_pos r]
    by_cases t : LV (fav S K B sh 1 c) ≤ nI 99
    · refine (if_pos t).trans ?_
      rw [if_pos t]
    · refine (if_neg t).trans ?_
      rw [if_neg t]
  · refine (if_neg r).trans ?_
    rw [if_neg r]
end CLS
section REF
variable {u W H sh : Nat} {a7 a8 m13 m14 m15 a21 : Nat → Int32} {S K B : Nat → Nat} {LF LH : (Nat → Int32) → Int32}
theorem m_wide (hW : W ≤ 8) (A : sA a21 S) (St : stOK W H S) {c : Nat} (hc : c < 48) (q : S c = 1) (hu : 10 ≤ u) : f_X11_wideAt u (nI W) a21 (nI c) = some (nI (wd S c)) := by
  have e0 : c - c / 8 * 8 = c % 8 := by omega
  have R : ∀ k x, x + k = 8 → ∀ n m, k < n → bX11_wideAt_46 u (nI W) a21 n (nI c) (nI m) (nI x) = some (nI (m + runR (rowp S (c / 8)) k x)) := by
    intro k
    induction k with
    | zero =>
      intro x hx n m hn
      obtain ⟨n, rfl⟩ := z_suc hn
      rw [bX11_wideAt_46]
      simp (disch := omega) only [z_le]
      rw [if_pos (by omega)]
      rfl
    | succ k ih =>
      intro x hx n m hn
      obtain ⟨n, rfl⟩ := z_suc hn
      rw [bX11_wideAt_46]
      have e := A (8 * (c / 8) + x) (by omega)
      have e3 := St.1 (8 * (c / 8) + x) (by omega)
      simp (disch := omega) only [z_lit, z_le, z_div, pk_mul, z_sub, nI_add, e0, show c - c % 8 + x = 8 * (c / 8) + x by omega, z_ki, z_cl, e, z_eq]
      by_cases w : W ≤ x
      · rw [if_pos w]
        have z : S (8 * (c / 8) + x) = 0 := St.2 _ (by omega) (by
          unfold inG
          rw [show (8 * (c / 8) + x) % 8 = x by omega]
          simp [show ¬ x < W by omega])
        simp [runR, rowp, z]
      · rw [if_neg w]
        by_cases z : S (8 * (c / 8) + x) = 1
        · rw [if_pos z, ih (x + 1) (by omega) n (m + 1) (by omega)]
          simp [runR, rowp, z]
          exact congrArg nI (by omega)
        · rw [if_neg z]
          simp [runR, rowp, z]
  have L : ∀ x, x ≤ 8 → ∀ n m, x < n → bX11_wideAt_9 u (nI W) a21 n (nI c) (nI m) (nI x - nI 1) = bX11_wideAt_39 u (nI W) a21 (nI c) (nI (m + runL (rowp S (c / 8)) x)) := by
    intro x
    induction x with
    | zero =>
      intro _ n m hn
      obtain ⟨n, rfl⟩ := z_suc hn
      rw [bX11_wideAt_9]
      refine (if_pos (show nI 0 - nI 1 < nI 0 by decide)).trans ?_
      rfl
    | succ x ih =>
      intro hx n m hn
      obtain ⟨n, rfl⟩ := z_suc hn
      rw [z_ps, bX11_wideAt_9]
      have e := A (8 * (c / 8) + x) (by omega)
      have e3 := St.1 (8 * (c / 8) + x) (by omega)
      simp (disch := omega) only [z_lit, z_lt, z_div, pk_mul, z_sub, nI_add, e0, show c - c % 8 + x = 8 * (c / 8) + x by omega, z_ki, z_cl, e, z_eq, z_an]
      rw [if_neg (show ¬ x < 0 by omega)]
      by_cases z : S (8 * (c / 8) + x) = 1
      · rw [if_pos z, ih (by omega) n (m + 1) (by omega)]
        simp [runL, rowp, z]
        exact congrArg (fun t => bX11_wideAt_39 u (nI W) a21 (nI c) (nI t)) (by omega)
      · rw [if_neg z]
        simp [runL, rowp, z]
  unfold f_X11_wideAt bX11_wideAt_0 wd
  simp (disch := omega) only [z_lit, z_div, pk_mul, z_sub, e0]
  rw [if_pos q, L (c % 8) (by omega) u 1 (by omega)]
  unfold bX11_wideAt_39
  simp (disch := omega) only [z_lit, z_div, pk_mul, z_sub, e0, nI_add]
  rw [R (7 - c % 8) (c % 8 + 1) (by omega) u _ (by omega)]
theorem m_falls (hW : W ≤ 8) (hH : H ≤ 6) (A : sA a21 S) (St : stOK W H S) (E : kbA a7 a8 K B) (hsh : a21 69 = nI sh) (L : lawM 0 m13 m14 m15 LF) (hc' : lcong LF) (hu : 160 ≤ u) {c : Nat} (hc : c < 48) (b16 b17 : Nat → Int32) :
    ∃ d16 d17, f_X11_isFalling u (nI W) (nI H) a7 a8 m13 m14 m15 b16 b17 a21 (nI c) = some (zB (fl LF S K B sh c), d16, d17) := by
  unfold f_X11_isFalling bX11_isFalling_0 bX11_isFalling_47 fl
  have e3 := St.1 c hc
  simp (disch := omega) only [z_lit, z_ki, z_cl, A c hc, z_eq]
  by_cases q : S c = 1
  · rw [if_pos q, m_wide hW A St hc q (by omega), z_b]
    obtain ⟨fa, e, hf⟩ := m_facts (u := u) (a17 := b17) (ac := wd S c) hW hH A St E.1 E.2 hsh hc
    rw [e, z_b]
    have hl : LF fa = LF (fav S K B sh (wd S c) c) := hc' _ _ hf
    have fin : ∀ g : Nat → Int32, ∃ d16 d17 : Nat → Int32, (if LF fa ≤ nI 0 then some (nI 0, g, fa) else some (nI 1, g, fa)) = some (zB (decide (S c = 1) && decide (nI 0 < LF (fav S K B sh (wd S c) c))), d16, d17) := by
      intro g
      rw [hl]
      by_cases r : LF (fav S K B sh (wd S c) c) ≤ nI 0
      · have : ¬ nI 0 < LF (fav S K B sh (wd S c) c) := fun h => (fa_of_lt h).2.1 r
        exact ⟨g, fa, by rw [if_pos r]; simp [q, this]; rfl⟩
      · have : nI 0 < LF (fav S K B sh (wd S c) c) := fa_of_nle r
        exact ⟨g, fa, by rw [if_neg r]; simp [q, this]; rfl⟩
    rcases m_val (fa := fa) (by decide) L hu b16 with ⟨z, z2⟩ | ⟨z, b', z2⟩
    · obtain ⟨d16, d17, g⟩ := fin b16
      refine ⟨d16, d17, (if_pos z).trans ?_⟩
      rw [if_pos rfl] at z2
      rw [z2] at g
      exact g
    · obtain ⟨d16, d17, g⟩ := fin b'
      refine ⟨d16, d17, (if_neg z).trans ?_⟩
      rw [z2, z_b]
      exact g
  · rw [if_neg q]
    exact ⟨b16, b17, by simp [q]; rfl⟩
theorem m_harm (hW : W ≤ 8) (hH : H ≤ 6) (A : sA a21 S) (St : stOK W H S) (E : kbA a7 a8 K B) (hsh : a21 69 = nI sh) (L : lawM 1 m13 m14 m15 LH) (hc' : lcong LH) (hu : 160 ≤ u) {c : Nat} (hc : c < 48) (b16 b17 : Nat → Int32) :
    ∃ d16 d17, f_X11_harmOf u (nI W) (nI H) a7 a8 m13 m14 m15 b16 b17 a21 (nI c) = some (hrm LH S K B sh c, d16, d17) := by
  unfold f_X11_harmOf bX11_harmOf_0 bX11_harmOf_30 hrm
  obtain ⟨fa, e, hf⟩ := m_facts (u := u) (a17 := b17) (ac := 1) hW hH A St E.1 E.2 hsh hc
  have e' : f_X11_findFacts u (nI W) (nI H) a7 a8 b17 a21 (nI c) (1 : Int32) = some fa := e
  rw [e', z_b]
  have hl : LH fa = LH (fav S K B sh 1 c) := hc' _ _ hf
  have fin : ∀ g : Nat → Int32, ∃ d16 d17 : Nat → Int32, (if nI 0 ≤ LH fa then (if LH fa ≤ nI 99 then some (LH fa, g, fa) else some (nI 99, g, fa)) else some (nI 0, g, fa)) = some (if nI 0 ≤ LH (fav S K B sh 1 c) then (if LH (fav S K B sh 1 c) ≤ nI 99 then LH (fav S K B sh 1 c) else nI 99) else nI 0, d16, d17) := by
    intro g
    rw [hl]
    refine ⟨g, fa, ?_⟩
    by_cases r : nI 0 ≤ LH (fav S K B sh 1 c)
    · rw [if_pos r, if_pos r]
      by_cases t : LH (fav S K B sh 1 c) ≤ nI 99
      · rw [if_pos t, if_pos t]
      · rw [if_neg t, if_neg t]
    · rw [if_neg r, if_neg r]
  rcases m_val (fa := fa) (w := 1) (by decide) L hu b16 with ⟨z, z2⟩ | ⟨z, b', z2⟩
  · obtain ⟨d16, d17, g⟩ := fin b16
    refine ⟨d16, d17, (if_pos z).trans ?_⟩
    rw [if_neg (by decide)] at z2
    rw [← z2]
    exact g
  · obtain ⟨d16, d17, g⟩ := fin b'
    refine ⟨d16, d17, (if_neg z).trans ?_⟩
    have z3 : f_X11_valueOf u m13 m14 m15 b16 fa (1 : Int32) = some (LH fa, b') := z2
    rw [z3, z_b]
    exact g
end REF
