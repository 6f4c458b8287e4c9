/-! THE END OF A SHIFT, the reference's -/
section SH
variable {u O sh : Nat} {T Z P bl : Nat → Nat} {N : Nat → Nat → Nat} {a9 a10 : Nat → Int32}
theorem m_pay (K : ordOK O T Z N) {i : Nat} (hi : i < O) (hle : ∀ k, k < 5 → cnN N i k (Z i) ≤ bl k) {c30 : Int32} {k17 : (Nat → Int32) → (Nat → Int32) → Int32 → Option (Int32 × (Nat → Int32) × (Nat → Int32))} {wt : Nat → Int32} (hw : ∀ k, k < 5 → wt k = nI (cnN N i k (Z i))) {gn : Nat → Int32} :
    ∀ r k, k + r = 5 → ∀ n g, r < n → (∀ j, j < 5 → g (48 + j) = nI (if j < k then bl j - cnN N i j (Z i) else bl j)) → (∀ j, j < 5 → g (58 + j) = if j < k then gn j + nI (cnN N i j (Z i)) else gn j) →
      ∃ g', bX11_next_111 u c30 a9 a10 k17 n g wt (nI i) (nI k) = k17 g' wt (nI (i + 1)) ∧ (∀ j, j < 5 → g' (48 + j) = nI (bl j - cnN N i j (Z i))) ∧ (∀ j, j < 5 → g' (58 + j) = gn j + nI (cnN N i j (Z i))) ∧ ∀ j, (j < 48 ∨ 53 ≤ j) → (j < 58 ∨ 63 ≤ j) → g' j = g j := by
  intro r
  induction r with
  | zero =>
    intro k hk n g hn f1 f2
    obtain ⟨n, rfl⟩ := z_suc hn
    have : k = 5 := by omega
    subst this
    refine ⟨g, ?_, fun j hj => by rw [f1 j hj, if_pos hj], fun j hj => by rw [f2 j hj, if_pos hj], fun _ _ _ => rfl⟩
    rw [bX11_next_111]
    refine (if_pos (by decide)).trans ?_
    unfold bX11_next_158
    have e1 : nI i + (1 : Int32) = nI (i + 1) := nI_1 i
    rw [e1]
  | succ r ih =>
    intro k hk n g hn f1 f2
    obtain ⟨n, rfl⟩ := z_suc hn
    have e1 : nI k + (1 : Int32) = nI (k + 1) := nI_1 k
    have e48 : (48 : Int32) + nI k = nI (48 + k) := nI_add 48 k
    have e58 : (58 : Int32) + nI k = nI (58 + k) := nI_add 58 k
    have g1k : g (48 + k) = nI (bl k) := by rw [f1 k (by omega), if_neg (by omega)]
    have g2k : g (58 + k) = gn k := by rw [f2 k (by omega), if_neg (by omega)]
    obtain ⟨g', e, x1, x2, x3⟩ := ih (k + 1) (by omega) n (upd (upd g (48 + k) (g (48 + k) - wt k)) (58 + k) ((upd g (48 + k) (g (48 + k) - wt k)) (58 + k) + wt k)) (by omega) (fun j hj => by
      simp only [z_upd]
      rw [if_neg (by omega)]
      by_cases z : j = k
      · rw [if_pos (by omega), g1k, hw k (by omega), z_sub (hle k (by omega)), if_pos (by omega), z]
      · rw [if_neg (by omega), f1 j hj]
        by_cases y : j < k
        · rw [if_pos y, if_pos (by omega)]
        · rw [if_neg y, if_neg (by omega)]) (fun j hj => by
      simp only [z_upd]
      by_cases z : j = k
      · rw [if_pos (by omega), if_neg (by omega), g2k, hw k (by omega), if_pos (by omega), z]
      · rw [if_neg (by omega), if_neg (by omega), f2 j hj]
        by_cases y : j < k
        · rw [if_pos y, if_pos (by omega)]
        · rw [if_neg y, if_neg (by omega)])
    refine ⟨g', ?_, x1, x2, ?_⟩
    · rw [bX11_next_111]
      refine (if_neg (show ¬ (5 : Int32) ≤ nI k from nI_ge (a := k) (b := 5) (by omega) (by omega))).trans ?_
      rw [e48, e58, z_ki (by omega) (by omega), z_ki (by omega) (by omega), z_ki (by omega) (by omega), z_ki (by omega) (by omega), z_ki (by omega) (by omega), z_ki (by omega) (by omega), z_cl (by omega), z_cl (by omega), z_cl (by omega), e1]
      exact e
    · intro j h1 h2
      rw [x3 j h1 h2]
      simp only [z_upd]
      rw [if_neg (by omega), if_neg (by omega)]
/-- what the end of a shift makes of the reference's row -/
def shR (O : Nat) (T Z : Nat → Nat) (N : Nat → Nat → Nat) (P : Nat → Nat) (sh : Nat) (bl : Nat → Nat) (g : Nat → Int32) (i : Nat) (d : Nat → Int32) : Prop :=
  (∀ k, k < 5 → d (48 + k) = nI (esB T Z N sh bl i k)) ∧ (∀ k, k < 5 → d (58 + k) = esG T Z N sh bl (fun k => g (58 + k)) i k) ∧ (∀ j, j < 6 → d (63 + j) = esF T Z N sh bl (fun j => g (63 + j)) i j) ∧ d 72 = esP T Z N P sh bl (g 72) i ∧ ∀ j, (j < 48 ∨ (53 ≤ j ∧ j < 58) ∨ j = 71 ∨ 73 ≤ j) → d j = g j
theorem m_next (K : ordOK O T Z N) (X : ordM O T Z N a10) (hP : ∀ k, k < 5 → a9 k = nI (P k)) (hu : 20 ≤ u) (hb : ∀ k, k < 5 → bl k ≤ 1000000) (hs : sh < 200) {g wt : Nat → Int32} (hsh : g 69 = nI sh) (h1 : ∀ k, k < 5 → g (48 + k) = nI (bl k)) :
    ∃ d w, f_X11_next u (nI O) a9 a10 g wt = some (nI 1, d, w) ∧ shR O T Z N P sh bl g O d ∧ d 69 = nI (sh + 1) ∧ d 70 = nI 0 := by
  have hO := K.1
  have key : ∀ r i, i + r = O → ∀ n g1 wt, r < n → shR O T Z N P sh bl g i g1 → g1 69 = nI sh →
      ∃ d w, bX11_next_17 u (nI O) a9 a10 n g1 wt (nI i) = some (nI 1, d, w) ∧ shR O T Z N P sh bl g O d ∧ d 69 = nI (sh + 1) ∧ d 70 = nI 0 := by
    intro r
    induction r with
    | zero =>
      intro i hi n g1 wt hn f fs
      obtain ⟨n, rfl⟩ := z_suc hn
      have : i = O := by omega
      subst this
      obtain ⟨f1, f2, f3, f4, f5⟩ := f
      refine ⟨upd (upd g1 69 (g1 69 + (1 : Int32))) 70 (0 : Int32), wt, ?_, ⟨?_, ?_, ?_, ?_, ?_⟩, ?_, ?_⟩
      · rw [bX11_next_17]
        exact if_pos (nI_le (Nat.le_refl _) (by omega))
      · intro k hk; simp only [z_upd]; rw [if_neg (by omega), if_neg (by omega)]; exact f1 k hk
      · intro k hk; simp only [z_upd]; rw [if_neg (by omega), if_neg (by omega)]; exact f2 k hk
      · intro k hk; simp only [z_upd]; rw [if_neg (by omega), if_neg (by omega)]; exact f3 k hk
      · simp only [z_upd]; rw [if_neg (by omega), if_neg (by omega)]; exact f4
      · intro j hj; simp only [z_upd]; rw [if_neg (by omega), if_neg (by omega)]; exact f5 j hj
      · simp only [z_upd]; rw [if_neg (by omega), if_pos trivial, fs]; exact nI_1 sh
      · simp only [z_upd]; rw [if_pos trivial]; rfl
    | succ r ih =>
      intro i hi n g1 wt hn f fs
      obtain ⟨n, rfl⟩ := z_suc hn
      obtain ⟨f1, f2, f3, f4, f5⟩ := f
      have e1 : nI i + (1 : Int32) = nI (i + 1) := nI_1 i
      have e10 : (10 : Int32) * nI i = nI (10 * i) := pk_mul 10 i
      have e63 : (63 : Int32) + nI i = nI (63 + i) := nI_add 63 i
      have hT := K.2.1 i (by omega)
      have eB : esB T Z N sh bl (i + 1) = if T i = sh ∧ lck (fun k => cnN N i k (Z i)) (esB T Z N sh bl i) = 0 then (fun k => esB T Z N sh bl i k - cnN N i k (Z i)) else esB T Z N sh bl i := rfl
      have eP : esP T Z N P sh bl (g 72) (i + 1) = if esO T Z N sh bl i then esP T Z N P sh bl (g 72) i + nI (nsm (fun j => P (N i j)) (Z i)) else esP T Z N P sh bl (g 72) i := rfl
      have eG : esG T Z N sh bl (fun k => g (58 + k)) (i + 1) = if esO T Z N sh bl i then (fun k => esG T Z N sh bl (fun k => g (58 + k)) i k + nI (cnN N i k (Z i))) else esG T Z N sh bl (fun k => g (58 + k)) i := rfl
      have eF : esF T Z N sh bl (fun j => g (63 + j)) (i + 1) = if T i = sh then upd (esF T Z N sh bl (fun j => g (63 + j)) i) i (if esO T Z N sh bl i then nI 1 else nI 2) else esF T Z N sh bl (fun j => g (63 + j)) i := rfl
      suffices st : ∃ g2 w2, shR O T Z N P sh bl g (i + 1) g2 ∧ g2 69 = nI sh ∧ bX11_next_17 u (nI O) a9 a10 (n + 1) g1 wt (nI i) = bX11_next_17 u (nI O) a9 a10 n g2 w2 (nI (i + 1)) by
        obtain ⟨g2, w2, s1, s2, s3⟩ := st
        rw [s3]
        exact ih (i + 1) (by omega) n g2 w2 (by omega) s1 s2
      rw [bX11_next_17]
      have e0 : ∀ X Y : Option (Int32 × (Nat → Int32) × (Nat → Int32)), (if nI O ≤ nI i then X else Y) = Y := fun X Y => if_neg (nI_ge (a := i) (b := O) (by omega) (by omega))
      rw [e0, e10, z_ki (by omega) (by omega), z_cl (by omega), X.1 i (by omega), fs]
      unfold shR
      rw [eB, eP, eG, eF]
      by_cases q : T i = sh
      · obtain ⟨w1, ew1, hw1⟩ := m_wants (u := u) hu wt
        obtain ⟨w2, ew2, hw2⟩ := m_adds (wt := fun _ => 0) (g := w1) K X hu (show i < O by omega) hw1
        have hcn : ∀ k, cnN N i k (Z i) ≤ 8 := fun k => by have := cnN_le N i k (Z i); omega
        have hbi : ∀ k, k < 5 → esB T Z N sh bl i k ≤ 1000000 := fun k hk => Nat.le_trans (esB_le T Z N sh bl i k) (hb k hk)
        have hw3 : ∀ k, k < 5 → w2 k = nI (cnN N i k (Z i)) := fun k hk => by rw [hw2 k hk, Nat.zero_add]
        have el := m_lack (u := u) (a24 := w2) (a21 := g1) hu (wt := fun k => cnN N i k (Z i)) (fun k _ => by have := hcn k; show cnN N i k (Z i) ≤ 1000; omega) hbi hw3 f1
        have e2 : ∀ X Y : Option (Int32 × (Nat → Int32) × (Nat → Int32)), (if nI (T i) = nI sh then X else Y) = X := fun X Y => if_pos (by rw [q])
        rw [e2, ew1, z_b, ew2, z_b, el, z_b]
        have hl := lck_le (fun k => cnN N i k (Z i)) (esB T Z N sh bl i) (b := 8) (fun k _ => hcn k)
        by_cases y : lck (fun k => cnN N i k (Z i)) (esB T Z N sh bl i) = 0
        · have eO : esO T Z N sh bl i = true := by unfold esO; simp [q, y]
          simp only [y, q, eO, if_true, and_self]
          have hle : ∀ k, k < 5 → cnN N i k (Z i) ≤ esB T Z N sh bl i k := fun k hk => lck_0 y hk
          obtain ⟨g', ep, x1, x2, x3⟩ := m_pay (u := u) (a9 := a9) (a10 := a10) (c30 := nI O) (k17 := bX11_next_17 u (nI O) a9 a10 n) K (show i < O by omega) hle hw3 (gn := fun k => esG T Z N sh bl (fun k => g (58 + k)) i k) 5 0 rfl u (upd (upd g1 (63 + i) (1 : Int32)) 72 ((upd g1 (63 + i) (1 : Int32)) 72 + nI (nsm (fun j => P (N i j)) (Z i)))) (by omega) (fun j hj => by
            simp only [z_upd]
            rw [if_neg (by omega), if_neg (by omega), if_neg (by omega)]
            exact f1 j hj) (fun j hj => by
            simp only [z_upd]
            rw [if_neg (by omega), if_neg (by omega), if_neg (by omega)]
            exact f2 j hj)
          refine ⟨g', w2, ⟨fun k hk => x1 k hk, fun k hk => x2 k hk, ?_, ?_, ?_⟩, ?_, ?_⟩
          · intro j hj
            rw [x3 (63 + j) (by omega) (by omega)]
            simp only [z_upd]
            rw [if_neg (by omega)]
            by_cases z : j = i
            · rw [if_pos (by omega), if_pos z]; rfl
            · rw [if_neg (by omega), if_neg z]; exact f3 j hj
          · rw [x3 72 (by omega) (by omega)]
            simp only [z_upd]
            rw [if_pos trivial, if_neg (by omega), f4]
          · intro j hj
            rw [x3 j (by omega) (by omega)]
            simp only [z_upd]
            rw [if_neg (by omega), if_neg (by omega)]
            exact f5 j hj
          · rw [x3 69 (by omega) (by omega)]
            simp only [z_upd]
            rw [if_neg (by omega), if_neg (by omega)]
            exact fs
          · refine (if_pos (show nI 0 = (0 : Int32) from rfl)).trans ?_
            unfold bX11_next_68
            refine (if_neg (by decide)).trans ?_
            unfold bX11_next_86
            rw [e63, z_ki (by omega) (by omega), z_cl (by omega)]
            refine (if_neg (by decide)).trans ?_
            rw [m_worth K X hP hu (show i < O by omega), z_b]
            exact ep
        · have eO : esO T Z N sh bl i = false := by unfold esO; simp [y]
          simp only [y, q, eO, if_true, if_false, and_false, Bool.false_eq_true]
          refine ⟨upd g1 (63 + i) (2 : Int32), w2, ⟨?_, ?_, ?_, ?_, ?_⟩, ?_, ?_⟩
          · intro k hk; simp only [z_upd]; rw [if_neg (by omega)]; exact f1 k hk
          · intro k hk; simp only [z_upd]; rw [if_neg (by omega)]; exact f2 k hk
          · intro j hj
            simp only [z_upd]
            by_cases z : j = i
            · rw [if_pos (by omega), if_pos z]; rfl
            · rw [if_neg (by omega), if_neg z]; exact f3 j hj
          · simp only [z_upd]; rw [if_neg (by omega)]; exact f4
          · intro j hj; simp only [z_upd]; rw [if_neg (by omega)]; exact f5 j hj
          · simp only [z_upd]; rw [if_neg (by omega)]; exact fs
          · refine (if_neg (show ¬ nI (lck (fun k => cnN N i k (Z i)) (esB T Z N sh bl i)) = (0 : Int32) from fun h => y ((nI_eq (b := 0) (by omega) (by omega)).mp h))).trans ?_
            unfold bX11_next_68
            refine (if_pos rfl).trans ?_
            unfold bX11_next_86
            rw [e63, z_ki (by omega) (by omega), z_cl (by omega)]
            refine (if_pos rfl).trans ?_
            unfold bX11_next_158
            rw [e1]
      · have eO : esO T Z N sh bl i = false := by unfold esO; simp [q]
        simp only [q, eO, if_false, false_and, Bool.false_eq_true]
        refine ⟨g1, wt, ⟨f1, f2, f3, f4, f5⟩, fs, ?_⟩
        refine (if_neg (show ¬ nI (T i) = nI sh from fun h => q ((nI_eq (by omega) (by omega)).mp h))).trans ?_
        unfold bX11_next_158
        rw [e1]
  unfold f_X11_next bX11_next_0
  obtain ⟨d, w, e, x⟩ := key O 0 (by omega) u g wt (by omega) ⟨h1, fun _ _ => rfl, fun _ _ => rfl, rfl, fun _ _ => rfl⟩ hsh
  refine ⟨d, w, ?_, x⟩
  rw [hsh]
  exact (if_neg (show ¬ nI sh = (200 : Int32) from fun h => by have := (nI_eq (b := 200) (by omega) (by omega)).mp h; omega)).trans e
end SH
