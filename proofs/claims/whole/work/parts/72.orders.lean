/-! ORDERS: O of them, T the shifts, Z the sizes, N the notes, P the prices -/
def ordOK (O : Nat) (T Z : Nat → Nat) (N : Nat → Nat → Nat) : Prop := O ≤ 6 ∧ (∀ i, i < O → 1 ≤ T i ∧ T i ≤ 60 ∧ 1 ≤ Z i ∧ Z i ≤ 8) ∧ ∀ i j, i < O → j < Z i → 1 ≤ N i j ∧ N i j ≤ 4
def ordX (O : Nat) (T Z : Nat → Nat) (N : Nat → Nat → Nat) (a9 a10 a11 : Nat → Int32) : Prop := (∀ i, i < O → a9 i = nI (T i)) ∧ (∀ i, i < O → a10 i = nI (Z i)) ∧ ∀ i j, i < O → j < Z i → a11 (8 * i + j) = nI (N i j)
def ordM (O : Nat) (T Z : Nat → Nat) (N : Nat → Nat → Nat) (a10 : Nat → Int32) : Prop := (∀ i, i < O → a10 (10 * i) = nI (T i)) ∧ (∀ i, i < O → a10 (10 * i + 1) = nI (Z i)) ∧ ∀ i j, i < O → j < Z i → a10 (10 * i + 2 + j) = nI (N i j)
def cnN (N : Nat → Nat → Nat) (i k n : Nat) : Nat := nsm (fun j => if N i j = k then 1 else 0) n
theorem cnN_s (N : Nat → Nat → Nat) (i k n : Nat) : cnN N i k (n + 1) = cnN N i k n + if N i n = k then 1 else 0 := rfl
theorem cnN_le (N : Nat → Nat → Nat) (i k n : Nat) : cnN N i k n ≤ n := by
  have := nsm_le (f := fun j => if N i j = k then 1 else 0) (b := 1) (n := n) (fun j _ => by
    show (if N i j = k then 1 else 0) ≤ 1
    split <;> omega)
  unfold cnN
  omega
theorem cnN_0 {O : Nat} {T Z : Nat → Nat} {N : Nat → Nat → Nat} (K : ordOK O T Z N) {i : Nat} (hi : i < O) : ∀ n, n ≤ Z i → cnN N i 0 n = 0
  | 0, _ => rfl
  | n + 1, h => by
    have := (K.2.2 i n hi (by omega)).1
    rw [cnN_s, cnN_0 K hi n (by omega), if_neg (by omega)]
theorem worth_eq {O : Nat} {T Z : Nat → Nat} {N : Nat → Nat → Nat} (K : ordOK O T Z N) (P : Nat → Nat) {i : Nat} (hi : i < O) : ∀ n, n ≤ Z i → nsm (fun k => cnN N i k n * P k) 5 = nsm (fun j => P (N i j)) n
  | 0, _ => by
    show 0 + 0 * P 0 + 0 * P 1 + 0 * P 2 + 0 * P 3 + 0 * P 4 = 0
    omega
  | n + 1, h => by
    have ih := worth_eq K P hi n (by omega)
    have hN := K.2.2 i n hi (by omega)
    show 0 + cnN N i 0 (n + 1) * P 0 + cnN N i 1 (n + 1) * P 1 + cnN N i 2 (n + 1) * P 2 + cnN N i 3 (n + 1) * P 3 + cnN N i 4 (n + 1) * P 4 = nsm (fun j => P (N i j)) n + P (N i n)
    have ih' : 0 + cnN N i 0 n * P 0 + cnN N i 1 n * P 1 + cnN N i 2 n * P 2 + cnN N i 3 n * P 3 + cnN N i 4 n * P 4 = nsm (fun j => P (N i j)) n := ih
    rw [← ih']
    simp only [cnN_s, Nat.add_mul]
    rcases (show N i n = 1 ∨ N i n = 2 ∨ N i n = 3 ∨ N i n = 4 by omega) with r | r | r | r <;> rw [r] <;> simp <;> omega
section ORD
variable {u O : Nat} {T Z P bl : Nat → Nat} {N : Nat → Nat → Nat} {a1 a3 a8 a9 a10 a11 a21 a24 : Nat → Int32}
theorem x_wanted (K : ordOK O T Z N) (X : ordX O T Z N a9 a10 a11) (hu : 20 ≤ u) {i k : Nat} (hi : i < O) (hk : k < 6) : f_X5_wanted u (nI O) a10 a11 (nI i) (nI k) = some (nI (cnN N i k (Z i))) := by
  have hO := K.1
  have hz := (K.2.1 i hi).2.2.2
  have key : ∀ r j, j + r = Z i → ∀ n, r < n → bX5_wanted_17 u (nI O) a10 a11 n (nI i) (nI k) (nI (cnN N i k j)) (nI j) = some (nI (cnN N i k (Z i))) := by
    intro r
    induction r with
    | zero =>
      intro j hj n hn
      obtain ⟨n, rfl⟩ := z_suc hn
      rw [bX5_wanted_17, z_ki (by omega) (by omega), z_cl (by omega), X.2.1 i hi]
      refine (if_pos (nI_le (a := Z i) (b := j) (by omega) (by omega))).trans ?_
      rw [show j = Z i by omega]
    | succ r ih =>
      intro j hj n hn
      obtain ⟨n, rfl⟩ := z_suc hn
      rw [bX5_wanted_17, z_ki (by omega) (by omega), z_cl (by omega), X.2.1 i hi]
      refine (if_neg (nI_ge (a := j) (b := Z i) (by omega) (by omega))).trans ?_
      have e8 : nI i * (8 : Int32) + nI j = nI (8 * i + j) := by rw [show (8 : Int32) = nI 8 from rfl, pk_mul, nI_add, Nat.mul_comm]
      rw [e8, z_ki (by omega) (by omega), z_cl (by omega), X.2.2 i j hi (by omega)]
      unfold bX5_wanted_50
      have hN := K.2.2 i j hi (by omega)
      have e1 : nI j + (1 : Int32) = nI (j + 1) := nI_1 j
      have ih2 := ih (j + 1) (by omega) n (by omega)
      rw [cnN_s] at ih2
      rw [e1]
      by_cases q : N i j = k
      · rw [if_pos q] at ih2
        refine (if_pos (by rw [q])).trans ?_
        have e2 : nI (cnN N i k j) + (1 : Int32) = nI (cnN N i k j + 1) := nI_1 _
        rw [e2]
        exact ih2
      · rw [if_neg q] at ih2
        refine (if_neg (show ¬ nI (N i j) = nI k from fun h => q ((nI_eq (by omega) (by omega)).mp h))).trans ?_
        have e2 : nI (cnN N i k j) + (0 : Int32) = nI (cnN N i k j + 0) := nI_add _ 0
        rw [e2]
        exact ih2
  unfold f_X5_wanted bX5_wanted_0
  refine (if_neg (show ¬ nI i < (0 : Int32) from nI_pos (by omega))).trans ?_
  refine (if_neg (nI_ge (a := i) (b := O) hi (by omega))).trans ?_
  exact key (Z i) 0 (by omega) u (by omega)
theorem x_worth (K : ordOK O T Z N) (X : ordX O T Z N a9 a10 a11) (hP : ∀ k, k < 5 → a3 k = nI (P k)) (hu : 20 ≤ u) {i : Nat} (hi : i < O) : f_X5_orderWorth u (nI O) a3 a10 a11 (nI i) = some (nI (nsm (fun j => P (N i j)) (Z i))) := by
  rw [← worth_eq K P hi (Z i) (Nat.le_refl _)]
  have key : ∀ r k, k + r = 5 → ∀ n, r < n → bX5_orderWorth_4 u (nI O) a3 a10 a11 n (nI i) (nI (nsm (fun k => cnN N i k (Z i) * P k) k)) (nI k) = some (nI (nsm (fun k => cnN N i k (Z i) * P k) 5)) := by
    intro r
    induction r with
    | zero =>
      intro k hk n hn
      obtain ⟨n, rfl⟩ := z_suc hn
      have : k = 5 := by omega
      subst this
      rw [bX5_orderWorth_4]
      exact if_pos (by decide)
    | succ r ih =>
      intro k hk n hn
      obtain ⟨n, rfl⟩ := z_suc hn
      rw [bX5_orderWorth_4]
      refine (if_neg (show ¬ (4 : Int32) < nI k from nI_nlt (a := 4) (b := k) (by omega) (by omega))).trans ?_
      rw [x_wanted K X hu hi (by omega), z_b, z_ki (by omega) (by omega), z_cl (by omega), hP k (by omega), pk_mul, nI_add]
      have e1 : nI k + (1 : Int32) = nI (k + 1) := nI_1 k
      rw [e1]
      exact ih (k + 1) (by omega) n (by omega)
  unfold f_X5_orderWorth bX5_orderWorth_0
  have e := key 4 1 rfl u (by omega)
  have e0 : nsm (fun k => cnN N i k (Z i) * P k) 1 = 0 := by
    show 0 + cnN N i 0 (Z i) * P 0 = 0
    rw [cnN_0 K hi (Z i) (Nat.le_refl _)]
    omega
  rw [e0] at e
  exact e
theorem m_worth (K : ordOK O T Z N) (X : ordM O T Z N a10) (hP : ∀ k, k < 5 → a9 k = nI (P k)) (hu : 20 ≤ u) {i : Nat} (hi : i < O) : f_X11_worthOf u a9 a10 (nI i) = some (nI (nsm (fun j => P (N i j)) (Z i))) := by
  have hO := K.1
  have hz := (K.2.1 i hi).2.2.2
  have key : ∀ r j, j + r = Z i → ∀ n, r < n → bX11_worthOf_4 u a9 a10 n (nI i) (nI (nsm (fun j => P (N i j)) j)) (nI j) = some (nI (nsm (fun j => P (N i j)) (Z i))) := by
    have e10 : (10 : Int32) * nI i + (1 : Int32) = nI (10 * i + 1) := by rw [show (10 : Int32) = nI 10 from rfl, pk_mul]; exact nI_1 _
    intro r
    induction r with
    | zero =>
      intro j hj n hn
      obtain ⟨n, rfl⟩ := z_suc hn
      rw [bX11_worthOf_4, e10, z_ki (by omega) (by omega), z_cl (by omega), X.2.1 i hi]
      refine (if_pos (nI_le (a := Z i) (b := j) (by omega) (by omega))).trans ?_
      rw [show j = Z i by omega]
    | succ r ih =>
      intro j hj n hn
      obtain ⟨n, rfl⟩ := z_suc hn
      have hN := K.2.2 i j hi (by omega)
      rw [bX11_worthOf_4, e10, z_ki (by omega) (by omega), z_cl (by omega), X.2.1 i hi]
      refine (if_neg (nI_ge (a := j) (b := Z i) (by omega) (by omega))).trans ?_
      have e12 : (10 : Int32) * nI i + (2 : Int32) + nI j = nI (10 * i + 2 + j) := by rw [show (10 : Int32) = nI 10 from rfl, pk_mul, show (2 : Int32) = nI 2 from rfl, nI_add, nI_add]
      rw [e12, z_ki (by omega) (by omega), z_cl (by omega), X.2.2 i j hi (by omega), z_ki (by omega) (by omega), z_cl (by omega), hP _ (by omega), nI_add]
      have e1 : nI j + (1 : Int32) = nI (j + 1) := nI_1 j
      rw [e1]
      exact ih (j + 1) (by omega) n (by omega)
  exact key (Z i) 0 (by omega) u (by omega)
theorem m_wants (hu : 20 ≤ u) (g : Nat → Int32) : ∃ g', f_X11_wantsNothing u g = some g' ∧ ∀ k, k < 5 → g' k = nI 0 := by
  have key : ∀ r k, k + r = 5 → ∀ n g, r < n → (∀ j, j < k → g j = nI 0) → ∃ g', bX11_wantsNothing_2 u n g (nI k) = some g' ∧ ∀ k, k < 5 → g' k = nI 0 := by
    intro r
    induction r with
    | zero =>
      intro k hk n g hn hg
      obtain ⟨n, rfl⟩ := z_suc hn
      have : k = 5 := by omega
      subst this
      exact ⟨g, by rw [bX11_wantsNothing_2]; exact if_pos (by decide), hg⟩
    | succ r ih =>
      intro k hk n g hn hg
      obtain ⟨n, rfl⟩ := z_suc hn
      obtain ⟨g', e, f⟩ := ih (k + 1) (by omega) n (upd g k (0 : Int32)) (by omega) (fun j hj => by
        simp only [z_upd]
        by_cases q : j = k
        · rw [if_pos q]; rfl
        · rw [if_neg q]; exact hg j (by omega))
      refine ⟨g', ?_, f⟩
      rw [bX11_wantsNothing_2]
      refine (if_neg (show ¬ (5 : Int32) ≤ nI k from nI_ge (a := k) (b := 5) (by omega) (by omega))).trans ?_
      have e1 : nI k + (1 : Int32) = nI (k + 1) := nI_1 k
      rw [z_ki (by omega) (by omega), z_cl (by omega), e1]
      exact e
  exact key 5 0 rfl u g (by omega) (fun j hj => absurd hj (Nat.not_lt_zero j))
theorem m_adds (K : ordOK O T Z N) (X : ordM O T Z N a10) (hu : 20 ≤ u) {i : Nat} (hi : i < O) {wt : Nat → Nat} {g : Nat → Int32} (hg : ∀ k, k < 5 → g k = nI (wt k)) : ∃ g', f_X11_adds u a10 g (nI i) = some g' ∧ ∀ k, k < 5 → g' k = nI (wt k + cnN N i k (Z i)) := by
  have hO := K.1
  have hz := (K.2.1 i hi).2.2.2
  have e10 : (10 : Int32) * nI i + (1 : Int32) = nI (10 * i + 1) := by rw [show (10 : Int32) = nI 10 from rfl, pk_mul]; exact nI_1 _
  have key : ∀ r j, j + r = Z i → ∀ n g, r < n → (∀ k, k < 5 → g k = nI (wt k + cnN N i k j)) → ∃ g', bX11_adds_2 u a10 n g (nI i) (nI j) = some g' ∧ ∀ k, k < 5 → g' k = nI (wt k + cnN N i k (Z i)) := by
    intro r
    induction r with
    | zero =>
      intro j hj n g hn hg
      obtain ⟨n, rfl⟩ := z_suc hn
      have : j = Z i := by omega
      subst this
      refine ⟨g, ?_, hg⟩
      rw [bX11_adds_2, e10, z_ki (by omega) (by omega), z_cl (by omega), X.2.1 i hi]
      exact if_pos (nI_le (Nat.le_refl _) (by omega))
    | succ r ih =>
      intro j hj n g hn hg
      obtain ⟨n, rfl⟩ := z_suc hn
      have hN := K.2.2 i j hi (by omega)
      obtain ⟨g', e, f⟩ := ih (j + 1) (by omega) n (upd g (N i j) (g (N i j) + (1 : Int32))) (by omega) (fun k hk => by
        simp only [z_upd, cnN_s]
        by_cases q : k = N i j
        · rw [if_pos q, if_pos q.symm, hg (N i j) (by omega), ← Nat.add_assoc, q]; exact nI_1 _
        · rw [if_neg q, if_neg (fun h => q h.symm)]; exact hg k hk)
      refine ⟨g', ?_, f⟩
      rw [bX11_adds_2, e10, z_ki (by omega) (by omega), z_cl (by omega), X.2.1 i hi]
      refine (if_neg (nI_ge (a := j) (b := Z i) (by omega) (by omega))).trans ?_
      have e12 : (10 : Int32) * nI i + (2 : Int32) + nI j = nI (10 * i + 2 + j) := by rw [show (10 : Int32) = nI 10 from rfl, pk_mul, show (2 : Int32) = nI 2 from rfl, nI_add, nI_add]
      have e1 : nI j + (1 : Int32) = nI (j + 1) := nI_1 j
      rw [e12, z_ki (by omega) (by omega), z_cl (by omega), X.2.2 i j hi (by omega), z_ki (by omega) (by omega), z_ki (by omega) (by omega), z_cl (by omega), e1]
      exact e
  exact key (Z i) 0 (by omega) u g (by omega) hg
/-- how many are lacking -/
def lck (wt bl : Nat → Nat) : Nat := nsm (fun k => wt k - bl k) 5
theorem m_lack (hu : 20 ≤ u) {wt : Nat → Nat} (hw : ∀ k, k < 5 → wt k ≤ 1000) (hb : ∀ k, k < 5 → bl k ≤ 1000000) (hg : ∀ k, k < 5 → a24 k = nI (wt k)) (h21 : ∀ k, k < 5 → a21 (48 + k) = nI (bl k)) : f_X11_lackNow u a21 a24 = some (nI (lck wt bl)) := by
  have key : ∀ r k, k + r = 5 → ∀ n, r < n → bX11_lackNow_4 u a21 a24 n (nI (nsm (fun k => wt k - bl k) k)) (nI k) = some (nI (lck wt bl)) := by
    intro r
    induction r with
    | zero =>
      intro k hk n hn
      obtain ⟨n, rfl⟩ := z_suc hn
      have : k = 5 := by omega
      subst this
      rw [bX11_lackNow_4]
      exact if_pos (by decide)
    | succ r ih =>
      intro k hk n hn
      obtain ⟨n, rfl⟩ := z_suc hn
      have e48 : (48 : Int32) + nI k = nI (48 + k) := nI_add 48 k
      have e1 : nI k + (1 : Int32) = nI (k + 1) := nI_1 k
      have h1 := hw k (by omega)
      have h2 := hb k (by omega)
      have ih2 := ih (k + 1) (by omega) n (by omega)
      rw [bX11_lackNow_4]
      refine (if_neg (show ¬ (5 : Int32) ≤ nI k from nI_ge (a := k) (b := 5) (by omega) (by omega))).trans ?_
      rw [z_ki (by omega) (by omega), e48, z_ki (by omega) (by omega), z_cl (by omega), z_cl (by omega), hg k (by omega), h21 k (by omega), z_ki (by omega) (by omega), z_ki (by omega) (by omega)]
      unfold bX11_lackNow_48
      rw [e1]
      have e3 : nsm (fun k => wt k - bl k) (k + 1) = nsm (fun k => wt k - bl k) k + (wt k - bl k) := rfl
      rw [e3] at ih2
      by_cases q : wt k ≤ bl k
      · refine (if_pos (nI_le q (by omega))).trans ?_
        rw [show wt k - bl k = 0 by omega] at ih2
        have e2 : nI (nsm (fun k => wt k - bl k) k) + (0 : Int32) = nI (nsm (fun k => wt k - bl k) k + 0) := nI_add _ 0
        rw [e2]
        exact ih2
      · refine (if_neg (nI_ge (a := bl k) (b := wt k) (by omega) (by omega))).trans ?_
        rw [z_sub (by omega), nI_add]
        exact ih2
  exact key 5 0 rfl u (by omega)
theorem x_lack (K : ordOK O T Z N) (X : ordX O T Z N a9 a10 a11) (hu : 20 ≤ u) (hb : ∀ k, k < 5 → bl k ≤ 1000000) (h1 : ∀ k, k < 5 → a1 k = nI (bl k)) {i : Nat} (hi : i < O) : f_X3_lacking u a1 (nI O) a10 a11 (nI i) = some (nI (lck (fun k => cnN N i k (Z i)) bl)) := by
  have hz := (K.2.1 i hi).2.2.2
  have key : ∀ r k, k + r = 5 → ∀ n, r < n → bX3_lacking_4 u a1 (nI O) a10 a11 n (nI i) (nI (nsm (fun k => cnN N i k (Z i) - bl k) k)) (nI k) = some (nI (lck (fun k => cnN N i k (Z i)) bl)) := by
    intro r
    induction r with
    | zero =>
      intro k hk n hn
      obtain ⟨n, rfl⟩ := z_suc hn
      have : k = 5 := by omega
      subst this
      rw [bX3_lacking_4]
      exact if_pos (by decide)
    | succ r ih =>
      intro k hk n hn
      obtain ⟨n, rfl⟩ := z_suc hn
      have e1 : nI k + (1 : Int32) = nI (k + 1) := nI_1 k
      have h2 := hb k (by omega)
      have h3 := cnN_le N i k (Z i)
      have ih2 := ih (k + 1) (by omega) n (by omega)
      rw [bX3_lacking_4]
      refine (if_neg (show ¬ (4 : Int32) < nI k from nI_nlt (a := 4) (b := k) (by omega) (by omega))).trans ?_
      rw [x_wanted K X hu hi (by omega), z_b, z_ki (by omega) (by omega), z_cl (by omega), h1 k (by omega), e1]
      have e3 : nsm (fun k => cnN N i k (Z i) - bl k) (k + 1) = nsm (fun k => cnN N i k (Z i) - bl k) k + (cnN N i k (Z i) - bl k) := rfl
      rw [e3] at ih2
      have e4 : (if (0 : Int32) < nI (cnN N i k (Z i)) - nI (bl k) then nI (cnN N i k (Z i)) - nI (bl k) else (0 : Int32)) = nI (cnN N i k (Z i) - bl k) := by
        by_cases q : bl k < cnN N i k (Z i)
        · rw [z_sub (by omega)]
          exact if_pos (nI_lt (a := 0) (by omega) (by omega))
        · rw [show cnN N i k (Z i) - bl k = 0 by omega]
          refine if_neg ?_
          rw [fa_lt, pk_sub_toInt (by omega) (by omega)]
          show ¬ (0 : Int) < _
          omega
      rw [e4, nI_add]
      exact ih2
  have e := key 4 1 rfl u (by omega)
  have e0 : nsm (fun k => cnN N i k (Z i) - bl k) 1 = 0 := by
    show 0 + (cnN N i 0 (Z i) - bl 0) = 0
    rw [cnN_0 K hi (Z i) (Nat.le_refl _)]
    omega
  rw [e0] at e
  exact e
end ORD
