/-! TEXTS: what every text's call shares -/
section TXC
variable {u : Nat}
theorem cp_3_7 (hu : 200 ≤ u) (a b : Nat → Int32) {m : Nat} (hm : m ≤ 48) : ∃ g, f_X11_copies_3_7 u a b (nI m) = some g ∧ (∀ j, j < m → g j = a j) ∧ ∀ j, m ≤ j → g j = b j := by
  have key : ∀ r k n g, k + r = m → r < n → (∀ j, j < k → g j = a j) → (∀ j, k ≤ j → g j = b j) → ∃ g', bX11_copies_3_7_3 u a n g (nI m) (nI k) = some g' ∧ (∀ j, j < m → g' j = a j) ∧ ∀ j, m ≤ j → g' j = b j := by
    intro r
    induction r with
    | zero =>
      intro k n g hk hn h1 h2
      obtain ⟨n, rfl⟩ := z_suc hn
      obtain rfl : k = m := by omega
      rw [bX11_copies_3_7_3, if_pos (nI_le (Nat.le_refl _) (by omega))]
      exact ⟨g, rfl, h1, h2⟩
    | succ r ih =>
      intro k n g hk hn h1 h2
      obtain ⟨n, rfl⟩ := z_suc hn
      rw [bX11_copies_3_7_3, if_neg (nI_ge (by omega) (by omega)), z_ki (by omega) (by omega), z_ki (by omega) (by omega), z_cl (by omega), show nI k + (1 : Int32) = nI (k + 1) from nI_1 k]
      refine ih (k + 1) n _ (by omega) (by omega) (fun j hj => ?_) (fun j hj => ?_)
      · simp only [z_upd]
        by_cases z : j = k
        · rw [if_pos z, z]
        · rw [if_neg z]; exact h1 j (by omega)
      · simp only [z_upd]
        rw [if_neg (by omega)]
        exact h2 j (by omega)
  exact key m 0 u b (by omega) (by omega) (fun j hj => absurd hj (Nat.not_lt_zero j)) (fun j _ => rfl)
theorem cp_4_8 (hu : 200 ≤ u) (a b : Nat → Int32) {m : Nat} (hm : m ≤ 48) : ∃ g, f_X11_copies_4_8 u a b (nI m) = some g ∧ (∀ j, j < m → g j = a j) ∧ ∀ j, m ≤ j → g j = b j := by
  have key : ∀ r k n g, k + r = m → r < n → (∀ j, j < k → g j = a j) → (∀ j, k ≤ j → g j = b j) → ∃ g', bX11_copies_4_8_3 u a n g (nI m) (nI k) = some g' ∧ (∀ j, j < m → g' j = a j) ∧ ∀ j, m ≤ j → g' j = b j := by
    intro r
    induction r with
    | zero =>
      intro k n g hk hn h1 h2
      obtain ⟨n, rfl⟩ := z_suc hn
      obtain rfl : k = m := by omega
      rw [bX11_copies_4_8_3, if_pos (nI_le (Nat.le_refl _) (by omega))]
      exact ⟨g, rfl, h1, h2⟩
    | succ r ih =>
      intro k n g hk hn h1 h2
      obtain ⟨n, rfl⟩ := z_suc hn
      rw [bX11_copies_4_8_3, if_neg (nI_ge (by omega) (by omega)), z_ki (by omega) (by omega), z_ki (by omega) (by omega), z_cl (by omega), show nI k + (1 : Int32) = nI (k + 1) from nI_1 k]
      refine ih (k + 1) n _ (by omega) (by omega) (fun j hj => ?_) (fun j hj => ?_)
      · simp only [z_upd]
        by_cases z : j = k
        · rw [if_pos z, z]
        · rw [if_neg z]; exact h1 j (by omega)
      · simp only [z_upd]
        rw [if_neg (by omega)]
        exact h2 j (by omega)
  exact key m 0 u b (by omega) (by omega) (fun j hj => absurd hj (Nat.not_lt_zero j)) (fun j _ => rfl)
theorem cp_5_9 (hu : 200 ≤ u) (a b : Nat → Int32) {m : Nat} (hm : m ≤ 5) : ∃ g, f_X11_copies_5_9 u a b (nI m) = some g ∧ (∀ j, j < m → g j = a j) ∧ ∀ j, m ≤ j → g j = b j := by
  have key : ∀ r k n g, k + r = m → r < n → (∀ j, j < k → g j = a j) → (∀ j, k ≤ j → g j = b j) → ∃ g', bX11_copies_5_9_3 u a n g (nI m) (nI k) = some g' ∧ (∀ j, j < m → g' j = a j) ∧ ∀ j, m ≤ j → g' j = b j := by
    intro r
    induction r with
    | zero =>
      intro k n g hk hn h1 h2
      obtain ⟨n, rfl⟩ := z_suc hn
      obtain rfl : k = m := by omega
      rw [bX11_copies_5_9_3, if_pos (nI_le (Nat.le_refl _) (by omega))]
      exact ⟨g, rfl, h1, h2⟩
    | succ r ih =>
      intro k n g hk hn h1 h2
      obtain ⟨n, rfl⟩ := z_suc hn
      rw [bX11_copies_5_9_3, if_neg (nI_ge (by omega) (by omega)), z_ki (by omega) (by omega), z_ki (by omega) (by omega), z_cl (by omega), show nI k + (1 : Int32) = nI (k + 1) from nI_1 k]
      refine ih (k + 1) n _ (by omega) (by omega) (fun j hj => ?_) (fun j hj => ?_)
      · simp only [z_upd]
        by_cases z : j = k
        · rw [if_pos z, z]
        · rw [if_neg z]; exact h1 j (by omega)
      · simp only [z_upd]
        rw [if_neg (by omega)]
        exact h2 j (by omega)
  exact key m 0 u b (by omega) (by omega) (fun j hj => absurd hj (Nat.not_lt_zero j)) (fun j _ => rfl)
theorem cp_6_10 (hu : 200 ≤ u) (a b : Nat → Int32) {m : Nat} (hm : m ≤ 60) : ∃ g, f_X11_copies_6_10 u a b (nI m) = some g ∧ (∀ j, j < m → g j = a j) ∧ ∀ j, m ≤ j → g j = b j := by
  have key : ∀ r k n g, k + r = m → r < n → (∀ j, j < k → g j = a j) → (∀ j, k ≤ j → g j = b j) → ∃ g', bX11_copies_6_10_3 u a n g (nI m) (nI k) = some g' ∧ (∀ j, j < m → g' j = a j) ∧ ∀ j, m ≤ j → g' j = b j := by
    intro r
    induction r with
    | zero =>
      intro k n g hk hn h1 h2
      obtain ⟨n, rfl⟩ := z_suc hn
      obtain rfl : k = m := by omega
      rw [bX11_copies_6_10_3, if_pos (nI_le (Nat.le_refl _) (by omega))]
      exact ⟨g, rfl, h1, h2⟩
    | succ r ih =>
      intro k n g hk hn h1 h2
      obtain ⟨n, rfl⟩ := z_suc hn
      rw [bX11_copies_6_10_3, if_neg (nI_ge (by omega) (by omega)), z_ki (by omega) (by omega), z_ki (by omega) (by omega), z_cl (by omega), show nI k + (1 : Int32) = nI (k + 1) from nI_1 k]
      refine ih (k + 1) n _ (by omega) (by omega) (fun j hj => ?_) (fun j hj => ?_)
      · simp only [z_upd]
        by_cases z : j = k
        · rw [if_pos z, z]
        · rw [if_neg z]; exact h1 j (by omega)
      · simp only [z_upd]
        rw [if_neg (by omega)]
        exact h2 j (by omega)
  exact key m 0 u b (by omega) (by omega) (fun j hj => absurd hj (Nat.not_lt_zero j)) (fun j _ => rfl)
theorem cp_25_26 (hu : 200 ≤ u) (a b : Nat → Int32) {m : Nat} (hm : m ≤ 16) : ∃ g, f_X11_copies_25_26 u a b (nI m) = some g ∧ (∀ j, j < m → g j = a j) ∧ ∀ j, m ≤ j → g j = b j := by
  have key : ∀ r k n g, k + r = m → r < n → (∀ j, j < k → g j = a j) → (∀ j, k ≤ j → g j = b j) → ∃ g', bX11_copies_25_26_3 u a n g (nI m) (nI k) = some g' ∧ (∀ j, j < m → g' j = a j) ∧ ∀ j, m ≤ j → g' j = b j := by
    intro r
    induction r with
    | zero =>
      intro k n g hk hn h1 h2
      obtain ⟨n, rfl⟩ := z_suc hn
      obtain rfl : k = m := by omega
      rw [bX11_copies_25_26_3, if_pos (nI_le (Nat.le_refl _) (by omega))]
      exact ⟨g, rfl, h1, h2⟩
    | succ r ih =>
      intro k n g hk hn h1 h2
      obtain ⟨n, rfl⟩ := z_suc hn
      rw [bX11_copies_25_26_3, if_neg (nI_ge (by omega) (by omega)), z_ki (by omega) (by omega), z_ki (by omega) (by omega), z_cl (by omega), show nI k + (1 : Int32) = nI (k + 1) from nI_1 k]
      refine ih (k + 1) n _ (by omega) (by omega) (fun j hj => ?_) (fun j hj => ?_)
      · simp only [z_upd]
        by_cases z : j = k
        · rw [if_pos z, z]
        · rw [if_neg z]; exact h1 j (by omega)
      · simp only [z_upd]
        rw [if_neg (by omega)]
        exact h2 j (by omega)
  exact key m 0 u b (by omega) (by omega) (fun j hj => absurd hj (Nat.not_lt_zero j)) (fun j _ => rfl)
theorem cp_18_19 (hu : 200 ≤ u) (a b : Nat → Int32) {m : Nat} (hm : m ≤ 150) : ∃ g, f_X11_copies_18_19 u a b (nI m) = some g ∧ (∀ j, j < m → g j = a j) ∧ ∀ j, m ≤ j → g j = b j := by
  have key : ∀ r k n g, k + r = m → r < n → (∀ j, j < k → g j = a j) → (∀ j, k ≤ j → g j = b j) → ∃ g', bX11_copies_18_19_3 u a n g (nI m) (nI k) = some g' ∧ (∀ j, j < m → g' j = a j) ∧ ∀ j, m ≤ j → g' j = b j := by
    intro r
    induction r with
    | zero =>
      intro k n g hk hn h1 h2
      obtain ⟨n, rfl⟩ := z_suc hn
      obtain rfl : k = m := by omega
      rw [bX11_copies_18_19_3, if_pos (nI_le (Nat.le_refl _) (by omega))]
      exact ⟨g, rfl, h1, h2⟩
    | succ r ih =>
      intro k n g hk hn h1 h2
      obtain ⟨n, rfl⟩ := z_suc hn
      rw [bX11_copies_18_19_3, if_neg (nI_ge (by omega) (by omega)), z_ki (by omega) (by omega), z_ki (by omega) (by omega), z_cl (by omega), show nI k + (1 : Int32) = nI (k + 1) from nI_1 k]
      refine ih (k + 1) n _ (by omega) (by omega) (fun j hj => ?_) (fun j hj => ?_)
      · simp only [z_upd]
        by_cases z : j = k
        · rw [if_pos z, z]
        · rw [if_neg z]; exact h1 j (by omega)
      · simp only [z_upd]
        rw [if_neg (by omega)]
        exact h2 j (by omega)
  exact key m 0 u b (by omega) (by omega) (fun j hj => absurd hj (Nat.not_lt_zero j)) (fun j _ => rfl)
theorem cp_21_20 (hu : 200 ≤ u) (a b : Nat → Int32) {m : Nat} (hm : m ≤ 77) : ∃ g, f_X11_copies_21_20 u b a (nI m) = some g ∧ (∀ j, j < m → g j = a j) ∧ ∀ j, m ≤ j → g j = b j := by
  have key : ∀ r k n g, k + r = m → r < n → (∀ j, j < k → g j = a j) → (∀ j, k ≤ j → g j = b j) → ∃ g', bX11_copies_21_20_3 u a n g (nI m) (nI k) = some g' ∧ (∀ j, j < m → g' j = a j) ∧ ∀ j, m ≤ j → g' j = b j := by
    intro r
    induction r with
    | zero =>
      intro k n g hk hn h1 h2
      obtain ⟨n, rfl⟩ := z_suc hn
      obtain rfl : k = m := by omega
      rw [bX11_copies_21_20_3, if_pos (nI_le (Nat.le_refl _) (by omega))]
      exact ⟨g, rfl, h1, h2⟩
    | succ r ih =>
      intro k n g hk hn h1 h2
      obtain ⟨n, rfl⟩ := z_suc hn
      rw [bX11_copies_21_20_3, if_neg (nI_ge (by omega) (by omega)), z_ki (by omega) (by omega), z_ki (by omega) (by omega), z_cl (by omega), show nI k + (1 : Int32) = nI (k + 1) from nI_1 k]
      refine ih (k + 1) n _ (by omega) (by omega) (fun j hj => ?_) (fun j hj => ?_)
      · simp only [z_upd]
        by_cases z : j = k
        · rw [if_pos z, z]
        · rw [if_neg z]; exact h1 j (by omega)
      · simp only [z_upd]
        rw [if_neg (by omega)]
        exact h2 j (by omega)
  exact key m 0 u b (by omega) (by omega) (fun j hj => absurd hj (Nat.not_lt_zero j)) (fun j _ => rfl)
theorem fill_ (hu : 200 ≤ u) (a : Nat → Int32) {ln : Nat} (hl : ln ≤ 150) (v : Int32) : ∃ g, f_J7_fill_53178 u ln a v = some g ∧ (∀ j, j < ln → g j = v) ∧ ∀ j, ln ≤ j → g j = a j := by
  have key : ∀ r k n g, k + r = ln → r < n → (∀ j, j < k → g j = v) → (∀ j, k ≤ j → g j = a j) → ∃ g', bJ7_fill_53178_5 u ln n g v (nI k) (nI ln) = some g' ∧ (∀ j, j < ln → g' j = v) ∧ ∀ j, ln ≤ j → g' j = a j := by
    intro r
    induction r with
    | zero =>
      intro k n g hk hn h1 h2
      obtain ⟨n, rfl⟩ := z_suc hn
      obtain rfl : k = ln := by omega
      rw [bJ7_fill_53178_5, if_pos (nI_le (Nat.le_refl _) (by omega))]
      exact ⟨g, rfl, h1, h2⟩
    | succ r ih =>
      intro k n g hk hn h1 h2
      obtain ⟨n, rfl⟩ := z_suc hn
      rw [bJ7_fill_53178_5, if_neg (nI_ge (by omega) (by omega)), z_ki (by omega) (by omega), z_cl (by omega), show nI k + (1 : Int32) = nI (k + 1) from nI_1 k]
      refine ih (k + 1) n _ (by omega) (by omega) (fun j hj => ?_) (fun j hj => ?_)
      · simp only [z_upd]
        by_cases z : j = k
        · rw [if_pos z]
        · rw [if_neg z]; exact h1 j (by omega)
      · simp only [z_upd]
        rw [if_neg (by omega)]
        exact h2 j (by omega)
  exact key ln 0 u a (by omega) (by omega) (fun j hj => absurd hj (Nat.not_lt_zero j)) (fun j _ => rfl)
/-- how many bytes a text takes -/
theorem d_text {N most : Nat} (hN : N < 2147483647) (hm : most < 2147483647) (x : Int32) : (∃ n, n ≤ N ∧ n ≤ most ∧ x = nI n ∧ ¬ x < 0 ∧ ¬ nI most < x ∧ ¬ nI N < x) ∨ (x < 0 ∨ nI most < x ∨ nI N < x) := by
  by_cases h0 : x < 0
  · exact Or.inr (Or.inl h0)
  · obtain ⟨n, hn, rfl⟩ := nI_of h0
    by_cases h1 : nI most < nI n
    · exact Or.inr (Or.inr (Or.inl h1))
    · by_cases h2 : nI N < nI n
      · exact Or.inr (Or.inr (Or.inr h2))
      · exact Or.inl ⟨n, Nat.le_of_not_lt (fun w => h2 (nI_lt w hn)), Nat.le_of_not_lt (fun w => h1 (nI_lt w hn)), rfl, h0, h1, h2⟩
theorem x_take1 {N most : Nat} (x c2 c3 c4 c5 c6 : Int32) (a69 : Nat → Int32) {n : Nat} (hn : n ≤ 600) (e : x = nI n) (h0 : ¬ x < 0) (h1 : ¬ nI most < x) (h2 : ¬ nI N < x) : f_X10_takeText u (nI N) c2 c3 c4 c5 c6 a69 x (nI most) = some ((0 : Int32), (0 : Int32), nI n, (0 : Int32), (0 : Int32), (0 : Int32), (-1 : Int32), a69) := by
  unfold f_X10_takeText bX10_takeText_0 bX10_takeText_26
  rw [if_neg h0, if_neg h1, if_neg h2, x_need1, z_b, if_pos rfl]
  unfold f_X8_begin bX8_begin_0
  rw [z_b, e, if_neg (show ¬ (600 : Int32) < nI n from nI_nlt (a := 600) hn (by omega))]
theorem x_take0 {N most : Nat} (x c2 c3 c4 c5 c6 : Int32) (a69 : Nat → Int32) (h : x < 0 ∨ nI most < x ∨ nI N < x) : f_X10_takeText u (nI N) c2 c3 c4 c5 c6 a69 x (nI most) = some ((3 : Int32), nI N, c2, c3, c4, c5, c6, upd a69 2 (a69 2 + (1 : Int32))) := by
  unfold f_X10_takeText bX10_takeText_0 bX10_takeText_25 bX10_takeText_26
  rw [x_need0, z_b, if_neg d_30]
  by_cases h0 : x < 0
  · rw [if_pos h0]
  · rw [if_neg h0]
    by_cases h1 : nI most < x
    · rw [if_pos h1]
    · rw [if_neg h1]
      by_cases h2 : nI N < x
      · rw [if_pos h2]
      · rcases h with h | h | h
        · exact absurd h h0
        · exact absurd h h1
        · exact absurd h h2
/-- another state that shares pit, works and images -/
def mkS (S : aT) (M : aM) (F H : (Nat → Int32) → Int32) (L : Nat) (B : Nat → Nat × Nat) : aT := (S.1, M, F, H, L, B, S.2.2.2.2.2.2)
theorem rZ_Cq {h h' : k_H} (z : rZ_C h) (e1 : h'.1 = h.1) (e2 : h'.2.2.2 = h.2.2.2) : rZ_C h' := by
  obtain ⟨h1, h2, h3⟩ := z
  refine ⟨by rw [e1]; exact h1, ⟨by rw [e1]; exact h2.1, by rw [e1]; exact h2.2.1, ?_, by rw [e1]; exact h2.2.2.2.1, by rw [e1]; exact h2.2.2.2.2⟩, by rw [e2]; exact h3⟩
  unfold k_PS
  rw [e1, e2]
  exact h2.2.2.1
theorem rZ_Mq {h h' : k_H} (e3 : ∀ p, 103 ≤ p → h'.2.1 p = h.2.1 p ∧ h'.2.2.1 p = h.2.2.1 p) {q : Nat} {m : aM} (hq : 103 ≤ q) (z : rZ_M h q m) : rZ_M h' q m := by
  unfold rZ_M
  rw [(e3 q hq).1, (e3 q hq).2, (e3 (q + 1) (by omega)).1, (e3 (q + 2) (by omega)).1, (e3 (q + 3) (by omega)).1, (e3 (q + 4) (by omega)).1]
  exact z
theorem Rel_mk {S : aT} {h h' : k_H} (R : Rel S h) {M : aM} {F H : (Nat → Int32) → Int32} {L : Nat} {B : Nat → Nat × Nat} (e1 : h'.1 = h.1) (e2 : h'.2.2.2 = h.2.2.2) (e3 : ∀ p, 103 ≤ p → h'.2.1 p = h.2.1 p ∧ h'.2.2.1 p = h.2.2.1 p) (e35 : h'.2.1 35 = h.2.1 35) (e39 : h'.2.1 39 = h.2.1 39) (e92 : h'.2.1 92 = h.2.1 92) (e101 : h'.2.1 101 = h.2.1 101) (e42 : h'.2.1 70 42 = h.2.1 70 42) (e65 : h'.2.1 70 65 = h.2.1 70 65) (hP : rZ_P (rS_P S) h') (hL : rZ_L F H h') (hN : rZ_N (rS_P S) M h') (hB : rZ_B L B h') (hT : rZ_T h') (hR : rZ_R h') : Rel (mkS S M F H L B) h' := by
  obtain ⟨c, p, l, n, b, t, r, w, i⟩ := R
  refine ⟨rZ_Cq c e1 e2, hP, hL, hN, hB, hT, hR, ?_, ?_⟩
  · obtain ⟨h1, h2, h3, h4⟩ := w
    refine ⟨h1, by rw [e35]; exact h2, by rw [e42]; exact h3, fun j hj => ?_⟩
    obtain ⟨q, g1, g2, g3, g4⟩ := h4 j hj
    exact ⟨q, by rw [e2]; exact g1, rZ_Mq e3 (rZ_103 c (Or.inl rfl) g1) g2, by rw [e92]; exact g3, g4⟩
  · obtain ⟨h1, h2, h3, h4⟩ := i
    refine ⟨h1, by rw [e35]; exact h2, by rw [e65]; exact h3, fun i hi => ?_⟩
    obtain ⟨g1, g2, g3, g4, ⟨q, g5, g6, g7⟩, g8⟩ := h4 i hi
    refine ⟨g1, by rw [e39]; exact g2, by rw [e101]; exact g3, g4, ⟨q, by rw [e2]; exact g5, rZ_Mq e3 (rZ_103 c (Or.inr (Or.inl rfl)) g5) g6, by rw [e101]; exact g7⟩, fun j hj => ?_⟩
    obtain ⟨q, k1, k2, k3, k4⟩ := g8 j hj
    exact ⟨q, by rw [e2]; exact k1, rZ_Mq e3 (rZ_103 c (Or.inr (Or.inr rfl)) k1) k2, by rw [e101]; exact k3, k4⟩
/-- updates below the kept mines -/
theorem ap_103 {us : List k_U} (hu : us.all (fun u => decide (u.1 < 103)) = true) {p : Nat} (hp : 103 ≤ p) (h : k_H) : (k_ap us h).2.1 p = h.2.1 p ∧ (k_ap us h).2.2.1 p = h.2.2.1 p := by
  have := k_ap_out (p := p) us h (fun u hm e => by
    have := List.all_eq_true.mp hu u hm
    have := of_decide_eq_true this
    omega)
  exact ⟨this.1, this.2.1⟩
theorem ap_A {us vs : List k_U} (hu : us.all (fun u => decide (u.1 < 103)) = true) (hv : vs.all (fun u => decide (u.1 < 103)) = true) (y : Int64) (h : k_H) : ∀ p, 103 ≤ p → (k_ap vs (k_out y (k_ap us h))).2.1 p = h.2.1 p ∧ (k_ap vs (k_out y (k_ap us h))).2.2.1 p = h.2.2.1 p := by
  intro p hp
  have h1 := ap_103 hv hp (k_out y (k_ap us h))
  have h2 := ap_103 hu hp h
  have h3 : ¬ p = 102 := by omega
  refine ⟨h1.1.trans h2.1, h1.2.trans ?_⟩
  show k_ua (k_ap us h).2.2.1 102 _ p = _
  unfold k_ua
  rw [if_neg h3]
  exact h2.2
theorem ap_B {us vs : List k_U} (hu : us.all (fun u => decide (u.1 < 103)) = true) (hv : vs.all (fun u => decide (u.1 < 103)) = true) (h : k_H) : ∀ p, 103 ≤ p → (k_ap vs (k_ap us h)).2.1 p = h.2.1 p ∧ (k_ap vs (k_ap us h)).2.2.1 p = h.2.2.1 p := by
  intro p hp
  have h1 := ap_103 hv hp (k_ap us h)
  have h2 := ap_103 hu hp h
  exact ⟨h1.1.trans h2.1, h1.2.trans h2.2⟩
/-! places of the parts of the relation -/
def pcP (p : Nat) : Bool := (Nat.ble 3 p && Nat.ble p 9) || (Nat.ble 77 p && Nat.ble p 80)
def pcL (p : Nat) : Bool := p == 17 || (p == 18 || (p == 20 || (p == 21 || (Nat.ble 83 p && Nat.ble p 85))))
def pcN (p : Nat) : Bool := (Nat.ble 26 p && Nat.ble p 30) || p == 90
def pcW (p : Nat) : Bool := p == 35 || (p == 39 || (p == 92 || (p == 101 || Nat.ble 103 p)))
def pcA (p : Nat) : Bool := pcP p || (pcL p || (pcN p || pcW p))
def Kp (h h' : k_H) (p : Nat) : Prop := h'.2.1 p = h.2.1 p ∧ h'.2.2.1 p = h.2.2.1 p
theorem ap_st {st : Nat → Bool} {us : List k_U} (hu : us.all (fun u => !st u.1) = true) {p : Nat} (hp : st p = true) (h : k_H) : Kp h (k_ap us h) p := by
  have := k_ap_out (p := p) us h (fun u hm e => by
    have := List.all_eq_true.mp hu u hm
    rw [← e, hp] at this
    cases this)
  exact ⟨this.1, this.2.1⟩
theorem kp_A {st : Nat → Bool} (s2 : st 102 = false) {us vs : List k_U} (hu : us.all (fun u => !st u.1) = true) (hv : vs.all (fun u => !st u.1) = true) (y : Int64) (h : k_H) : ∀ p, st p = true → Kp h (k_ap vs (k_out y (k_ap us h))) p := by
  intro p hp
  have h1 := ap_st hv hp (k_out y (k_ap us h))
  have h2 := ap_st hu hp h
  have h3 : ¬ p = 102 := by rintro rfl; rw [s2] at hp; cases hp
  refine ⟨h1.1.trans h2.1, h1.2.trans ?_⟩
  show k_ua (k_ap us h).2.2.1 102 _ p = _
  unfold k_ua
  rw [if_neg h3]
  exact h2.2
theorem kp_B {st : Nat → Bool} {us vs : List k_U} (hu : us.all (fun u => !st u.1) = true) (hv : vs.all (fun u => !st u.1) = true) (h : k_H) : ∀ p, st p = true → Kp h (k_ap vs (k_ap us h)) p := by
  intro p hp
  have h1 := ap_st hv hp (k_ap us h)
  have h2 := ap_st hu hp h
  exact ⟨h1.1.trans h2.1, h1.2.trans h2.2⟩
theorem rZ_Pk {h h' : k_H} (E : ∀ p, pcP p = true → Kp h h' p) (f25 : h'.2.1 70 25 = h.2.1 70 25) (f26 : h'.2.1 70 26 = h.2.1 70 26) (f27 : h'.2.1 70 27 = h.2.1 70 27) (f28 : h'.2.1 70 28 = h.2.1 70 28) (f30 : h'.2.1 70 30 = h.2.1 70 30) {p : aP} (z : rZ_P p h) : rZ_P p h' := by
  unfold rZ_P
  rw [(E 3 rfl).1, (E 3 rfl).2, (E 4 rfl).1, (E 5 rfl).1, (E 6 rfl).1, (E 7 rfl).1, (E 8 rfl).1, (E 9 rfl).1, (E 77 rfl).1, (E 78 rfl).1, (E 79 rfl).1, (E 80 rfl).1, f25, f26, f27, f28, f30]
  exact z
theorem rZ_Lk {h h' : k_H} (E : ∀ p, pcL p = true → Kp h h' p) {LF LH : (Nat → Int32) → Int32} (z : rZ_L LF LH h) : rZ_L LF LH h' := by
  unfold rZ_L
  rw [(E 17 rfl).1, (E 18 rfl).1, (E 20 rfl).1, (E 21 rfl).1, (E 83 rfl).1, (E 84 rfl).1, (E 85 rfl).1]
  exact z
theorem rZ_Nk {h h' : k_H} (E : ∀ p, pcN p = true → Kp h h' p) {p : aP} {m : aM} (z : rZ_N p m h) : rZ_N p m h' := by
  refine ⟨z.1, ?_, by rw [(E 90 rfl).1]; exact z.2.2⟩
  have := z.2.1
  unfold rZ_M at this ⊢
  rw [(E 26 rfl).1, (E 26 rfl).2, (E (26 + 1) rfl).1, (E (26 + 2) rfl).1, (E (26 + 3) rfl).1, (E (26 + 4) rfl).1]
  exact this
theorem st_a1 {p : Nat} (h : pcP p = true) : pcA p = true := by unfold pcA; rw [h]; rfl
theorem st_a2 {p : Nat} (h : pcL p = true) : pcA p = true := by unfold pcA; rw [h, Bool.true_or, Bool.or_true]
theorem st_a3 {p : Nat} (h : pcN p = true) : pcA p = true := by unfold pcA; rw [h, Bool.true_or, Bool.or_true, Bool.or_true]
theorem st_a4 {p : Nat} (h : pcW p = true) : pcA p = true := by unfold pcA; rw [h, Bool.or_true, Bool.or_true, Bool.or_true]
theorem st_103 {p : Nat} (h : 103 ≤ p) : pcW p = true := by
  unfold pcW
  rw [show Nat.ble 103 p = true from Nat.ble_eq_true_of_le h]
  simp only [Bool.or_true]
theorem ap_Ash {us vs : List k_U} (y : Int64) (h : k_H) : (k_ap vs (k_out y (k_ap us h))).1 = h.1 ∧ (k_ap vs (k_out y (k_ap us h))).2.2.2 = h.2.2.2 := ⟨by rw [k_ap_sh]; show (k_ap us h).1 = _; rw [k_ap_sh], by rw [k_ap_rf]; show (k_ap us h).2.2.2 = _; rw [k_ap_rf]⟩
theorem ap_Bsh {us vs : List k_U} (h : k_H) : (k_ap vs (k_ap us h)).1 = h.1 ∧ (k_ap vs (k_ap us h)).2.2.2 = h.2.2.2 := ⟨by rw [k_ap_sh, k_ap_sh], by rw [k_ap_rf, k_ap_rf]⟩
end TXC
