/-! QUERIES: the way to a cell, the class -/
section WAX
variable {u : Nat}
theorem x_dry {al : Int64} {I : Nat → Bool} (hI : lS al I) {a4 : Nat → Int32} {K : Nat → Nat} (hK : ∀ c, c < 48 → K c ≤ 5 ∧ a4 c = nI (K c)) (hu : 60 ≤ u) : ∃ r, f_X7_dryCells u al a4 = some r ∧ lS r (fun c => !(K c == 5) && I c) := by
  have key : ∀ r k n v, k + r = 48 → r < n → lS v (fun c => decide (c < k) && !(K c == 5)) → ∃ o, bX7_dryCells_4 u al a4 n v (nI k) = some o ∧ lS o (fun c => !(K c == 5) && I c) := by
    intro r
    induction r with
    | zero =>
      intro k n v hk hn hv
      obtain ⟨n, rfl⟩ := z_suc hn
      obtain rfl : k = 48 := by omega
      rw [bX7_dryCells_4, if_pos (show (48 : Int32) ≤ nI 48 by decide)]
      exact ⟨_, rfl, lS_cong (lS_and hv hI) (fun c hc => by show ((decide (c < 48) && !(K c == 5)) && I c) = _; rw [decide_eq_true hc]; rfl)⟩
    | succ r ih =>
      intro k n v hk hn hv
      obtain ⟨n, rfl⟩ := z_suc hn
      have hk2 : k < 48 := by omega
      have e1 : nI k + (1 : Int32) = nI (k + 1) := nI_1 k
      have hq := hK k hk2
      rw [bX7_dryCells_4, if_neg (show ¬ (48 : Int32) ≤ nI k from nI_ge (a := k) (b := 48) hk2 (by omega)), z_ki (by omega) (by omega), z_cl (by omega), hq.2]
      unfold bX7_dryCells_31
      rw [e1]
      by_cases z : K k = 5
      · rw [z, if_pos (show nI 5 = (5 : Int32) from rfl)]
        refine ih (k + 1) n _ (by omega) (by omega) ?_
        refine lS_cong (lS_or hv lS_0) (fun c hc => ?_)
        show ((decide (c < k) && !(K c == 5)) || false) = (decide (c < k + 1) && !(K c == 5))
        rw [Bool.or_false]
        by_cases y : c = k
        · rw [y, z]; simp
        · by_cases x : c < k
          · rw [decide_eq_true x, decide_eq_true (by omega)]
          · rw [decide_eq_false x, decide_eq_false (by omega)]
      · rw [if_neg (show ¬ nI (K k) = (5 : Int32) from fun w => z ((nI_eq (b := 5) (by omega) (by omega)).mp w))]
        refine ih (k + 1) n _ (by omega) (by omega) ?_
        refine lS_cong (lS_or hv (lS_bit hk2)) (fun c hc => ?_)
        show ((decide (c < k) && !(K c == 5)) || decide (c = k)) = (decide (c < k + 1) && !(K c == 5))
        by_cases y : c = k
        · subst y
          rw [decide_eq_true rfl, decide_eq_true (show c < c + 1 by omega), Bool.or_true]
          have : (K c == 5) = false := beq_false_of_ne z
          rw [this]; rfl
        · rw [decide_eq_false y, Bool.or_false]
          by_cases x : c < k
          · rw [decide_eq_true x, decide_eq_true (by omega)]
          · rw [decide_eq_false x, decide_eq_false (by omega)]
  exact key 48 0 u 0 (by omega) (by omega) (lS_cong lS_0 (fun c hc => by rw [decide_eq_false (Nat.not_lt_zero c)]; rfl))
theorem nb_in : ∀ c, c < 48 → ∀ d, d < 48 → bsd (fun k => decide (k = c)) d = ((decide (d + 1 = c) && decide (0 < c % 8)) || ((decide (c + 1 = d) && decide (c % 8 < 7)) || (decide (d + 8 = c) || decide (c + 8 = d)))) := by decide +kernel
theorem stp_all : k_stp.getD 0 0 = -nI 8 ∧ k_stp.getD 1 0 = -nI 1 ∧ k_stp.getD 2 0 = nI 1 ∧ k_stp.getD 3 0 = nI 8 := ⟨rfl, rfl, rfl, rfl⟩
theorem mx_if {a b : Nat} (ha : a < 2147483648) (hb : b < 2147483648) : (if nI a < nI b then nI b else nI a) = nI (max a b) := by
  by_cases z : a < b
  · rw [if_pos (nI_lt z hb), show max a b = b by omega]
  · rw [if_neg (nI_nlt (by omega) ha), show max a b = a by omega]
/-- one cell's most -/
theorem x_most4 {a5 : Nat → Int32} {dug prp fal : Int64} {k3 : (Nat → Int32) → Int64 → Int64 → Int32 → Option (Nat → Int32)} {a42 : Nat → Int32} {v2 v4 v7 : Int64} {p : Nat → Bool} {w : Nat → Nat} {c : Nat} (hc : c < 48) (h7 : ∀ d, d < 48 → lb v7 d = (bsd (fun k => decide (k = c)) d && p d)) (hw : ∀ d, d < 48 → p d = true → a42 d = nI (w d) ∧ w d ≤ 100000) (hu : 10 ≤ u) :
    bX7_countBars_42 u a5 dug prp fal k3 u a42 v2 v4 (nI c) v7 (0 : Int32) (0 : Int32) = k_b (f_X3_barsLeft u dug prp fal a5 (nI c)) (fun r117 => bX7_countBars_122 u a5 dug prp fal k3 (upd a42 c (nI (mx4 p w c) + r117)) v2 v4 (nI c)) := by
  obtain ⟨s0, s1, s2, s3⟩ := stp_all
  have hm0 : ∀ (q : Prop) [Decidable q] (d : Nat), (q → d < 48 ∧ p d = true) → (if q then w d else 0) ≤ 100000 := by
    intro q _ d h
    by_cases z : q
    · rw [if_pos z]; exact (hw d (h z).1 (h z).2).2
    · rw [if_neg z]; omega
  -- one direction
  have bit : ∀ d, d < 48 → (lg_cmp ((v7.toUInt64 >>> ((nI d).toInt64.toUInt64 &&& Int64.toUInt64 63)).toInt64 &&& (1 : Int64)) (0 : Int64) = (0 : Int32)) = (lb v7 d = false) := fun d hd => lb_t (by omega)
  have stepI : ∀ (n : Nat) (j : Nat) (m d : Nat), j < 4 → m ≤ 100000 → d < 48 → nI c + k_stp.getD j 0 = nI d → bX7_countBars_42 u a5 dug prp fal k3 (n + 1) a42 v2 v4 (nI c) v7 (nI m) (nI j) = bX7_countBars_42 u a5 dug prp fal k3 n a42 v2 v4 (nI c) v7 (nI (max m (if bsd (fun k => decide (k = c)) d = true ∧ p d = true then w d else 0))) (nI (j + 1)) := by
    intro n j m d hj hm hd he
    have ej : nI j + (1 : Int32) = nI (j + 1) := nI_1 j
    rw [bX7_countBars_42, if_neg (show ¬ (4 : Int32) ≤ nI j from nI_ge (a := j) (b := 4) hj (by omega)), z_ki (by omega) (by omega), z_cl (by omega), he, if_neg (show ¬ nI d < (0 : Int32) from nI_pos (by omega)), if_neg (show ¬ (48 : Int32) ≤ nI d from nI_ge (a := d) (b := 48) hd (by omega))]
    unfold bX7_countBars_100
    rw [ej]
    have hb := h7 d hd
    by_cases z : bsd (fun k => decide (k = c)) d = true ∧ p d = true
    · obtain ⟨w1, w2⟩ := hw d hd z.2
      rw [z.1, z.2] at hb
      rw [if_neg (show ¬ lg_cmp ((v7.toUInt64 >>> ((nI d).toInt64.toUInt64 &&& Int64.toUInt64 63)).toInt64 &&& (1 : Int64)) (0 : Int64) = (0 : Int32) from fun q => by have := (bit d hd).mp q; rw [hb] at this; exact absurd this (by decide)), z_ki (by omega) (by omega), z_cl (by omega), w1, mx_if (by omega) (by omega), if_pos z]
    · have : lb v7 d = false := by
        rw [hb]
        cases q1 : bsd (fun k => decide (k = c)) d with
        | false => rfl
        | true =>
          cases q2 : p d with
          | false => rfl
          | true => exact absurd ⟨q1, q2⟩ z
      rw [if_pos (show lg_cmp ((v7.toUInt64 >>> ((nI d).toInt64.toUInt64 &&& Int64.toUInt64 63)).toInt64 &&& (1 : Int64)) (0 : Int64) = (0 : Int32) from (bit d hd).mpr this), if_neg z, show max m 0 = m by omega]
  have stepL : ∀ (n : Nat) (j : Nat) (m : Nat), j < 4 → (nI c + k_stp.getD j 0 < (0 : Int32)) → bX7_countBars_42 u a5 dug prp fal k3 (n + 1) a42 v2 v4 (nI c) v7 (nI m) (nI j) = bX7_countBars_42 u a5 dug prp fal k3 n a42 v2 v4 (nI c) v7 (nI m) (nI (j + 1)) := by
    intro n j m hj he
    have ej : nI j + (1 : Int32) = nI (j + 1) := nI_1 j
    rw [bX7_countBars_42, if_neg (show ¬ (4 : Int32) ≤ nI j from nI_ge (a := j) (b := 4) hj (by omega)), z_ki (by omega) (by omega), z_cl (by omega), if_pos he]
    unfold bX7_countBars_100
    rw [ej]
  have stepG : ∀ (n : Nat) (j : Nat) (m d : Nat), j < 4 → nI c + k_stp.getD j 0 = nI d → 48 ≤ d → d < 100 → bX7_countBars_42 u a5 dug prp fal k3 (n + 1) a42 v2 v4 (nI c) v7 (nI m) (nI j) = bX7_countBars_42 u a5 dug prp fal k3 n a42 v2 v4 (nI c) v7 (nI m) (nI (j + 1)) := by
    intro n j m d hj he hd hd2
    have ej : nI j + (1 : Int32) = nI (j + 1) := nI_1 j
    rw [bX7_countBars_42, if_neg (show ¬ (4 : Int32) ≤ nI j from nI_ge (a := j) (b := 4) hj (by omega)), z_ki (by omega) (by omega), z_cl (by omega), he, if_neg (show ¬ nI d < (0 : Int32) from nI_pos (by omega)), if_pos (show (48 : Int32) ≤ nI d from nI_le (a := 48) hd (by omega))]
    unfold bX7_countBars_100
    rw [ej]
  have sb : ∀ k, k ≤ c → nI c + -nI k = nI (c - k) := fun k hk => z_addm hk
  have neg : ∀ k, c < k → k ≤ 8 → nI c + -nI k < (0 : Int32) := by
    intro k h1 h2
    have e : nI c + -nI k = -nI (k - c) := by
      rw [show nI k = nI c + nI (k - c) by rw [nI_add]; congr 1; omega, Int32.neg_add, Int32.sub_eq_add_neg, ← Int32.add_assoc]
      rw [show nI c + -nI c = (0 : Int32) from Int32.add_right_neg (nI c), Int32.zero_add]
    rw [e]
    show -nI (k - c) < nI 0
    rw [z_ml (by omega) (by omega)]
    omega
  have A0 : ∀ n, bX7_countBars_42 u a5 dug prp fal k3 (n + 1) a42 v2 v4 (nI c) v7 (nI 0) (nI 0) = bX7_countBars_42 u a5 dug prp fal k3 n a42 v2 v4 (nI c) v7 (nI (max 0 (if 8 ≤ c ∧ p (c - 8) = true then w (c - 8) else 0))) (nI 1) := by
    intro n
    by_cases z : 8 ≤ c
    · rw [stepI n 0 0 (c - 8) (by omega) (by omega) (by omega) (by rw [s0]; exact sb 8 z)]
      have hn : bsd (fun k => decide (k = c)) (c - 8) = true := by
        rw [nb_in c hc (c - 8) (by omega), decide_eq_true (show c - 8 + 8 = c by omega)]
        simp
      simp only [hn, z, true_and]
    · rw [stepL n 0 0 (by omega) (by rw [s0]; exact neg 8 (by omega) (by omega)), if_neg (fun w => z w.1)]
      rfl
  have hA0 : max 0 (if 8 ≤ c ∧ p (c - 8) = true then w (c - 8) else 0) ≤ 100000 := by
    have := hm0 (8 ≤ c ∧ p (c - 8) = true) (c - 8) (fun h => ⟨by omega, h.2⟩)
    omega
  have A1 : ∀ n m, m ≤ 100000 → bX7_countBars_42 u a5 dug prp fal k3 (n + 1) a42 v2 v4 (nI c) v7 (nI m) (nI 1) = bX7_countBars_42 u a5 dug prp fal k3 n a42 v2 v4 (nI c) v7 (nI (max m (if 0 < c % 8 ∧ p (c - 1) = true then w (c - 1) else 0))) (nI 2) := by
    intro n m hm
    by_cases z : 1 ≤ c
    · rw [stepI n 1 m (c - 1) (by omega) hm (by omega) (by rw [s1]; exact sb 1 z)]
      have hn : bsd (fun k => decide (k = c)) (c - 1) = decide (0 < c % 8) := by
        rw [nb_in c hc (c - 1) (by omega), decide_eq_true (show c - 1 + 1 = c by omega), decide_eq_false (show ¬ c + 1 = c - 1 by omega), decide_eq_false (show ¬ c - 1 + 8 = c by omega), decide_eq_false (show ¬ c + 8 = c - 1 by omega)]
        simp
      simp only [hn, decide_eq_true_eq]
    · rw [stepL n 1 m (by omega) (by rw [s1]; exact neg 1 (by omega) (by omega)), if_neg (fun w => by omega), show max m 0 = m by omega]
  have A2 : ∀ n m, m ≤ 100000 → bX7_countBars_42 u a5 dug prp fal k3 (n + 1) a42 v2 v4 (nI c) v7 (nI m) (nI 2) = bX7_countBars_42 u a5 dug prp fal k3 n a42 v2 v4 (nI c) v7 (nI (max m (if c % 8 < 7 ∧ p (c + 1) = true then w (c + 1) else 0))) (nI 3) := by
    intro n m hm
    by_cases z : c + 1 < 48
    · rw [stepI n 2 m (c + 1) (by omega) hm (by omega) (by rw [s2]; exact nI_add c 1)]
      have hn : bsd (fun k => decide (k = c)) (c + 1) = decide (c % 8 < 7) := by
        rw [nb_in c hc (c + 1) (by omega), decide_eq_true (show c + 1 = c + 1 from rfl), decide_eq_false (show ¬ c + 1 + 1 = c by omega), decide_eq_false (show ¬ c + 1 + 8 = c by omega), decide_eq_false (show ¬ c + 8 = c + 1 by omega)]
        simp
      simp only [hn, decide_eq_true_eq]
    · rw [stepG n 2 m (c + 1) (by omega) (by rw [s2]; exact nI_add c 1) (by omega) (by omega), if_neg (fun w => by omega), show max m 0 = m by omega]
  have A3 : ∀ n m, m ≤ 100000 → bX7_countBars_42 u a5 dug prp fal k3 (n + 1) a42 v2 v4 (nI c) v7 (nI m) (nI 3) = bX7_countBars_42 u a5 dug prp fal k3 n a42 v2 v4 (nI c) v7 (nI (max m (if c < 40 ∧ p (c + 8) = true then w (c + 8) else 0))) (nI 4) := by
    intro n m hm
    by_cases z : c + 8 < 48
    · rw [stepI n 3 m (c + 8) (by omega) hm (by omega) (by rw [s3]; exact nI_add c 8)]
      have hn : bsd (fun k => decide (k = c)) (c + 8) = true := by
        rw [nb_in c hc (c + 8) (by omega), decide_eq_true (show c + 8 = c + 8 from rfl)]
        simp
      simp only [hn, show c < 40 by omega, true_and]
    · rw [stepG n 3 m (c + 8) (by omega) (by rw [s3]; exact nI_add c 8) (by omega) (by omega), if_neg (fun w => by omega), show max m 0 = m by omega]
  obtain ⟨n, rfl⟩ : ∃ n, u = n + 5 := ⟨u - 5, by omega⟩
  have h1 := hm0 (0 < c % 8 ∧ p (c - 1) = true) (c - 1) (fun h => ⟨by omega, h.2⟩)
  have h2 := hm0 (c % 8 < 7 ∧ p (c + 1) = true) (c + 1) (fun h => ⟨by omega, h.2⟩)
  have h3 := hm0 (c < 40 ∧ p (c + 8) = true) (c + 8) (fun h => ⟨by omega, h.2⟩)
  have e0 : bX7_countBars_42 (n + 5) a5 dug prp fal k3 (n + 5) a42 v2 v4 (nI c) v7 (0 : Int32) (0 : Int32) = _ := A0 (n + 4)
  rw [e0, A1 (n + 3) _ hA0, A2 (n + 2) _ (by omega), A3 (n + 1) _ (by omega)]
  rw [bX7_countBars_42, if_pos (show (4 : Int32) ≤ nI 4 by decide), z_cl (by omega)]
  have hx : max (max (max (max 0 (if 8 ≤ c ∧ p (c - 8) = true then w (c - 8) else 0)) (if 0 < c % 8 ∧ p (c - 1) = true then w (c - 1) else 0)) (if c % 8 < 7 ∧ p (c + 1) = true then w (c + 1) else 0)) (if c < 40 ∧ p (c + 8) = true then w (c + 8) else 0) = mx4 p w c := by
    unfold mx4
    rw [show max 0 (if 8 ≤ c ∧ p (c - 8) = true then w (c - 8) else 0) = (if 8 ≤ c ∧ p (c - 8) = true then w (c - 8) else 0) by omega]
  rw [hx]
  simp only [z_ki hc (show c < 2147483648 by omega)]
theorem x_countBars {a5 : Nat → Int32} {dug prp fal : Int64} {T Bt : Nat → Nat} (M : mS dug prp fal T) (hT : ∀ c, c < 48 → T c ≤ 3) (hB : ∀ c, c < 48 → a5 c = nI (Bt c)) {cells ahead : Int64} {q p : Nat → Bool} (hq : lS cells q) (hp : lS ahead p) (hd : ∀ c, c < 48 → q c = true → p c = false) {w : Nat → Nat} {a42 : Nat → Int32} (hw : ∀ d, d < 48 → p d = true → a42 d = nI (w d) ∧ w d ≤ 100000) (hu : 60 ≤ u) :
    ∃ b42, f_X7_countBars u a5 dug prp fal a42 cells ahead = some b42 ∧ ∀ c, c < 48 → b42 c = if q c = true then nI (mx4 p w c + brl T Bt c) else a42 c := by
  have key : ∀ r k n b, k + r = 48 → r < n → (∀ c, c < 48 → b c = if c < k ∧ q c = true then nI (mx4 p w c + brl T Bt c) else a42 c) → ∃ b42, bX7_countBars_3 u a5 dug prp fal n b cells ahead (nI k) = some b42 ∧ ∀ c, c < 48 → b42 c = if q c = true then nI (mx4 p w c + brl T Bt c) else a42 c := by
    intro r
    induction r with
    | zero =>
      intro k n b hk hn hb
      obtain ⟨n, rfl⟩ := z_suc hn
      obtain rfl : k = 48 := by omega
      rw [bX7_countBars_3, if_pos (show (48 : Int32) ≤ nI 48 by decide)]
      refine ⟨b, rfl, fun c hc => ?_⟩
      rw [hb c hc]
      by_cases z : q c = true
      · rw [if_pos ⟨hc, z⟩, if_pos z]
      · rw [if_neg (fun w => z w.2), if_neg z]
    | succ r ih =>
      intro k n b hk hn hb
      obtain ⟨n, rfl⟩ := z_suc hn
      have hk2 : k < 48 := by omega
      have e1 : nI k + (1 : Int32) = nI (k + 1) := nI_1 k
      rw [bX7_countBars_3, if_neg (show ¬ (48 : Int32) ≤ nI k from nI_ge (a := k) (b := 48) hk2 (by omega))]
      have hbit : lb cells k = q k := lS_get hq hk2
      cases hz : q k with
      | false =>
        rw [if_pos (show lg_cmp ((cells.toUInt64 >>> ((nI k).toInt64.toUInt64 &&& Int64.toUInt64 63)).toInt64 &&& (1 : Int64)) (0 : Int64) = (0 : Int32) from (lb_t (by omega)).mpr (by rw [hbit, hz]))]
        unfold bX7_countBars_122
        rw [e1]
        refine ih (k + 1) n b (by omega) (by omega) (fun c hc => ?_)
        rw [hb c hc]
        by_cases y : c = k
        · rw [y, hz, if_neg (fun w => absurd w.2 (by decide)), if_neg (fun w => absurd w.2 (by decide))]
        · by_cases x : c < k
          · simp only [x, show c < k + 1 by omega]
          · rw [if_neg (fun w => x w.1), if_neg (fun w => by omega)]
      | true =>
        rw [if_neg (show ¬ lg_cmp ((cells.toUInt64 >>> ((nI k).toInt64.toUInt64 &&& Int64.toUInt64 63)).toInt64 &&& (1 : Int64)) (0 : Int64) = (0 : Int32) from fun w => by have := (lb_t (m := cells) (show k < 64 by omega)).mp w; rw [hbit, hz] at this; exact absurd this (by decide))]
        obtain ⟨rr, r1, r2⟩ := x_beside (u := u) (lS_bit hk2)
        rw [r1, z_b]
        have pk : ∀ d, d < 48 → p d = true → b d = nI (w d) ∧ w d ≤ 100000 := by
          intro d hd2 hpd
          have : q d ≠ true := fun hqd => by
            have := hd d hd2 hqd
            rw [hpd] at this
            exact absurd this (by decide)
          rw [hb d hd2, if_neg (fun w => this w.2)]
          exact hw d hd2 hpd
        rw [x_most4 (u := u) (p := p) (w := w) hk2 (fun d hd2 => by rw [lb_and, r2 d hd2, lS_get hp hd2]) pk (by omega), x_bars M hB hk2 (hT k hk2), z_b, nI_add]
        unfold bX7_countBars_122
        rw [e1]
        refine ih (k + 1) n _ (by omega) (by omega) (fun c hc => ?_)
        simp only [z_upd]
        by_cases y : c = k
        · rw [if_pos y, y, if_pos ⟨by omega, hz⟩]
        · rw [if_neg y, hb c hc]
          by_cases x : c < k
          · simp only [x, show c < k + 1 by omega]
          · rw [if_neg (fun w => x w.1), if_neg (fun w => by omega)]
  exact key 48 0 u a42 (by omega) (by omega) (fun c hc => by rw [if_neg (fun w => absurd w.1 (Nat.not_lt_zero c))])
/-- cells that a way may go through -/
def fre (p : aP) (m : aM) (g c : Nat) : Bool := inG (pW p) (pH p) c && (!opn (aS m) c && (!(pK p c == 5) || decide (c = g)))
def fr1 (p : aP) (m : aM) (g c : Nat) : Bool := fre p m g c && (bsd (opn (aS m)) c || (decide (c < 8) && pD p c))
theorem wv_le {F F1 : Nat → Bool} {B : Nat → Nat} (hB : ∀ c, B c ≤ 9) : ∀ k c, c < 48 → lyW F F1 k c = true → wvW F F1 B k c ≤ 9 * (k + 1)
  | 0, c, _, _ => by
    show B c ≤ 9
    exact hB c
  | k + 1, c, hc, h => by
    show mx4 (lyW F F1 k) (wvW F F1 B k) c + B c ≤ _
    rw [ly_s, Bool.and_eq_true, Bool.and_eq_true] at h
    obtain ⟨d, h1, h2, h3, h4⟩ := mx4_at (w := wvW F F1 B k) hc ((bsd_adj hc).mp h.1.1)
    have := wv_le hB k d h1 h3
    have := hB c
    omega
def wyV (F F1 : Nat → Bool) (B : Nat → Nat) (w : Int32) (g : Nat) : Int32 := if stW F F1 g < 1000 then (if w = 0 then nI (stW F F1 g) else nI (msW F F1 B g)) else -1
theorem x_way61 {al sf : Int64} {a4 a5 : Nat → Int32} {dug prp fal : Int64} {T Bt : Nat → Nat} (M : mS dug prp fal T) (hT : ∀ c, c < 48 → T c ≤ 3) (hB : ∀ c, c < 48 → a5 c = nI (Bt c)) (hB9 : ∀ c, Bt c ≤ 9) {F F1 : Nat → Bool} (hF : ∀ c, F1 c = true → F c = true) {v6 : Int64} (h6 : lS v6 F) {g : Nat} (hg : g < 48) (hu : 100 ≤ u) (w : Int32) :
    ∀ r k n a42 v8 v10, k + r = 48 → r < n → lS v8 (lyW F F1 k) → lS v10 (snW F F1 k) → (∀ j, j < k → lyW F F1 j g = false) → (∀ c, c < 48 → lyW F F1 k c = true → a42 c = nI (wvW F F1 (brl T Bt) k c)) → ∃ b42, bX7_wayTo_61 u al sf a4 a5 dug prp fal n a42 (nI g) w ((1 : Int64) <<< ((nI g).toInt64 &&& 63)) v6 v8 v10 (nI (k + 1)) = some (wyV F F1 (brl T Bt) w g, b42) := by
  have hBr : ∀ c, brl T Bt c ≤ 9 := fun c => by
    have := hB9 c
    unfold brl
    split <;> omega
  have noneV : (∀ j, j < 48 → lyW F F1 j g = false) → wyV F F1 (brl T Bt) w g = -1 := by
    intro hj
    have : ¬ stW F F1 g < 1000 := by
      intro z
      obtain ⟨h1, h2⟩ := ly_of F F1 z
      have := hj _ (ly_48 F F1 hF hg h1)
      rw [h1] at this
      exact absurd this (by decide)
    unfold wyV
    rw [if_neg this]
  intro r
  induction r with
  | zero =>
    intro k n a42 v8 v10 hk hn h8 h10 hj ha
    obtain ⟨n, rfl⟩ := z_suc hn
    obtain rfl : k = 48 := by omega
    rw [bX7_wayTo_61, if_pos (show (48 : Int32) < nI (48 + 1) by decide), noneV hj]
    exact ⟨_, rfl⟩
  | succ r ih =>
    intro k n a42 v8 v10 hk hn h8 h10 hj ha
    obtain ⟨n, rfl⟩ := z_suc hn
    have hk2 : k < 48 := by omega
    rw [bX7_wayTo_61, if_neg (show ¬ (48 : Int32) < nI (k + 1) from nI_nlt (a := 48) (b := k + 1) (by omega) (by omega))]
    by_cases z8 : lg_cmp v8 (0 : Int64) = (0 : Int32)
    · rw [if_pos z8]
      have e0 : v8 = 0 := (lb_cmp0 v8).mp z8
      have hno : ∀ c, c < 48 → lyW F F1 k c = false := fun c hc => by rw [← lS_get h8 hc, e0, lb_0]
      refine ⟨a42, ?_⟩
      rw [noneV]
      intro j hj2
      by_cases y : j < k
      · exact hj j y
      · have := ly_no F F1 hno (j - k) g hg
        rw [show k + (j - k) = j by omega] at this
        exact this
    · rw [if_neg z8]
      have hbit : lb v8 g = lyW F F1 k g := lS_get h8 hg
      cases hz : lyW F F1 k g with
      | true =>
        rw [if_neg (show ¬ lg_cmp (v8 &&& ((1 : Int64) <<< ((nI g).toInt64 &&& 63))) (0 : Int64) = (0 : Int32) from fun q => by have := (lb_m (m := v8) (show g < 64 by omega)).mp q; rw [hbit, hz] at this; exact absurd this (by decide))]
        have hst := st_of F F1 hF hg hz
        have hfk := fk_of F F1 hF hg hz
        have hv : wyV F F1 (brl T Bt) w g = if w = 0 then nI (k + 1) else nI (wvW F F1 (brl T Bt) k g) := by
          unfold wyV msW
          rw [hst, if_pos (by omega), hfk]
        rw [hv]
        by_cases y : w = 0
        · rw [if_pos y, if_pos y]; exact ⟨_, rfl⟩
        · rw [if_neg y, if_neg y, if_neg (show ¬ (48 : Int32) ≤ nI g from nI_ge (a := g) (b := 48) hg (by omega)), z_ki (by omega) (by omega), z_cl (by omega), ha g hg hz]
          exact ⟨_, rfl⟩
      | false =>
        rw [if_pos (show lg_cmp (v8 &&& ((1 : Int64) <<< ((nI g).toInt64 &&& 63))) (0 : Int64) = (0 : Int32) from (lb_m (m := v8) (show g < 64 by omega)).mpr (by rw [hbit, hz]))]
        obtain ⟨rr, r1, r2⟩ := x_beside (u := u) h8
        rw [r1, z_b]
        have hfur : lS ((rr &&& v6) &&& (v10 ^^^ (-1 : Int64))) (lyW F F1 (k + 1)) := by
          intro c hc
          rw [lb_and, lb_and, lb_not hc, h6 c hc, h10 c hc]
          by_cases y : c < 48
          · rw [r2 c y, decide_eq_true y, Bool.true_and, Bool.true_and, Bool.true_and, ly_s]
          · rw [decide_eq_false y]
            simp
        obtain ⟨b42, c1, c2⟩ := x_countBars (u := u) M hT hB hfur h8 (fun c hc hq => by
          cases y : lyW F F1 k c with
          | false => rfl
          | true =>
            have := ly_one F F1 y hq
            omega) (w := wvW F F1 (brl T Bt) k) (a42 := a42) (fun d hd hp => ⟨ha d hd hp, by have := wv_le hBr k d hd hp; omega⟩) (by omega)
        rw [c1, z_b]
        have e1 : nI (k + 1) + (1 : Int32) = nI (k + 1 + 1) := nI_1 _
        rw [e1]
        refine ih (k + 1) n b42 _ _ (by omega) (by omega) hfur ?_ (fun j hj2 => ?_) (fun c hc hl => ?_)
        · exact lS_cong (lS_or h10 hfur) (fun c hc => (sn_s F F1 k c).symm)
        · by_cases y : j = k
          · rw [y]; exact hz
          · exact hj j (by omega)
        · rw [c2 c hc, if_pos hl]
          rfl
end WAX
