/-! HOLDING: the class -/
section HLX
variable {u : Nat} {S0 : aT} {h : k_H} {LF : (Nat → Int32) → Int32} {K B : Nat → Nat} {sh : Nat}
def pcB (k : Nat) : Nat := nsm (fun i => if k.testBit i then 1 else 0) 8
def mirB (k : Nat) : Nat := nsm (fun x => if k.testBit x then 2 ^ (7 - x) else 0) 8
def lst (j : Nat) : Nat → List Nat
  | 0 => []
  | k + 1 => if pcB k = j then mirB k :: lst j k else lst j k
theorem lst_0 : lst 0 256 = lexl 8 0 0 := by decide +kernel
theorem lst_1 : lst 1 256 = lexl 8 1 0 := by decide +kernel
theorem lst_2 : lst 2 256 = lexl 8 2 0 := by decide +kernel
theorem lst_3 : lst 3 256 = lexl 8 3 0 := by decide +kernel
theorem lst_4 : lst 4 256 = lexl 8 4 0 := by decide +kernel
theorem lst_all {j : Nat} (hj : j ≤ 4) : lst j 256 = lexl 8 j 0 := by
  match j, hj with
  | 0, _ => exact lst_0
  | 1, _ => exact lst_1
  | 2, _ => exact lst_2
  | 3, _ => exact lst_3
  | 4, _ => exact lst_4
  | j + 5, h => omega
theorem pc_mir : ∀ k, k < 256 → pcB (mirB k) = pcB k ∧ mirB k < 256 := by decide +kernel
theorem bc_0 : ∀ k, k < 256 → f_J6_bitCount_0f7a4 0 (nI k) = some (nI (pcB k)) := by decide +kernel
theorem bc_u {k : Nat} (hk : k < 256) : f_J6_bitCount_0f7a4 u (nI k) = some (nI (pcB k)) := bc_0 k hk
def mirF (v : Int32) : Nat → Int32
  | 0 => 0
  | x + 1 => mirF v x ||| (((v.toUInt32 >>> ((nI x).toUInt32 &&& Int32.toUInt32 31)).toInt32 &&& (1 : Int32)) <<< (((7 : Int32) - nI x) &&& 31))
theorem mirF_8 : ∀ k, k < 256 → mirF (nI k) 8 = nI (mirB k) := by decide +kernel
theorem x_mirrored (hu : 20 ≤ u) {k : Nat} (hk : k < 256) : f_X7_mirrored u (nI k) = some (nI (mirB k)) := by
  have key : ∀ r x n, x + r = 8 → r < n → bX7_mirrored_4 u n (nI k) (mirF (nI k) x) (nI x) = some (nI (mirB k)) := by
    intro r
    induction r with
    | zero =>
      intro x n hx hn
      obtain ⟨n, rfl⟩ := z_suc hn
      obtain rfl : x = 8 := by omega
      rw [bX7_mirrored_4, if_pos (show (8 : Int32) ≤ nI 8 by decide), mirF_8 k hk]
    | succ r ih =>
      intro x n hx hn
      obtain ⟨n, rfl⟩ := z_suc hn
      rw [bX7_mirrored_4, if_neg (show ¬ (8 : Int32) ≤ nI x from nI_ge (a := x) (b := 8) (by omega) (by omega)), show nI x + (1 : Int32) = nI (x + 1) from nI_1 x]
      exact ih (x + 1) n (by omega) (by omega)
  exact key 8 0 u (by omega) (by omega)
theorem lN_lb {m i : Nat} (hi : i < 64) : lb (lN m) i = m.testBit i := by
  unfold lb
  rw [wb_tb, BitVec.getLsbD_ofNat, decide_eq_true hi, Bool.true_and]
theorem nI_bt {m i : Nat} (hi : i < 32) : bt (nI m) i = m.testBit i := by
  show (BitVec.ofNat 32 m).getLsbD i = _
  rw [BitVec.getLsbD_ofNat, decide_eq_true hi, Bool.true_and]
theorem tb_256 {m i : Nat} (hm : m < 256) (hi : 8 ≤ i) : m.testBit i = false := Nat.testBit_lt_two_pow (Nat.lt_of_lt_of_le hm (show 256 ≤ 2 ^ i from Nat.pow_le_pow_right (n := 2) (by omega) hi))
/-- the cells of a row's mask -/
theorem mk_lS {y mq : Nat} (hy : y < 6) (hm : mq < 256) : lS ((nI mq).toInt64 <<< (((8 : Int32) * nI y).toInt64 &&& 63)) (fun k => decide (k / 8 = y) && mq.testBit (k % 8)) := by
  intro k hk
  have e : (8 : Int32) * nI y = nI (8 * y) := (Int32.ofNat_mul 8 y).symm
  rw [e, nI_l (by omega), lb_shl _ (by omega) hk]
  show _ = (decide (k < 48) && (decide (k / 8 = y) && mq.testBit (k % 8)))
  by_cases z : 8 * y ≤ k
  · rw [decide_eq_true z, Bool.true_and, lN_lb (by omega)]
    by_cases q : k < 8 * y + 8
    · rw [decide_eq_true (show k < 48 by omega), show k / 8 = y by omega, decide_eq_true rfl, show k - 8 * y = k % 8 by omega]; rfl
    · rw [tb_256 hm (show 8 ≤ k - 8 * y by omega), decide_eq_false (show ¬ k / 8 = y by omega)]
      cases decide (k < 48) <;> rfl
  · rw [decide_eq_false z, decide_eq_false (show ¬ k / 8 = y by omega)]
    cases decide (k < 48) <;> rfl
variable {a6 a7 a13 : Nat → Int32} {len : Int32}
theorem x_isHeld {S : Nat → Nat} {dug prp : Int64} (h1 : lS dug (fun c => S c == 1)) (h2 : lS prp (fun c => S c == 2)) (E : kbA a6 a7 K B) (L : lawX len a13 LF) (hu : 160 ≤ u) {y mq : Nat} (hy : y < 6) (hm : mq < 256) (hsub : sub S y mq = true) (a14 : Nat → Int32) :
    ∃ b, f_X7_isHeld u (nI sh) dug prp a6 a7 len a13 a14 (nI y) (nI mq) = some (zB (rowQ LF K B sh (app S y mq) y), dug, prp, b) := by
  have hc := mk_lS hy hm
  have hs := (sub_iff S y mq).mp hsub
  have inS : ∀ k, (decide (k / 8 = y) && mq.testBit (k % 8)) = true → S k = 1 := by
    intro k hk
    rw [Bool.and_eq_true, decide_eq_true_eq] at hk
    have := hs (k % 8) (by omega) hk.2
    rw [show 8 * y + k % 8 = k by omega] at this
    exact this
  have d1 : lS (dug &&& (((nI mq).toInt64 <<< (((8 : Int32) * nI y).toInt64 &&& 63)) ^^^ (-1 : Int64))) (fun c => app S y mq c == 1) := by
    refine lS_cong (lS_min h1 hc) (fun k hk => ?_)
    show ((S k == 1) && !(decide (k / 8 = y) && mq.testBit (k % 8))) = (app S y mq k == 1)
    unfold app
    cases z : (decide (k / 8 = y) && mq.testBit (k % 8)) with
    | true =>
      rw [if_pos (by rw [Bool.and_eq_true, decide_eq_true_eq] at z; exact z)]
      simp
    | false =>
      rw [if_neg (fun w => by rw [w.2, decide_eq_true w.1] at z; exact absurd z (by decide))]
      simp
  have d2 : lS (prp ||| ((nI mq).toInt64 <<< (((8 : Int32) * nI y).toInt64 &&& 63))) (fun c => app S y mq c == 2) := by
    refine lS_cong (lS_or h2 hc) (fun k hk => ?_)
    show ((S k == 2) || (decide (k / 8 = y) && mq.testBit (k % 8))) = (app S y mq k == 2)
    unfold app
    cases z : (decide (k / 8 = y) && mq.testBit (k % 8)) with
    | true =>
      rw [if_pos (by rw [Bool.and_eq_true, decide_eq_true_eq] at z; exact z), Bool.or_true]
      rfl
    | false =>
      rw [if_neg (fun w => by rw [w.2, decide_eq_true w.1] at z; exact absurd z (by decide)), Bool.or_false]
  have r1 : (dug &&& (((nI mq).toInt64 <<< (((8 : Int32) * nI y).toInt64 &&& 63)) ^^^ (-1 : Int64))) ||| ((nI mq).toInt64 <<< (((8 : Int32) * nI y).toInt64 &&& 63)) = dug := by
    refine lS_eq (lS_cong (lS_or d1 hc) (fun k hk => ?_)) h1
    show ((app S y mq k == 1) || (decide (k / 8 = y) && mq.testBit (k % 8))) = (S k == 1)
    unfold app
    cases z : (decide (k / 8 = y) && mq.testBit (k % 8)) with
    | true => rw [inS k z, Bool.or_true]; rfl
    | false => rw [if_neg (fun w => by rw [w.2, decide_eq_true w.1] at z; exact absurd z (by decide)), Bool.or_false]
  have r2 : (prp ||| ((nI mq).toInt64 <<< (((8 : Int32) * nI y).toInt64 &&& 63))) &&& (((nI mq).toInt64 <<< (((8 : Int32) * nI y).toInt64 &&& 63)) ^^^ (-1 : Int64)) = prp := by
    refine lS_eq (lS_cong (lS_min d2 hc) (fun k hk => ?_)) h2
    show ((app S y mq k == 2) && !(decide (k / 8 = y) && mq.testBit (k % 8))) = (S k == 2)
    unfold app
    cases z : (decide (k / 8 = y) && mq.testBit (k % 8)) with
    | true => rw [inS k z]; simp
    | false => rw [if_neg (fun w => by rw [w.2, decide_eq_true w.1] at z; exact absurd z (by decide))]; simp
  have last : ∀ (b : Bool) (a : Nat → Int32), bX7_isHeld_77 u (nI sh) a6 a7 len a13 (dug &&& (((nI mq).toInt64 <<< (((8 : Int32) * nI y).toInt64 &&& 63)) ^^^ (-1 : Int64))) (prp ||| ((nI mq).toInt64 <<< (((8 : Int32) * nI y).toInt64 &&& 63))) a ((nI mq).toInt64 <<< (((8 : Int32) * nI y).toInt64 &&& 63)) (zB b) = some (zB b, dug, prp, a) := by
    intro b a
    unfold bX7_isHeld_77
    rw [zB_z, r1, r2]
  have key : ∀ r x n a, x + r = 8 → r < n → (∀ i, i < x → fl LF (app S y mq) K B sh (8 * y + i) = false) → ∃ b, bX7_isHeld_38 u (nI sh) a6 a7 len a13 n (dug &&& (((nI mq).toInt64 <<< (((8 : Int32) * nI y).toInt64 &&& 63)) ^^^ (-1 : Int64))) (prp ||| ((nI mq).toInt64 <<< (((8 : Int32) * nI y).toInt64 &&& 63))) a (nI y) ((nI mq).toInt64 <<< (((8 : Int32) * nI y).toInt64 &&& 63)) (zB true) (nI x) = some (zB (rowQ LF K B sh (app S y mq) y), dug, prp, b) := by
    intro r
    induction r with
    | zero =>
      intro x n a hx hn hI
      obtain ⟨n, rfl⟩ := z_suc hn
      obtain rfl : x = 8 := by omega
      rw [bX7_isHeld_38, if_pos (show (8 : Int32) ≤ nI 8 by decide), last, (rowQ_iff LF K B sh (app S y mq) y).mpr hI]
      exact ⟨_, rfl⟩
    | succ r ih =>
      intro x n a hx hn hI
      obtain ⟨n, rfl⟩ := z_suc hn
      have e : (8 : Int32) * nI y + nI x = nI (8 * y + x) := by rw [show (8 : Int32) * nI y = nI (8 * y) from (Int32.ofNat_mul 8 y).symm, nI_add]
      obtain ⟨b1, f1⟩ := x_falls (u := u) (sh := sh) d1 d2 E L hu (show 8 * y + x < 48 by omega) a
      rw [bX7_isHeld_38, if_neg (show ¬ (8 : Int32) ≤ nI x from nI_ge (a := x) (b := 8) (by omega) (by omega)), if_neg (show ¬ zB true = (0 : Int32) from d_10), e, f1, z_b]
      unfold bX7_isHeld_69
      rw [show nI x + (1 : Int32) = nI (x + 1) from nI_1 x]
      cases hf : fl LF (app S y mq) K B sh (8 * y + x) with
      | false =>
        rw [if_pos (show zB false = (0 : Int32) from rfl)]
        exact ih (x + 1) n _ (by omega) (by omega) (fun i hi => by
          by_cases z : i = x
          · rw [z]; exact hf
          · exact hI i (by omega))
      | true =>
        rw [if_neg (show ¬ zB true = (0 : Int32) from d_10)]
        have hq : rowQ LF K B sh (app S y mq) y = false := by
          cases q : rowQ LF K B sh (app S y mq) y with
          | false => rfl
          | true =>
            have := (rowQ_iff LF K B sh (app S y mq) y).mp q x (by omega)
            rw [hf] at this
            exact absurd this (by decide)
        rw [hq]
        have l0 := last false b1
        by_cases z8 : x + 1 = 8
        · obtain ⟨n, rfl⟩ : ∃ m, n = m + 1 := ⟨n - 1, by omega⟩
          rw [bX7_isHeld_38, if_pos (show (8 : Int32) ≤ nI (x + 1) by rw [z8]; decide)]
          exact ⟨_, l0⟩
        · obtain ⟨n, rfl⟩ : ∃ m, n = m + 1 := ⟨n - 1, by omega⟩
          rw [bX7_isHeld_38, if_neg (show ¬ (8 : Int32) ≤ nI (x + 1) from nI_ge (a := x + 1) (b := 8) (by omega) (by omega)), if_pos rfl]
          exact ⟨_, l0⟩
  obtain ⟨b, hb⟩ := key 8 0 u a14 (by omega) (by omega) (fun i hi => absurd hi (Nat.not_lt_zero i))
  unfold f_X7_isHeld bX7_isHeld_0
  exact ⟨b, hb⟩
/-- what a row wants -/
def rwV (LF : (Nat → Int32) → Int32) (K B : Nat → Nat) (sh : Nat) (S : Nat → Nat) (y most : Nat) : Int32 := if kmn LF K B sh S y ≤ most then nI ((fnd (okM LF K B sh S y) (lexl 8 (kmn LF K B sh S y) 0)).getD 0) else -1
theorem x_propsOfRow {S : Nat → Nat} {dug prp : Int64} (h1 : lS dug (fun c => S c == 1)) (h2 : lS prp (fun c => S c == 2)) (E : kbA a6 a7 K B) (L : lawX len a13 LF) (hu : 300 ≤ u) {y most : Nat} (hy : y < 6) (hmo : most ≤ 4) (a14 : Nat → Int32) :
    ∃ b, f_X7_propsOfRow u (nI sh) dug prp a6 a7 len a13 a14 (nI y) (nI most) = some (rwV LF K B sh S y most, dug, prp, b) := by
  have hd : f_X10_rowOf u dug (nI y) = some (rowI (fun x => (S (8 * y + x) == 1)) 8) := x_rowOf h1 hy
  have hsubB : ∀ mq, mq < 256 → ((nI mq &&& ((rowI (fun x => (S (8 * y + x) == 1)) 8) ^^^ (-1 : Int32))) = (0 : Int32)) = (sub S y mq = true) := by
    intro mq hm
    rw [eq_iff_iff, sub_iff]
    constructor
    · intro hz x hx hb
      have := congrArg (fun v => bt v x) hz
      simp only [b_and, b_xor, b_m1 x (by omega), b_0, nI_bt (show x < 32 by omega), hb, Bool.true_and] at this
      rw [rowI_bt _ 8 (by omega) x (by omega), decide_eq_true hx, Bool.true_and] at this
      cases q : (S (8 * y + x) == 1) with
      | true => exact beq_iff_eq.mp q
      | false => rw [q] at this; exact absurd this (by decide)
    · intro hz
      apply b_ext
      intro i hi
      rw [b_and, b_xor, b_m1 i hi, b_0, nI_bt hi, rowI_bt _ 8 (by omega) i hi]
      by_cases q : i < 8
      · rw [decide_eq_true q, Bool.true_and]
        cases hb : mq.testBit i with
        | false => rfl
        | true =>
          rw [hz i q hb]; rfl
      · rw [tb_256 hm (show 8 ≤ i by omega)]; rfl
  -- one size
  have one : ∀ (k12 : Int64 → Int64 → (Nat → Int32) → Int32 → Int32 → Int32 → Int32 → Option (Int32 × Int64 × Int64 × (Nat → Int32))) (j : Nat), j ≤ 4 → ∀ k n a, k ≤ 256 → k < n → ∃ b, bX7_propsOfRow_23 u (nI sh) a6 a7 len a13 k12 n dug prp a (nI y) (nI most) (rowI (fun x => (S (8 * y + x) == 1)) 8) (nI j) (nI k - (1 : Int32)) = (match fnd (okM LF K B sh S y) (lst j k) with | some mq => some (nI mq, dug, prp, b) | none => k12 dug prp b (nI y) (nI most) (rowI (fun x => (S (8 * y + x) == 1)) 8) (nI (j + 1))) := by
    intro k12 j hj k
    induction k with
    | zero =>
      intro n a hk hn
      obtain ⟨n, rfl⟩ := z_suc hn
      rw [bX7_propsOfRow_23, if_pos (show nI 0 - (1 : Int32) < (0 : Int32) by decide), show nI j + (1 : Int32) = nI (j + 1) from nI_1 j]
      exact ⟨a, rfl⟩
    | succ k ih =>
      intro n a hk hn
      obtain ⟨n, rfl⟩ := z_suc hn
      have hk2 : k < 256 := by omega
      obtain ⟨p1, p2⟩ := pc_mir k hk2
      have hpc : pcB k ≤ 8 := by
        have : pcB k ≤ 8 * 1 := nsm_le (fun i _ => by split <;> omega)
        omega
      have nx := fun a => ih n a (by omega) (by omega)
      have em : nI k + (-1 : Int32) = nI k - (1 : Int32) := by rw [Int32.sub_eq_add_neg]
      have el : lst j (k + 1) = if pcB k = j then mirB k :: lst j k else lst j k := rfl
      rw [bX7_propsOfRow_23, show nI (k + 1) - (1 : Int32) = nI k from nI_pred k, if_neg (show ¬ nI k < (0 : Int32) from nI_pos (by omega)), bc_u hk2, z_b]
      unfold bX7_propsOfRow_67
      rw [em, el]
      by_cases z : pcB k = j
      · rw [if_pos z, if_pos (show nI (pcB k) = nI j by rw [z]), x_mirrored (by omega) hk2, z_b]
        have ef : fnd (okM LF K B sh S y) (mirB k :: lst j k) = if okM LF K B sh S y (mirB k) = true then some (mirB k) else fnd (okM LF K B sh S y) (lst j k) := rfl
        rw [ef]
        by_cases w : sub S y (mirB k) = true
        · rw [if_pos ((hsubB _ p2).mpr w)]
          obtain ⟨b, f1⟩ := x_isHeld (u := u) (sh := sh) h1 h2 E L (by omega) hy p2 w a
          rw [f1, z_b]
          have eo : okM LF K B sh S y (mirB k) = rowQ LF K B sh (app S y (mirB k)) y := by unfold okM; rw [w, Bool.true_and]
          rw [eo]
          cases hq : rowQ LF K B sh (app S y (mirB k)) y with
          | false =>
            rw [if_pos (show zB false = (0 : Int32) from rfl), if_neg (show ¬ false = true by decide)]
            exact nx b
          | true =>
            rw [if_neg (show ¬ zB true = (0 : Int32) from d_10), if_pos rfl]
            exact ⟨b, rfl⟩
        · have eo : okM LF K B sh S y (mirB k) = false := by
            unfold okM
            cases q : sub S y (mirB k) with
            | false => rfl
            | true => exact absurd q w
          rw [if_neg (fun q => w ((hsubB _ p2).mp q)), eo, if_neg (show ¬ false = true by decide)]
          exact nx a
      · rw [if_neg z, if_neg (show ¬ nI (pcB k) = nI j from fun w => z ((nI_eq (by omega) (by omega)).mp w))]
        exact nx a
  have sizes : ∀ r j n a, j + r = most + 1 → r < n → (∀ i, i < j → rsB LF K B sh y 8 i 0 S = false) → ∃ b, bX7_propsOfRow_12 u (nI sh) a6 a7 len a13 n dug prp a (nI y) (nI most) (rowI (fun x => (S (8 * y + x) == 1)) 8) (nI j) = some (rwV LF K B sh S y most, dug, prp, b) := by
    intro r
    induction r with
    | zero =>
      intro j n a hj hn hI
      obtain ⟨n, rfl⟩ := z_suc hn
      obtain rfl : j = most + 1 := by omega
      have : ¬ kmn LF K B sh S y ≤ most := by
        intro w
        have h3 := kmn_yes (LF := LF) (K := K) (B := B) (sh := sh) (S0 := S) (y := y) (by omega)
        rw [hI _ (by omega)] at h3
        exact absurd h3 (by decide)
      rw [bX7_propsOfRow_12, if_pos (nI_lt (by omega) (by omega))]
      unfold rwV
      rw [if_neg this]
      exact ⟨_, rfl⟩
    | succ r ih =>
      intro j n a hj hn hI
      obtain ⟨n, rfl⟩ := z_suc hn
      rw [bX7_propsOfRow_12, if_neg (nI_nlt (by omega) (by omega))]
      obtain ⟨b, f1⟩ := one (bX7_propsOfRow_12 u (nI sh) a6 a7 len a13 n) j (by omega) 256 u a (by omega) (by omega)
      rw [show (255 : Int32) = nI 256 - (1 : Int32) from by decide, f1, lst_all (by omega)]
      have hrs := rs_lex (LF := LF) (K := K) (B := B) (sh := sh) y 8 j 0 S 0 (by omega)
      have hB := rs_B LF K B sh y 8 j 0 S 0
      cases q : fnd (okM LF K B sh S y) (lexl 8 j 0) with
      | some mq =>
        rw [q] at hrs
        rw [hrs] at hB
        have hk : kmn LF K B sh S y = j := by
          have h3 := kmn_le (LF := LF) (K := K) (B := B) (sh := sh) (S0 := S) (y := y) (j := j) (by omega) hB.symm
          by_cases w : kmn LF K B sh S y < j
          · have h4 := kmn_yes (LF := LF) (K := K) (B := B) (sh := sh) (S0 := S) (y := y) (by omega)
            rw [hI _ w] at h4
            exact absurd h4 (by decide)
          · omega
        refine ⟨b, ?_⟩
        unfold rwV
        rw [hk, if_pos (by omega), q]
        rfl
      | none =>
        rw [q] at hrs
        rw [hrs] at hB
        refine ih (j + 1) n b (by omega) (by omega) (fun i hi => ?_)
        by_cases z : i = j
        · rw [z]; exact hB.symm
        · exact hI i (by omega)
  unfold f_X7_propsOfRow bX7_propsOfRow_0
  rw [hd, z_b]
  exact sizes (most + 1) 0 u a14 (by omega) (by omega) (fun i hi => absurd hi (Nat.not_lt_zero i))
theorem lex_ok : ∀ j, j ≤ 4 → ∀ a, a ∈ lexl 8 j 0 → pcB a = j ∧ a < 256 := by decide +kernel
set_option maxRecDepth 4000 in
theorem x_hold (hu : 700 ≤ u) (R : Rel S0 h) (w : Int32) :
    ∀ r y n (s19 : Nat → Int32) (z11 z12 z13 z14 z15 z16 z17 : Int32) (z5 : Int64) (za zb zc zd : Nat → Int32) (many dg : Nat), y + r = pH (rS_P S0) → r < n → many ≤ 4 → ∃ o, bX7_propsToHold_21 u (h.2.1 3 1) (h.2.1 4) (h.2.1 5) (h.2.1 17 2) (h.2.1 18) (h.2.1 26 10) (h.2.1 26 11) (h.2.1 26 12) (h.2.1 26 13) (h.2.1 26 14) (h.2.1 26 15) (h.2.1 26 16) (h.2.1 26 17) (h.2.2.1 26 3) (h.2.2.1 26 4) (h.2.2.1 26 5) (h.2.1 27) (h.2.1 28) (h.2.1 29) (h.2.1 30) n s19 (nI (aSh (rS_M S0))) z11 z12 z13 z14 z15 z16 z17 (h.2.2.1 26 3) (h.2.2.1 26 4) z5 za zb zc zd w (nI many) (lN dg) (nI y) = some o ∧ o.1 = (if many + nmn (rS_F S0) (pK (rS_P S0)) (pB (rS_P S0)) (aSh (rS_M S0)) (aS (rS_M S0)) (6 - y) y ≤ 4 then (if w = 0 then (nI (many + nmn (rS_F S0) (pK (rS_P S0)) (pB (rS_P S0)) (aSh (rS_M S0)) (aS (rS_M S0)) (6 - y) y)).toInt64 else lN (dmn (rS_F S0) (pK (rS_P S0)) (pB (rS_P S0)) (aSh (rS_M S0)) (aS (rS_M S0)) (6 - y) y dg)) else -1) := by
  obtain ⟨-, ⟨P, ⟨xw, xh, xa, xs, xc, xo, xk, xp, xor⟩, -⟩, ⟨lF, lH, xF, xH, mF, mH⟩, ⟨I, X, M⟩, -⟩ := R
  obtain ⟨Mx, hb, hsh, -⟩ := X
  have h6 := P.2.1.2
  rw [xh]
  intro r
  induction r with
  | zero =>
    intro y n s19 z11 z12 z13 z14 z15 z16 z17 z5 za zb zc zd many dg hy hn hm
    obtain ⟨n, rfl⟩ := z_suc hn
    obtain rfl : y = pH (rS_P S0) := by omega
    obtain ⟨n1, n2⟩ := nmn_0 (LF := rS_F S0) (K := pK (rS_P S0)) (B := pB (rS_P S0)) (sh := aSh (rS_M S0)) (S0 := aS (rS_M S0)) (6 - pH (rS_P S0)) (pH (rS_P S0)) (fun i h1 h2 => by
      rw [rowQ_iff]
      intro x hx
      have : aS (rS_M S0) (8 * i + x) = 0 := I.1.2 _ (by omega) (by
        unfold inG
        rw [show (8 * i + x) / 8 = i by omega, decide_eq_false (show ¬ i < pH (rS_P S0) by omega), Bool.and_false])
      unfold fl
      rw [this]
      rfl)
    rw [bX7_propsToHold_21, if_pos (nI_le (Nat.le_refl _) (by omega)), n1, n2, if_pos (show many + 0 ≤ 4 by omega)]
    by_cases z : w = 0
    · rw [if_pos z, if_pos z]; exact ⟨_, rfl, rfl⟩
    · rw [if_neg z, if_neg z]; exact ⟨_, rfl, rfl⟩
  | succ r ih =>
    intro y n s19 z11 z12 z13 z14 z15 z16 z17 z5 za zb zc zd many dg hy hn hm
    obtain ⟨n, rfl⟩ := z_suc hn
    have hy6 : y < 6 := by omega
    have e6 : 6 - y = (6 - (y + 1)) + 1 := by omega
    have en : nmn (rS_F S0) (pK (rS_P S0)) (pB (rS_P S0)) (aSh (rS_M S0)) (aS (rS_M S0)) (6 - y) y = kmn (rS_F S0) (pK (rS_P S0)) (pB (rS_P S0)) (aSh (rS_M S0)) (aS (rS_M S0)) y + nmn (rS_F S0) (pK (rS_P S0)) (pB (rS_P S0)) (aSh (rS_M S0)) (aS (rS_M S0)) (6 - (y + 1)) (y + 1) := by rw [e6]; rfl
    have ed : dmn (rS_F S0) (pK (rS_P S0)) (pB (rS_P S0)) (aSh (rS_M S0)) (aS (rS_M S0)) (6 - y) y dg = dmn (rS_F S0) (pK (rS_P S0)) (pB (rS_P S0)) (aSh (rS_M S0)) (aS (rS_M S0)) (6 - (y + 1)) (y + 1) ((rs (rS_F S0) (pK (rS_P S0)) (pB (rS_P S0)) (aSh (rS_M S0)) y 8 (kmn (rS_F S0) (pK (rS_P S0)) (pB (rS_P S0)) (aSh (rS_M S0)) (aS (rS_M S0)) y) 0 (aS (rS_M S0)) dg).getD 0) := by rw [e6]; rfl
    obtain ⟨b, f1⟩ := x_propsOfRow (u := u) (sh := aSh (rS_M S0)) Mx.1 Mx.2.1 xk xF (by omega) hy6 (show 4 - many ≤ 4 by omega) s19
    rw [bX7_propsToHold_21, if_neg (nI_ge (a := y) (b := pH (rS_P S0)) (by omega) (by omega)), show (4 : Int32) - nI many = nI (4 - many) from z_sub (a := 4) hm, f1, z_b]
    unfold rwV
    by_cases z : kmn (rS_F S0) (pK (rS_P S0)) (pB (rS_P S0)) (aSh (rS_M S0)) (aS (rS_M S0)) y ≤ 4 - many
    · rw [if_pos z]
      have hB := kmn_yes (LF := rS_F S0) (K := pK (rS_P S0)) (B := pB (rS_P S0)) (sh := aSh (rS_M S0)) (S0 := aS (rS_M S0)) (y := y) (by omega)
      obtain ⟨v, hv⟩ := rs_some (rS_F S0) (pK (rS_P S0)) (pB (rS_P S0)) (aSh (rS_M S0)) hB dg
      have hrs := rs_lex (LF := rS_F S0) (K := pK (rS_P S0)) (B := pB (rS_P S0)) (sh := aSh (rS_M S0)) y 8 (kmn (rS_F S0) (pK (rS_P S0)) (pB (rS_P S0)) (aSh (rS_M S0)) (aS (rS_M S0)) y) 0 (aS (rS_M S0)) dg (by omega)
      rw [hv] at hrs
      cases q : fnd (okM (rS_F S0) (pK (rS_P S0)) (pB (rS_P S0)) (aSh (rS_M S0)) (aS (rS_M S0)) y) (lexl 8 (kmn (rS_F S0) (pK (rS_P S0)) (pB (rS_P S0)) (aSh (rS_M S0)) (aS (rS_M S0)) y) 0) with
      | none => rw [q] at hrs; exact absurd hrs (by simp)
      | some mq =>
        rw [q] at hrs
        have hvd : v = dgF y mq 8 0 dg := Option.some.inj hrs
        obtain ⟨l1, l2⟩ := lex_ok _ (show kmn (rS_F S0) (pK (rS_P S0)) (pB (rS_P S0)) (aSh (rS_M S0)) (aS (rS_M S0)) y ≤ 4 by omega) mq (fnd_mem _ q).1
        show ∃ o, (if nI mq = (-1 : Int32) then _ else _) = some o ∧ _
        rw [if_neg (show ¬ nI mq = (-1 : Int32) from fun w => by
          have := congrArg Int32.toInt w
          rw [nI_toInt (by omega)] at this
          have e : (-1 : Int32).toInt = -1 := rfl
          omega)]
        show ∃ o, k_b (f_J6_bitCount_0f7a4 u (nI mq)) _ = some o ∧ _
        rw [bc_u l2, z_b, l1, nI_add]
        have bits : ∀ n' s x n (dg : Nat), x + s = 8 → s < n → bX7_propsToHold_68 u (nI (pH (rS_P S0))) (h.2.1 4) (h.2.1 5) (h.2.1 17 2) (h.2.1 18) (h.2.1 26 10) (h.2.1 26 11) (h.2.1 26 12) (h.2.1 26 13) (h.2.1 26 14) (h.2.1 26 15) (h.2.1 26 16) (h.2.1 26 17) (h.2.2.1 26 3) (h.2.2.1 26 4) (h.2.2.1 26 5) (h.2.1 27) (h.2.1 28) (h.2.1 29) (h.2.1 30) (bX7_propsToHold_21 u (nI (pH (rS_P S0))) (h.2.1 4) (h.2.1 5) (h.2.1 17 2) (h.2.1 18) (h.2.1 26 10) (h.2.1 26 11) (h.2.1 26 12) (h.2.1 26 13) (h.2.1 26 14) (h.2.1 26 15) (h.2.1 26 16) (h.2.1 26 17) (h.2.2.1 26 3) (h.2.2.1 26 4) (h.2.2.1 26 5) (h.2.1 27) (h.2.1 28) (h.2.1 29) (h.2.1 30) n') n b (nI (aSh (rS_M S0))) z11 z12 z13 z14 z15 z16 z17 (h.2.2.1 26 3) (h.2.2.1 26 4) z5 za zb zc zd w (nI (many + kmn (rS_F S0) (pK (rS_P S0)) (pB (rS_P S0)) (aSh (rS_M S0)) (aS (rS_M S0)) y)) (lN dg) (nI y) (nI mq) (nI x) = bX7_propsToHold_21 u (nI (pH (rS_P S0))) (h.2.1 4) (h.2.1 5) (h.2.1 17 2) (h.2.1 18) (h.2.1 26 10) (h.2.1 26 11) (h.2.1 26 12) (h.2.1 26 13) (h.2.1 26 14) (h.2.1 26 15) (h.2.1 26 16) (h.2.1 26 17) (h.2.2.1 26 3) (h.2.2.1 26 4) (h.2.2.1 26 5) (h.2.1 27) (h.2.1 28) (h.2.1 29) (h.2.1 30) n' b (nI (aSh (rS_M S0))) z11 z12 z13 z14 z15 z16 z17 (h.2.2.1 26 3) (h.2.2.1 26 4) z5 za zb zc zd w (nI (many + kmn (rS_F S0) (pK (rS_P S0)) (pB (rS_P S0)) (aSh (rS_M S0)) (aS (rS_M S0)) y)) (lN (dgF y mq s x dg)) (nI (y + 1)) := by
          intro n' s
          induction s with
          | zero =>
            intro x n dg hx hn
            obtain ⟨n, rfl⟩ := z_suc hn
            obtain rfl : x = 8 := by omega
            rw [bX7_propsToHold_68, if_pos (show (8 : Int32) ≤ nI 8 by decide), show nI y + (1 : Int32) = nI (y + 1) from nI_1 y]
            rfl
          | succ s ihs =>
            intro x n dg hx hn
            obtain ⟨n, rfl⟩ := z_suc hn
            have e : dgF y mq (s + 1) x dg = dgF y mq s (x + 1) (if mq.testBit x = true then 64 * dg + (8 * y + x) + 1 else dg) := rfl
            have ee : lN dg * (64 : Int64) + ((8 : Int32) * nI y).toInt64 + (nI x).toInt64 + (1 : Int64) = lN (64 * dg + (8 * y + x) + 1) := by
              rw [show (8 : Int32) * nI y = nI (8 * y) from (Int32.ofNat_mul 8 y).symm, nI_l (by omega), nI_l (by omega), show (64 : Int64) = lN 64 from rfl, lN_mul, lN_add, lN_add, show (1 : Int64) = lN 1 from rfl, lN_add]
              rw [show dg * 64 + 8 * y + x + 1 = 64 * dg + (8 * y + x) + 1 by omega]
            rw [bX7_propsToHold_68, if_neg (show ¬ (8 : Int32) ≤ nI x from nI_ge (a := x) (b := 8) (by omega) (by omega)), b_tu (by omega), nI_bt (by omega)]
            unfold bX7_propsToHold_106
            rw [show nI x + (1 : Int32) = nI (x + 1) from nI_1 x, e]
            cases hb : mq.testBit x with
            | false =>
              rw [if_pos (show (if false = true then (1 : Int32) else 0) = 0 by decide), if_neg (show ¬ false = true by decide)]
              exact ihs (x + 1) n dg (by omega) (by omega)
            | true =>
              rw [if_neg (show ¬ (if true = true then (1 : Int32) else 0) = 0 by decide), if_pos rfl, ee]
              exact ihs (x + 1) n _ (by omega) (by omega)
        have nx := ih (y + 1) n b z11 z12 z13 z14 z15 z16 z17 z5 za zb zc zd (many + kmn (rS_F S0) (pK (rS_P S0)) (pB (rS_P S0)) (aSh (rS_M S0)) (aS (rS_M S0)) y) v (by omega) (by omega) (by omega)
        rw [show many + kmn (rS_F S0) (pK (rS_P S0)) (pB (rS_P S0)) (aSh (rS_M S0)) (aS (rS_M S0)) y + nmn (rS_F S0) (pK (rS_P S0)) (pB (rS_P S0)) (aSh (rS_M S0)) (aS (rS_M S0)) (6 - (y + 1)) (y + 1) = many + nmn (rS_F S0) (pK (rS_P S0)) (pB (rS_P S0)) (aSh (rS_M S0)) (aS (rS_M S0)) (6 - y) y by omega] at nx
        rw [ed, hv]
        obtain ⟨o, g1, g2⟩ := nx
        refine ⟨o, ?_, g2⟩
        refine Eq.trans (bits n 8 0 u dg (by omega) (by omega)) ?_
        rw [← hvd]
        exact g1
    · rw [if_neg z]
      show ∃ o, (if (-1 : Int32) = (-1 : Int32) then _ else _) = some o ∧ _
      rw [if_pos rfl, if_neg (by omega)]
      exact ⟨_, rfl, rfl⟩
set_option maxRecDepth 4000 in
theorem n_19 (hu : 700 ≤ u) (R : Rel S0 h) (a1 : Int32) : N_19 u h a1 := by
  have Xh := fun w => x_hold hu R w
  obtain ⟨-, ⟨P, ⟨xw, xh, xa, xs, xc, xo, xk, xp, xor⟩, ⟨mw, mh, ms, mc, mo, mk, mp, mor⟩⟩, ⟨lF, lH, xF, xH, mF, mH⟩, ⟨I, X, M⟩, -, -, ⟨r, -, -⟩, -, -⟩ := R
  obtain ⟨Mx, hb, hsh, -⟩ := X
  unfold N_19
  rw [mw, mh]
  unfold f_X10_hold bX10_hold_0 f_X11_hold bX11_hold_0
  rcases d_either (u := u) a1 with ⟨q, e3, e4⟩ | ⟨e3, e4⟩
  · obtain ⟨g, t1, t2⟩ := m_take (u := u) (by omega) M (h.2.1 91)
    obtain ⟨o', g1, g2, g3, g4⟩ := m_hold (u := u) (LF := rS_F S0) (K := pK (rS_P S0)) (B := pB (rS_P S0)) (sh := aSh (rS_M S0)) P.1.2 P.2.1.2 mk mF lF (by omega) t2.1 I.1 t2.2.2.1 (h.2.1 90) (0 : Int32) (h.2.1 71) a1 5 0 u (h.2.1 86) (h.2.1 87) (h.2.1 93) (by omega) (by omega) (by omega)
    have xg : ∀ w : Int32, ∃ o, f_X7_propsToHold u (h.2.1 3 1) (h.2.1 4) (h.2.1 5) (h.2.1 17 2) (h.2.1 18) (h.2.1 19) (h.2.1 26 10) (h.2.1 26 11) (h.2.1 26 12) (h.2.1 26 13) (h.2.1 26 14) (h.2.1 26 15) (h.2.1 26 16) (h.2.1 26 17) (h.2.2.1 26 3) (h.2.2.1 26 4) (h.2.2.1 26 5) (h.2.1 27) (h.2.1 28) (h.2.1 29) (h.2.1 30) (h.2.1 43 10) (h.2.1 43 11) (h.2.1 43 12) (h.2.1 43 13) (h.2.1 43 14) (h.2.1 43 15) (h.2.1 43 16) (h.2.1 43 17) (h.2.2.1 43 3) (h.2.2.1 43 4) (h.2.2.1 43 5) (h.2.1 44) (h.2.1 45) (h.2.1 46) (h.2.1 47) w = some o ∧ o.1 = hldV (rS_F S0) (pK (rS_P S0)) (pB (rS_P S0)) (aSh (rS_M S0)) (aS (rS_M S0)) w := by
      intro w
      unfold f_X7_propsToHold bX7_propsToHold_0 f_X3_copyFrom bX3_copyFrom_0
      rw [z_b]
      obtain ⟨o, f1, f2⟩ := Xh w (pH (rS_P S0)) 0 u (h.2.1 19) (h.2.1 26 11) (h.2.1 26 12) (h.2.1 26 13) (h.2.1 26 14) (h.2.1 26 15) (h.2.1 26 16) (h.2.1 26 17) (h.2.2.1 26 5) (va_cpy (h.2.1 27) (h.2.1 44) 0 0 6) (va_cpy (h.2.1 28) (h.2.1 45) 0 0 6) (va_cpy (h.2.1 29) (h.2.1 46) 0 0 6) (va_cpy (h.2.1 30) (h.2.1 47) 0 0 6) 0 0 (by omega) (by have := P.2.1.2; omega) (by omega)
      rw [← hsh] at f1
      refine ⟨o, f1, ?_⟩
      rw [f2, Nat.zero_add]
      rfl
    rw [e3, e4, z_b, z_b, x_need1, m_need1, z_b, z_b, if_pos rfl, if_neg d_10, t1, z_b]
    unfold bX10_hold_26
    rcases q with rfl | rfl
    · obtain ⟨o, x1, x2⟩ := xg 0
      rw [if_neg (show ¬ (0 : Int32) = 1 by decide), x1, z_b]
      exact ⟨_, o', rfl, g1, Or.inl ⟨rfl, g3, by show o.1 = o'.1; rw [x2, g2]⟩, by rw [g4]; exact r⟩
    · obtain ⟨o, x1, x2⟩ := xg 1
      rw [if_pos rfl, x1, z_b]
      exact ⟨_, o', rfl, g1, Or.inl ⟨rfl, g3, by show o.1 = o'.1; rw [x2, g2]⟩, by rw [g4]; exact r⟩
  · rw [e3, e4, z_b, z_b, x_need0, m_need0, z_b, z_b, if_neg d_30, if_pos rfl]
    exact ⟨_, _, rfl, rfl, Or.inr ⟨rfl, rfl⟩, r_upd r (by omega)⟩
end HLX
