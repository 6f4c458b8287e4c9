/-! LullabyPit$Mine.settle(I)V -/
theorem ds_X3_settle : k_ds [(0, 0, 13), (1, 2, 0), (3, 2, 0), (4, 2, 0)] = true := by decide +kernel
set_option maxHeartbeats 400000 in
set_option maxRecDepth 100000 in
theorem sX3_settle_18 (u : Nat) {X : k_X} {ad : Nat → Nat} (C : k_C X cX3_settle RX3 4 ad) (hr : X.meth.sig.returnType = none) (hR : X.R.frames = 2 ∧ X.R.locals = 47) {I : Nat → Nat → Int32} {L : Nat → Nat → Int64} {Rf : Nat → Nat → Option Nat} {c5_10 : Int32} (ec5_10 : I 5 10 = c5_10) {a8 : (Nat → Int32)} (ea8 : I 8 = a8) {a10 : (Nat → Int32)} (ea10 : I 10 = a10) {a11 : (Nat → Int32)} (ea11 : I 11 = a11) {out : Int32 × (Nat → Int32) × (Nat → Int32) × (Nat → Int32)} : ∀ (n : Nat) (c0_13 : Int32) (a1 : (Nat → Int32)) (a3 : (Nat → Int32)) (a4 : (Nat → Int32)) (v1 : Int32) (v2 : Int32), bX3_settle_18 u c5_10 a8 a10 a11 n c0_13 a1 a3 a4 v1 v2 = some out → k_W X 4 0 0 (k_Q X ad none (k_ap [(0, .inl (13, out.1)), (1, .inr (.inr (.inl out.2.1))), (3, .inr (.inr (.inl out.2.2.1))), (4, .inr (.inr (.inl out.2.2.2)))] (shMine, I, L, Rf))) ad (k_ap [(0, .inl (13, c0_13)), (1, .inr (.inr (.inl a1))), (3, .inr (.inr (.inl a3))), (4, .inr (.inr (.inl a4)))] (shMine, I, L, Rf)) 18 [some (.ref 0), some (.int v1), some (.int v2), none] [] := by
  intro n
  induction n with
  | zero => intro c0_13 a1 a3 a4 v1 v2 h; cases h
  | succ n ih =>
    intro c0_13 a1 a3 a4 v1 v2 h
    refine r_iload_n C dX3_settle_18 (rfl : 18 + 1 = 19) rfl ?_
    refine r_iconst (v := (4 : Int32)) C dX3_settle_19 (rfl : 19 + 1 = 20) rfl ?_
    refine r_icmp_gt (tgt := 79) C dX3_settle_20 (by decide) (rfl : 20 + 3 = 23) (fun c20 => ?_) (fun c20 => ?_)
    · have h := k_t c20 h
      refine r_aload_n C dX3_settle_79 (rfl : 79 + 1 = 80) rfl ?_
      refine r_getR (q := 4) C dX3_settle_80 (rfl : 80 + 3 = 83) fl_X3_21 rfl rfl ?_
      refine r_iload_n C dX3_settle_83 (rfl : 83 + 1 = 84) rfl ?_
      refine r_iconst (v := (1 : Int32)) C dX3_settle_84 (rfl : 84 + 1 = 85) rfl ?_
      obtain ⟨hi85, h⟩ := k_i_of h
      refine s_i (j := (v1).toNatClampNeg) (f := a4) (us' := [(0, .inl (13, c0_13)), (1, .inr (.inr (.inl a1))), (3, .inr (.inr (.inl a3))), (4, .inr (.inr (.inl (upd a4 ((v1).toNatClampNeg) (1 : Int32)))))]) C dX3_settle_85 (rfl : 85 + 1 = 86) rfl rfl hi85 rfl ds_X3_settle rfl rfl rfl ?_
      cases h
      exact r_vret C hr dX3_settle_86
    · have h := k_f c20 h
      refine r_aload_n C dX3_settle_23 (rfl : 23 + 1 = 24) rfl ?_
      refine r_getR (q := 5) C dX3_settle_24 (rfl : 24 + 3 = 27) fl_X3_24 rfl rfl ?_
      refine r_iload_n C dX3_settle_27 (rfl : 27 + 1 = 28) rfl ?_
      refine r_iload_n C dX3_settle_28 (rfl : 28 + 1 = 29) rfl ?_
      obtain ⟨r29, q29, h⟩ := k_b_of h
      refine d_Vp (pi := [5, 6, 7, 8, 9, 10, 11]) (shl := shPit) (bl := 0) (As := [.int v1, .int v2]) (Al := [.int v1, .int v2]) (st := []) (st' := [.int r29]) (h' := k_ap [(0, .inl (13, c0_13)), (1, .inr (.inr (.inl a1))), (3, .inr (.inr (.inl a3))), (4, .inr (.inr (.inl a4)))] (shMine, I, L, Rf)) C hR ⟨Nat.zero_le _, Nat.zero_le _⟩ mv_X5_wanted lk_X3_196 dX3_settle_29 (rfl : 29 + 3 = 32) rfl rfl ck_shMine_shPit_5_10 rfl rfl (c_X5_wanted X.l u (k_pl [5, 6, 7, 8, 9, 10, 11] shPit (k_ap [(0, .inl (13, c0_13)), (1, .inr (.inr (.inl a1))), (3, .inr (.inr (.inl a3))), (4, .inr (.inr (.inl a4)))] (shMine, I, L, Rf))) rfl ec5_10 ea10 ea11 q29) rfl (fun _ => rfl) rfl (fun _ => rfl) rfl rfl rfl rfl rfl ?_
      refine r_istore_n C dX3_settle_32 (rfl : 32 + 1 = 33) (by decide) (Nat.le_of_ble_eq_true rfl) ?_
      show k_W _ _ _ _ _ _ _ _ [some (.ref 0), some (.int v1), some (.int v2), some (.int r29)] _
      refine r_aload_n C dX3_settle_33 (rfl : 33 + 1 = 34) rfl ?_
      refine r_getR (q := 1) C dX3_settle_34 (rfl : 34 + 3 = 37) fl_X3_9 rfl rfl ?_
      refine r_iload_n C dX3_settle_37 (rfl : 37 + 1 = 38) rfl ?_
      refine r_dup2 C dX3_settle_38 (rfl : 38 + 1 = 39) rfl rfl ?_
      obtain ⟨hi39, h⟩ := k_i_of h
      refine a_i (j := (v2).toNatClampNeg) (f := a1) C dX3_settle_39 (rfl : 39 + 1 = 40) rfl rfl hi39 rfl ?_
      refine r_iload_n C dX3_settle_40 (rfl : 40 + 1 = 41) rfl ?_
      refine r_isub C dX3_settle_41 (rfl : 41 + 1 = 42) ?_
      obtain ⟨hi42, h⟩ := k_i_of h
      refine s_i (j := (v2).toNatClampNeg) (f := a1) (us' := [(0, .inl (13, c0_13)), (1, .inr (.inr (.inl (upd a1 ((v2).toNatClampNeg) ((a1 ((v2).toNatClampNeg)) - r29))))), (3, .inr (.inr (.inl a3))), (4, .inr (.inr (.inl a4)))]) C dX3_settle_42 (rfl : 42 + 1 = 43) rfl rfl hi42 rfl ds_X3_settle rfl rfl rfl ?_
      refine r_aload_n C dX3_settle_43 (rfl : 43 + 1 = 44) rfl ?_
      refine r_getR (q := 3) C dX3_settle_44 (rfl : 44 + 3 = 47) fl_X3_18 rfl rfl ?_
      refine r_iload_n C dX3_settle_47 (rfl : 47 + 1 = 48) rfl ?_
      refine r_dup2 C dX3_settle_48 (rfl : 48 + 1 = 49) rfl rfl ?_
      obtain ⟨hi49, h⟩ := k_i_of h
      refine a_i (j := (v2).toNatClampNeg) (f := a3) C dX3_settle_49 (rfl : 49 + 1 = 50) rfl rfl hi49 rfl ?_
      refine r_iload_n C dX3_settle_50 (rfl : 50 + 1 = 51) rfl ?_
      refine r_iadd C dX3_settle_51 (rfl : 51 + 1 = 52) ?_
      obtain ⟨hi52, h⟩ := k_i_of h
      refine s_i (j := (v2).toNatClampNeg) (f := a3) (us' := [(0, .inl (13, c0_13)), (1, .inr (.inr (.inl (upd a1 ((v2).toNatClampNeg) ((a1 ((v2).toNatClampNeg)) - r29))))), (3, .inr (.inr (.inl (upd a3 ((v2).toNatClampNeg) ((a3 ((v2).toNatClampNeg)) + r29))))), (4, .inr (.inr (.inl a4)))]) C dX3_settle_52 (rfl : 52 + 1 = 53) rfl rfl hi52 rfl ds_X3_settle rfl rfl rfl ?_
      refine r_aload_n C dX3_settle_53 (rfl : 53 + 1 = 54) rfl ?_
      refine r_dup C dX3_settle_54 (rfl : 54 + 1 = 55) rfl ?_
      refine r_getI (v := c0_13) C dX3_settle_55 (rfl : 55 + 3 = 58) fl_X3_66 rfl rfl rfl ?_
      refine r_iload_n C dX3_settle_58 (rfl : 58 + 1 = 59) rfl ?_
      refine r_aload_n C dX3_settle_59 (rfl : 59 + 1 = 60) rfl ?_
      refine r_getR (q := 5) C dX3_settle_60 (rfl : 60 + 3 = 63) fl_X3_24 rfl rfl ?_
      refine r_getR (q := 8) C dX3_settle_63 (rfl : 63 + 3 = 66) fl_X3_134 rfl rfl ?_
      refine r_iload_n C dX3_settle_66 (rfl : 66 + 1 = 67) rfl ?_
      obtain ⟨hi67, h⟩ := k_i_of h
      refine a_i (j := (v2).toNatClampNeg) (f := a8) C dX3_settle_67 (rfl : 67 + 1 = 68) rfl ea8 hi67 rfl ?_
      refine r_imul C dX3_settle_68 (rfl : 68 + 1 = 69) ?_
      refine r_iadd C dX3_settle_69 (rfl : 69 + 1 = 70) ?_
      refine p_I (us' := [(0, .inl (13, (c0_13 + (r29 * (a8 ((v2).toNatClampNeg)))))), (1, .inr (.inr (.inl (upd a1 ((v2).toNatClampNeg) ((a1 ((v2).toNatClampNeg)) - r29))))), (3, .inr (.inr (.inl (upd a3 ((v2).toNatClampNeg) ((a3 ((v2).toNatClampNeg)) + r29))))), (4, .inr (.inr (.inl a4)))]) C dX3_settle_70 (rfl : 70 + 3 = 73) fp_X3_66 rfl rfl ds_X3_settle rfl rfl rfl ?_
      refine r_iinc (v := (v2 + (1 : Int32))) C dX3_settle_73 (rfl : 73 + 3 = 76) rfl rfl (by decide) ?_
      show k_W _ _ _ _ _ _ _ _ [some (.ref 0), some (.int v1), some (.int (v2 + (1 : Int32))), some (.int r29)] _
      refine r_goto (tgt := 18) C dX3_settle_76 (by decide) ?_
      refine k_mask [true, true, true, false] ?_
      exact ih (c0_13 + (r29 * (a8 ((v2).toNatClampNeg)))) (upd a1 ((v2).toNatClampNeg) ((a1 ((v2).toNatClampNeg)) - r29)) (upd a3 ((v2).toNatClampNeg) ((a3 ((v2).toNatClampNeg)) + r29)) a4 v1 (v2 + (1 : Int32)) h
set_option maxHeartbeats 400000 in
set_option maxRecDepth 100000 in
theorem sX3_settle_0 (u : Nat) {X : k_X} {ad : Nat → Nat} (C : k_C X cX3_settle RX3 4 ad) (hr : X.meth.sig.returnType = none) (hR : X.R.frames = 2 ∧ X.R.locals = 47) {I : Nat → Nat → Int32} {L : Nat → Nat → Int64} {Rf : Nat → Nat → Option Nat} {c5_10 : Int32} (ec5_10 : I 5 10 = c5_10) {a8 : (Nat → Int32)} (ea8 : I 8 = a8) {a10 : (Nat → Int32)} (ea10 : I 10 = a10) {a11 : (Nat → Int32)} (ea11 : I 11 = a11) {out : Int32 × (Nat → Int32) × (Nat → Int32) × (Nat → Int32)} : ∀ (c0_13 : Int32) (a1 : (Nat → Int32)) (a3 : (Nat → Int32)) (a4 : (Nat → Int32)) (v1 : Int32), bX3_settle_0 u c5_10 a8 a10 a11 c0_13 a1 a3 a4 v1 = some out → k_W X 4 0 0 (k_Q X ad none (k_ap [(0, .inl (13, out.1)), (1, .inr (.inr (.inl out.2.1))), (3, .inr (.inr (.inl out.2.2.1))), (4, .inr (.inr (.inl out.2.2.2)))] (shMine, I, L, Rf))) ad (k_ap [(0, .inl (13, c0_13)), (1, .inr (.inr (.inl a1))), (3, .inr (.inr (.inl a3))), (4, .inr (.inr (.inl a4)))] (shMine, I, L, Rf)) 0 [some (.ref 0), some (.int v1), none, none] [] := by
  intro c0_13 a1 a3 a4 v1 h
  unfold bX3_settle_0 at h
  refine r_aload_n C dX3_settle_0 (rfl : 0 + 1 = 1) rfl ?_
  refine r_iload_n C dX3_settle_1 (rfl : 1 + 1 = 2) rfl ?_
  obtain ⟨r2, q2, h⟩ := k_b_of h
  refine d_V (As := [.int v1]) (st := []) (st' := [.int r2]) (h' := k_ap [(0, .inl (13, c0_13)), (1, .inr (.inr (.inl a1))), (3, .inr (.inr (.inl a3))), (4, .inr (.inr (.inl a4)))] (shMine, I, L, Rf)) C hR ⟨Nat.zero_le _, Nat.zero_le _⟩ mv_X3_lacking lk_X3_193 dX3_settle_2 (rfl : 2 + 3 = 5) rfl rfl rfl rfl (c_X3_lacking X.l u (k_ap [(0, .inl (13, c0_13)), (1, .inr (.inr (.inl a1))), (3, .inr (.inr (.inl a3))), (4, .inr (.inr (.inl a4)))] (shMine, I, L, Rf)) rfl rfl ec5_10 ea10 ea11 q2) rfl rfl rfl rfl rfl ?_
  refine r_if_le (tgt := 16) C dX3_settle_5 (by decide) (rfl : 5 + 3 = 8) (fun c5 => ?_) (fun c5 => ?_)
  · have h := k_t c5 h
    refine r_iconst (v := (1 : Int32)) C dX3_settle_16 (rfl : 16 + 1 = 17) rfl ?_
    refine r_istore_n C dX3_settle_17 (rfl : 17 + 1 = 18) (by decide) (Nat.le_of_ble_eq_true rfl) ?_
    show k_W _ _ _ _ _ _ _ _ [some (.ref 0), some (.int v1), some (.int (1 : Int32)), none] _
    refine k_mask [true, true, true, false] ?_
    exact sX3_settle_18 u C hr hR ec5_10 ea8 ea10 ea11 u c0_13 a1 a3 a4 v1 (1 : Int32) h
  · have h := k_f c5 h
    refine r_aload_n C dX3_settle_8 (rfl : 8 + 1 = 9) rfl ?_
    refine r_getR (q := 4) C dX3_settle_9 (rfl : 9 + 3 = 12) fl_X3_21 rfl rfl ?_
    refine r_iload_n C dX3_settle_12 (rfl : 12 + 1 = 13) rfl ?_
    refine r_iconst (v := (2 : Int32)) C dX3_settle_13 (rfl : 13 + 1 = 14) rfl ?_
    obtain ⟨hi14, h⟩ := k_i_of h
    refine s_i (j := (v1).toNatClampNeg) (f := a4) (us' := [(0, .inl (13, c0_13)), (1, .inr (.inr (.inl a1))), (3, .inr (.inr (.inl a3))), (4, .inr (.inr (.inl (upd a4 ((v1).toNatClampNeg) (2 : Int32)))))]) C dX3_settle_14 (rfl : 14 + 1 = 15) rfl rfl hi14 rfl ds_X3_settle rfl rfl rfl ?_
    cases h
    exact r_vret C hr dX3_settle_15
set_option maxHeartbeats 400000 in
set_option maxRecDepth 100000 in
theorem c_X3_settle (l : Launch) (u : Nat) (h : k_H) (hsh : h.1 = shMine) {c0_13 : Int32} (ec0_13 : h.2.1 0 13 = c0_13) {a1 : (Nat → Int32)} (ea1 : h.2.1 1 = a1) {a3 : (Nat → Int32)} (ea3 : h.2.1 3 = a3) {a4 : (Nat → Int32)} (ea4 : h.2.1 4 = a4) {c5_10 : Int32} (ec5_10 : h.2.1 5 10 = c5_10) {a8 : (Nat → Int32)} (ea8 : h.2.1 8 = a8) {a10 : (Nat → Int32)} (ea10 : h.2.1 10 = a10) {a11 : (Nat → Int32)} (ea11 : h.2.1 11 = a11) {x0 : Int32} {out : Int32 × (Nat → Int32) × (Nat → Int32) × (Nat → Int32)} (hf : f_X3_settle u c0_13 a1 a3 a4 c5_10 a8 a10 a11 x0 = some out) : k_CT l yX3_settle cX3_settle 4 none 2 47 [.ref 0, .int x0] h none [(0, .inl (13, out.1)), (1, .inr (.inr (.inl out.2.1))), (3, .inr (.inr (.inl out.2.2.1))), (4, .inr (.inr (.inl out.2.2.2)))] := by
  obtain ⟨sh, I, L, Rf⟩ := h
  try dsimp only
  obtain rfl : sh = shMine := hsh
  refine k_ofW (by decide) (Nat.le_of_ble_eq_true rfl) ?_
  intro X ad hl hR0 hr C
  have hR : X.R.frames = 2 ∧ X.R.locals = 47 := by rw [hR0]; exact ⟨rfl, rfl⟩
  have h := hf
  unfold f_X3_settle at h
  refine k_start (us := [(0, .inl (13, c0_13)), (1, .inr (.inr (.inl a1))), (3, .inr (.inr (.inl a3))), (4, .inr (.inr (.inl a4)))]) (k_ao_I ec0_13 (k_ao_A ea1 (k_ao_A ea3 (k_ao_A ea4 k_ap_0)))) ?_
  show k_W X 4 0 0 _ ad (k_ap [(0, .inl (13, c0_13)), (1, .inr (.inr (.inl a1))), (3, .inr (.inr (.inl a3))), (4, .inr (.inr (.inl a4)))] (shMine, I, L, Rf)) 0 [some (.ref 0), some (.int x0), none, none] []
  refine k_mask [true, true, false, false] ?_
  exact sX3_settle_0 u C hr hR ec5_10 ea8 ea10 ea11 c0_13 a1 a3 a4 x0 h
/-! LullabyPit$Mine.endShift()Z -/
theorem ds_X3_endShift : k_ds [(0, 0, 10), (0, 0, 11), (0, 0, 13), (1, 2, 0), (3, 2, 0), (4, 2, 0)] = true := by decide +kernel
set_option maxHeartbeats 400000 in
set_option maxRecDepth 100000 in
theorem sX3_endShift_46 (u : Nat) {X : k_X} {ad : Nat → Nat} (C : k_C X cX3_endShift RX3 2 ad) (hr : X.meth.sig.returnType = (some .boolean)) (hR : X.R.frames = 3 ∧ X.R.locals = 70) {I : Nat → Nat → Int32} {L : Nat → Nat → Int64} {Rf : Nat → Nat → Option Nat} {c5_10 : Int32} (ec5_10 : I 5 10 = c5_10) {a8 : (Nat → Int32)} (ea8 : I 8 = a8) {a9 : (Nat → Int32)} (ea9 : I 9 = a9) {a10 : (Nat → Int32)} (ea10 : I 10 = a10) {a11 : (Nat → Int32)} (ea11 : I 11 = a11) {out : Int32 × Int32 × Int32 × Int32 × (Nat → Int32) × (Nat → Int32) × (Nat → Int32)} {k14 : Int32 → Int32 → Int32 → (Nat → Int32) → (Nat → Int32) → (Nat → Int32) → Int32 → Option (Int32 × Int32 × Int32 × Int32 × (Nat → Int32) × (Nat → Int32) × (Nat → Int32))} (hk14 : ∀ (c0_10 : Int32) (c0_11 : Int32) (c0_13 : Int32) (a1 : (Nat → Int32)) (a3 : (Nat → Int32)) (a4 : (Nat → Int32)) (v1 : Int32), k14 c0_10 c0_11 c0_13 a1 a3 a4 v1 = some out → k_W X 2 0 0 (k_Q X ad (some (.int out.1)) (k_ap [(0, .inl (10, out.2.1)), (0, .inl (11, out.2.2.1)), (0, .inl (13, out.2.2.2.1)), (1, .inr (.inr (.inl out.2.2.2.2.1))), (3, .inr (.inr (.inl out.2.2.2.2.2.1))), (4, .inr (.inr (.inl out.2.2.2.2.2.2)))] (shMine, I, L, Rf))) ad (k_ap [(0, .inl (10, c0_10)), (0, .inl (11, c0_11)), (0, .inl (13, c0_13)), (1, .inr (.inr (.inl a1))), (3, .inr (.inr (.inl a3))), (4, .inr (.inr (.inl a4)))] (shMine, I, L, Rf)) 14 [some (.ref 0), some (.int v1)] []) : ∀ (c0_10 : Int32) (c0_11 : Int32) (c0_13 : Int32) (a1 : (Nat → Int32)) (a3 : (Nat → Int32)) (a4 : (Nat → Int32)) (v1 : Int32), bX3_endShift_46 u c5_10 a8 a9 a10 a11 k14 c0_10 c0_11 c0_13 a1 a3 a4 v1 = some out → k_W X 2 0 0 (k_Q X ad (some (.int out.1)) (k_ap [(0, .inl (10, out.2.1)), (0, .inl (11, out.2.2.1)), (0, .inl (13, out.2.2.2.1)), (1, .inr (.inr (.inl out.2.2.2.2.1))), (3, .inr (.inr (.inl out.2.2.2.2.2.1))), (4, .inr (.inr (.inl out.2.2.2.2.2.2)))] (shMine, I, L, Rf))) ad (k_ap [(0, .inl (10, c0_10)), (0, .inl (11, c0_11)), (0, .inl (13, c0_13)), (1, .inr (.inr (.inl a1))), (3, .inr (.inr (.inl a3))), (4, .inr (.inr (.inl a4)))] (shMine, I, L, Rf)) 46 [some (.ref 0), some (.int v1)] [] := by
  intro c0_10 c0_11 c0_13 a1 a3 a4 v1 h
  unfold bX3_endShift_46 at h
  refine r_iinc (v := (v1 + (1 : Int32))) C dX3_endShift_46 (rfl : 46 + 3 = 49) rfl rfl (by decide) ?_
  show k_W _ _ _ _ _ _ _ _ [some (.ref 0), some (.int (v1 + (1 : Int32)))] _
  refine r_goto (tgt := 14) C dX3_endShift_49 (by decide) ?_
  refine k_mask [true, true] ?_
  exact hk14 c0_10 c0_11 c0_13 a1 a3 a4 (v1 + (1 : Int32)) h
set_option maxHeartbeats 400000 in
set_option maxRecDepth 100000 in
theorem sX3_endShift_14 (u : Nat) {X : k_X} {ad : Nat → Nat} (C : k_C X cX3_endShift RX3 2 ad) (hr : X.meth.sig.returnType = (some .boolean)) (hR : X.R.frames = 3 ∧ X.R.locals = 70) {I : Nat → Nat → Int32} {L : Nat → Nat → Int64} {Rf : Nat → Nat → Option Nat} {c5_10 : Int32} (ec5_10 : I 5 10 = c5_10) {a8 : (Nat → Int32)} (ea8 : I 8 = a8) {a9 : (Nat → Int32)} (ea9 : I 9 = a9) {a10 : (Nat → Int32)} (ea10 : I 10 = a10) {a11 : (Nat → Int32)} (ea11 : I 11 = a11) {out : Int32 × Int32 × Int32 × Int32 × (Nat → Int32) × (Nat → Int32) × (Nat → Int32)} : ∀ (n : Nat) (c0_10 : Int32) (c0_11 : Int32) (c0_13 : Int32) (a1 : (Nat → Int32)) (a3 : (Nat → Int32)) (a4 : (Nat → Int32)) (v1 : Int32), bX3_endShift_14 u c5_10 a8 a9 a10 a11 n c0_10 c0_11 c0_13 a1 a3 a4 v1 = some out → k_W X 2 0 0 (k_Q X ad (some (.int out.1)) (k_ap [(0, .inl (10, out.2.1)), (0, .inl (11, out.2.2.1)), (0, .inl (13, out.2.2.2.1)), (1, .inr (.inr (.inl out.2.2.2.2.1))), (3, .inr (.inr (.inl out.2.2.2.2.2.1))), (4, .inr (.inr (.inl out.2.2.2.2.2.2)))] (shMine, I, L, Rf))) ad (k_ap [(0, .inl (10, c0_10)), (0, .inl (11, c0_11)), (0, .inl (13, c0_13)), (1, .inr (.inr (.inl a1))), (3, .inr (.inr (.inl a3))), (4, .inr (.inr (.inl a4)))] (shMine, I, L, Rf)) 14 [some (.ref 0), some (.int v1)] [] := by
  intro n
  induction n with
  | zero => intro c0_10 c0_11 c0_13 a1 a3 a4 v1 h; cases h
  | succ n ih =>
    intro c0_10 c0_11 c0_13 a1 a3 a4 v1 h
    refine r_iload_n C dX3_endShift_14 (rfl : 14 + 1 = 15) rfl ?_
    refine r_aload_n C dX3_endShift_15 (rfl : 15 + 1 = 16) rfl ?_
    refine r_getR (q := 5) C dX3_endShift_16 (rfl : 16 + 3 = 19) fl_X3_24 rfl rfl ?_
    refine r_getI (v := c5_10) C dX3_endShift_19 (rfl : 19 + 3 = 22) fl_X3_183 rfl rfl ec5_10 ?_
    refine r_icmp_ge (tgt := 52) C dX3_endShift_22 (by decide) (rfl : 22 + 3 = 25) (fun c22 => ?_) (fun c22 => ?_)
    · have h := k_t c22 h
      refine r_aload_n C dX3_endShift_52 (rfl : 52 + 1 = 53) rfl ?_
      refine r_dup C dX3_endShift_53 (rfl : 53 + 1 = 54) rfl ?_
      refine r_getI (v := c0_10) C dX3_endShift_54 (rfl : 54 + 3 = 57) fl_X3_51 rfl rfl rfl ?_
      refine r_iconst (v := (1 : Int32)) C dX3_endShift_57 (rfl : 57 + 1 = 58) rfl ?_
      refine r_iadd C dX3_endShift_58 (rfl : 58 + 1 = 59) ?_
      refine p_I (us' := [(0, .inl (10, (c0_10 + (1 : Int32)))), (0, .inl (11, c0_11)), (0, .inl (13, c0_13)), (1, .inr (.inr (.inl a1))), (3, .inr (.inr (.inl a3))), (4, .inr (.inr (.inl a4)))]) C dX3_endShift_59 (rfl : 59 + 3 = 62) fp_X3_51 rfl rfl ds_X3_endShift rfl rfl rfl ?_
      refine r_aload_n C dX3_endShift_62 (rfl : 62 + 1 = 63) rfl ?_
      refine r_iconst (v := (0 : Int32)) C dX3_endShift_63 (rfl : 63 + 1 = 64) rfl ?_
      refine p_I (us' := [(0, .inl (10, (c0_10 + (1 : Int32)))), (0, .inl (11, (0 : Int32))), (0, .inl (13, c0_13)), (1, .inr (.inr (.inl a1))), (3, .inr (.inr (.inl a3))), (4, .inr (.inr (.inl a4)))]) C dX3_endShift_64 (rfl : 64 + 3 = 67) fp_X3_55 rfl rfl ds_X3_endShift rfl rfl rfl ?_
      refine r_iconst (v := (1 : Int32)) C dX3_endShift_67 (rfl : 67 + 1 = 68) rfl ?_
      cases h
      exact r_zret C hr (Or.inr rfl) dX3_endShift_68
    · have h := k_f c22 h
      refine r_aload_n C dX3_endShift_25 (rfl : 25 + 1 = 26) rfl ?_
      refine r_getR (q := 5) C dX3_endShift_26 (rfl : 26 + 3 = 29) fl_X3_24 rfl rfl ?_
      refine r_getR (q := 9) C dX3_endShift_29 (rfl : 29 + 3 = 32) fl_X3_186 rfl rfl ?_
      refine r_iload_n C dX3_endShift_32 (rfl : 32 + 1 = 33) rfl ?_
      obtain ⟨hi33, h⟩ := k_i_of h
      refine a_i (j := (v1).toNatClampNeg) (f := a9) C dX3_endShift_33 (rfl : 33 + 1 = 34) rfl ea9 hi33 rfl ?_
      refine r_aload_n C dX3_endShift_34 (rfl : 34 + 1 = 35) rfl ?_
      refine r_getI (v := c0_10) C dX3_endShift_35 (rfl : 35 + 3 = 38) fl_X3_51 rfl rfl rfl ?_
      refine r_icmp_ne (tgt := 46) C dX3_endShift_38 (by decide) (rfl : 38 + 3 = 41) (fun c38 => ?_) (fun c38 => ?_)
      · have h := k_f c38 h
        refine k_mask [true, true] ?_
        exact sX3_endShift_46 u C hr hR ec5_10 ea8 ea9 ea10 ea11 ih c0_10 c0_11 c0_13 a1 a3 a4 v1 h
      · have h := k_t c38 h
        refine r_aload_n C dX3_endShift_41 (rfl : 41 + 1 = 42) rfl ?_
        refine r_iload_n C dX3_endShift_42 (rfl : 42 + 1 = 43) rfl ?_
        obtain ⟨r43, q43, h⟩ := k_b_of h
        refine d_V (As := [.int v1]) (st := []) (st' := []) (h' := k_ap [(0, .inl (10, c0_10)), (0, .inl (11, c0_11)), (0, .inl (13, r43.1)), (1, .inr (.inr (.inl r43.2.1))), (3, .inr (.inr (.inl r43.2.2.1))), (4, .inr (.inr (.inl r43.2.2.2)))] (shMine, I, L, Rf)) C hR ⟨Nat.zero_le _, Nat.zero_le _⟩ mv_X3_settle lk_X3_189 dX3_endShift_43 (rfl : 43 + 3 = 46) rfl rfl rfl rfl (c_X3_settle X.l u (k_ap [(0, .inl (10, c0_10)), (0, .inl (11, c0_11)), (0, .inl (13, c0_13)), (1, .inr (.inr (.inl a1))), (3, .inr (.inr (.inl a3))), (4, .inr (.inr (.inl a4)))] (shMine, I, L, Rf)) rfl rfl rfl rfl rfl ec5_10 ea8 ea10 ea11 q43) rfl rfl rfl (k_jn (us' := [(0, .inl (10, c0_10)), (0, .inl (11, c0_11)), (0, .inl (13, r43.1)), (1, .inr (.inr (.inl r43.2.1))), (3, .inr (.inr (.inl r43.2.2.1))), (4, .inr (.inr (.inl r43.2.2.2)))]) ds_X3_endShift rfl rfl rfl) rfl ?_
        refine k_mask [true, true] ?_
        exact sX3_endShift_46 u C hr hR ec5_10 ea8 ea9 ea10 ea11 ih c0_10 c0_11 r43.1 r43.2.1 r43.2.2.1 r43.2.2.2 v1 h
set_option maxHeartbeats 400000 in
set_option maxRecDepth 100000 in
theorem sX3_endShift_0 (u : Nat) {X : k_X} {ad : Nat → Nat} (C : k_C X cX3_endShift RX3 2 ad) (hr : X.meth.sig.returnType = (some .boolean)) (hR : X.R.frames = 3 ∧ X.R.locals = 70) {I : Nat → Nat → Int32} {L : Nat → Nat → Int64} {Rf : Nat → Nat → Option Nat} {c5_10 : Int32} (ec5_10 : I 5 10 = c5_10) {a8 : (Nat → Int32)} (ea8 : I 8 = a8) {a9 : (Nat → Int32)} (ea9 : I 9 = a9) {a10 : (Nat → Int32)} (ea10 : I 10 = a10) {a11 : (Nat → Int32)} (ea11 : I 11 = a11) {out : Int32 × Int32 × Int32 × Int32 × (Nat → Int32) × (Nat → Int32) × (Nat → Int32)} : ∀ (c0_10 : Int32) (c0_11 : Int32) (c0_13 : Int32) (a1 : (Nat → Int32)) (a3 : (Nat → Int32)) (a4 : (Nat → Int32)), bX3_endShift_0 u c5_10 a8 a9 a10 a11 c0_10 c0_11 c0_13 a1 a3 a4 = some out → k_W X 2 0 0 (k_Q X ad (some (.int out.1)) (k_ap [(0, .inl (10, out.2.1)), (0, .inl (11, out.2.2.1)), (0, .inl (13, out.2.2.2.1)), (1, .inr (.inr (.inl out.2.2.2.2.1))), (3, .inr (.inr (.inl out.2.2.2.2.2.1))), (4, .inr (.inr (.inl out.2.2.2.2.2.2)))] (shMine, I, L, Rf))) ad (k_ap [(0, .inl (10, c0_10)), (0, .inl (11, c0_11)), (0, .inl (13, c0_13)), (1, .inr (.inr (.inl a1))), (3, .inr (.inr (.inl a3))), (4, .inr (.inr (.inl a4)))] (shMine, I, L, Rf)) 0 [some (.ref 0), none] [] := by
  intro c0_10 c0_11 c0_13 a1 a3 a4 h
  unfold bX3_endShift_0 at h
  refine r_aload_n C dX3_endShift_0 (rfl : 0 + 1 = 1) rfl ?_
  refine r_getI (v := c0_10) C dX3_endShift_1 (rfl : 1 + 3 = 4) fl_X3_51 rfl rfl rfl ?_
  refine r_sipush (v := (200 : Int32)) C dX3_endShift_4 (rfl : 4 + 3 = 7) rfl ?_
  refine r_icmp_lt (tgt := 12) C dX3_endShift_7 (by decide) (rfl : 7 + 3 = 10) (fun c7 => ?_) (fun c7 => ?_)
  · have h := k_t c7 h
    refine r_iconst (v := (0 : Int32)) C dX3_endShift_12 (rfl : 12 + 1 = 13) rfl ?_
    refine r_istore_n C dX3_endShift_13 (rfl : 13 + 1 = 14) (by decide) (Nat.le_of_ble_eq_true rfl) ?_
    show k_W _ _ _ _ _ _ _ _ [some (.ref 0), some (.int (0 : Int32))] _
    refine k_mask [true, true] ?_
    exact sX3_endShift_14 u C hr hR ec5_10 ea8 ea9 ea10 ea11 u c0_10 c0_11 c0_13 a1 a3 a4 (0 : Int32) h
  · have h := k_f c7 h
    refine r_iconst (v := (0 : Int32)) C dX3_endShift_10 (rfl : 10 + 1 = 11) rfl ?_
    cases h
    exact r_zret C hr (Or.inl rfl) dX3_endShift_11
set_option maxHeartbeats 400000 in
set_option maxRecDepth 100000 in
theorem c_X3_endShift (l : Launch) (u : Nat) (h : k_H) (hsh : h.1 = shMine) {c0_10 : Int32} (ec0_10 : h.2.1 0 10 = c0_10) {c0_11 : Int32} (ec0_11 : h.2.1 0 11 = c0_11) {c0_13 : Int32} (ec0_13 : h.2.1 0 13 = c0_13) {a1 : (Nat → Int32)} (ea1 : h.2.1 1 = a1) {a3 : (Nat → Int32)} (ea3 : h.2.1 3 = a3) {a4 : (Nat → Int32)} (ea4 : h.2.1 4 = a4) {c5_10 : Int32} (ec5_10 : h.2.1 5 10 = c5_10) {a8 : (Nat → Int32)} (ea8 : h.2.1 8 = a8) {a9 : (Nat → Int32)} (ea9 : h.2.1 9 = a9) {a10 : (Nat → Int32)} (ea10 : h.2.1 10 = a10) {a11 : (Nat → Int32)} (ea11 : h.2.1 11 = a11) {out : Int32 × Int32 × Int32 × Int32 × (Nat → Int32) × (Nat → Int32) × (Nat → Int32)} (hf : f_X3_endShift u c0_10 c0_11 c0_13 a1 a3 a4 c5_10 a8 a9 a10 a11 = some out) : k_CT l yX3_endShift cX3_endShift 2 (some .boolean) 3 70 [.ref 0] h (some (.int out.1)) [(0, .inl (10, out.2.1)), (0, .inl (11, out.2.2.1)), (0, .inl (13, out.2.2.2.1)), (1, .inr (.inr (.inl out.2.2.2.2.1))), (3, .inr (.inr (.inl out.2.2.2.2.2.1))), (4, .inr (.inr (.inl out.2.2.2.2.2.2)))] := by
  obtain ⟨sh, I, L, Rf⟩ := h
  try dsimp only
  obtain rfl : sh = shMine := hsh
  refine k_ofW (by decide) (Nat.le_of_ble_eq_true rfl) ?_
  intro X ad hl hR0 hr C
  have hR : X.R.frames = 3 ∧ X.R.locals = 70 := by rw [hR0]; exact ⟨rfl, rfl⟩
  have h := hf
  unfold f_X3_endShift at h
  refine k_start (us := [(0, .inl (10, c0_10)), (0, .inl (11, c0_11)), (0, .inl (13, c0_13)), (1, .inr (.inr (.inl a1))), (3, .inr (.inr (.inl a3))), (4, .inr (.inr (.inl a4)))]) (k_ao_I ec0_10 (k_ao_I ec0_11 (k_ao_I ec0_13 (k_ao_A ea1 (k_ao_A ea3 (k_ao_A ea4 k_ap_0)))))) ?_
  show k_W X 2 0 0 _ ad (k_ap [(0, .inl (10, c0_10)), (0, .inl (11, c0_11)), (0, .inl (13, c0_13)), (1, .inr (.inr (.inl a1))), (3, .inr (.inr (.inl a3))), (4, .inr (.inr (.inl a4)))] (shMine, I, L, Rf)) 0 [some (.ref 0), none] []
  refine k_mask [true, false] ?_
  exact sX3_endShift_0 u C hr hR ec5_10 ea8 ea9 ea10 ea11 c0_10 c0_11 c0_13 a1 a3 a4 h
/-! LullabyPit$Mine.wholeBars(I)I -/
theorem ds_X3_wholeBars : k_ds [] = true := by decide +kernel
set_option maxHeartbeats 400000 in
set_option maxRecDepth 100000 in
theorem sX3_wholeBars_33 (u : Nat) {X : k_X} {ad : Nat → Nat} (C : k_C X cX3_wholeBars RX3 4 ad) (hr : X.meth.sig.returnType = (some .int)) (hR : X.R.frames = 2 ∧ X.R.locals = 42) {I : Nat → Nat → Int32} {L : Nat → Nat → Int64} {Rf : Nat → Nat → Option Nat} {c0_3 : Int64} (ec0_3 : L 0 3 = c0_3) {c0_4 : Int64} (ec0_4 : L 0 4 = c0_4) {c0_5 : Int64} (ec0_5 : L 0 5 = c0_5) {a6 : (Nat → Int32)} (ea6 : I 6 = a6) {a7 : (Nat → Int32)} (ea7 : I 7 = a7) {out : Int32} {k4 : Int32 → Int32 → Int32 → Option (Int32)} (hk4 : ∀ (v1 : Int32) (v2 : Int32) (v3 : Int32), k4 v1 v2 v3 = some out → k_W X 4 0 0 (k_Q X ad (some (.int out)) (k_ap [] (shMine, I, L, Rf))) ad (k_ap [] (shMine, I, L, Rf)) 4 [some (.ref 0), some (.int v1), some (.int v2), some (.int v3)] []) : ∀ (v1 : Int32) (v3 : Int32) (w0 : Int32) (w1 : Int32), bX3_wholeBars_33 u c0_3 c0_4 c0_5 a6 a7 k4 v1 v3 w0 w1 = some out → k_W X 4 0 0 (k_Q X ad (some (.int out)) (k_ap [] (shMine, I, L, Rf))) ad (k_ap [] (shMine, I, L, Rf)) 33 [some (.ref 0), some (.int v1), none, some (.int v3)] [.int w0, .int w1] := by
  intro v1 v3 w0 w1 h
  unfold bX3_wholeBars_33 at h
  refine r_iadd C dX3_wholeBars_33 (rfl : 33 + 1 = 34) ?_
  refine r_istore_n C dX3_wholeBars_34 (rfl : 34 + 1 = 35) (by decide) (Nat.le_of_ble_eq_true rfl) ?_
  show k_W _ _ _ _ _ _ _ _ [some (.ref 0), some (.int v1), some (.int (w1 + w0)), some (.int v3)] _
  refine r_iinc (v := (v3 + (1 : Int32))) C dX3_wholeBars_35 (rfl : 35 + 3 = 38) rfl rfl (by decide) ?_
  show k_W _ _ _ _ _ _ _ _ [some (.ref 0), some (.int v1), some (.int (w1 + w0)), some (.int (v3 + (1 : Int32)))] _
  refine r_goto (tgt := 4) C dX3_wholeBars_38 (by decide) ?_
  refine k_mask [true, true, true, true] ?_
  exact hk4 v1 (w1 + w0) (v3 + (1 : Int32)) h
set_option maxHeartbeats 400000 in
set_option maxRecDepth 100000 in
theorem sX3_wholeBars_4 (u : Nat) {X : k_X} {ad : Nat → Nat} (C : k_C X cX3_wholeBars RX3 4 ad) (hr : X.meth.sig.returnType = (some .int)) (hR : X.R.frames = 2 ∧ X.R.locals = 42) {I : Nat → Nat → Int32} {L : Nat → Nat → Int64} {Rf : Nat → Nat → Option Nat} {c0_3 : Int64} (ec0_3 : L 0 3 = c0_3) {c0_4 : Int64} (ec0_4 : L 0 4 = c0_4) {c0_5 : Int64} (ec0_5 : L 0 5 = c0_5) {a6 : (Nat → Int32)} (ea6 : I 6 = a6) {a7 : (Nat → Int32)} (ea7 : I 7 = a7) {out : Int32} : ∀ (n : Nat) (v1 : Int32) (v2 : Int32) (v3 : Int32), bX3_wholeBars_4 u c0_3 c0_4 c0_5 a6 a7 n v1 v2 v3 = some out → k_W X 4 0 0 (k_Q X ad (some (.int out)) (k_ap [] (shMine, I, L, Rf))) ad (k_ap [] (shMine, I, L, Rf)) 4 [some (.ref 0), some (.int v1), some (.int v2), some (.int v3)] [] := by
  intro n
  induction n with
  | zero => intro v1 v2 v3 h; cases h
  | succ n ih =>
    intro v1 v2 v3 h
    refine r_iload_n C dX3_wholeBars_4 (rfl : 4 + 1 = 5) rfl ?_
    refine r_bipush (v := (48 : Int32)) C dX3_wholeBars_5 (rfl : 5 + 2 = 7) rfl ?_
    refine r_icmp_ge (tgt := 41) C dX3_wholeBars_7 (by decide) (rfl : 7 + 3 = 10) (fun c7 => ?_) (fun c7 => ?_)
    · have h := k_t c7 h
      refine r_iload_n C dX3_wholeBars_41 (rfl : 41 + 1 = 42) rfl ?_
      cases h
      exact r_iret C hr dX3_wholeBars_42
    · have h := k_f c7 h
      refine r_iload_n C dX3_wholeBars_10 (rfl : 10 + 1 = 11) rfl ?_
      refine r_aload_n C dX3_wholeBars_11 (rfl : 11 + 1 = 12) rfl ?_
      refine r_getR (q := 5) C dX3_wholeBars_12 (rfl : 12 + 3 = 15) fl_X3_24 rfl rfl ?_
      refine r_getR (q := 6) C dX3_wholeBars_15 (rfl : 15 + 3 = 18) fl_X3_137 rfl rfl ?_
      refine r_iload_n C dX3_wholeBars_18 (rfl : 18 + 1 = 19) rfl ?_
      obtain ⟨hi19, h⟩ := k_i_of h
      refine a_i (j := (v3).toNatClampNeg) (f := a6) C dX3_wholeBars_19 (rfl : 19 + 1 = 20) rfl ea6 hi19 rfl ?_
      refine r_iload_n C dX3_wholeBars_20 (rfl : 20 + 1 = 21) rfl ?_
      refine r_icmp_ne (tgt := 32) C dX3_wholeBars_21 (by decide) (rfl : 21 + 3 = 24) (fun c21 => ?_) (fun c21 => ?_)
      · have h := k_f c21 h
        refine r_iconst (v := (0 : Int32)) C dX3_wholeBars_32 (rfl : 32 + 1 = 33) rfl ?_
        refine k_mask [true, true, false, true] ?_
        exact sX3_wholeBars_33 u C hr hR ec0_3 ec0_4 ec0_5 ea6 ea7 ih v1 v3 (0 : Int32) v2 h
      · have h := k_t c21 h
        refine r_aload_n C dX3_wholeBars_24 (rfl : 24 + 1 = 25) rfl ?_
        refine r_iload_n C dX3_wholeBars_25 (rfl : 25 + 1 = 26) rfl ?_
        obtain ⟨r26, q26, h⟩ := k_b_of h
        refine d_V (As := [.int v3]) (st := [.int v2]) (st' := [.int r26, .int v2]) (h' := k_ap [] (shMine, I, L, Rf)) C hR ⟨Nat.zero_le _, Nat.zero_le _⟩ mv_X3_barsLeft lk_X3_130 dX3_wholeBars_26 (rfl : 26 + 3 = 29) rfl rfl rfl rfl (c_X3_barsLeft X.l u (k_ap [] (shMine, I, L, Rf)) rfl ec0_3 ec0_4 ec0_5 ea7 q26) rfl rfl rfl rfl rfl ?_
        refine r_goto (tgt := 33) C dX3_wholeBars_29 (by decide) ?_
        refine k_mask [true, true, false, true] ?_
        exact sX3_wholeBars_33 u C hr hR ec0_3 ec0_4 ec0_5 ea6 ea7 ih v1 v3 r26 v2 h
set_option maxHeartbeats 400000 in
set_option maxRecDepth 100000 in
theorem sX3_wholeBars_0 (u : Nat) {X : k_X} {ad : Nat → Nat} (C : k_C X cX3_wholeBars RX3 4 ad) (hr : X.meth.sig.returnType = (some .int)) (hR : X.R.frames = 2 ∧ X.R.locals = 42) {I : Nat → Nat → Int32} {L : Nat → Nat → Int64} {Rf : Nat → Nat → Option Nat} {c0_3 : Int64} (ec0_3 : L 0 3 = c0_3) {c0_4 : Int64} (ec0_4 : L 0 4 = c0_4) {c0_5 : Int64} (ec0_5 : L 0 5 = c0_5) {a6 : (Nat → Int32)} (ea6 : I 6 = a6) {a7 : (Nat → Int32)} (ea7 : I 7 = a7) {out : Int32} : ∀ (v1 : Int32), bX3_wholeBars_0 u c0_3 c0_4 c0_5 a6 a7 v1 = some out → k_W X 4 0 0 (k_Q X ad (some (.int out)) (k_ap [] (shMine, I, L, Rf))) ad (k_ap [] (shMine, I, L, Rf)) 0 [some (.ref 0), some (.int v1), none, none] [] := by
  intro v1 h
  unfold bX3_wholeBars_0 at h
  refine r_iconst (v := (0 : Int32)) C dX3_wholeBars_0 (rfl : 0 + 1 = 1) rfl ?_
  refine r_istore_n C dX3_wholeBars_1 (rfl : 1 + 1 = 2) (by decide) (Nat.le_of_ble_eq_true rfl) ?_
  show k_W _ _ _ _ _ _ _ _ [some (.ref 0), some (.int v1), some (.int (0 : Int32)), none] _
  refine r_iconst (v := (0 : Int32)) C dX3_wholeBars_2 (rfl : 2 + 1 = 3) rfl ?_
  refine r_istore_n C dX3_wholeBars_3 (rfl : 3 + 1 = 4) (by decide) (Nat.le_of_ble_eq_true rfl) ?_
  show k_W _ _ _ _ _ _ _ _ [some (.ref 0), some (.int v1), some (.int (0 : Int32)), some (.int (0 : Int32))] _
  refine k_mask [true, true, true, true] ?_
  exact sX3_wholeBars_4 u C hr hR ec0_3 ec0_4 ec0_5 ea6 ea7 u v1 (0 : Int32) (0 : Int32) h
set_option maxHeartbeats 400000 in
set_option maxRecDepth 100000 in
theorem c_X3_wholeBars (l : Launch) (u : Nat) (h : k_H) (hsh : h.1 = shMine) {c0_3 : Int64} (ec0_3 : h.2.2.1 0 3 = c0_3) {c0_4 : Int64} (ec0_4 : h.2.2.1 0 4 = c0_4) {c0_5 : Int64} (ec0_5 : h.2.2.1 0 5 = c0_5) {a6 : (Nat → Int32)} (ea6 : h.2.1 6 = a6) {a7 : (Nat → Int32)} (ea7 : h.2.1 7 = a7) {x0 : Int32} {out : Int32} (hf : f_X3_wholeBars u c0_3 c0_4 c0_5 a6 a7 x0 = some out) : k_CT l yX3_wholeBars cX3_wholeBars 4 (some .int) 2 42 [.ref 0, .int x0] h (some (.int out)) [] := by
  obtain ⟨sh, I, L, Rf⟩ := h
  try dsimp only
  obtain rfl : sh = shMine := hsh
  refine k_ofW (by decide) (Nat.le_of_ble_eq_true rfl) ?_
  intro X ad hl hR0 hr C
  have hR : X.R.frames = 2 ∧ X.R.locals = 42 := by rw [hR0]; exact ⟨rfl, rfl⟩
  have h := hf
  unfold f_X3_wholeBars at h
  refine k_start (us := []) k_ap_0 ?_
  show k_W X 4 0 0 _ ad (k_ap [] (shMine, I, L, Rf)) 0 [some (.ref 0), some (.int x0), none, none] []
  refine k_mask [true, true, false, false] ?_
  exact sX3_wholeBars_0 u C hr hR ec0_3 ec0_4 ec0_5 ea6 ea7 x0 h
/-! LullabyPit$Mine.longestFace(IZ)I -/
theorem ds_X3_longestFace : k_ds [] = true := by decide +kernel
set_option maxHeartbeats 400000 in
set_option maxRecDepth 100000 in
theorem sX3_longestFace_85 (u : Nat) {X : k_X} {ad : Nat → Nat} (C : k_C X cX3_longestFace RX3 7 ad) (hr : X.meth.sig.returnType = (some .int)) (hR : X.R.frames = 1 ∧ X.R.locals = 21) {I : Nat → Nat → Int32} {L : Nat → Nat → Int64} {Rf : Nat → Nat → Option Nat} {c0_3 : Int64} (ec0_3 : L 0 3 = c0_3) {c0_4 : Int64} (ec0_4 : L 0 4 = c0_4) {c0_5 : Int64} (ec0_5 : L 0 5 = c0_5) {a6 : (Nat → Int32)} (ea6 : I 6 = a6) {out : Int32} {k11 : Int32 → Int32 → Int32 → Int32 → Int32 → Int32 → Option (Int32)} (hk11 : ∀ (v1 : Int32) (v2 : Int32) (v3 : Int32) (v4 : Int32) (v5 : Int32) (v6 : Int32), k11 v1 v2 v3 v4 v5 v6 = some out → k_W X 7 0 0 (k_Q X ad (some (.int out)) (k_ap [] (shMine, I, L, Rf))) ad (k_ap [] (shMine, I, L, Rf)) 11 [some (.ref 0), some (.int v1), some (.int v2), some (.int v3), some (.int v4), some (.int v5), some (.int v6)] []) : ∀ (v1 : Int32) (v2 : Int32) (v3 : Int32) (v4 : Int32) (v5 : Int32) (v6 : Int32), bX3_longestFace_85 u c0_3 c0_4 c0_5 a6 k11 v1 v2 v3 v4 v5 v6 = some out → k_W X 7 0 0 (k_Q X ad (some (.int out)) (k_ap [] (shMine, I, L, Rf))) ad (k_ap [] (shMine, I, L, Rf)) 85 [some (.ref 0), some (.int v1), some (.int v2), some (.int v3), some (.int v4), some (.int v5), some (.int v6)] [] := by
  intro v1 v2 v3 v4 v5 v6 h
  unfold bX3_longestFace_85 at h
  refine r_iinc (v := (v6 + (1 : Int32))) C dX3_longestFace_85 (rfl : 85 + 3 = 88) rfl rfl (by decide) ?_
  show k_W _ _ _ _ _ _ _ _ [some (.ref 0), some (.int v1), some (.int v2), some (.int v3), some (.int v4), some (.int v5), some (.int (v6 + (1 : Int32)))] _
  refine r_goto (tgt := 11) C dX3_longestFace_88 (by decide) ?_
  refine k_mask [true, true, true, true, true, true, true] ?_
  exact hk11 v1 v2 v3 v4 v5 (v6 + (1 : Int32)) h
set_option maxHeartbeats 400000 in
set_option maxRecDepth 100000 in
theorem sX3_longestFace_65 (u : Nat) {X : k_X} {ad : Nat → Nat} (C : k_C X cX3_longestFace RX3 7 ad) (hr : X.meth.sig.returnType = (some .int)) (hR : X.R.frames = 1 ∧ X.R.locals = 21) {I : Nat → Nat → Int32} {L : Nat → Nat → Int64} {Rf : Nat → Nat → Option Nat} {c0_3 : Int64} (ec0_3 : L 0 3 = c0_3) {c0_4 : Int64} (ec0_4 : L 0 4 = c0_4) {c0_5 : Int64} (ec0_5 : L 0 5 = c0_5) {a6 : (Nat → Int32)} (ea6 : I 6 = a6) {out : Int32} {k11 : Int32 → Int32 → Int32 → Int32 → Int32 → Int32 → Option (Int32)} (hk11 : ∀ (v1 : Int32) (v2 : Int32) (v3 : Int32) (v4 : Int32) (v5 : Int32) (v6 : Int32), k11 v1 v2 v3 v4 v5 v6 = some out → k_W X 7 0 0 (k_Q X ad (some (.int out)) (k_ap [] (shMine, I, L, Rf))) ad (k_ap [] (shMine, I, L, Rf)) 11 [some (.ref 0), some (.int v1), some (.int v2), some (.int v3), some (.int v4), some (.int v5), some (.int v6)] []) : ∀ (v1 : Int32) (v2 : Int32) (v3 : Int32) (v4 : Int32) (v6 : Int32) (w0 : Int32), bX3_longestFace_65 u c0_3 c0_4 c0_5 a6 k11 v1 v2 v3 v4 v6 w0 = some out → k_W X 7 0 0 (k_Q X ad (some (.int out)) (k_ap [] (shMine, I, L, Rf))) ad (k_ap [] (shMine, I, L, Rf)) 65 [some (.ref 0), some (.int v1), some (.int v2), some (.int v3), some (.int v4), none, some (.int v6)] [.int w0] := by
  intro v1 v2 v3 v4 v6 w0 h
  unfold bX3_longestFace_65 at h
  refine r_istore C dX3_longestFace_65 (rfl : 65 + 2 = 67) (by decide) (Nat.le_of_ble_eq_true rfl) ?_
  show k_W _ _ _ _ _ _ _ _ [some (.ref 0), some (.int v1), some (.int v2), some (.int v3), some (.int v4), some (.int w0), some (.int v6)] _
  refine r_iload C dX3_longestFace_67 (rfl : 67 + 2 = 69) rfl ?_
  refine r_iload_n C dX3_longestFace_69 (rfl : 69 + 1 = 70) rfl ?_
  refine r_icmp_le (tgt := 85) C dX3_longestFace_70 (by decide) (rfl : 70 + 3 = 73) (fun c70 => ?_) (fun c70 => ?_)
  · have h := k_t c70 h
    refine k_mask [true, true, true, true, true, true, true] ?_
    exact sX3_longestFace_85 u C hr hR ec0_3 ec0_4 ec0_5 ea6 hk11 v1 v2 v3 v4 w0 v6 h
  · have h := k_f c70 h
    refine r_iload C dX3_longestFace_73 (rfl : 73 + 2 = 75) rfl ?_
    refine r_istore_n C dX3_longestFace_75 (rfl : 75 + 1 = 76) (by decide) (Nat.le_of_ble_eq_true rfl) ?_
    show k_W _ _ _ _ _ _ _ _ [some (.ref 0), some (.int v1), some (.int v2), some (.int w0), some (.int v4), some (.int w0), some (.int v6)] _
    refine r_iload C dX3_longestFace_76 (rfl : 76 + 2 = 78) rfl ?_
    refine r_iload C dX3_longestFace_78 (rfl : 78 + 2 = 80) rfl ?_
    refine r_isub C dX3_longestFace_80 (rfl : 80 + 1 = 81) ?_
    refine r_iconst (v := (1 : Int32)) C dX3_longestFace_81 (rfl : 81 + 1 = 82) rfl ?_
    refine r_iadd C dX3_longestFace_82 (rfl : 82 + 1 = 83) ?_
    refine r_istore C dX3_longestFace_83 (rfl : 83 + 2 = 85) (by decide) (Nat.le_of_ble_eq_true rfl) ?_
    show k_W _ _ _ _ _ _ _ _ [some (.ref 0), some (.int v1), some (.int v2), some (.int w0), some (.int ((v6 - w0) + (1 : Int32))), some (.int w0), some (.int v6)] _
    refine k_mask [true, true, true, true, true, true, true] ?_
    exact sX3_longestFace_85 u C hr hR ec0_3 ec0_4 ec0_5 ea6 hk11 v1 v2 w0 ((v6 - w0) + (1 : Int32)) w0 v6 h
set_option maxHeartbeats 400000 in
set_option maxRecDepth 100000 in
theorem sX3_longestFace_64 (u : Nat) {X : k_X} {ad : Nat → Nat} (C : k_C X cX3_longestFace RX3 7 ad) (hr : X.meth.sig.returnType = (some .int)) (hR : X.R.frames = 1 ∧ X.R.locals = 21) {I : Nat → Nat → Int32} {L : Nat → Nat → Int64} {Rf : Nat → Nat → Option Nat} {c0_3 : Int64} (ec0_3 : L 0 3 = c0_3) {c0_4 : Int64} (ec0_4 : L 0 4 = c0_4) {c0_5 : Int64} (ec0_5 : L 0 5 = c0_5) {a6 : (Nat → Int32)} (ea6 : I 6 = a6) {out : Int32} {k11 : Int32 → Int32 → Int32 → Int32 → Int32 → Int32 → Option (Int32)} (hk11 : ∀ (v1 : Int32) (v2 : Int32) (v3 : Int32) (v4 : Int32) (v5 : Int32) (v6 : Int32), k11 v1 v2 v3 v4 v5 v6 = some out → k_W X 7 0 0 (k_Q X ad (some (.int out)) (k_ap [] (shMine, I, L, Rf))) ad (k_ap [] (shMine, I, L, Rf)) 11 [some (.ref 0), some (.int v1), some (.int v2), some (.int v3), some (.int v4), some (.int v5), some (.int v6)] []) : ∀ (v1 : Int32) (v2 : Int32) (v3 : Int32) (v4 : Int32) (v6 : Int32), bX3_longestFace_64 u c0_3 c0_4 c0_5 a6 k11 v1 v2 v3 v4 v6 = some out → k_W X 7 0 0 (k_Q X ad (some (.int out)) (k_ap [] (shMine, I, L, Rf))) ad (k_ap [] (shMine, I, L, Rf)) 64 [some (.ref 0), some (.int v1), some (.int v2), some (.int v3), some (.int v4), none, some (.int v6)] [] := by
  intro v1 v2 v3 v4 v6 h
  unfold bX3_longestFace_64 at h
  refine r_iconst (v := (0 : Int32)) C dX3_longestFace_64 (rfl : 64 + 1 = 65) rfl ?_
  refine k_mask [true, true, true, true, true, false, true] ?_
  exact sX3_longestFace_65 u C hr hR ec0_3 ec0_4 ec0_5 ea6 hk11 v1 v2 v3 v4 v6 (0 : Int32) h
set_option maxHeartbeats 400000 in
set_option maxRecDepth 100000 in
theorem sX3_longestFace_32 (u : Nat) {X : k_X} {ad : Nat → Nat} (C : k_C X cX3_longestFace RX3 7 ad) (hr : X.meth.sig.returnType = (some .int)) (hR : X.R.frames = 1 ∧ X.R.locals = 21) {I : Nat → Nat → Int32} {L : Nat → Nat → Int64} {Rf : Nat → Nat → Option Nat} {c0_3 : Int64} (ec0_3 : L 0 3 = c0_3) {c0_4 : Int64} (ec0_4 : L 0 4 = c0_4) {c0_5 : Int64} (ec0_5 : L 0 5 = c0_5) {a6 : (Nat → Int32)} (ea6 : I 6 = a6) {out : Int32} {k11 : Int32 → Int32 → Int32 → Int32 → Int32 → Int32 → Option (Int32)} (hk11 : ∀ (v1 : Int32) (v2 : Int32) (v3 : Int32) (v4 : Int32) (v5 : Int32) (v6 : Int32), k11 v1 v2 v3 v4 v5 v6 = some out → k_W X 7 0 0 (k_Q X ad (some (.int out)) (k_ap [] (shMine, I, L, Rf))) ad (k_ap [] (shMine, I, L, Rf)) 11 [some (.ref 0), some (.int v1), some (.int v2), some (.int v3), some (.int v4), some (.int v5), some (.int v6)] []) : ∀ (v1 : Int32) (v2 : Int32) (v3 : Int32) (v4 : Int32) (v6 : Int32) (w0 : Int32), bX3_longestFace_32 u c0_3 c0_4 c0_5 a6 k11 v1 v2 v3 v4 v6 w0 = some out → k_W X 7 0 0 (k_Q X ad (some (.int out)) (k_ap [] (shMine, I, L, Rf))) ad (k_ap [] (shMine, I, L, Rf)) 32 [some (.ref 0), some (.int v1), some (.int v2), some (.int v3), some (.int v4), none, some (.int v6)] [.int w0] := by
  intro v1 v2 v3 v4 v6 w0 h
  unfold bX3_longestFace_32 at h
  refine r_istore C dX3_longestFace_32 (rfl : 32 + 2 = 34) (by decide) (Nat.le_of_ble_eq_true rfl) ?_
  show k_W _ _ _ _ _ _ _ _ [some (.ref 0), some (.int v1), some (.int v2), some (.int v3), some (.int v4), some (.int w0), some (.int v6)] _
  refine r_aload_n C dX3_longestFace_34 (rfl : 34 + 1 = 35) rfl ?_
  refine r_getR (q := 5) C dX3_longestFace_35 (rfl : 35 + 3 = 38) fl_X3_24 rfl rfl ?_
  refine r_getR (q := 6) C dX3_longestFace_38 (rfl : 38 + 3 = 41) fl_X3_137 rfl rfl ?_
  refine r_iload C dX3_longestFace_41 (rfl : 41 + 2 = 43) rfl ?_
  obtain ⟨hi43, h⟩ := k_i_of h
  refine a_i (j := (v6).toNatClampNeg) (f := a6) C dX3_longestFace_43 (rfl : 43 + 1 = 44) rfl ea6 hi43 rfl ?_
  refine r_iload_n C dX3_longestFace_44 (rfl : 44 + 1 = 45) rfl ?_
  refine r_icmp_ne (tgt := 64) C dX3_longestFace_45 (by decide) (rfl : 45 + 3 = 48) (fun c45 => ?_) (fun c45 => ?_)
  · have h := k_f c45 h
    refine k_mask [true, true, true, true, true, false, true] ?_
    exact sX3_longestFace_64 u C hr hR ec0_3 ec0_4 ec0_5 ea6 hk11 v1 v2 v3 v4 v6 h
  · have h := k_t c45 h
    refine r_aload_n C dX3_longestFace_48 (rfl : 48 + 1 = 49) rfl ?_
    refine r_iload C dX3_longestFace_49 (rfl : 49 + 2 = 51) rfl ?_
    obtain ⟨r51, q51, h⟩ := k_b_of h
    refine d_V (As := [.int v6]) (st := []) (st' := [.int r51]) (h' := k_ap [] (shMine, I, L, Rf)) C hR ⟨Nat.zero_le _, Nat.zero_le _⟩ mv_X3_isWhole lk_X3_123 dX3_longestFace_51 (rfl : 51 + 3 = 54) rfl rfl rfl rfl (c_X3_isWhole X.l u (k_ap [] (shMine, I, L, Rf)) rfl ec0_3 ec0_4 ec0_5 q51) rfl rfl rfl rfl rfl ?_
    refine r_if_eq (tgt := 64) C dX3_longestFace_54 (by decide) (rfl : 54 + 3 = 57) (fun c54 => ?_) (fun c54 => ?_)
    · have h := k_t c54 h
      refine k_mask [true, true, true, true, true, false, true] ?_
      exact sX3_longestFace_64 u C hr hR ec0_3 ec0_4 ec0_5 ea6 hk11 v1 v2 v3 v4 v6 h
    · have h := k_f c54 h
      refine r_iload C dX3_longestFace_57 (rfl : 57 + 2 = 59) rfl ?_
      refine r_iconst (v := (1 : Int32)) C dX3_longestFace_59 (rfl : 59 + 1 = 60) rfl ?_
      refine r_iadd C dX3_longestFace_60 (rfl : 60 + 1 = 61) ?_
      refine r_goto (tgt := 65) C dX3_longestFace_61 (by decide) ?_
      refine k_mask [true, true, true, true, true, false, true] ?_
      exact sX3_longestFace_65 u C hr hR ec0_3 ec0_4 ec0_5 ea6 hk11 v1 v2 v3 v4 v6 (w0 + (1 : Int32)) h
set_option maxHeartbeats 400000 in
set_option maxRecDepth 100000 in
theorem sX3_longestFace_11 (u : Nat) {X : k_X} {ad : Nat → Nat} (C : k_C X cX3_longestFace RX3 7 ad) (hr : X.meth.sig.returnType = (some .int)) (hR : X.R.frames = 1 ∧ X.R.locals = 21) {I : Nat → Nat → Int32} {L : Nat → Nat → Int64} {Rf : Nat → Nat → Option Nat} {c0_3 : Int64} (ec0_3 : L 0 3 = c0_3) {c0_4 : Int64} (ec0_4 : L 0 4 = c0_4) {c0_5 : Int64} (ec0_5 : L 0 5 = c0_5) {a6 : (Nat → Int32)} (ea6 : I 6 = a6) {out : Int32} : ∀ (n : Nat) (v1 : Int32) (v2 : Int32) (v3 : Int32) (v4 : Int32) (v5 : Int32) (v6 : Int32), bX3_longestFace_11 u c0_3 c0_4 c0_5 a6 n v1 v2 v3 v4 v5 v6 = some out → k_W X 7 0 0 (k_Q X ad (some (.int out)) (k_ap [] (shMine, I, L, Rf))) ad (k_ap [] (shMine, I, L, Rf)) 11 [some (.ref 0), some (.int v1), some (.int v2), some (.int v3), some (.int v4), some (.int v5), some (.int v6)] [] := by
  intro n
  induction n with
  | zero => intro v1 v2 v3 v4 v5 v6 h; cases h
  | succ n ih =>
    intro v1 v2 v3 v4 v5 v6 h
    refine r_iload C dX3_longestFace_11 (rfl : 11 + 2 = 13) rfl ?_
    refine r_bipush (v := (48 : Int32)) C dX3_longestFace_13 (rfl : 13 + 2 = 15) rfl ?_
    refine r_icmp_ge (tgt := 91) C dX3_longestFace_15 (by decide) (rfl : 15 + 3 = 18) (fun c15 => ?_) (fun c15 => ?_)
    · have h := k_t c15 h
      refine r_iload_n C dX3_longestFace_91 (rfl : 91 + 1 = 92) rfl ?_
      refine r_if_eq (tgt := 100) C dX3_longestFace_92 (by decide) (rfl : 92 + 3 = 95) (fun c92 => ?_) (fun c92 => ?_)
      · have h := k_t c92 h
        refine r_iload_n C dX3_longestFace_100 (rfl : 100 + 1 = 101) rfl ?_
        cases h
        exact r_iret C hr dX3_longestFace_101
      · have h := k_f c92 h
        refine r_iload C dX3_longestFace_95 (rfl : 95 + 2 = 97) rfl ?_
        refine r_goto (tgt := 101) C dX3_longestFace_97 (by decide) ?_
        cases h
        exact r_iret C hr dX3_longestFace_101
    · have h := k_f c15 h
      refine r_iload C dX3_longestFace_18 (rfl : 18 + 2 = 20) rfl ?_
      refine r_bipush (v := (8 : Int32)) C dX3_longestFace_20 (rfl : 20 + 2 = 22) rfl ?_
      refine r_irem C dX3_longestFace_22 (rfl : 22 + 1 = 23) (by decide) ?_
      refine r_if_ne (tgt := 30) C dX3_longestFace_23 (by decide) (rfl : 23 + 3 = 26) (fun c23 => ?_) (fun c23 => ?_)
      · have h := k_f c23 h
        refine r_iload C dX3_longestFace_30 (rfl : 30 + 2 = 32) rfl ?_
        refine k_mask [true, true, true, true, true, false, true] ?_
        exact sX3_longestFace_32 u C hr hR ec0_3 ec0_4 ec0_5 ea6 ih v1 v2 v3 v4 v6 v5 h
      · have h := k_t c23 h
        refine r_iconst (v := (0 : Int32)) C dX3_longestFace_26 (rfl : 26 + 1 = 27) rfl ?_
        refine r_goto (tgt := 32) C dX3_longestFace_27 (by decide) ?_
        refine k_mask [true, true, true, true, true, false, true] ?_
        exact sX3_longestFace_32 u C hr hR ec0_3 ec0_4 ec0_5 ea6 ih v1 v2 v3 v4 v6 (0 : Int32) h
set_option maxHeartbeats 400000 in
set_option maxRecDepth 100000 in
theorem sX3_longestFace_0 (u : Nat) {X : k_X} {ad : Nat → Nat} (C : k_C X cX3_longestFace RX3 7 ad) (hr : X.meth.sig.returnType = (some .int)) (hR : X.R.frames = 1 ∧ X.R.locals = 21) {I : Nat → Nat → Int32} {L : Nat → Nat → Int64} {Rf : Nat → Nat → Option Nat} {c0_3 : Int64} (ec0_3 : L 0 3 = c0_3) {c0_4 : Int64} (ec0_4 : L 0 4 = c0_4) {c0_5 : Int64} (ec0_5 : L 0 5 = c0_5) {a6 : (Nat → Int32)} (ea6 : I 6 = a6) {out : Int32} : ∀ (v1 : Int32) (v2 : Int32), bX3_longestFace_0 u c0_3 c0_4 c0_5 a6 v1 v2 = some out → k_W X 7 0 0 (k_Q X ad (some (.int out)) (k_ap [] (shMine, I, L, Rf))) ad (k_ap [] (shMine, I, L, Rf)) 0 [some (.ref 0), some (.int v1), some (.int v2), none, none, none, none] [] := by
  intro v1 v2 h
  unfold bX3_longestFace_0 at h
  refine r_iconst (v := (0 : Int32)) C dX3_longestFace_0 (rfl : 0 + 1 = 1) rfl ?_
  refine r_istore_n C dX3_longestFace_1 (rfl : 1 + 1 = 2) (by decide) (Nat.le_of_ble_eq_true rfl) ?_
  show k_W _ _ _ _ _ _ _ _ [some (.ref 0), some (.int v1), some (.int v2), some (.int (0 : Int32)), none, none, none] _
  refine r_iconst (v := (-1 : Int32)) C dX3_longestFace_2 (rfl : 2 + 1 = 3) rfl ?_
  refine r_istore C dX3_longestFace_3 (rfl : 3 + 2 = 5) (by decide) (Nat.le_of_ble_eq_true rfl) ?_
  show k_W _ _ _ _ _ _ _ _ [some (.ref 0), some (.int v1), some (.int v2), some (.int (0 : Int32)), some (.int (-1 : Int32)), none, none] _
  refine r_iconst (v := (0 : Int32)) C dX3_longestFace_5 (rfl : 5 + 1 = 6) rfl ?_
  refine r_istore C dX3_longestFace_6 (rfl : 6 + 2 = 8) (by decide) (Nat.le_of_ble_eq_true rfl) ?_
  show k_W _ _ _ _ _ _ _ _ [some (.ref 0), some (.int v1), some (.int v2), some (.int (0 : Int32)), some (.int (-1 : Int32)), some (.int (0 : Int32)), none] _
  refine r_iconst (v := (0 : Int32)) C dX3_longestFace_8 (rfl : 8 + 1 = 9) rfl ?_
  refine r_istore C dX3_longestFace_9 (rfl : 9 + 2 = 11) (by decide) (Nat.le_of_ble_eq_true rfl) ?_
  show k_W _ _ _ _ _ _ _ _ [some (.ref 0), some (.int v1), some (.int v2), some (.int (0 : Int32)), some (.int (-1 : Int32)), some (.int (0 : Int32)), some (.int (0 : Int32))] _
  refine k_mask [true, true, true, true, true, true, true] ?_
  exact sX3_longestFace_11 u C hr hR ec0_3 ec0_4 ec0_5 ea6 u v1 v2 (0 : Int32) (-1 : Int32) (0 : Int32) (0 : Int32) h
set_option maxHeartbeats 400000 in
set_option maxRecDepth 100000 in
theorem c_X3_longestFace (l : Launch) (u : Nat) (h : k_H) (hsh : h.1 = shMine) {c0_3 : Int64} (ec0_3 : h.2.2.1 0 3 = c0_3) {c0_4 : Int64} (ec0_4 : h.2.2.1 0 4 = c0_4) {c0_5 : Int64} (ec0_5 : h.2.2.1 0 5 = c0_5) {a6 : (Nat → Int32)} (ea6 : h.2.1 6 = a6) {x0 : Int32} {x1 : Int32} {out : Int32} (hf : f_X3_longestFace u c0_3 c0_4 c0_5 a6 x0 x1 = some out) : k_CT l yX3_longestFace cX3_longestFace 7 (some .int) 1 21 [.ref 0, .int x0, .int x1] h (some (.int out)) [] := by
  obtain ⟨sh, I, L, Rf⟩ := h
  try dsimp only
  obtain rfl : sh = shMine := hsh
  refine k_ofW (by decide) (Nat.le_of_ble_eq_true rfl) ?_
  intro X ad hl hR0 hr C
  have hR : X.R.frames = 1 ∧ X.R.locals = 21 := by rw [hR0]; exact ⟨rfl, rfl⟩
  have h := hf
  unfold f_X3_longestFace at h
  refine k_start (us := []) k_ap_0 ?_
  show k_W X 7 0 0 _ ad (k_ap [] (shMine, I, L, Rf)) 0 [some (.ref 0), some (.int x0), some (.int x1), none, none, none, none] []
  refine k_mask [true, true, true, false, false, false, false] ?_
  exact sX3_longestFace_0 u C hr hR ec0_3 ec0_4 ec0_5 ea6 x0 x1 h
/-! LullabyPit$Mine.richestRow()I -/
theorem ds_X3_richestRow : k_ds [] = true := by decide +kernel
set_option maxHeartbeats 400000 in
set_option maxRecDepth 100000 in
theorem sX3_richestRow_63 (u : Nat) {X : k_X} {ad : Nat → Nat} (C : k_C X cX3_richestRow RX3 6 ad) (hr : X.meth.sig.returnType = (some .int)) (hR : X.R.frames = 2 ∧ X.R.locals = 42) {I : Nat → Nat → Int32} {L : Nat → Nat → Int64} {Rf : Nat → Nat → Option Nat} {c0_3 : Int64} (ec0_3 : L 0 3 = c0_3) {c0_4 : Int64} (ec0_4 : L 0 4 = c0_4) {c0_5 : Int64} (ec0_5 : L 0 5 = c0_5) {c5_1 : Int32} (ec5_1 : I 5 1 = c5_1) {a7 : (Nat → Int32)} (ea7 : I 7 = a7) {out : Int32} {k6 : Int32 → Int32 → Int32 → Option (Int32)} (hk6 : ∀ (v1 : Int32) (v2 : Int32) (v3 : Int32), k6 v1 v2 v3 = some out → k_W X 6 0 0 (k_Q X ad (some (.int out)) (k_ap [] (shMine, I, L, Rf))) ad (k_ap [] (shMine, I, L, Rf)) 6 [some (.ref 0), some (.int v1), some (.int v2), some (.int v3), none, none] []) : ∀ (v1 : Int32) (v2 : Int32) (v3 : Int32), bX3_richestRow_63 u c0_3 c0_4 c0_5 c5_1 a7 k6 v1 v2 v3 = some out → k_W X 6 0 0 (k_Q X ad (some (.int out)) (k_ap [] (shMine, I, L, Rf))) ad (k_ap [] (shMine, I, L, Rf)) 63 [some (.ref 0), some (.int v1), some (.int v2), some (.int v3), none, none] [] := by
  intro v1 v2 v3 h
  unfold bX3_richestRow_63 at h
  refine r_iinc (v := (v3 + (1 : Int32))) C dX3_richestRow_63 (rfl : 63 + 3 = 66) rfl rfl (by decide) ?_
  show k_W _ _ _ _ _ _ _ _ [some (.ref 0), some (.int v1), some (.int v2), some (.int (v3 + (1 : Int32))), none, none] _
  refine r_goto (tgt := 6) C dX3_richestRow_66 (by decide) ?_
  refine k_mask [true, true, true, true, false, false] ?_
  exact hk6 v1 v2 (v3 + (1 : Int32)) h
set_option maxHeartbeats 400000 in
set_option maxRecDepth 100000 in
theorem sX3_richestRow_23 (u : Nat) {X : k_X} {ad : Nat → Nat} (C : k_C X cX3_richestRow RX3 6 ad) (hr : X.meth.sig.returnType = (some .int)) (hR : X.R.frames = 2 ∧ X.R.locals = 42) {I : Nat → Nat → Int32} {L : Nat → Nat → Int64} {Rf : Nat → Nat → Option Nat} {c0_3 : Int64} (ec0_3 : L 0 3 = c0_3) {c0_4 : Int64} (ec0_4 : L 0 4 = c0_4) {c0_5 : Int64} (ec0_5 : L 0 5 = c0_5) {c5_1 : Int32} (ec5_1 : I 5 1 = c5_1) {a7 : (Nat → Int32)} (ea7 : I 7 = a7) {out : Int32} {k6 : Int32 → Int32 → Int32 → Option (Int32)} (hk6 : ∀ (v1 : Int32) (v2 : Int32) (v3 : Int32), k6 v1 v2 v3 = some out → k_W X 6 0 0 (k_Q X ad (some (.int out)) (k_ap [] (shMine, I, L, Rf))) ad (k_ap [] (shMine, I, L, Rf)) 6 [some (.ref 0), some (.int v1), some (.int v2), some (.int v3), none, none] []) : ∀ (n : Nat) (v1 : Int32) (v2 : Int32) (v3 : Int32) (v4 : Int32) (v5 : Int32), bX3_richestRow_23 u c0_3 c0_4 c0_5 c5_1 a7 k6 n v1 v2 v3 v4 v5 = some out → k_W X 6 0 0 (k_Q X ad (some (.int out)) (k_ap [] (shMine, I, L, Rf))) ad (k_ap [] (shMine, I, L, Rf)) 23 [some (.ref 0), some (.int v1), some (.int v2), some (.int v3), some (.int v4), some (.int v5)] [] := by
  intro n
  induction n with
  | zero => intro v1 v2 v3 v4 v5 h; cases h
  | succ n ih =>
    intro v1 v2 v3 v4 v5 h
    refine r_iload C dX3_richestRow_23 (rfl : 23 + 2 = 25) rfl ?_
    refine r_bipush (v := (8 : Int32)) C dX3_richestRow_25 (rfl : 25 + 2 = 27) rfl ?_
    refine r_icmp_ge (tgt := 52) C dX3_richestRow_27 (by decide) (rfl : 27 + 3 = 30) (fun c27 => ?_) (fun c27 => ?_)
    · have h := k_t c27 h
      refine r_iload C dX3_richestRow_52 (rfl : 52 + 2 = 54) rfl ?_
      refine r_iload_n C dX3_richestRow_54 (rfl : 54 + 1 = 55) rfl ?_
      refine r_icmp_le (tgt := 63) C dX3_richestRow_55 (by decide) (rfl : 55 + 3 = 58) (fun c55 => ?_) (fun c55 => ?_)
      · have h := k_t c55 h
        refine k_mask [true, true, true, true, false, false] ?_
        exact sX3_richestRow_63 u C hr hR ec0_3 ec0_4 ec0_5 ec5_1 ea7 hk6 v1 v2 v3 h
      · have h := k_f c55 h
        refine r_iload C dX3_richestRow_58 (rfl : 58 + 2 = 60) rfl ?_
        refine r_istore_n C dX3_richestRow_60 (rfl : 60 + 1 = 61) (by decide) (Nat.le_of_ble_eq_true rfl) ?_
        show k_W _ _ _ _ _ _ _ _ [some (.ref 0), some (.int v1), some (.int v4), some (.int v3), some (.int v4), some (.int v5)] _
        refine r_iload_n C dX3_richestRow_61 (rfl : 61 + 1 = 62) rfl ?_
        refine r_istore_n C dX3_richestRow_62 (rfl : 62 + 1 = 63) (by decide) (Nat.le_of_ble_eq_true rfl) ?_
        show k_W _ _ _ _ _ _ _ _ [some (.ref 0), some (.int v3), some (.int v4), some (.int v3), some (.int v4), some (.int v5)] _
        refine k_mask [true, true, true, true, false, false] ?_
        exact sX3_richestRow_63 u C hr hR ec0_3 ec0_4 ec0_5 ec5_1 ea7 hk6 v3 v4 v3 h
    · have h := k_f c27 h
      refine r_iload C dX3_richestRow_30 (rfl : 30 + 2 = 32) rfl ?_
      refine r_aload_n C dX3_richestRow_32 (rfl : 32 + 1 = 33) rfl ?_
      refine r_bipush (v := (8 : Int32)) C dX3_richestRow_33 (rfl : 33 + 2 = 35) rfl ?_
      refine r_iload_n C dX3_richestRow_35 (rfl : 35 + 1 = 36) rfl ?_
      refine r_imul C dX3_richestRow_36 (rfl : 36 + 1 = 37) ?_
      refine r_iload C dX3_richestRow_37 (rfl : 37 + 2 = 39) rfl ?_
      refine r_iadd C dX3_richestRow_39 (rfl : 39 + 1 = 40) ?_
      obtain ⟨r40, q40, h⟩ := k_b_of h
      refine d_V (As := [.int (((8 : Int32) * v3) + v5)]) (st := [.int v4]) (st' := [.int r40, .int v4]) (h' := k_ap [] (shMine, I, L, Rf)) C hR ⟨Nat.zero_le _, Nat.zero_le _⟩ mv_X3_barsLeft lk_X3_130 dX3_richestRow_40 (rfl : 40 + 3 = 43) rfl rfl rfl rfl (c_X3_barsLeft X.l u (k_ap [] (shMine, I, L, Rf)) rfl ec0_3 ec0_4 ec0_5 ea7 q40) rfl rfl rfl rfl rfl ?_
      refine r_iadd C dX3_richestRow_43 (rfl : 43 + 1 = 44) ?_
      refine r_istore C dX3_richestRow_44 (rfl : 44 + 2 = 46) (by decide) (Nat.le_of_ble_eq_true rfl) ?_
      show k_W _ _ _ _ _ _ _ _ [some (.ref 0), some (.int v1), some (.int v2), some (.int v3), some (.int (v4 + r40)), some (.int v5)] _
      refine r_iinc (v := (v5 + (1 : Int32))) C dX3_richestRow_46 (rfl : 46 + 3 = 49) rfl rfl (by decide) ?_
      show k_W _ _ _ _ _ _ _ _ [some (.ref 0), some (.int v1), some (.int v2), some (.int v3), some (.int (v4 + r40)), some (.int (v5 + (1 : Int32)))] _
      refine r_goto (tgt := 23) C dX3_richestRow_49 (by decide) ?_
      refine k_mask [true, true, true, true, true, true] ?_
      exact ih v1 v2 v3 (v4 + r40) (v5 + (1 : Int32)) h
set_option maxHeartbeats 400000 in
set_option maxRecDepth 100000 in
theorem sX3_richestRow_6 (u : Nat) {X : k_X} {ad : Nat → Nat} (C : k_C X cX3_richestRow RX3 6 ad) (hr : X.meth.sig.returnType = (some .int)) (hR : X.R.frames = 2 ∧ X.R.locals = 42) {I : Nat → Nat → Int32} {L : Nat → Nat → Int64} {Rf : Nat → Nat → Option Nat} {c0_3 : Int64} (ec0_3 : L 0 3 = c0_3) {c0_4 : Int64} (ec0_4 : L 0 4 = c0_4) {c0_5 : Int64} (ec0_5 : L 0 5 = c0_5) {c5_1 : Int32} (ec5_1 : I 5 1 = c5_1) {a7 : (Nat → Int32)} (ea7 : I 7 = a7) {out : Int32} : ∀ (n : Nat) (v1 : Int32) (v2 : Int32) (v3 : Int32), bX3_richestRow_6 u c0_3 c0_4 c0_5 c5_1 a7 n v1 v2 v3 = some out → k_W X 6 0 0 (k_Q X ad (some (.int out)) (k_ap [] (shMine, I, L, Rf))) ad (k_ap [] (shMine, I, L, Rf)) 6 [some (.ref 0), some (.int v1), some (.int v2), some (.int v3), none, none] [] := by
  intro n
  induction n with
  | zero => intro v1 v2 v3 h; cases h
  | succ n ih =>
    intro v1 v2 v3 h
    refine r_iload_n C dX3_richestRow_6 (rfl : 6 + 1 = 7) rfl ?_
    refine r_aload_n C dX3_richestRow_7 (rfl : 7 + 1 = 8) rfl ?_
    refine r_getR (q := 5) C dX3_richestRow_8 (rfl : 8 + 3 = 11) fl_X3_24 rfl rfl ?_
    refine r_getI (v := c5_1) C dX3_richestRow_11 (rfl : 11 + 3 = 14) fl_X3_72 rfl rfl ec5_1 ?_
    refine r_icmp_ge (tgt := 69) C dX3_richestRow_14 (by decide) (rfl : 14 + 3 = 17) (fun c14 => ?_) (fun c14 => ?_)
    · have h := k_t c14 h
      refine r_iload_n C dX3_richestRow_69 (rfl : 69 + 1 = 70) rfl ?_
      cases h
      exact r_iret C hr dX3_richestRow_70
    · have h := k_f c14 h
      refine r_iconst (v := (0 : Int32)) C dX3_richestRow_17 (rfl : 17 + 1 = 18) rfl ?_
      refine r_istore C dX3_richestRow_18 (rfl : 18 + 2 = 20) (by decide) (Nat.le_of_ble_eq_true rfl) ?_
      show k_W _ _ _ _ _ _ _ _ [some (.ref 0), some (.int v1), some (.int v2), some (.int v3), some (.int (0 : Int32)), none] _
      refine r_iconst (v := (0 : Int32)) C dX3_richestRow_20 (rfl : 20 + 1 = 21) rfl ?_
      refine r_istore C dX3_richestRow_21 (rfl : 21 + 2 = 23) (by decide) (Nat.le_of_ble_eq_true rfl) ?_
      show k_W _ _ _ _ _ _ _ _ [some (.ref 0), some (.int v1), some (.int v2), some (.int v3), some (.int (0 : Int32)), some (.int (0 : Int32))] _
      refine k_mask [true, true, true, true, true, true] ?_
      exact sX3_richestRow_23 u C hr hR ec0_3 ec0_4 ec0_5 ec5_1 ea7 ih u v1 v2 v3 (0 : Int32) (0 : Int32) h
set_option maxHeartbeats 400000 in
set_option maxRecDepth 100000 in
theorem sX3_richestRow_0 (u : Nat) {X : k_X} {ad : Nat → Nat} (C : k_C X cX3_richestRow RX3 6 ad) (hr : X.meth.sig.returnType = (some .int)) (hR : X.R.frames = 2 ∧ X.R.locals = 42) {I : Nat → Nat → Int32} {L : Nat → Nat → Int64} {Rf : Nat → Nat → Option Nat} {c0_3 : Int64} (ec0_3 : L 0 3 = c0_3) {c0_4 : Int64} (ec0_4 : L 0 4 = c0_4) {c0_5 : Int64} (ec0_5 : L 0 5 = c0_5) {c5_1 : Int32} (ec5_1 : I 5 1 = c5_1) {a7 : (Nat → Int32)} (ea7 : I 7 = a7) {out : Int32} : bX3_richestRow_0 u c0_3 c0_4 c0_5 c5_1 a7 = some out → k_W X 6 0 0 (k_Q X ad (some (.int out)) (k_ap [] (shMine, I, L, Rf))) ad (k_ap [] (shMine, I, L, Rf)) 0 [some (.ref 0), none, none, none, none, none] [] := by
  intro h
  unfold bX3_richestRow_0 at h
  refine r_iconst (v := (0 : Int32)) C dX3_richestRow_0 (rfl : 0 + 1 = 1) rfl ?_
  refine r_istore_n C dX3_richestRow_1 (rfl : 1 + 1 = 2) (by decide) (Nat.le_of_ble_eq_true rfl) ?_
  show k_W _ _ _ _ _ _ _ _ [some (.ref 0), some (.int (0 : Int32)), none, none, none, none] _
  refine r_iconst (v := (0 : Int32)) C dX3_richestRow_2 (rfl : 2 + 1 = 3) rfl ?_
  refine r_istore_n C dX3_richestRow_3 (rfl : 3 + 1 = 4) (by decide) (Nat.le_of_ble_eq_true rfl) ?_
  show k_W _ _ _ _ _ _ _ _ [some (.ref 0), some (.int (0 : Int32)), some (.int (0 : Int32)), none, none, none] _
  refine r_iconst (v := (0 : Int32)) C dX3_richestRow_4 (rfl : 4 + 1 = 5) rfl ?_
  refine r_istore_n C dX3_richestRow_5 (rfl : 5 + 1 = 6) (by decide) (Nat.le_of_ble_eq_true rfl) ?_
  show k_W _ _ _ _ _ _ _ _ [some (.ref 0), some (.int (0 : Int32)), some (.int (0 : Int32)), some (.int (0 : Int32)), none, none] _
  refine k_mask [true, true, true, true, false, false] ?_
  exact sX3_richestRow_6 u C hr hR ec0_3 ec0_4 ec0_5 ec5_1 ea7 u (0 : Int32) (0 : Int32) (0 : Int32) h
set_option maxHeartbeats 400000 in
set_option maxRecDepth 100000 in
theorem c_X3_richestRow (l : Launch) (u : Nat) (h : k_H) (hsh : h.1 = shMine) {c0_3 : Int64} (ec0_3 : h.2.2.1 0 3 = c0_3) {c0_4 : Int64} (ec0_4 : h.2.2.1 0 4 = c0_4) {c0_5 : Int64} (ec0_5 : h.2.2.1 0 5 = c0_5) {c5_1 : Int32} (ec5_1 : h.2.1 5 1 = c5_1) {a7 : (Nat → Int32)} (ea7 : h.2.1 7 = a7) {out : Int32} (hf : f_X3_richestRow u c0_3 c0_4 c0_5 c5_1 a7 = some out) : k_CT l yX3_richestRow cX3_richestRow 6 (some .int) 2 42 [.ref 0] h (some (.int out)) [] := by
  obtain ⟨sh, I, L, Rf⟩ := h
  try dsimp only
  obtain rfl : sh = shMine := hsh
  refine k_ofW (by decide) (Nat.le_of_ble_eq_true rfl) ?_
  intro X ad hl hR0 hr C
  have hR : X.R.frames = 2 ∧ X.R.locals = 42 := by rw [hR0]; exact ⟨rfl, rfl⟩
  have h := hf
  unfold f_X3_richestRow at h
  refine k_start (us := []) k_ap_0 ?_
  show k_W X 6 0 0 _ ad (k_ap [] (shMine, I, L, Rf)) 0 [some (.ref 0), none, none, none, none, none] []
  refine k_mask [true, false, false, false, false, false] ?_
  exact sX3_richestRow_0 u C hr hR ec0_3 ec0_4 ec0_5 ec5_1 ea7 h
