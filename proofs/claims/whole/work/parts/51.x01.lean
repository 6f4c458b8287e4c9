/-! LullabyPit$Tape.put(I)V -/
theorem ds_X8_put : k_ds [(0, 0, 1), (1, 2, 0)] = true := by decide +kernel
set_option maxHeartbeats 400000 in
set_option maxRecDepth 100000 in
theorem sX8_put_42 (u : Nat) {X : k_X} {ad : Nat → Nat} (C : k_C X cX8_put RX8 3 ad) (hr : X.meth.sig.returnType = none) (hR : X.R.frames = 0 ∧ X.R.locals = 0) {I : Nat → Nat → Int32} {L : Nat → Nat → Int64} {Rf : Nat → Nat → Option Nat} {out : Int32 × (Nat → Int32)} {k3 : Int32 → (Nat → Int32) → Int32 → Int32 → Option (Int32 × (Nat → Int32))} (hk3 : ∀ (c0_1 : Int32) (a1 : (Nat → Int32)) (v1 : Int32) (v2 : Int32), k3 c0_1 a1 v1 v2 = some out → k_W X 3 0 0 (k_Q X ad none (k_ap [(0, .inl (1, out.1)), (1, .inr (.inr (.inl out.2)))] (shTape, I, L, Rf))) ad (k_ap [(0, .inl (1, c0_1)), (1, .inr (.inr (.inl a1)))] (shTape, I, L, Rf)) 3 [some (.ref 0), some (.int v1), some (.int v2)] []) : ∀ (c0_1 : Int32) (a1 : (Nat → Int32)) (v1 : Int32) (v2 : Int32), bX8_put_42 u k3 c0_1 a1 v1 v2 = some out → k_W X 3 0 0 (k_Q X ad none (k_ap [(0, .inl (1, out.1)), (1, .inr (.inr (.inl out.2)))] (shTape, I, L, Rf))) ad (k_ap [(0, .inl (1, c0_1)), (1, .inr (.inr (.inl a1)))] (shTape, I, L, Rf)) 42 [some (.ref 0), some (.int v1), some (.int v2)] [] := by
  intro c0_1 a1 v1 v2 h
  unfold bX8_put_42 at h
  refine r_iinc (v := (v2 + (-8 : Int32))) C dX8_put_42 (rfl : 42 + 3 = 45) rfl rfl (by decide) ?_
  show k_W _ _ _ _ _ _ _ _ [some (.ref 0), some (.int v1), some (.int (v2 + (-8 : Int32)))] _
  refine r_goto (tgt := 3) C dX8_put_45 (by decide) ?_
  refine k_mask [true, true, true] ?_
  exact hk3 c0_1 a1 v1 (v2 + (-8 : Int32)) h
set_option maxHeartbeats 400000 in
set_option maxRecDepth 100000 in
theorem sX8_put_3 (u : Nat) {X : k_X} {ad : Nat → Nat} (C : k_C X cX8_put RX8 3 ad) (hr : X.meth.sig.returnType = none) (hR : X.R.frames = 0 ∧ X.R.locals = 0) {I : Nat → Nat → Int32} {L : Nat → Nat → Int64} {Rf : Nat → Nat → Option Nat} {out : Int32 × (Nat → Int32)} : ∀ (n : Nat) (c0_1 : Int32) (a1 : (Nat → Int32)) (v1 : Int32) (v2 : Int32), bX8_put_3 u n c0_1 a1 v1 v2 = some out → k_W X 3 0 0 (k_Q X ad none (k_ap [(0, .inl (1, out.1)), (1, .inr (.inr (.inl out.2)))] (shTape, I, L, Rf))) ad (k_ap [(0, .inl (1, c0_1)), (1, .inr (.inr (.inl a1)))] (shTape, I, L, Rf)) 3 [some (.ref 0), some (.int v1), some (.int v2)] [] := by
  intro n
  induction n with
  | zero => intro c0_1 a1 v1 v2 h; cases h
  | succ n ih =>
    intro c0_1 a1 v1 v2 h
    refine r_iload_n C dX8_put_3 (rfl : 3 + 1 = 4) rfl ?_
    refine r_if_lt (tgt := 48) C dX8_put_4 (by decide) (rfl : 4 + 3 = 7) (fun c4 => ?_) (fun c4 => ?_)
    · have h := k_t c4 h
      cases h
      exact r_vret C hr dX8_put_48
    · have h := k_f c4 h
      refine r_aload_n C dX8_put_7 (rfl : 7 + 1 = 8) rfl ?_
      refine r_getI (v := c0_1) C dX8_put_8 (rfl : 8 + 3 = 11) fl_X8_19 rfl rfl rfl ?_
      refine r_aload_n C dX8_put_11 (rfl : 11 + 1 = 12) rfl ?_
      refine r_getR (q := 1) C dX8_put_12 (rfl : 12 + 3 = 15) fl_X8_9 rfl rfl ?_
      refine r_alen (v := (600 : Int32)) C dX8_put_15 (rfl : 15 + 1 = 16) rfl (by decide) rfl ?_
      refine r_icmp_ge (tgt := 42) C dX8_put_16 (by decide) (rfl : 16 + 3 = 19) (fun c16 => ?_) (fun c16 => ?_)
      · have h := k_t c16 h
        refine k_mask [true, true, true] ?_
        exact sX8_put_42 u C hr hR ih c0_1 a1 v1 v2 h
      · have h := k_f c16 h
        refine r_aload_n C dX8_put_19 (rfl : 19 + 1 = 20) rfl ?_
        refine r_getR (q := 1) C dX8_put_20 (rfl : 20 + 3 = 23) fl_X8_9 rfl rfl ?_
        refine r_aload_n C dX8_put_23 (rfl : 23 + 1 = 24) rfl ?_
        refine r_getI (v := c0_1) C dX8_put_24 (rfl : 24 + 3 = 27) fl_X8_19 rfl rfl rfl ?_
        refine r_iload_n C dX8_put_27 (rfl : 27 + 1 = 28) rfl ?_
        refine r_iload_n C dX8_put_28 (rfl : 28 + 1 = 29) rfl ?_
        refine r_iushr C dX8_put_29 (rfl : 29 + 1 = 30) ?_
        refine r_i2b C dX8_put_30 (rfl : 30 + 1 = 31) ?_
        obtain ⟨hi31, h⟩ := k_i_of h
        refine s_b (j := (c0_1).toNatClampNeg) (f := a1) (us' := [(0, .inl (1, c0_1)), (1, .inr (.inr (.inl (upd a1 ((c0_1).toNatClampNeg) (vp_nar .byte ((((v1).toUInt32 >>> ((v2).toUInt32 &&& Int32.toUInt32 31)).toInt32).toInt8.toInt32))))))]) C dX8_put_31 (rfl : 31 + 1 = 32) rfl rfl hi31 rfl ds_X8_put rfl rfl rfl ?_
        refine r_aload_n C dX8_put_32 (rfl : 32 + 1 = 33) rfl ?_
        refine r_dup C dX8_put_33 (rfl : 33 + 1 = 34) rfl ?_
        refine r_getI (v := c0_1) C dX8_put_34 (rfl : 34 + 3 = 37) fl_X8_19 rfl rfl rfl ?_
        refine r_iconst (v := (1 : Int32)) C dX8_put_37 (rfl : 37 + 1 = 38) rfl ?_
        refine r_iadd C dX8_put_38 (rfl : 38 + 1 = 39) ?_
        refine p_I (us' := [(0, .inl (1, (c0_1 + (1 : Int32)))), (1, .inr (.inr (.inl (upd a1 ((c0_1).toNatClampNeg) (vp_nar .byte ((((v1).toUInt32 >>> ((v2).toUInt32 &&& Int32.toUInt32 31)).toInt32).toInt8.toInt32))))))]) C dX8_put_39 (rfl : 39 + 3 = 42) fp_X8_19 rfl rfl ds_X8_put rfl rfl rfl ?_
        refine k_mask [true, true, true] ?_
        exact sX8_put_42 u C hr hR ih (c0_1 + (1 : Int32)) (upd a1 ((c0_1).toNatClampNeg) (vp_nar .byte ((((v1).toUInt32 >>> ((v2).toUInt32 &&& Int32.toUInt32 31)).toInt32).toInt8.toInt32))) v1 v2 h
set_option maxHeartbeats 400000 in
set_option maxRecDepth 100000 in
theorem sX8_put_0 (u : Nat) {X : k_X} {ad : Nat → Nat} (C : k_C X cX8_put RX8 3 ad) (hr : X.meth.sig.returnType = none) (hR : X.R.frames = 0 ∧ X.R.locals = 0) {I : Nat → Nat → Int32} {L : Nat → Nat → Int64} {Rf : Nat → Nat → Option Nat} {out : Int32 × (Nat → Int32)} : ∀ (c0_1 : Int32) (a1 : (Nat → Int32)) (v1 : Int32), bX8_put_0 u c0_1 a1 v1 = some out → k_W X 3 0 0 (k_Q X ad none (k_ap [(0, .inl (1, out.1)), (1, .inr (.inr (.inl out.2)))] (shTape, I, L, Rf))) ad (k_ap [(0, .inl (1, c0_1)), (1, .inr (.inr (.inl a1)))] (shTape, I, L, Rf)) 0 [some (.ref 0), some (.int v1), none] [] := by
  intro c0_1 a1 v1 h
  unfold bX8_put_0 at h
  refine r_bipush (v := (24 : Int32)) C dX8_put_0 (rfl : 0 + 2 = 2) rfl ?_
  refine r_istore_n C dX8_put_2 (rfl : 2 + 1 = 3) (by decide) (Nat.le_of_ble_eq_true rfl) ?_
  show k_W _ _ _ _ _ _ _ _ [some (.ref 0), some (.int v1), some (.int (24 : Int32))] _
  refine k_mask [true, true, true] ?_
  exact sX8_put_3 u C hr hR u c0_1 a1 v1 (24 : Int32) h
set_option maxHeartbeats 400000 in
set_option maxRecDepth 100000 in
theorem c_X8_put (l : Launch) (u : Nat) (h : k_H) (hsh : h.1 = shTape) {c0_1 : Int32} (ec0_1 : h.2.1 0 1 = c0_1) {a1 : (Nat → Int32)} (ea1 : h.2.1 1 = a1) {x0 : Int32} {out : Int32 × (Nat → Int32)} (hf : f_X8_put u c0_1 a1 x0 = some out) : k_CT l yX8_put cX8_put 3 none 0 0 [.ref 0, .int x0] h none [(0, .inl (1, out.1)), (1, .inr (.inr (.inl out.2)))] := by
  obtain ⟨sh, I, L, Rf⟩ := h
  try dsimp only
  obtain rfl : sh = shTape := hsh
  refine k_ofW (by decide) (Nat.le_of_ble_eq_true rfl) ?_
  intro X ad hl hR0 hr C
  have hR : X.R.frames = 0 ∧ X.R.locals = 0 := by rw [hR0]; exact ⟨rfl, rfl⟩
  have h := hf
  unfold f_X8_put at h
  refine k_start (us := [(0, .inl (1, c0_1)), (1, .inr (.inr (.inl a1)))]) (k_ao_I ec0_1 (k_ao_A ea1 k_ap_0)) ?_
  show k_W X 3 0 0 _ ad (k_ap [(0, .inl (1, c0_1)), (1, .inr (.inr (.inl a1)))] (shTape, I, L, Rf)) 0 [some (.ref 0), some (.int x0), none] []
  refine k_mask [true, true, false] ?_
  exact sX8_put_0 u C hr hR c0_1 a1 x0 h
/-! LullabyPit$Tape.begin(I)V -/
theorem ds_X8_begin : k_ds [(0, 0, 1), (0, 0, 2), (0, 0, 3), (0, 0, 4), (0, 0, 5), (0, 0, 6)] = true := by decide +kernel
set_option maxHeartbeats 400000 in
set_option maxRecDepth 100000 in
theorem sX8_begin_0 (u : Nat) {X : k_X} {ad : Nat → Nat} (C : k_C X cX8_begin RX8 2 ad) (hr : X.meth.sig.returnType = none) (hR : X.R.frames = 1 ∧ X.R.locals = 21) {I : Nat → Nat → Int32} {L : Nat → Nat → Int64} {Rf : Nat → Nat → Option Nat} {out : Int32 × Int32 × Int32 × Int32 × Int32 × Int32} : ∀ (c0_1 : Int32) (c0_2 : Int32) (c0_3 : Int32) (c0_4 : Int32) (c0_5 : Int32) (c0_6 : Int32) (v1 : Int32), bX8_begin_0 u c0_1 c0_2 c0_3 c0_4 c0_5 c0_6 v1 = some out → k_W X 2 0 0 (k_Q X ad none (k_ap [(0, .inl (1, out.1)), (0, .inl (2, out.2.1)), (0, .inl (3, out.2.2.1)), (0, .inl (4, out.2.2.2.1)), (0, .inl (5, out.2.2.2.2.1)), (0, .inl (6, out.2.2.2.2.2))] (shTape, I, L, Rf))) ad (k_ap [(0, .inl (1, c0_1)), (0, .inl (2, c0_2)), (0, .inl (3, c0_3)), (0, .inl (4, c0_4)), (0, .inl (5, c0_5)), (0, .inl (6, c0_6))] (shTape, I, L, Rf)) 0 [some (.ref 0), some (.int v1)] [] := by
  intro c0_1 c0_2 c0_3 c0_4 c0_5 c0_6 v1 h
  unfold bX8_begin_0 at h
  refine r_aload_n C dX8_begin_0 (rfl : 0 + 1 = 1) rfl ?_
  refine r_iload_n C dX8_begin_1 (rfl : 1 + 1 = 2) rfl ?_
  refine r_aload_n C dX8_begin_2 (rfl : 2 + 1 = 3) rfl ?_
  refine r_getR (q := 1) C dX8_begin_3 (rfl : 3 + 3 = 6) fl_X8_9 rfl rfl ?_
  refine r_alen (v := (600 : Int32)) C dX8_begin_6 (rfl : 6 + 1 = 7) rfl (by decide) rfl ?_
  refine r_min C hR dX8_begin_7 (rfl : 7 + 3 = 10) lm_X8_22 rfl rfl rfl ?_
  refine p_I (us' := [(0, .inl (1, c0_1)), (0, .inl (2, (if (600 : Int32) < v1 then (600 : Int32) else v1))), (0, .inl (3, c0_3)), (0, .inl (4, c0_4)), (0, .inl (5, c0_5)), (0, .inl (6, c0_6))]) C dX8_begin_10 (rfl : 10 + 3 = 13) fp_X8_28 rfl rfl ds_X8_begin rfl rfl rfl ?_
  refine r_aload_n C dX8_begin_13 (rfl : 13 + 1 = 14) rfl ?_
  refine r_iconst (v := (0 : Int32)) C dX8_begin_14 (rfl : 14 + 1 = 15) rfl ?_
  refine p_I (us' := [(0, .inl (1, c0_1)), (0, .inl (2, (if (600 : Int32) < v1 then (600 : Int32) else v1))), (0, .inl (3, (0 : Int32))), (0, .inl (4, c0_4)), (0, .inl (5, c0_5)), (0, .inl (6, c0_6))]) C dX8_begin_15 (rfl : 15 + 3 = 18) fp_X8_31 rfl rfl ds_X8_begin rfl rfl rfl ?_
  refine r_aload_n C dX8_begin_18 (rfl : 18 + 1 = 19) rfl ?_
  refine r_iconst (v := (0 : Int32)) C dX8_begin_19 (rfl : 19 + 1 = 20) rfl ?_
  refine p_I (us' := [(0, .inl (1, c0_1)), (0, .inl (2, (if (600 : Int32) < v1 then (600 : Int32) else v1))), (0, .inl (3, (0 : Int32))), (0, .inl (4, (0 : Int32))), (0, .inl (5, c0_5)), (0, .inl (6, c0_6))]) C dX8_begin_20 (rfl : 20 + 3 = 23) fp_X8_34 rfl rfl ds_X8_begin rfl rfl rfl ?_
  refine r_aload_n C dX8_begin_23 (rfl : 23 + 1 = 24) rfl ?_
  refine r_iconst (v := (0 : Int32)) C dX8_begin_24 (rfl : 24 + 1 = 25) rfl ?_
  refine p_I (us' := [(0, .inl (1, c0_1)), (0, .inl (2, (if (600 : Int32) < v1 then (600 : Int32) else v1))), (0, .inl (3, (0 : Int32))), (0, .inl (4, (0 : Int32))), (0, .inl (5, (0 : Int32))), (0, .inl (6, c0_6))]) C dX8_begin_25 (rfl : 25 + 3 = 28) fp_X8_37 rfl rfl ds_X8_begin rfl rfl rfl ?_
  refine r_aload_n C dX8_begin_28 (rfl : 28 + 1 = 29) rfl ?_
  refine r_iconst (v := (-1 : Int32)) C dX8_begin_29 (rfl : 29 + 1 = 30) rfl ?_
  refine p_I (us' := [(0, .inl (1, c0_1)), (0, .inl (2, (if (600 : Int32) < v1 then (600 : Int32) else v1))), (0, .inl (3, (0 : Int32))), (0, .inl (4, (0 : Int32))), (0, .inl (5, (0 : Int32))), (0, .inl (6, (-1 : Int32)))]) C dX8_begin_30 (rfl : 30 + 3 = 33) fp_X8_15 rfl rfl ds_X8_begin rfl rfl rfl ?_
  refine r_aload_n C dX8_begin_33 (rfl : 33 + 1 = 34) rfl ?_
  refine r_iconst (v := (0 : Int32)) C dX8_begin_34 (rfl : 34 + 1 = 35) rfl ?_
  refine p_I (us' := [(0, .inl (1, (0 : Int32))), (0, .inl (2, (if (600 : Int32) < v1 then (600 : Int32) else v1))), (0, .inl (3, (0 : Int32))), (0, .inl (4, (0 : Int32))), (0, .inl (5, (0 : Int32))), (0, .inl (6, (-1 : Int32)))]) C dX8_begin_35 (rfl : 35 + 3 = 38) fp_X8_19 rfl rfl ds_X8_begin rfl rfl rfl ?_
  cases h
  exact r_vret C hr dX8_begin_38
set_option maxHeartbeats 400000 in
set_option maxRecDepth 100000 in
theorem c_X8_begin (l : Launch) (u : Nat) (h : k_H) (hsh : h.1 = shTape) {c0_1 : Int32} (ec0_1 : h.2.1 0 1 = c0_1) {c0_2 : Int32} (ec0_2 : h.2.1 0 2 = c0_2) {c0_3 : Int32} (ec0_3 : h.2.1 0 3 = c0_3) {c0_4 : Int32} (ec0_4 : h.2.1 0 4 = c0_4) {c0_5 : Int32} (ec0_5 : h.2.1 0 5 = c0_5) {c0_6 : Int32} (ec0_6 : h.2.1 0 6 = c0_6) {x0 : Int32} {out : Int32 × Int32 × Int32 × Int32 × Int32 × Int32} (hf : f_X8_begin u c0_1 c0_2 c0_3 c0_4 c0_5 c0_6 x0 = some out) : k_CT l yX8_begin cX8_begin 2 none 1 21 [.ref 0, .int x0] h none [(0, .inl (1, out.1)), (0, .inl (2, out.2.1)), (0, .inl (3, out.2.2.1)), (0, .inl (4, out.2.2.2.1)), (0, .inl (5, out.2.2.2.2.1)), (0, .inl (6, out.2.2.2.2.2))] := by
  obtain ⟨sh, I, L, Rf⟩ := h
  try dsimp only
  obtain rfl : sh = shTape := hsh
  refine k_ofW (by decide) (Nat.le_of_ble_eq_true rfl) ?_
  intro X ad hl hR0 hr C
  have hR : X.R.frames = 1 ∧ X.R.locals = 21 := by rw [hR0]; exact ⟨rfl, rfl⟩
  have h := hf
  unfold f_X8_begin at h
  refine k_start (us := [(0, .inl (1, c0_1)), (0, .inl (2, c0_2)), (0, .inl (3, c0_3)), (0, .inl (4, c0_4)), (0, .inl (5, c0_5)), (0, .inl (6, c0_6))]) (k_ao_I ec0_1 (k_ao_I ec0_2 (k_ao_I ec0_3 (k_ao_I ec0_4 (k_ao_I ec0_5 (k_ao_I ec0_6 k_ap_0)))))) ?_
  show k_W X 2 0 0 _ ad (k_ap [(0, .inl (1, c0_1)), (0, .inl (2, c0_2)), (0, .inl (3, c0_3)), (0, .inl (4, c0_4)), (0, .inl (5, c0_5)), (0, .inl (6, c0_6))] (shTape, I, L, Rf)) 0 [some (.ref 0), some (.int x0)] []
  refine k_mask [true, true] ?_
  exact sX8_begin_0 u C hr hR c0_1 c0_2 c0_3 c0_4 c0_5 c0_6 x0 h
/-! LullabyPit$Tape.good()Z -/
theorem ds_X8_good : k_ds [] = true := by decide +kernel
set_option maxHeartbeats 400000 in
set_option maxRecDepth 100000 in
theorem sX8_good_0 (u : Nat) {X : k_X} {ad : Nat → Nat} (C : k_C X cX8_good RX8 1 ad) (hr : X.meth.sig.returnType = (some .boolean)) (hR : X.R.frames = 0 ∧ X.R.locals = 0) {I : Nat → Nat → Int32} {L : Nat → Nat → Int64} {Rf : Nat → Nat → Option Nat} {c0_5 : Int32} (ec0_5 : I 0 5 = c0_5) {out : Int32} : bX8_good_0 u c0_5 = some out → k_W X 1 0 0 (k_Q X ad (some (.int out)) (k_ap [] (shTape, I, L, Rf))) ad (k_ap [] (shTape, I, L, Rf)) 0 [some (.ref 0)] [] := by
  intro h
  unfold bX8_good_0 at h
  refine r_aload_n C dX8_good_0 (rfl : 0 + 1 = 1) rfl ?_
  refine r_getI (v := c0_5) C dX8_good_1 (rfl : 1 + 3 = 4) fl_X8_37 rfl rfl ec0_5 ?_
  refine r_if_ne (tgt := 11) C dX8_good_4 (by decide) (rfl : 4 + 3 = 7) (fun c4 => ?_) (fun c4 => ?_)
  · have h := k_f c4 h
    refine r_iconst (v := (0 : Int32)) C dX8_good_11 (rfl : 11 + 1 = 12) rfl ?_
    cases h
    exact r_zret C hr (Or.inl rfl) dX8_good_12
  · have h := k_t c4 h
    refine r_iconst (v := (1 : Int32)) C dX8_good_7 (rfl : 7 + 1 = 8) rfl ?_
    refine r_goto (tgt := 12) C dX8_good_8 (by decide) ?_
    cases h
    exact r_zret C hr (Or.inr rfl) dX8_good_12
set_option maxHeartbeats 400000 in
set_option maxRecDepth 100000 in
theorem c_X8_good (l : Launch) (u : Nat) (h : k_H) (hsh : h.1 = shTape) {c0_5 : Int32} (ec0_5 : h.2.1 0 5 = c0_5) {out : Int32} (hf : f_X8_good u c0_5 = some out) : k_CT l yX8_good cX8_good 1 (some .boolean) 0 0 [.ref 0] h (some (.int out)) [] := by
  obtain ⟨sh, I, L, Rf⟩ := h
  try dsimp only
  obtain rfl : sh = shTape := hsh
  refine k_ofW (by decide) (Nat.le_of_ble_eq_true rfl) ?_
  intro X ad hl hR0 hr C
  have hR : X.R.frames = 0 ∧ X.R.locals = 0 := by rw [hR0]; exact ⟨rfl, rfl⟩
  have h := hf
  unfold f_X8_good at h
  refine k_start (us := []) k_ap_0 ?_
  show k_W X 1 0 0 _ ad (k_ap [] (shTape, I, L, Rf)) 0 [some (.ref 0)] []
  refine k_mask [true] ?_
  exact sX8_good_0 u C hr hR ec0_5 h
/-! LullabyPit$Tape.fail(II)V -/
theorem ds_X8_fail : k_ds [(0, 0, 5), (0, 0, 6)] = true := by decide +kernel
set_option maxHeartbeats 400000 in
set_option maxRecDepth 100000 in
theorem sX8_fail_0 (u : Nat) {X : k_X} {ad : Nat → Nat} (C : k_C X cX8_fail RX8 3 ad) (hr : X.meth.sig.returnType = none) (hR : X.R.frames = 0 ∧ X.R.locals = 0) {I : Nat → Nat → Int32} {L : Nat → Nat → Int64} {Rf : Nat → Nat → Option Nat} {out : Int32 × Int32} : ∀ (c0_5 : Int32) (c0_6 : Int32) (v1 : Int32) (v2 : Int32), bX8_fail_0 u c0_5 c0_6 v1 v2 = some out → k_W X 3 0 0 (k_Q X ad none (k_ap [(0, .inl (5, out.1)), (0, .inl (6, out.2))] (shTape, I, L, Rf))) ad (k_ap [(0, .inl (5, c0_5)), (0, .inl (6, c0_6))] (shTape, I, L, Rf)) 0 [some (.ref 0), some (.int v1), some (.int v2)] [] := by
  intro c0_5 c0_6 v1 v2 h
  unfold bX8_fail_0 at h
  refine r_aload_n C dX8_fail_0 (rfl : 0 + 1 = 1) rfl ?_
  refine r_getI (v := c0_5) C dX8_fail_1 (rfl : 1 + 3 = 4) fl_X8_37 rfl rfl rfl ?_
  refine r_if_ne (tgt := 17) C dX8_fail_4 (by decide) (rfl : 4 + 3 = 7) (fun c4 => ?_) (fun c4 => ?_)
  · have h := k_f c4 h
    cases h
    exact r_vret C hr dX8_fail_17
  · have h := k_t c4 h
    refine r_aload_n C dX8_fail_7 (rfl : 7 + 1 = 8) rfl ?_
    refine r_iload_n C dX8_fail_8 (rfl : 8 + 1 = 9) rfl ?_
    refine p_I (us' := [(0, .inl (5, v1)), (0, .inl (6, c0_6))]) C dX8_fail_9 (rfl : 9 + 3 = 12) fp_X8_37 rfl rfl ds_X8_fail rfl rfl rfl ?_
    refine r_aload_n C dX8_fail_12 (rfl : 12 + 1 = 13) rfl ?_
    refine r_iload_n C dX8_fail_13 (rfl : 13 + 1 = 14) rfl ?_
    refine p_I (us' := [(0, .inl (5, v1)), (0, .inl (6, v2))]) C dX8_fail_14 (rfl : 14 + 3 = 17) fp_X8_15 rfl rfl ds_X8_fail rfl rfl rfl ?_
    cases h
    exact r_vret C hr dX8_fail_17
set_option maxHeartbeats 400000 in
set_option maxRecDepth 100000 in
theorem c_X8_fail (l : Launch) (u : Nat) (h : k_H) (hsh : h.1 = shTape) {c0_5 : Int32} (ec0_5 : h.2.1 0 5 = c0_5) {c0_6 : Int32} (ec0_6 : h.2.1 0 6 = c0_6) {x0 : Int32} {x1 : Int32} {out : Int32 × Int32} (hf : f_X8_fail u c0_5 c0_6 x0 x1 = some out) : k_CT l yX8_fail cX8_fail 3 none 0 0 [.ref 0, .int x0, .int x1] h none [(0, .inl (5, out.1)), (0, .inl (6, out.2))] := by
  obtain ⟨sh, I, L, Rf⟩ := h
  try dsimp only
  obtain rfl : sh = shTape := hsh
  refine k_ofW (by decide) (Nat.le_of_ble_eq_true rfl) ?_
  intro X ad hl hR0 hr C
  have hR : X.R.frames = 0 ∧ X.R.locals = 0 := by rw [hR0]; exact ⟨rfl, rfl⟩
  have h := hf
  unfold f_X8_fail at h
  refine k_start (us := [(0, .inl (5, c0_5)), (0, .inl (6, c0_6))]) (k_ao_I ec0_5 (k_ao_I ec0_6 k_ap_0)) ?_
  show k_W X 3 0 0 _ ad (k_ap [(0, .inl (5, c0_5)), (0, .inl (6, c0_6))] (shTape, I, L, Rf)) 0 [some (.ref 0), some (.int x0), some (.int x1)] []
  refine k_mask [true, true, true] ?_
  exact sX8_fail_0 u C hr hR c0_5 c0_6 x0 x1 h
/-! LullabyPit$Tape.peek()I -/
theorem ds_X8_peek : k_ds [(0, 0, 3)] = true := by decide +kernel
set_option maxHeartbeats 400000 in
set_option maxRecDepth 100000 in
theorem sX8_peek_38 (u : Nat) {X : k_X} {ad : Nat → Nat} (C : k_C X cX8_peek RX8 1 ad) (hr : X.meth.sig.returnType = (some .int)) (hR : X.R.frames = 0 ∧ X.R.locals = 0) {I : Nat → Nat → Int32} {L : Nat → Nat → Int64} {Rf : Nat → Nat → Option Nat} {c0_2 : Int32} (ec0_2 : I 0 2 = c0_2) {a1 : (Nat → Int32)} (ea1 : I 1 = a1) {out : Int32 × Int32} : ∀ (c0_3 : Int32), bX8_peek_38 u c0_2 a1 c0_3 = some out → k_W X 1 0 0 (k_Q X ad (some (.int out.1)) (k_ap [(0, .inl (3, out.2))] (shTape, I, L, Rf))) ad (k_ap [(0, .inl (3, c0_3))] (shTape, I, L, Rf)) 38 [some (.ref 0)] [] := by
  intro c0_3 h
  unfold bX8_peek_38 at h
  refine r_aload_n C dX8_peek_38 (rfl : 38 + 1 = 39) rfl ?_
  refine r_getI (v := c0_3) C dX8_peek_39 (rfl : 39 + 3 = 42) fl_X8_31 rfl rfl rfl ?_
  refine r_aload_n C dX8_peek_42 (rfl : 42 + 1 = 43) rfl ?_
  refine r_getI (v := c0_2) C dX8_peek_43 (rfl : 43 + 3 = 46) fl_X8_28 rfl rfl ec0_2 ?_
  refine r_icmp_ge (tgt := 61) C dX8_peek_46 (by decide) (rfl : 46 + 3 = 49) (fun c46 => ?_) (fun c46 => ?_)
  · have h := k_t c46 h
    refine r_iconst (v := (0 : Int32)) C dX8_peek_61 (rfl : 61 + 1 = 62) rfl ?_
    cases h
    exact r_iret C hr dX8_peek_62
  · have h := k_f c46 h
    refine r_aload_n C dX8_peek_49 (rfl : 49 + 1 = 50) rfl ?_
    refine r_getR (q := 1) C dX8_peek_50 (rfl : 50 + 3 = 53) fl_X8_9 rfl rfl ?_
    refine r_aload_n C dX8_peek_53 (rfl : 53 + 1 = 54) rfl ?_
    refine r_getI (v := c0_3) C dX8_peek_54 (rfl : 54 + 3 = 57) fl_X8_31 rfl rfl rfl ?_
    obtain ⟨hi57, h⟩ := k_i_of h
    refine a_b (j := (c0_3).toNatClampNeg) (f := a1) C dX8_peek_57 (rfl : 57 + 1 = 58) rfl ea1 hi57 rfl ?_
    refine r_goto (tgt := 62) C dX8_peek_58 (by decide) ?_
    cases h
    exact r_iret C hr dX8_peek_62
set_option maxHeartbeats 400000 in
set_option maxRecDepth 100000 in
theorem sX8_peek_0 (u : Nat) {X : k_X} {ad : Nat → Nat} (C : k_C X cX8_peek RX8 1 ad) (hr : X.meth.sig.returnType = (some .int)) (hR : X.R.frames = 0 ∧ X.R.locals = 0) {I : Nat → Nat → Int32} {L : Nat → Nat → Int64} {Rf : Nat → Nat → Option Nat} {c0_2 : Int32} (ec0_2 : I 0 2 = c0_2) {a1 : (Nat → Int32)} (ea1 : I 1 = a1) {out : Int32 × Int32} : ∀ (n : Nat) (c0_3 : Int32), bX8_peek_0 u c0_2 a1 n c0_3 = some out → k_W X 1 0 0 (k_Q X ad (some (.int out.1)) (k_ap [(0, .inl (3, out.2))] (shTape, I, L, Rf))) ad (k_ap [(0, .inl (3, c0_3))] (shTape, I, L, Rf)) 0 [some (.ref 0)] [] := by
  intro n
  induction n with
  | zero => intro c0_3 h; cases h
  | succ n ih =>
    intro c0_3 h
    refine r_aload_n C dX8_peek_0 (rfl : 0 + 1 = 1) rfl ?_
    refine r_getI (v := c0_3) C dX8_peek_1 (rfl : 1 + 3 = 4) fl_X8_31 rfl rfl rfl ?_
    refine r_aload_n C dX8_peek_4 (rfl : 4 + 1 = 5) rfl ?_
    refine r_getI (v := c0_2) C dX8_peek_5 (rfl : 5 + 3 = 8) fl_X8_28 rfl rfl ec0_2 ?_
    refine r_icmp_ge (tgt := 38) C dX8_peek_8 (by decide) (rfl : 8 + 3 = 11) (fun c8 => ?_) (fun c8 => ?_)
    · have h := k_t c8 h
      refine k_mask [true] ?_
      exact sX8_peek_38 u C hr hR ec0_2 ea1 c0_3 h
    · have h := k_f c8 h
      refine r_aload_n C dX8_peek_11 (rfl : 11 + 1 = 12) rfl ?_
      refine r_getR (q := 1) C dX8_peek_12 (rfl : 12 + 3 = 15) fl_X8_9 rfl rfl ?_
      refine r_aload_n C dX8_peek_15 (rfl : 15 + 1 = 16) rfl ?_
      refine r_getI (v := c0_3) C dX8_peek_16 (rfl : 16 + 3 = 19) fl_X8_31 rfl rfl rfl ?_
      obtain ⟨hi19, h⟩ := k_i_of h
      refine a_b (j := (c0_3).toNatClampNeg) (f := a1) C dX8_peek_19 (rfl : 19 + 1 = 20) rfl ea1 hi19 rfl ?_
      refine r_bipush (v := (32 : Int32)) C dX8_peek_20 (rfl : 20 + 2 = 22) rfl ?_
      refine r_icmp_ne (tgt := 38) C dX8_peek_22 (by decide) (rfl : 22 + 3 = 25) (fun c22 => ?_) (fun c22 => ?_)
      · have h := k_f c22 h
        refine k_mask [true] ?_
        exact sX8_peek_38 u C hr hR ec0_2 ea1 c0_3 h
      · have h := k_t c22 h
        refine r_aload_n C dX8_peek_25 (rfl : 25 + 1 = 26) rfl ?_
        refine r_dup C dX8_peek_26 (rfl : 26 + 1 = 27) rfl ?_
        refine r_getI (v := c0_3) C dX8_peek_27 (rfl : 27 + 3 = 30) fl_X8_31 rfl rfl rfl ?_
        refine r_iconst (v := (1 : Int32)) C dX8_peek_30 (rfl : 30 + 1 = 31) rfl ?_
        refine r_iadd C dX8_peek_31 (rfl : 31 + 1 = 32) ?_
        refine p_I (us' := [(0, .inl (3, (c0_3 + (1 : Int32))))]) C dX8_peek_32 (rfl : 32 + 3 = 35) fp_X8_31 rfl rfl ds_X8_peek rfl rfl rfl ?_
        refine r_goto (tgt := 0) C dX8_peek_35 (by decide) ?_
        refine k_mask [true] ?_
        exact ih (c0_3 + (1 : Int32)) h
set_option maxHeartbeats 400000 in
set_option maxRecDepth 100000 in
theorem c_X8_peek (l : Launch) (u : Nat) (h : k_H) (hsh : h.1 = shTape) {c0_2 : Int32} (ec0_2 : h.2.1 0 2 = c0_2) {c0_3 : Int32} (ec0_3 : h.2.1 0 3 = c0_3) {a1 : (Nat → Int32)} (ea1 : h.2.1 1 = a1) {out : Int32 × Int32} (hf : f_X8_peek u c0_2 c0_3 a1 = some out) : k_CT l yX8_peek cX8_peek 1 (some .int) 0 0 [.ref 0] h (some (.int out.1)) [(0, .inl (3, out.2))] := by
  obtain ⟨sh, I, L, Rf⟩ := h
  try dsimp only
  obtain rfl : sh = shTape := hsh
  refine k_ofW (by decide) (Nat.le_of_ble_eq_true rfl) ?_
  intro X ad hl hR0 hr C
  have hR : X.R.frames = 0 ∧ X.R.locals = 0 := by rw [hR0]; exact ⟨rfl, rfl⟩
  have h := hf
  unfold f_X8_peek at h
  refine k_start (us := [(0, .inl (3, c0_3))]) (k_ao_I ec0_3 k_ap_0) ?_
  show k_W X 1 0 0 _ ad (k_ap [(0, .inl (3, c0_3))] (shTape, I, L, Rf)) 0 [some (.ref 0)] []
  refine k_mask [true] ?_
  exact sX8_peek_0 u C hr hR ec0_2 ea1 u c0_3 h
/-! LullabyPit$Tape.failHere(I)V -/
theorem ds_X8_failHere : k_ds [(0, 0, 3), (0, 0, 5), (0, 0, 6)] = true := by decide +kernel
set_option maxHeartbeats 400000 in
set_option maxRecDepth 100000 in
theorem sX8_failHere_0 (u : Nat) {X : k_X} {ad : Nat → Nat} (C : k_C X cX8_failHere RX8 2 ad) (hr : X.meth.sig.returnType = none) (hR : X.R.frames = 1 ∧ X.R.locals = 22) {I : Nat → Nat → Int32} {L : Nat → Nat → Int64} {Rf : Nat → Nat → Option Nat} {c0_2 : Int32} (ec0_2 : I 0 2 = c0_2) {a1 : (Nat → Int32)} (ea1 : I 1 = a1) {out : Int32 × Int32 × Int32} : ∀ (c0_3 : Int32) (c0_5 : Int32) (c0_6 : Int32) (v1 : Int32), bX8_failHere_0 u c0_2 a1 c0_3 c0_5 c0_6 v1 = some out → k_W X 2 0 0 (k_Q X ad none (k_ap [(0, .inl (3, out.1)), (0, .inl (5, out.2.1)), (0, .inl (6, out.2.2))] (shTape, I, L, Rf))) ad (k_ap [(0, .inl (3, c0_3)), (0, .inl (5, c0_5)), (0, .inl (6, c0_6))] (shTape, I, L, Rf)) 0 [some (.ref 0), some (.int v1)] [] := by
  intro c0_3 c0_5 c0_6 v1 h
  unfold bX8_failHere_0 at h
  refine r_aload_n C dX8_failHere_0 (rfl : 0 + 1 = 1) rfl ?_
  obtain ⟨r1, q1, h⟩ := k_b_of h
  refine d_V (As := []) (st := []) (st' := [.int r1.1]) (h' := k_ap [(0, .inl (3, r1.2)), (0, .inl (5, c0_5)), (0, .inl (6, c0_6))] (shTape, I, L, Rf)) C hR ⟨Nat.zero_le _, Nat.zero_le _⟩ mv_X8_peek lk_X8_40 dX8_failHere_1 (rfl : 1 + 3 = 4) rfl rfl rfl rfl (c_X8_peek X.l u (k_ap [(0, .inl (3, c0_3)), (0, .inl (5, c0_5)), (0, .inl (6, c0_6))] (shTape, I, L, Rf)) rfl ec0_2 rfl ea1 q1) rfl rfl rfl (k_jn (us' := [(0, .inl (3, r1.2)), (0, .inl (5, c0_5)), (0, .inl (6, c0_6))]) ds_X8_failHere rfl rfl rfl) rfl ?_
  refine r_pop C dX8_failHere_4 (rfl : 4 + 1 = 5) rfl ?_
  refine r_aload_n C dX8_failHere_5 (rfl : 5 + 1 = 6) rfl ?_
  refine r_iload_n C dX8_failHere_6 (rfl : 6 + 1 = 7) rfl ?_
  refine r_aload_n C dX8_failHere_7 (rfl : 7 + 1 = 8) rfl ?_
  refine r_getI (v := r1.2) C dX8_failHere_8 (rfl : 8 + 3 = 11) fl_X8_31 rfl rfl rfl ?_
  obtain ⟨r11, q11, h⟩ := k_b_of h
  refine d_V (As := [.int v1, .int r1.2]) (st := []) (st' := []) (h' := k_ap [(0, .inl (3, r1.2)), (0, .inl (5, r11.1)), (0, .inl (6, r11.2))] (shTape, I, L, Rf)) C hR ⟨Nat.zero_le _, Nat.zero_le _⟩ mv_X8_fail lk_X8_44 dX8_failHere_11 (rfl : 11 + 3 = 14) rfl rfl rfl rfl (c_X8_fail X.l u (k_ap [(0, .inl (3, r1.2)), (0, .inl (5, c0_5)), (0, .inl (6, c0_6))] (shTape, I, L, Rf)) rfl rfl rfl q11) rfl rfl rfl (k_jn (us' := [(0, .inl (3, r1.2)), (0, .inl (5, r11.1)), (0, .inl (6, r11.2))]) ds_X8_failHere rfl rfl rfl) rfl ?_
  cases h
  exact r_vret C hr dX8_failHere_14
set_option maxHeartbeats 400000 in
set_option maxRecDepth 100000 in
theorem c_X8_failHere (l : Launch) (u : Nat) (h : k_H) (hsh : h.1 = shTape) {c0_2 : Int32} (ec0_2 : h.2.1 0 2 = c0_2) {c0_3 : Int32} (ec0_3 : h.2.1 0 3 = c0_3) {c0_5 : Int32} (ec0_5 : h.2.1 0 5 = c0_5) {c0_6 : Int32} (ec0_6 : h.2.1 0 6 = c0_6) {a1 : (Nat → Int32)} (ea1 : h.2.1 1 = a1) {x0 : Int32} {out : Int32 × Int32 × Int32} (hf : f_X8_failHere u c0_2 c0_3 c0_5 c0_6 a1 x0 = some out) : k_CT l yX8_failHere cX8_failHere 2 none 1 22 [.ref 0, .int x0] h none [(0, .inl (3, out.1)), (0, .inl (5, out.2.1)), (0, .inl (6, out.2.2))] := by
  obtain ⟨sh, I, L, Rf⟩ := h
  try dsimp only
  obtain rfl : sh = shTape := hsh
  refine k_ofW (by decide) (Nat.le_of_ble_eq_true rfl) ?_
  intro X ad hl hR0 hr C
  have hR : X.R.frames = 1 ∧ X.R.locals = 22 := by rw [hR0]; exact ⟨rfl, rfl⟩
  have h := hf
  unfold f_X8_failHere at h
  refine k_start (us := [(0, .inl (3, c0_3)), (0, .inl (5, c0_5)), (0, .inl (6, c0_6))]) (k_ao_I ec0_3 (k_ao_I ec0_5 (k_ao_I ec0_6 k_ap_0))) ?_
  show k_W X 2 0 0 _ ad (k_ap [(0, .inl (3, c0_3)), (0, .inl (5, c0_5)), (0, .inl (6, c0_6))] (shTape, I, L, Rf)) 0 [some (.ref 0), some (.int x0)] []
  refine k_mask [true, true] ?_
  exact sX8_failHere_0 u C hr hR ec0_2 ea1 c0_3 c0_5 c0_6 x0 h
/-! LullabyPit$Tape.more()Z -/
theorem ds_X8_more : k_ds [(0, 0, 3)] = true := by decide +kernel
set_option maxHeartbeats 400000 in
set_option maxRecDepth 100000 in
theorem sX8_more_0 (u : Nat) {X : k_X} {ad : Nat → Nat} (C : k_C X cX8_more RX8 1 ad) (hr : X.meth.sig.returnType = (some .boolean)) (hR : X.R.frames = 1 ∧ X.R.locals = 20) {I : Nat → Nat → Int32} {L : Nat → Nat → Int64} {Rf : Nat → Nat → Option Nat} {c0_2 : Int32} (ec0_2 : I 0 2 = c0_2) {c0_5 : Int32} (ec0_5 : I 0 5 = c0_5) {a1 : (Nat → Int32)} (ea1 : I 1 = a1) {out : Int32 × Int32} : ∀ (c0_3 : Int32), bX8_more_0 u c0_2 c0_5 a1 c0_3 = some out → k_W X 1 0 0 (k_Q X ad (some (.int out.1)) (k_ap [(0, .inl (3, out.2))] (shTape, I, L, Rf))) ad (k_ap [(0, .inl (3, c0_3))] (shTape, I, L, Rf)) 0 [some (.ref 0)] [] := by
  intro c0_3 h
  unfold bX8_more_0 at h
  refine r_aload_n C dX8_more_0 (rfl : 0 + 1 = 1) rfl ?_
  obtain ⟨r1, q1, h⟩ := k_b_of h
  refine d_V (As := []) (st := []) (st' := [.int r1.1]) (h' := k_ap [(0, .inl (3, r1.2))] (shTape, I, L, Rf)) C hR ⟨Nat.zero_le _, Nat.zero_le _⟩ mv_X8_peek lk_X8_40 dX8_more_1 (rfl : 1 + 3 = 4) rfl rfl rfl rfl (c_X8_peek X.l u (k_ap [(0, .inl (3, c0_3))] (shTape, I, L, Rf)) rfl ec0_2 rfl ea1 q1) rfl rfl rfl (k_jn (us' := [(0, .inl (3, r1.2))]) ds_X8_more rfl rfl rfl) rfl ?_
  refine r_pop C dX8_more_4 (rfl : 4 + 1 = 5) rfl ?_
  refine r_aload_n C dX8_more_5 (rfl : 5 + 1 = 6) rfl ?_
  refine r_getI (v := c0_5) C dX8_more_6 (rfl : 6 + 3 = 9) fl_X8_37 rfl rfl ec0_5 ?_
  refine r_if_ne (tgt := 27) C dX8_more_9 (by decide) (rfl : 9 + 3 = 12) (fun c9 => ?_) (fun c9 => ?_)
  · have h := k_f c9 h
    refine r_iconst (v := (0 : Int32)) C dX8_more_27 (rfl : 27 + 1 = 28) rfl ?_
    cases h
    exact r_zret C hr (Or.inl rfl) dX8_more_28
  · have h := k_t c9 h
    refine r_aload_n C dX8_more_12 (rfl : 12 + 1 = 13) rfl ?_
    refine r_getI (v := r1.2) C dX8_more_13 (rfl : 13 + 3 = 16) fl_X8_31 rfl rfl rfl ?_
    refine r_aload_n C dX8_more_16 (rfl : 16 + 1 = 17) rfl ?_
    refine r_getI (v := c0_2) C dX8_more_17 (rfl : 17 + 3 = 20) fl_X8_28 rfl rfl ec0_2 ?_
    refine r_icmp_ge (tgt := 27) C dX8_more_20 (by decide) (rfl : 20 + 3 = 23) (fun c20 => ?_) (fun c20 => ?_)
    · have h := k_t c20 h
      refine r_iconst (v := (0 : Int32)) C dX8_more_27 (rfl : 27 + 1 = 28) rfl ?_
      cases h
      exact r_zret C hr (Or.inl rfl) dX8_more_28
    · have h := k_f c20 h
      refine r_iconst (v := (1 : Int32)) C dX8_more_23 (rfl : 23 + 1 = 24) rfl ?_
      refine r_goto (tgt := 28) C dX8_more_24 (by decide) ?_
      cases h
      exact r_zret C hr (Or.inr rfl) dX8_more_28
set_option maxHeartbeats 400000 in
set_option maxRecDepth 100000 in
theorem c_X8_more (l : Launch) (u : Nat) (h : k_H) (hsh : h.1 = shTape) {c0_2 : Int32} (ec0_2 : h.2.1 0 2 = c0_2) {c0_3 : Int32} (ec0_3 : h.2.1 0 3 = c0_3) {c0_5 : Int32} (ec0_5 : h.2.1 0 5 = c0_5) {a1 : (Nat → Int32)} (ea1 : h.2.1 1 = a1) {out : Int32 × Int32} (hf : f_X8_more u c0_2 c0_3 c0_5 a1 = some out) : k_CT l yX8_more cX8_more 1 (some .boolean) 1 20 [.ref 0] h (some (.int out.1)) [(0, .inl (3, out.2))] := by
  obtain ⟨sh, I, L, Rf⟩ := h
  try dsimp only
  obtain rfl : sh = shTape := hsh
  refine k_ofW (by decide) (Nat.le_of_ble_eq_true rfl) ?_
  intro X ad hl hR0 hr C
  have hR : X.R.frames = 1 ∧ X.R.locals = 20 := by rw [hR0]; exact ⟨rfl, rfl⟩
  have h := hf
  unfold f_X8_more at h
  refine k_start (us := [(0, .inl (3, c0_3))]) (k_ao_I ec0_3 k_ap_0) ?_
  show k_W X 1 0 0 _ ad (k_ap [(0, .inl (3, c0_3))] (shTape, I, L, Rf)) 0 [some (.ref 0)] []
  refine k_mask [true] ?_
  exact sX8_more_0 u C hr hR ec0_2 ec0_5 ea1 c0_3 h
/-! LullabyPit$Tape.isNext(C)Z -/
theorem ds_X8_isNext : k_ds [(0, 0, 3)] = true := by decide +kernel
set_option maxHeartbeats 400000 in
set_option maxRecDepth 100000 in
theorem sX8_isNext_0 (u : Nat) {X : k_X} {ad : Nat → Nat} (C : k_C X cX8_isNext RX8 2 ad) (hr : X.meth.sig.returnType = (some .boolean)) (hR : X.R.frames = 1 ∧ X.R.locals = 20) {I : Nat → Nat → Int32} {L : Nat → Nat → Int64} {Rf : Nat → Nat → Option Nat} {c0_2 : Int32} (ec0_2 : I 0 2 = c0_2) {a1 : (Nat → Int32)} (ea1 : I 1 = a1) {out : Int32 × Int32} : ∀ (c0_3 : Int32) (v1 : Int32), bX8_isNext_0 u c0_2 a1 c0_3 v1 = some out → k_W X 2 0 0 (k_Q X ad (some (.int out.1)) (k_ap [(0, .inl (3, out.2))] (shTape, I, L, Rf))) ad (k_ap [(0, .inl (3, c0_3))] (shTape, I, L, Rf)) 0 [some (.ref 0), some (.int v1)] [] := by
  intro c0_3 v1 h
  unfold bX8_isNext_0 at h
  refine r_aload_n C dX8_isNext_0 (rfl : 0 + 1 = 1) rfl ?_
  obtain ⟨r1, q1, h⟩ := k_b_of h
  refine d_V (As := []) (st := []) (st' := [.int r1.1]) (h' := k_ap [(0, .inl (3, r1.2))] (shTape, I, L, Rf)) C hR ⟨Nat.zero_le _, Nat.zero_le _⟩ mv_X8_peek lk_X8_40 dX8_isNext_1 (rfl : 1 + 3 = 4) rfl rfl rfl rfl (c_X8_peek X.l u (k_ap [(0, .inl (3, c0_3))] (shTape, I, L, Rf)) rfl ec0_2 rfl ea1 q1) rfl rfl rfl (k_jn (us' := [(0, .inl (3, r1.2))]) ds_X8_isNext rfl rfl rfl) rfl ?_
  refine r_iload_n C dX8_isNext_4 (rfl : 4 + 1 = 5) rfl ?_
  refine r_icmp_ne (tgt := 12) C dX8_isNext_5 (by decide) (rfl : 5 + 3 = 8) (fun c5 => ?_) (fun c5 => ?_)
  · have h := k_f c5 h
    refine r_iconst (v := (0 : Int32)) C dX8_isNext_12 (rfl : 12 + 1 = 13) rfl ?_
    cases h
    exact r_zret C hr (Or.inl rfl) dX8_isNext_13
  · have h := k_t c5 h
    refine r_iconst (v := (1 : Int32)) C dX8_isNext_8 (rfl : 8 + 1 = 9) rfl ?_
    refine r_goto (tgt := 13) C dX8_isNext_9 (by decide) ?_
    cases h
    exact r_zret C hr (Or.inr rfl) dX8_isNext_13
set_option maxHeartbeats 400000 in
set_option maxRecDepth 100000 in
theorem c_X8_isNext (l : Launch) (u : Nat) (h : k_H) (hsh : h.1 = shTape) {c0_2 : Int32} (ec0_2 : h.2.1 0 2 = c0_2) {c0_3 : Int32} (ec0_3 : h.2.1 0 3 = c0_3) {a1 : (Nat → Int32)} (ea1 : h.2.1 1 = a1) {x0 : Int32} {out : Int32 × Int32} (hf : f_X8_isNext u c0_2 c0_3 a1 x0 = some out) : k_CT l yX8_isNext cX8_isNext 2 (some .boolean) 1 20 [.ref 0, .int x0] h (some (.int out.1)) [(0, .inl (3, out.2))] := by
  obtain ⟨sh, I, L, Rf⟩ := h
  try dsimp only
  obtain rfl : sh = shTape := hsh
  refine k_ofW (by decide) (Nat.le_of_ble_eq_true rfl) ?_
  intro X ad hl hR0 hr C
  have hR : X.R.frames = 1 ∧ X.R.locals = 20 := by rw [hR0]; exact ⟨rfl, rfl⟩
  have h := hf
  unfold f_X8_isNext at h
  refine k_start (us := [(0, .inl (3, c0_3))]) (k_ao_I ec0_3 k_ap_0) ?_
  show k_W X 2 0 0 _ ad (k_ap [(0, .inl (3, c0_3))] (shTape, I, L, Rf)) 0 [some (.ref 0), some (.int x0)] []
  refine k_mask [true, true] ?_
  exact sX8_isNext_0 u C hr hR ec0_2 ea1 c0_3 x0 h
/-! LullabyPit$Tape.isDigitNext()Z -/
theorem ds_X8_isDigitNext : k_ds [(0, 0, 3)] = true := by decide +kernel
set_option maxHeartbeats 400000 in
set_option maxRecDepth 100000 in
theorem sX8_isDigitNext_0 (u : Nat) {X : k_X} {ad : Nat → Nat} (C : k_C X cX8_isDigitNext RX8 2 ad) (hr : X.meth.sig.returnType = (some .boolean)) (hR : X.R.frames = 1 ∧ X.R.locals = 20) {I : Nat → Nat → Int32} {L : Nat → Nat → Int64} {Rf : Nat → Nat → Option Nat} {c0_2 : Int32} (ec0_2 : I 0 2 = c0_2) {a1 : (Nat → Int32)} (ea1 : I 1 = a1) {out : Int32 × Int32} : ∀ (c0_3 : Int32), bX8_isDigitNext_0 u c0_2 a1 c0_3 = some out → k_W X 2 0 0 (k_Q X ad (some (.int out.1)) (k_ap [(0, .inl (3, out.2))] (shTape, I, L, Rf))) ad (k_ap [(0, .inl (3, c0_3))] (shTape, I, L, Rf)) 0 [some (.ref 0), none] [] := by
  intro c0_3 h
  unfold bX8_isDigitNext_0 at h
  refine r_aload_n C dX8_isDigitNext_0 (rfl : 0 + 1 = 1) rfl ?_
  obtain ⟨r1, q1, h⟩ := k_b_of h
  refine d_V (As := []) (st := []) (st' := [.int r1.1]) (h' := k_ap [(0, .inl (3, r1.2))] (shTape, I, L, Rf)) C hR ⟨Nat.zero_le _, Nat.zero_le _⟩ mv_X8_peek lk_X8_40 dX8_isDigitNext_1 (rfl : 1 + 3 = 4) rfl rfl rfl rfl (c_X8_peek X.l u (k_ap [(0, .inl (3, c0_3))] (shTape, I, L, Rf)) rfl ec0_2 rfl ea1 q1) rfl rfl rfl (k_jn (us' := [(0, .inl (3, r1.2))]) ds_X8_isDigitNext rfl rfl rfl) rfl ?_
  refine r_istore_n C dX8_isDigitNext_4 (rfl : 4 + 1 = 5) (by decide) (Nat.le_of_ble_eq_true rfl) ?_
  show k_W _ _ _ _ _ _ _ _ [some (.ref 0), some (.int r1.1)] _
  refine r_iload_n C dX8_isDigitNext_5 (rfl : 5 + 1 = 6) rfl ?_
  refine r_bipush (v := (48 : Int32)) C dX8_isDigitNext_6 (rfl : 6 + 2 = 8) rfl ?_
  refine r_icmp_lt (tgt := 21) C dX8_isDigitNext_8 (by decide) (rfl : 8 + 3 = 11) (fun c8 => ?_) (fun c8 => ?_)
  · have h := k_t c8 h
    refine r_iconst (v := (0 : Int32)) C dX8_isDigitNext_21 (rfl : 21 + 1 = 22) rfl ?_
    cases h
    exact r_zret C hr (Or.inl rfl) dX8_isDigitNext_22
  · have h := k_f c8 h
    refine r_iload_n C dX8_isDigitNext_11 (rfl : 11 + 1 = 12) rfl ?_
    refine r_bipush (v := (57 : Int32)) C dX8_isDigitNext_12 (rfl : 12 + 2 = 14) rfl ?_
    refine r_icmp_gt (tgt := 21) C dX8_isDigitNext_14 (by decide) (rfl : 14 + 3 = 17) (fun c14 => ?_) (fun c14 => ?_)
    · have h := k_t c14 h
      refine r_iconst (v := (0 : Int32)) C dX8_isDigitNext_21 (rfl : 21 + 1 = 22) rfl ?_
      cases h
      exact r_zret C hr (Or.inl rfl) dX8_isDigitNext_22
    · have h := k_f c14 h
      refine r_iconst (v := (1 : Int32)) C dX8_isDigitNext_17 (rfl : 17 + 1 = 18) rfl ?_
      refine r_goto (tgt := 22) C dX8_isDigitNext_18 (by decide) ?_
      cases h
      exact r_zret C hr (Or.inr rfl) dX8_isDigitNext_22
set_option maxHeartbeats 400000 in
set_option maxRecDepth 100000 in
theorem c_X8_isDigitNext (l : Launch) (u : Nat) (h : k_H) (hsh : h.1 = shTape) {c0_2 : Int32} (ec0_2 : h.2.1 0 2 = c0_2) {c0_3 : Int32} (ec0_3 : h.2.1 0 3 = c0_3) {a1 : (Nat → Int32)} (ea1 : h.2.1 1 = a1) {out : Int32 × Int32} (hf : f_X8_isDigitNext u c0_2 c0_3 a1 = some out) : k_CT l yX8_isDigitNext cX8_isDigitNext 2 (some .boolean) 1 20 [.ref 0] h (some (.int out.1)) [(0, .inl (3, out.2))] := by
  obtain ⟨sh, I, L, Rf⟩ := h
  try dsimp only
  obtain rfl : sh = shTape := hsh
  refine k_ofW (by decide) (Nat.le_of_ble_eq_true rfl) ?_
  intro X ad hl hR0 hr C
  have hR : X.R.frames = 1 ∧ X.R.locals = 20 := by rw [hR0]; exact ⟨rfl, rfl⟩
  have h := hf
  unfold f_X8_isDigitNext at h
  refine k_start (us := [(0, .inl (3, c0_3))]) (k_ao_I ec0_3 k_ap_0) ?_
  show k_W X 2 0 0 _ ad (k_ap [(0, .inl (3, c0_3))] (shTape, I, L, Rf)) 0 [some (.ref 0), none] []
  refine k_mask [true, false] ?_
  exact sX8_isDigitNext_0 u C hr hR ec0_2 ea1 c0_3 h
/-! LullabyPit$Tape.sign(C)V -/
theorem ds_X8_sign : k_ds [(0, 0, 3), (0, 0, 5), (0, 0, 6)] = true := by decide +kernel
set_option maxHeartbeats 400000 in
set_option maxRecDepth 100000 in
theorem sX8_sign_0 (u : Nat) {X : k_X} {ad : Nat → Nat} (C : k_C X cX8_sign RX8 2 ad) (hr : X.meth.sig.returnType = none) (hR : X.R.frames = 1 ∧ X.R.locals = 22) {I : Nat → Nat → Int32} {L : Nat → Nat → Int64} {Rf : Nat → Nat → Option Nat} {c0_2 : Int32} (ec0_2 : I 0 2 = c0_2) {a1 : (Nat → Int32)} (ea1 : I 1 = a1) {out : Int32 × Int32 × Int32} : ∀ (c0_3 : Int32) (c0_5 : Int32) (c0_6 : Int32) (v1 : Int32), bX8_sign_0 u c0_2 a1 c0_3 c0_5 c0_6 v1 = some out → k_W X 2 0 0 (k_Q X ad none (k_ap [(0, .inl (3, out.1)), (0, .inl (5, out.2.1)), (0, .inl (6, out.2.2))] (shTape, I, L, Rf))) ad (k_ap [(0, .inl (3, c0_3)), (0, .inl (5, c0_5)), (0, .inl (6, c0_6))] (shTape, I, L, Rf)) 0 [some (.ref 0), some (.int v1)] [] := by
  intro c0_3 c0_5 c0_6 v1 h
  unfold bX8_sign_0 at h
  refine r_aload_n C dX8_sign_0 (rfl : 0 + 1 = 1) rfl ?_
  obtain ⟨r1, q1, h⟩ := k_b_of h
  refine d_V (As := []) (st := []) (st' := [.int r1.1]) (h' := k_ap [(0, .inl (3, r1.2)), (0, .inl (5, c0_5)), (0, .inl (6, c0_6))] (shTape, I, L, Rf)) C hR ⟨Nat.zero_le _, Nat.zero_le _⟩ mv_X8_peek lk_X8_40 dX8_sign_1 (rfl : 1 + 3 = 4) rfl rfl rfl rfl (c_X8_peek X.l u (k_ap [(0, .inl (3, c0_3)), (0, .inl (5, c0_5)), (0, .inl (6, c0_6))] (shTape, I, L, Rf)) rfl ec0_2 rfl ea1 q1) rfl rfl rfl (k_jn (us' := [(0, .inl (3, r1.2)), (0, .inl (5, c0_5)), (0, .inl (6, c0_6))]) ds_X8_sign rfl rfl rfl) rfl ?_
  refine r_iload_n C dX8_sign_4 (rfl : 4 + 1 = 5) rfl ?_
  refine r_icmp_eq (tgt := 20) C dX8_sign_5 (by decide) (rfl : 5 + 3 = 8) (fun c5 => ?_) (fun c5 => ?_)
  · have h := k_t c5 h
    refine r_aload_n C dX8_sign_20 (rfl : 20 + 1 = 21) rfl ?_
    refine r_getI (v := r1.2) C dX8_sign_21 (rfl : 21 + 3 = 24) fl_X8_31 rfl rfl rfl ?_
    refine r_aload_n C dX8_sign_24 (rfl : 24 + 1 = 25) rfl ?_
    refine r_getI (v := c0_2) C dX8_sign_25 (rfl : 25 + 3 = 28) fl_X8_28 rfl rfl ec0_2 ?_
    refine r_icmp_ge (tgt := 41) C dX8_sign_28 (by decide) (rfl : 28 + 3 = 31) (fun c28 => ?_) (fun c28 => ?_)
    · have h := k_t c28 h
      cases h
      exact r_vret C hr dX8_sign_41
    · have h := k_f c28 h
      refine r_aload_n C dX8_sign_31 (rfl : 31 + 1 = 32) rfl ?_
      refine r_dup C dX8_sign_32 (rfl : 32 + 1 = 33) rfl ?_
      refine r_getI (v := r1.2) C dX8_sign_33 (rfl : 33 + 3 = 36) fl_X8_31 rfl rfl rfl ?_
      refine r_iconst (v := (1 : Int32)) C dX8_sign_36 (rfl : 36 + 1 = 37) rfl ?_
      refine r_iadd C dX8_sign_37 (rfl : 37 + 1 = 38) ?_
      refine p_I (us' := [(0, .inl (3, (r1.2 + (1 : Int32)))), (0, .inl (5, c0_5)), (0, .inl (6, c0_6))]) C dX8_sign_38 (rfl : 38 + 3 = 41) fp_X8_31 rfl rfl ds_X8_sign rfl rfl rfl ?_
      cases h
      exact r_vret C hr dX8_sign_41
  · have h := k_f c5 h
    refine r_aload_n C dX8_sign_8 (rfl : 8 + 1 = 9) rfl ?_
    refine r_iconst (v := (1 : Int32)) C dX8_sign_9 (rfl : 9 + 1 = 10) rfl ?_
    refine r_aload_n C dX8_sign_10 (rfl : 10 + 1 = 11) rfl ?_
    refine r_getI (v := r1.2) C dX8_sign_11 (rfl : 11 + 3 = 14) fl_X8_31 rfl rfl rfl ?_
    obtain ⟨r14, q14, h⟩ := k_b_of h
    refine d_V (As := [.int (1 : Int32), .int r1.2]) (st := []) (st' := []) (h' := k_ap [(0, .inl (3, r1.2)), (0, .inl (5, r14.1)), (0, .inl (6, r14.2))] (shTape, I, L, Rf)) C hR ⟨Nat.zero_le _, Nat.zero_le _⟩ mv_X8_fail lk_X8_44 dX8_sign_14 (rfl : 14 + 3 = 17) rfl rfl rfl rfl (c_X8_fail X.l u (k_ap [(0, .inl (3, r1.2)), (0, .inl (5, c0_5)), (0, .inl (6, c0_6))] (shTape, I, L, Rf)) rfl rfl rfl q14) rfl rfl rfl (k_jn (us' := [(0, .inl (3, r1.2)), (0, .inl (5, r14.1)), (0, .inl (6, r14.2))]) ds_X8_sign rfl rfl rfl) rfl ?_
    refine r_goto (tgt := 41) C dX8_sign_17 (by decide) ?_
    cases h
    exact r_vret C hr dX8_sign_41
set_option maxHeartbeats 400000 in
set_option maxRecDepth 100000 in
theorem c_X8_sign (l : Launch) (u : Nat) (h : k_H) (hsh : h.1 = shTape) {c0_2 : Int32} (ec0_2 : h.2.1 0 2 = c0_2) {c0_3 : Int32} (ec0_3 : h.2.1 0 3 = c0_3) {c0_5 : Int32} (ec0_5 : h.2.1 0 5 = c0_5) {c0_6 : Int32} (ec0_6 : h.2.1 0 6 = c0_6) {a1 : (Nat → Int32)} (ea1 : h.2.1 1 = a1) {x0 : Int32} {out : Int32 × Int32 × Int32} (hf : f_X8_sign u c0_2 c0_3 c0_5 c0_6 a1 x0 = some out) : k_CT l yX8_sign cX8_sign 2 none 1 22 [.ref 0, .int x0] h none [(0, .inl (3, out.1)), (0, .inl (5, out.2.1)), (0, .inl (6, out.2.2))] := by
  obtain ⟨sh, I, L, Rf⟩ := h
  try dsimp only
  obtain rfl : sh = shTape := hsh
  refine k_ofW (by decide) (Nat.le_of_ble_eq_true rfl) ?_
  intro X ad hl hR0 hr C
  have hR : X.R.frames = 1 ∧ X.R.locals = 22 := by rw [hR0]; exact ⟨rfl, rfl⟩
  have h := hf
  unfold f_X8_sign at h
  refine k_start (us := [(0, .inl (3, c0_3)), (0, .inl (5, c0_5)), (0, .inl (6, c0_6))]) (k_ao_I ec0_3 (k_ao_I ec0_5 (k_ao_I ec0_6 k_ap_0))) ?_
  show k_W X 2 0 0 _ ad (k_ap [(0, .inl (3, c0_3)), (0, .inl (5, c0_5)), (0, .inl (6, c0_6))] (shTape, I, L, Rf)) 0 [some (.ref 0), some (.int x0)] []
  refine k_mask [true, true] ?_
  exact sX8_sign_0 u C hr hR ec0_2 ea1 c0_3 c0_5 c0_6 x0 h
/-! LullabyPit$Tape.finish()V -/
theorem ds_X8_finish : k_ds [(0, 0, 3), (0, 0, 5), (0, 0, 6)] = true := by decide +kernel
set_option maxHeartbeats 400000 in
set_option maxRecDepth 100000 in
theorem sX8_finish_0 (u : Nat) {X : k_X} {ad : Nat → Nat} (C : k_C X cX8_finish RX8 1 ad) (hr : X.meth.sig.returnType = none) (hR : X.R.frames = 1 ∧ X.R.locals = 22) {I : Nat → Nat → Int32} {L : Nat → Nat → Int64} {Rf : Nat → Nat → Option Nat} {c0_2 : Int32} (ec0_2 : I 0 2 = c0_2) {a1 : (Nat → Int32)} (ea1 : I 1 = a1) {out : Int32 × Int32 × Int32} : ∀ (c0_3 : Int32) (c0_5 : Int32) (c0_6 : Int32), bX8_finish_0 u c0_2 a1 c0_3 c0_5 c0_6 = some out → k_W X 1 0 0 (k_Q X ad none (k_ap [(0, .inl (3, out.1)), (0, .inl (5, out.2.1)), (0, .inl (6, out.2.2))] (shTape, I, L, Rf))) ad (k_ap [(0, .inl (3, c0_3)), (0, .inl (5, c0_5)), (0, .inl (6, c0_6))] (shTape, I, L, Rf)) 0 [some (.ref 0)] [] := by
  intro c0_3 c0_5 c0_6 h
  unfold bX8_finish_0 at h
  refine r_aload_n C dX8_finish_0 (rfl : 0 + 1 = 1) rfl ?_
  obtain ⟨r1, q1, h⟩ := k_b_of h
  refine d_V (As := []) (st := []) (st' := [.int r1.1]) (h' := k_ap [(0, .inl (3, r1.2)), (0, .inl (5, c0_5)), (0, .inl (6, c0_6))] (shTape, I, L, Rf)) C hR ⟨Nat.zero_le _, Nat.zero_le _⟩ mv_X8_peek lk_X8_40 dX8_finish_1 (rfl : 1 + 3 = 4) rfl rfl rfl rfl (c_X8_peek X.l u (k_ap [(0, .inl (3, c0_3)), (0, .inl (5, c0_5)), (0, .inl (6, c0_6))] (shTape, I, L, Rf)) rfl ec0_2 rfl ea1 q1) rfl rfl rfl (k_jn (us' := [(0, .inl (3, r1.2)), (0, .inl (5, c0_5)), (0, .inl (6, c0_6))]) ds_X8_finish rfl rfl rfl) rfl ?_
  refine r_pop C dX8_finish_4 (rfl : 4 + 1 = 5) rfl ?_
  refine r_aload_n C dX8_finish_5 (rfl : 5 + 1 = 6) rfl ?_
  refine r_getI (v := r1.2) C dX8_finish_6 (rfl : 6 + 3 = 9) fl_X8_31 rfl rfl rfl ?_
  refine r_aload_n C dX8_finish_9 (rfl : 9 + 1 = 10) rfl ?_
  refine r_getI (v := c0_2) C dX8_finish_10 (rfl : 10 + 3 = 13) fl_X8_28 rfl rfl ec0_2 ?_
  refine r_icmp_ge (tgt := 25) C dX8_finish_13 (by decide) (rfl : 13 + 3 = 16) (fun c13 => ?_) (fun c13 => ?_)
  · have h := k_t c13 h
    cases h
    exact r_vret C hr dX8_finish_25
  · have h := k_f c13 h
    refine r_aload_n C dX8_finish_16 (rfl : 16 + 1 = 17) rfl ?_
    refine r_iconst (v := (1 : Int32)) C dX8_finish_17 (rfl : 17 + 1 = 18) rfl ?_
    refine r_aload_n C dX8_finish_18 (rfl : 18 + 1 = 19) rfl ?_
    refine r_getI (v := r1.2) C dX8_finish_19 (rfl : 19 + 3 = 22) fl_X8_31 rfl rfl rfl ?_
    obtain ⟨r22, q22, h⟩ := k_b_of h
    refine d_V (As := [.int (1 : Int32), .int r1.2]) (st := []) (st' := []) (h' := k_ap [(0, .inl (3, r1.2)), (0, .inl (5, r22.1)), (0, .inl (6, r22.2))] (shTape, I, L, Rf)) C hR ⟨Nat.zero_le _, Nat.zero_le _⟩ mv_X8_fail lk_X8_44 dX8_finish_22 (rfl : 22 + 3 = 25) rfl rfl rfl rfl (c_X8_fail X.l u (k_ap [(0, .inl (3, r1.2)), (0, .inl (5, c0_5)), (0, .inl (6, c0_6))] (shTape, I, L, Rf)) rfl rfl rfl q22) rfl rfl rfl (k_jn (us' := [(0, .inl (3, r1.2)), (0, .inl (5, r22.1)), (0, .inl (6, r22.2))]) ds_X8_finish rfl rfl rfl) rfl ?_
    cases h
    exact r_vret C hr dX8_finish_25
set_option maxHeartbeats 400000 in
set_option maxRecDepth 100000 in
theorem c_X8_finish (l : Launch) (u : Nat) (h : k_H) (hsh : h.1 = shTape) {c0_2 : Int32} (ec0_2 : h.2.1 0 2 = c0_2) {c0_3 : Int32} (ec0_3 : h.2.1 0 3 = c0_3) {c0_5 : Int32} (ec0_5 : h.2.1 0 5 = c0_5) {c0_6 : Int32} (ec0_6 : h.2.1 0 6 = c0_6) {a1 : (Nat → Int32)} (ea1 : h.2.1 1 = a1) {out : Int32 × Int32 × Int32} (hf : f_X8_finish u c0_2 c0_3 c0_5 c0_6 a1 = some out) : k_CT l yX8_finish cX8_finish 1 none 1 22 [.ref 0] h none [(0, .inl (3, out.1)), (0, .inl (5, out.2.1)), (0, .inl (6, out.2.2))] := by
  obtain ⟨sh, I, L, Rf⟩ := h
  try dsimp only
  obtain rfl : sh = shTape := hsh
  refine k_ofW (by decide) (Nat.le_of_ble_eq_true rfl) ?_
  intro X ad hl hR0 hr C
  have hR : X.R.frames = 1 ∧ X.R.locals = 22 := by rw [hR0]; exact ⟨rfl, rfl⟩
  have h := hf
  unfold f_X8_finish at h
  refine k_start (us := [(0, .inl (3, c0_3)), (0, .inl (5, c0_5)), (0, .inl (6, c0_6))]) (k_ao_I ec0_3 (k_ao_I ec0_5 (k_ao_I ec0_6 k_ap_0))) ?_
  show k_W X 1 0 0 _ ad (k_ap [(0, .inl (3, c0_3)), (0, .inl (5, c0_5)), (0, .inl (6, c0_6))] (shTape, I, L, Rf)) 0 [some (.ref 0)] []
  refine k_mask [true] ?_
  exact sX8_finish_0 u C hr hR ec0_2 ea1 c0_3 c0_5 c0_6 h
