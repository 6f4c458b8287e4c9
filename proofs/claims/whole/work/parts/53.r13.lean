/-! LullabyPitModel.best(II)J -/
theorem ds_X11_best : k_ds [(0, 0, 0), (0, 0, 56), (0, 0, 57), (0, 1, 58), (1, 2, 0), (16, 2, 0), (17, 2, 0), (21, 2, 0), (23, 2, 0), (27, 2, 0)] = true := by decide +kernel
set_option maxHeartbeats 400000 in
set_option maxRecDepth 100000 in
theorem sX11_best_29 (u : Nat) {X : k_X} {ad : Nat → Nat} (C : k_C X cX11_best RX11 3 ad) (hr : X.meth.sig.returnType = (some .long)) (hR : X.R.frames = 31 ∧ X.R.locals = 693) {I : Nat → Nat → Int32} {L : Nat → Nat → Int64} {Rf : Nat → Nat → Option Nat} {c0_25 : Int32} (ec0_25 : I 0 25 = c0_25) {c0_26 : Int32} (ec0_26 : I 0 26 = c0_26) {c0_27 : Int32} (ec0_27 : I 0 27 = c0_27) {a7 : (Nat → Int32)} (ea7 : I 7 = a7) {a8 : (Nat → Int32)} (ea8 : I 8 = a8) {a9 : (Nat → Int32)} (ea9 : I 9 = a9) {a13 : (Nat → Int32)} (ea13 : I 13 = a13) {a14 : (Nat → Int32)} (ea14 : I 14 = a14) {a15 : (Nat → Int32)} (ea15 : I 15 = a15) {a20 : (Nat → Int32)} (ea20 : I 20 = a20) {out : Int64 × Int32 × Int32 × Int32 × Int64 × (Nat → Int32) × (Nat → Int32) × (Nat → Int32) × (Nat → Int32) × (Nat → Int32) × (Nat → Int32)} : ∀ (c0_0 : Int32) (c0_56 : Int32) (c0_57 : Int32) (c0_58 : Int64) (a1 : (Nat → Int32)) (a16 : (Nat → Int32)) (a17 : (Nat → Int32)) (a21 : (Nat → Int32)) (a23 : (Nat → Int32)) (a27 : (Nat → Int32)) (v1 : Int32) (v2 : Int32) (w0 : Int32), bX11_best_29 u c0_25 c0_26 c0_27 a7 a8 a9 a13 a14 a15 a20 c0_0 c0_56 c0_57 c0_58 a1 a16 a17 a21 a23 a27 v1 v2 w0 = some out → k_W X 3 0 0 (k_Q X ad (some (.long out.1)) (k_ap [(0, .inl (0, out.2.1)), (0, .inl (56, out.2.2.1)), (0, .inl (57, out.2.2.2.1)), (0, .inr (.inl (58, out.2.2.2.2.1))), (1, .inr (.inr (.inl out.2.2.2.2.2.1))), (16, .inr (.inr (.inl out.2.2.2.2.2.2.1))), (17, .inr (.inr (.inl out.2.2.2.2.2.2.2.1))), (21, .inr (.inr (.inl out.2.2.2.2.2.2.2.2.1))), (23, .inr (.inr (.inl out.2.2.2.2.2.2.2.2.2.1))), (27, .inr (.inr (.inl out.2.2.2.2.2.2.2.2.2.2)))] (shM, I, L, Rf))) ad (k_ap [(0, .inl (0, c0_0)), (0, .inl (56, c0_56)), (0, .inl (57, c0_57)), (0, .inr (.inl (58, c0_58))), (1, .inr (.inr (.inl a1))), (16, .inr (.inr (.inl a16))), (17, .inr (.inr (.inl a17))), (21, .inr (.inr (.inl a21))), (23, .inr (.inr (.inl a23))), (27, .inr (.inr (.inl a27)))] (shM, I, L, Rf)) 29 [some (.ref 0), some (.int v1), some (.int v2)] [.int w0, .ref 0] := by
  intro c0_0 c0_56 c0_57 c0_58 a1 a16 a17 a21 a23 a27 v1 v2 w0 h
  unfold bX11_best_29 at h
  refine r_iconst (v := (1 : Int32)) C dX11_best_29 (rfl : 29 + 1 = 30) rfl ?_
  refine r_iconst (v := (2 : Int32)) C dX11_best_30 (rfl : 30 + 1 = 31) rfl ?_
  obtain ⟨r31, q31, h⟩ := k_b_of h
  refine d_V (As := [.int w0, .int (1 : Int32), .int (2 : Int32)]) (st := []) (st' := [.int r31.1]) (h' := k_ap [(0, .inl (0, r31.2.1)), (0, .inl (56, c0_56)), (0, .inl (57, c0_57)), (0, .inr (.inl (58, c0_58))), (1, .inr (.inr (.inl r31.2.2))), (16, .inr (.inr (.inl a16))), (17, .inr (.inr (.inl a17))), (21, .inr (.inr (.inl a21))), (23, .inr (.inr (.inl a23))), (27, .inr (.inr (.inl a27)))] (shM, I, L, Rf)) C hR ⟨Nat.zero_le _, Nat.zero_le _⟩ mv_X11_may lk_X11_252 dX11_best_31 (rfl : 31 + 3 = 34) rfl rfl rfl rfl (c_X11_may X.l u (k_ap [(0, .inl (0, c0_0)), (0, .inl (56, c0_56)), (0, .inl (57, c0_57)), (0, .inr (.inl (58, c0_58))), (1, .inr (.inr (.inl a1))), (16, .inr (.inr (.inl a16))), (17, .inr (.inr (.inl a17))), (21, .inr (.inr (.inl a21))), (23, .inr (.inr (.inl a23))), (27, .inr (.inr (.inl a27)))] (shM, I, L, Rf)) rfl rfl rfl q31) rfl rfl rfl (k_jn (us' := [(0, .inl (0, r31.2.1)), (0, .inl (56, c0_56)), (0, .inl (57, c0_57)), (0, .inr (.inl (58, c0_58))), (1, .inr (.inr (.inl r31.2.2))), (16, .inr (.inr (.inl a16))), (17, .inr (.inr (.inl a17))), (21, .inr (.inr (.inl a21))), (23, .inr (.inr (.inl a23))), (27, .inr (.inr (.inl a27)))]) ds_X11_best rfl rfl rfl) rfl ?_
  refine r_if_ne (tgt := 39) C dX11_best_34 (by decide) (rfl : 34 + 3 = 37) (fun c34 => ?_) (fun c34 => ?_)
  · have h := k_f c34 h
    refine r_aload_n C dX11_best_39 (rfl : 39 + 1 = 40) rfl ?_
    obtain ⟨r40, q40, h⟩ := k_b_of h
    refine d_V (As := []) (st := []) (st' := []) (h' := k_ap [(0, .inl (0, r31.2.1)), (0, .inl (56, c0_56)), (0, .inl (57, c0_57)), (0, .inr (.inl (58, c0_58))), (1, .inr (.inr (.inl r31.2.2))), (16, .inr (.inr (.inl a16))), (17, .inr (.inr (.inl a17))), (21, .inr (.inr (.inl r40))), (23, .inr (.inr (.inl a23))), (27, .inr (.inr (.inl a27)))] (shM, I, L, Rf)) C hR ⟨Nat.zero_le _, Nat.zero_le _⟩ mv_X11_take lk_X11_345 dX11_best_40 (rfl : 40 + 3 = 43) rfl rfl rfl rfl (c_X11_take X.l u (k_ap [(0, .inl (0, r31.2.1)), (0, .inl (56, c0_56)), (0, .inl (57, c0_57)), (0, .inr (.inl (58, c0_58))), (1, .inr (.inr (.inl r31.2.2))), (16, .inr (.inr (.inl a16))), (17, .inr (.inr (.inl a17))), (21, .inr (.inr (.inl a21))), (23, .inr (.inr (.inl a23))), (27, .inr (.inr (.inl a27)))] (shM, I, L, Rf)) rfl ea20 rfl q40) rfl rfl rfl (k_jn (us' := [(0, .inl (0, r31.2.1)), (0, .inl (56, c0_56)), (0, .inl (57, c0_57)), (0, .inr (.inl (58, c0_58))), (1, .inr (.inr (.inl r31.2.2))), (16, .inr (.inr (.inl a16))), (17, .inr (.inr (.inl a17))), (21, .inr (.inr (.inl r40))), (23, .inr (.inr (.inl a23))), (27, .inr (.inr (.inl a27)))]) ds_X11_best rfl rfl rfl) rfl ?_
    refine r_aload_n C dX11_best_43 (rfl : 43 + 1 = 44) rfl ?_
    refine r_iconst (v := (-1 : Int32)) C dX11_best_44 (rfl : 44 + 1 = 45) rfl ?_
    refine p_I (us' := [(0, .inl (0, r31.2.1)), (0, .inl (56, (-1 : Int32))), (0, .inl (57, c0_57)), (0, .inr (.inl (58, c0_58))), (1, .inr (.inr (.inl r31.2.2))), (16, .inr (.inr (.inl a16))), (17, .inr (.inr (.inl a17))), (21, .inr (.inr (.inl r40))), (23, .inr (.inr (.inl a23))), (27, .inr (.inr (.inl a27)))]) C dX11_best_45 (rfl : 45 + 3 = 48) fp_X11_421 rfl rfl ds_X11_best rfl rfl rfl ?_
    refine r_aload_n C dX11_best_48 (rfl : 48 + 1 = 49) rfl ?_
    refine r_iconst (v := (0 : Int32)) C dX11_best_49 (rfl : 49 + 1 = 50) rfl ?_
    refine p_I (us' := [(0, .inl (0, r31.2.1)), (0, .inl (56, (-1 : Int32))), (0, .inl (57, (0 : Int32))), (0, .inr (.inl (58, c0_58))), (1, .inr (.inr (.inl r31.2.2))), (16, .inr (.inr (.inl a16))), (17, .inr (.inr (.inl a17))), (21, .inr (.inr (.inl r40))), (23, .inr (.inr (.inl a23))), (27, .inr (.inr (.inl a27)))]) C dX11_best_50 (rfl : 50 + 3 = 53) fp_X11_424 rfl rfl ds_X11_best rfl rfl rfl ?_
    refine r_aload_n C dX11_best_53 (rfl : 53 + 1 = 54) rfl ?_
    refine r_iconst (v := (0 : Int32)) C dX11_best_54 (rfl : 54 + 1 = 55) rfl ?_
    refine r_iload_n C dX11_best_55 (rfl : 55 + 1 = 56) rfl ?_
    refine r_iconst (v := (0 : Int32)) C dX11_best_56 (rfl : 56 + 1 = 57) rfl ?_
    refine r_lconst (v := (0 : Int64)) C dX11_best_57 (rfl : 57 + 1 = 58) rfl ?_
    obtain ⟨r58, q58, h⟩ := k_b_of h
    refine d_V (As := [.int (0 : Int32), .int v1, .int (0 : Int32), .long (0 : Int64)]) (st := []) (st' := []) (h' := k_ap [(0, .inl (0, r31.2.1)), (0, .inl (56, r58.1)), (0, .inl (57, r58.2.1)), (0, .inr (.inl (58, r58.2.2.1))), (1, .inr (.inr (.inl r31.2.2))), (16, .inr (.inr (.inl r58.2.2.2.1))), (17, .inr (.inr (.inl r58.2.2.2.2.1))), (21, .inr (.inr (.inl r58.2.2.2.2.2.1))), (23, .inr (.inr (.inl r58.2.2.2.2.2.2.1))), (27, .inr (.inr (.inl r58.2.2.2.2.2.2.2)))] (shM, I, L, Rf)) C hR ⟨Nat.zero_le _, Nat.zero_le _⟩ mv_X11_bestsOn lk_X11_433 dX11_best_58 (rfl : 58 + 3 = 61) rfl rfl rfl rfl (c_X11_bestsOn_r X.l u 5 (k_ap [(0, .inl (0, r31.2.1)), (0, .inl (56, (-1 : Int32))), (0, .inl (57, (0 : Int32))), (0, .inr (.inl (58, c0_58))), (1, .inr (.inr (.inl r31.2.2))), (16, .inr (.inr (.inl a16))), (17, .inr (.inr (.inl a17))), (21, .inr (.inr (.inl r40))), (23, .inr (.inr (.inl a23))), (27, .inr (.inr (.inl a27)))] (shM, I, L, Rf)) rfl ec0_25 ec0_26 ec0_27 rfl rfl rfl ea7 ea8 ea9 ea13 ea14 ea15 rfl rfl rfl rfl rfl q58) rfl rfl rfl (k_jn (us' := [(0, .inl (0, r31.2.1)), (0, .inl (56, r58.1)), (0, .inl (57, r58.2.1)), (0, .inr (.inl (58, r58.2.2.1))), (1, .inr (.inr (.inl r31.2.2))), (16, .inr (.inr (.inl r58.2.2.2.1))), (17, .inr (.inr (.inl r58.2.2.2.2.1))), (21, .inr (.inr (.inl r58.2.2.2.2.2.1))), (23, .inr (.inr (.inl r58.2.2.2.2.2.2.1))), (27, .inr (.inr (.inl r58.2.2.2.2.2.2.2)))]) ds_X11_best rfl rfl rfl) rfl ?_
    refine r_iload_n C dX11_best_61 (rfl : 61 + 1 = 62) rfl ?_
    refine r_if_ne (tgt := 73) C dX11_best_62 (by decide) (rfl : 62 + 3 = 65) (fun c62 => ?_) (fun c62 => ?_)
    · have h := k_f c62 h
      refine r_aload_n C dX11_best_73 (rfl : 73 + 1 = 74) rfl ?_
      refine r_getL (v := r58.2.2.1) C dX11_best_74 (rfl : 74 + 3 = 77) fl_X11_427 rfl rfl rfl ?_
      cases h
      exact r_lret C hr dX11_best_77
    · have h := k_t c62 h
      refine r_aload_n C dX11_best_65 (rfl : 65 + 1 = 66) rfl ?_
      refine r_getI (v := r58.1) C dX11_best_66 (rfl : 66 + 3 = 69) fl_X11_421 rfl rfl rfl ?_
      refine r_i2l C dX11_best_69 (rfl : 69 + 1 = 70) ?_
      refine r_goto (tgt := 77) C dX11_best_70 (by decide) ?_
      cases h
      exact r_lret C hr dX11_best_77
  · have h := k_t c34 h
    refine r_lconst (v := (0 : Int64)) C dX11_best_37 (rfl : 37 + 1 = 38) rfl ?_
    cases h
    exact r_lret C hr dX11_best_38
set_option maxHeartbeats 400000 in
set_option maxRecDepth 100000 in
theorem sX11_best_28 (u : Nat) {X : k_X} {ad : Nat → Nat} (C : k_C X cX11_best RX11 3 ad) (hr : X.meth.sig.returnType = (some .long)) (hR : X.R.frames = 31 ∧ X.R.locals = 693) {I : Nat → Nat → Int32} {L : Nat → Nat → Int64} {Rf : Nat → Nat → Option Nat} {c0_25 : Int32} (ec0_25 : I 0 25 = c0_25) {c0_26 : Int32} (ec0_26 : I 0 26 = c0_26) {c0_27 : Int32} (ec0_27 : I 0 27 = c0_27) {a7 : (Nat → Int32)} (ea7 : I 7 = a7) {a8 : (Nat → Int32)} (ea8 : I 8 = a8) {a9 : (Nat → Int32)} (ea9 : I 9 = a9) {a13 : (Nat → Int32)} (ea13 : I 13 = a13) {a14 : (Nat → Int32)} (ea14 : I 14 = a14) {a15 : (Nat → Int32)} (ea15 : I 15 = a15) {a20 : (Nat → Int32)} (ea20 : I 20 = a20) {out : Int64 × Int32 × Int32 × Int32 × Int64 × (Nat → Int32) × (Nat → Int32) × (Nat → Int32) × (Nat → Int32) × (Nat → Int32) × (Nat → Int32)} : ∀ (c0_0 : Int32) (c0_56 : Int32) (c0_57 : Int32) (c0_58 : Int64) (a1 : (Nat → Int32)) (a16 : (Nat → Int32)) (a17 : (Nat → Int32)) (a21 : (Nat → Int32)) (a23 : (Nat → Int32)) (a27 : (Nat → Int32)) (v1 : Int32) (v2 : Int32), bX11_best_28 u c0_25 c0_26 c0_27 a7 a8 a9 a13 a14 a15 a20 c0_0 c0_56 c0_57 c0_58 a1 a16 a17 a21 a23 a27 v1 v2 = some out → k_W X 3 0 0 (k_Q X ad (some (.long out.1)) (k_ap [(0, .inl (0, out.2.1)), (0, .inl (56, out.2.2.1)), (0, .inl (57, out.2.2.2.1)), (0, .inr (.inl (58, out.2.2.2.2.1))), (1, .inr (.inr (.inl out.2.2.2.2.2.1))), (16, .inr (.inr (.inl out.2.2.2.2.2.2.1))), (17, .inr (.inr (.inl out.2.2.2.2.2.2.2.1))), (21, .inr (.inr (.inl out.2.2.2.2.2.2.2.2.1))), (23, .inr (.inr (.inl out.2.2.2.2.2.2.2.2.2.1))), (27, .inr (.inr (.inl out.2.2.2.2.2.2.2.2.2.2)))] (shM, I, L, Rf))) ad (k_ap [(0, .inl (0, c0_0)), (0, .inl (56, c0_56)), (0, .inl (57, c0_57)), (0, .inr (.inl (58, c0_58))), (1, .inr (.inr (.inl a1))), (16, .inr (.inr (.inl a16))), (17, .inr (.inr (.inl a17))), (21, .inr (.inr (.inl a21))), (23, .inr (.inr (.inl a23))), (27, .inr (.inr (.inl a27)))] (shM, I, L, Rf)) 28 [some (.ref 0), some (.int v1), some (.int v2)] [.ref 0] := by
  intro c0_0 c0_56 c0_57 c0_58 a1 a16 a17 a21 a23 a27 v1 v2 h
  unfold bX11_best_28 at h
  refine r_iconst (v := (0 : Int32)) C dX11_best_28 (rfl : 28 + 1 = 29) rfl ?_
  refine k_mask [true, true, true] ?_
  exact sX11_best_29 u C hr hR ec0_25 ec0_26 ec0_27 ea7 ea8 ea9 ea13 ea14 ea15 ea20 c0_0 c0_56 c0_57 c0_58 a1 a16 a17 a21 a23 a27 v1 v2 (0 : Int32) h
set_option maxHeartbeats 400000 in
set_option maxRecDepth 100000 in
theorem sX11_best_0 (u : Nat) {X : k_X} {ad : Nat → Nat} (C : k_C X cX11_best RX11 3 ad) (hr : X.meth.sig.returnType = (some .long)) (hR : X.R.frames = 31 ∧ X.R.locals = 693) {I : Nat → Nat → Int32} {L : Nat → Nat → Int64} {Rf : Nat → Nat → Option Nat} {c0_25 : Int32} (ec0_25 : I 0 25 = c0_25) {c0_26 : Int32} (ec0_26 : I 0 26 = c0_26) {c0_27 : Int32} (ec0_27 : I 0 27 = c0_27) {a7 : (Nat → Int32)} (ea7 : I 7 = a7) {a8 : (Nat → Int32)} (ea8 : I 8 = a8) {a9 : (Nat → Int32)} (ea9 : I 9 = a9) {a13 : (Nat → Int32)} (ea13 : I 13 = a13) {a14 : (Nat → Int32)} (ea14 : I 14 = a14) {a15 : (Nat → Int32)} (ea15 : I 15 = a15) {a20 : (Nat → Int32)} (ea20 : I 20 = a20) {out : Int64 × Int32 × Int32 × Int32 × Int64 × (Nat → Int32) × (Nat → Int32) × (Nat → Int32) × (Nat → Int32) × (Nat → Int32) × (Nat → Int32)} : ∀ (c0_0 : Int32) (c0_56 : Int32) (c0_57 : Int32) (c0_58 : Int64) (a1 : (Nat → Int32)) (a16 : (Nat → Int32)) (a17 : (Nat → Int32)) (a21 : (Nat → Int32)) (a23 : (Nat → Int32)) (a27 : (Nat → Int32)) (v1 : Int32) (v2 : Int32), bX11_best_0 u c0_25 c0_26 c0_27 a7 a8 a9 a13 a14 a15 a20 c0_0 c0_56 c0_57 c0_58 a1 a16 a17 a21 a23 a27 v1 v2 = some out → k_W X 3 0 0 (k_Q X ad (some (.long out.1)) (k_ap [(0, .inl (0, out.2.1)), (0, .inl (56, out.2.2.1)), (0, .inl (57, out.2.2.2.1)), (0, .inr (.inl (58, out.2.2.2.2.1))), (1, .inr (.inr (.inl out.2.2.2.2.2.1))), (16, .inr (.inr (.inl out.2.2.2.2.2.2.1))), (17, .inr (.inr (.inl out.2.2.2.2.2.2.2.1))), (21, .inr (.inr (.inl out.2.2.2.2.2.2.2.2.1))), (23, .inr (.inr (.inl out.2.2.2.2.2.2.2.2.2.1))), (27, .inr (.inr (.inl out.2.2.2.2.2.2.2.2.2.2)))] (shM, I, L, Rf))) ad (k_ap [(0, .inl (0, c0_0)), (0, .inl (56, c0_56)), (0, .inl (57, c0_57)), (0, .inr (.inl (58, c0_58))), (1, .inr (.inr (.inl a1))), (16, .inr (.inr (.inl a16))), (17, .inr (.inr (.inl a17))), (21, .inr (.inr (.inl a21))), (23, .inr (.inr (.inl a23))), (27, .inr (.inr (.inl a27)))] (shM, I, L, Rf)) 0 [some (.ref 0), some (.int v1), some (.int v2)] [] := by
  intro c0_0 c0_56 c0_57 c0_58 a1 a16 a17 a21 a23 a27 v1 v2 h
  unfold bX11_best_0 at h
  refine r_aload_n C dX11_best_0 (rfl : 0 + 1 = 1) rfl ?_
  refine r_iconst (v := (0 : Int32)) C dX11_best_1 (rfl : 1 + 1 = 2) rfl ?_
  refine p_I (us' := [(0, .inl (0, (0 : Int32))), (0, .inl (56, c0_56)), (0, .inl (57, c0_57)), (0, .inr (.inl (58, c0_58))), (1, .inr (.inr (.inl a1))), (16, .inr (.inr (.inl a16))), (17, .inr (.inr (.inl a17))), (21, .inr (.inr (.inl a21))), (23, .inr (.inr (.inl a23))), (27, .inr (.inr (.inl a27)))]) C dX11_best_2 (rfl : 2 + 3 = 5) fp_X11_3 rfl rfl ds_X11_best rfl rfl rfl ?_
  refine r_aload_n C dX11_best_5 (rfl : 5 + 1 = 6) rfl ?_
  refine r_iload_n C dX11_best_6 (rfl : 6 + 1 = 7) rfl ?_
  refine r_iconst (v := (0 : Int32)) C dX11_best_7 (rfl : 7 + 1 = 8) rfl ?_
  refine r_iconst (v := (3 : Int32)) C dX11_best_8 (rfl : 8 + 1 = 9) rfl ?_
  obtain ⟨r9, q9, h⟩ := k_b_of h
  refine d_S (As := [.int v1, .int (0 : Int32), .int (3 : Int32)]) (st := [.ref 0]) (st' := [.int r9, .ref 0]) (h' := k_ap [(0, .inl (0, (0 : Int32))), (0, .inl (56, c0_56)), (0, .inl (57, c0_57)), (0, .inr (.inl (58, c0_58))), (1, .inr (.inr (.inl a1))), (16, .inr (.inr (.inl a16))), (17, .inr (.inr (.inl a17))), (21, .inr (.inr (.inl a21))), (23, .inr (.inr (.inl a23))), (27, .inr (.inr (.inl a27)))] (shM, I, L, Rf)) C hR ⟨Nat.zero_le _, Nat.zero_le _⟩ ms_X11_within lk_X11_317 dX11_best_9 (rfl : 9 + 3 = 12) rfl rfl (c_X11_within X.l u (k_ap [(0, .inl (0, (0 : Int32))), (0, .inl (56, c0_56)), (0, .inl (57, c0_57)), (0, .inr (.inl (58, c0_58))), (1, .inr (.inr (.inl a1))), (16, .inr (.inr (.inl a16))), (17, .inr (.inr (.inl a17))), (21, .inr (.inr (.inl a21))), (23, .inr (.inr (.inl a23))), (27, .inr (.inr (.inl a27)))] (shM, I, L, Rf)) rfl  q9) rfl rfl rfl rfl rfl ?_
  refine r_if_eq (tgt := 28) C dX11_best_12 (by decide) (rfl : 12 + 3 = 15) (fun c12 => ?_) (fun c12 => ?_)
  · have h := k_t c12 h
    refine k_mask [true, true, true] ?_
    exact sX11_best_28 u C hr hR ec0_25 ec0_26 ec0_27 ea7 ea8 ea9 ea13 ea14 ea15 ea20 (0 : Int32) c0_56 c0_57 c0_58 a1 a16 a17 a21 a23 a27 v1 v2 h
  · have h := k_f c12 h
    refine r_iload_n C dX11_best_15 (rfl : 15 + 1 = 16) rfl ?_
    refine r_iconst (v := (0 : Int32)) C dX11_best_16 (rfl : 16 + 1 = 17) rfl ?_
    refine r_iconst (v := (1 : Int32)) C dX11_best_17 (rfl : 17 + 1 = 18) rfl ?_
    obtain ⟨r18, q18, h⟩ := k_b_of h
    refine d_S (As := [.int v2, .int (0 : Int32), .int (1 : Int32)]) (st := [.ref 0]) (st' := [.int r18, .ref 0]) (h' := k_ap [(0, .inl (0, (0 : Int32))), (0, .inl (56, c0_56)), (0, .inl (57, c0_57)), (0, .inr (.inl (58, c0_58))), (1, .inr (.inr (.inl a1))), (16, .inr (.inr (.inl a16))), (17, .inr (.inr (.inl a17))), (21, .inr (.inr (.inl a21))), (23, .inr (.inr (.inl a23))), (27, .inr (.inr (.inl a27)))] (shM, I, L, Rf)) C hR ⟨Nat.zero_le _, Nat.zero_le _⟩ ms_X11_within lk_X11_317 dX11_best_18 (rfl : 18 + 3 = 21) rfl rfl (c_X11_within X.l u (k_ap [(0, .inl (0, (0 : Int32))), (0, .inl (56, c0_56)), (0, .inl (57, c0_57)), (0, .inr (.inl (58, c0_58))), (1, .inr (.inr (.inl a1))), (16, .inr (.inr (.inl a16))), (17, .inr (.inr (.inl a17))), (21, .inr (.inr (.inl a21))), (23, .inr (.inr (.inl a23))), (27, .inr (.inr (.inl a27)))] (shM, I, L, Rf)) rfl  q18) rfl rfl rfl rfl rfl ?_
    refine r_if_eq (tgt := 28) C dX11_best_21 (by decide) (rfl : 21 + 3 = 24) (fun c21 => ?_) (fun c21 => ?_)
    · have h := k_t c21 h
      refine k_mask [true, true, true] ?_
      exact sX11_best_28 u C hr hR ec0_25 ec0_26 ec0_27 ea7 ea8 ea9 ea13 ea14 ea15 ea20 (0 : Int32) c0_56 c0_57 c0_58 a1 a16 a17 a21 a23 a27 v1 v2 h
    · have h := k_f c21 h
      refine r_iconst (v := (1 : Int32)) C dX11_best_24 (rfl : 24 + 1 = 25) rfl ?_
      refine r_goto (tgt := 29) C dX11_best_25 (by decide) ?_
      refine k_mask [true, true, true] ?_
      exact sX11_best_29 u C hr hR ec0_25 ec0_26 ec0_27 ea7 ea8 ea9 ea13 ea14 ea15 ea20 (0 : Int32) c0_56 c0_57 c0_58 a1 a16 a17 a21 a23 a27 v1 v2 (1 : Int32) h
set_option maxHeartbeats 400000 in
set_option maxRecDepth 100000 in
theorem c_X11_best (l : Launch) (u : Nat) (h : k_H) (hsh : h.1 = shM) {c0_0 : Int32} (ec0_0 : h.2.1 0 0 = c0_0) {c0_25 : Int32} (ec0_25 : h.2.1 0 25 = c0_25) {c0_26 : Int32} (ec0_26 : h.2.1 0 26 = c0_26) {c0_27 : Int32} (ec0_27 : h.2.1 0 27 = c0_27) {c0_56 : Int32} (ec0_56 : h.2.1 0 56 = c0_56) {c0_57 : Int32} (ec0_57 : h.2.1 0 57 = c0_57) {c0_58 : Int64} (ec0_58 : h.2.2.1 0 58 = c0_58) {a1 : (Nat → Int32)} (ea1 : h.2.1 1 = a1) {a7 : (Nat → Int32)} (ea7 : h.2.1 7 = a7) {a8 : (Nat → Int32)} (ea8 : h.2.1 8 = a8) {a9 : (Nat → Int32)} (ea9 : h.2.1 9 = a9) {a13 : (Nat → Int32)} (ea13 : h.2.1 13 = a13) {a14 : (Nat → Int32)} (ea14 : h.2.1 14 = a14) {a15 : (Nat → Int32)} (ea15 : h.2.1 15 = a15) {a16 : (Nat → Int32)} (ea16 : h.2.1 16 = a16) {a17 : (Nat → Int32)} (ea17 : h.2.1 17 = a17) {a20 : (Nat → Int32)} (ea20 : h.2.1 20 = a20) {a21 : (Nat → Int32)} (ea21 : h.2.1 21 = a21) {a23 : (Nat → Int32)} (ea23 : h.2.1 23 = a23) {a27 : (Nat → Int32)} (ea27 : h.2.1 27 = a27) {x0 : Int32} {x1 : Int32} {out : Int64 × Int32 × Int32 × Int32 × Int64 × (Nat → Int32) × (Nat → Int32) × (Nat → Int32) × (Nat → Int32) × (Nat → Int32) × (Nat → Int32)} (hf : f_X11_best u c0_0 c0_25 c0_26 c0_27 c0_56 c0_57 c0_58 a1 a7 a8 a9 a13 a14 a15 a16 a17 a20 a21 a23 a27 x0 x1 = some out) : k_CT l yX11_best cX11_best 3 (some .long) 31 693 [.ref 0, .int x0, .int x1] h (some (.long out.1)) [(0, .inl (0, out.2.1)), (0, .inl (56, out.2.2.1)), (0, .inl (57, out.2.2.2.1)), (0, .inr (.inl (58, out.2.2.2.2.1))), (1, .inr (.inr (.inl out.2.2.2.2.2.1))), (16, .inr (.inr (.inl out.2.2.2.2.2.2.1))), (17, .inr (.inr (.inl out.2.2.2.2.2.2.2.1))), (21, .inr (.inr (.inl out.2.2.2.2.2.2.2.2.1))), (23, .inr (.inr (.inl out.2.2.2.2.2.2.2.2.2.1))), (27, .inr (.inr (.inl out.2.2.2.2.2.2.2.2.2.2)))] := by
  obtain ⟨sh, I, L, Rf⟩ := h
  try dsimp only
  obtain rfl : sh = shM := hsh
  refine k_ofW (by decide) (Nat.le_of_ble_eq_true rfl) ?_
  intro X ad hl hR0 hr C
  have hR : X.R.frames = 31 ∧ X.R.locals = 693 := by rw [hR0]; exact ⟨rfl, rfl⟩
  have h := hf
  unfold f_X11_best at h
  refine k_start (us := [(0, .inl (0, c0_0)), (0, .inl (56, c0_56)), (0, .inl (57, c0_57)), (0, .inr (.inl (58, c0_58))), (1, .inr (.inr (.inl a1))), (16, .inr (.inr (.inl a16))), (17, .inr (.inr (.inl a17))), (21, .inr (.inr (.inl a21))), (23, .inr (.inr (.inl a23))), (27, .inr (.inr (.inl a27)))]) (k_ao_I ec0_0 (k_ao_I ec0_56 (k_ao_I ec0_57 (k_ao_L ec0_58 (k_ao_A ea1 (k_ao_A ea16 (k_ao_A ea17 (k_ao_A ea21 (k_ao_A ea23 (k_ao_A ea27 k_ap_0)))))))))) ?_
  show k_W X 3 0 0 _ ad (k_ap [(0, .inl (0, c0_0)), (0, .inl (56, c0_56)), (0, .inl (57, c0_57)), (0, .inr (.inl (58, c0_58))), (1, .inr (.inr (.inl a1))), (16, .inr (.inr (.inl a16))), (17, .inr (.inr (.inl a17))), (21, .inr (.inr (.inl a21))), (23, .inr (.inr (.inl a23))), (27, .inr (.inr (.inl a27)))] (shM, I, L, Rf)) 0 [some (.ref 0), some (.int x0), some (.int x1)] []
  refine k_mask [true, true, true] ?_
  exact sX11_best_0 u C hr hR ec0_25 ec0_26 ec0_27 ea7 ea8 ea9 ea13 ea14 ea15 ea20 c0_0 c0_56 c0_57 c0_58 a1 a16 a17 a21 a23 a27 x0 x1 h
/-! LullabyPitModel.hold(I)J -/
theorem ds_X11_hold : k_ds [(0, 0, 0), (1, 2, 0), (16, 2, 0), (17, 2, 0), (21, 2, 0), (23, 2, 0)] = true := by decide +kernel
set_option maxHeartbeats 400000 in
set_option maxRecDepth 100000 in
theorem sX11_hold_28 (u : Nat) {X : k_X} {ad : Nat → Nat} (C : k_C X cX11_hold RX11 5 ad) (hr : X.meth.sig.returnType = (some .long)) (hR : X.R.frames = 31 ∧ X.R.locals = 693) {I : Nat → Nat → Int32} {L : Nat → Nat → Int64} {Rf : Nat → Nat → Option Nat} {c0_25 : Int32} (ec0_25 : I 0 25 = c0_25) {c0_26 : Int32} (ec0_26 : I 0 26 = c0_26) {a7 : (Nat → Int32)} (ea7 : I 7 = a7) {a8 : (Nat → Int32)} (ea8 : I 8 = a8) {a13 : (Nat → Int32)} (ea13 : I 13 = a13) {a14 : (Nat → Int32)} (ea14 : I 14 = a14) {a15 : (Nat → Int32)} (ea15 : I 15 = a15) {a20 : (Nat → Int32)} (ea20 : I 20 = a20) {out : Int64 × Int32 × (Nat → Int32) × (Nat → Int32) × (Nat → Int32) × (Nat → Int32) × (Nat → Int32)} : ∀ (n : Nat) (c0_0 : Int32) (a1 : (Nat → Int32)) (a16 : (Nat → Int32)) (a17 : (Nat → Int32)) (a21 : (Nat → Int32)) (a23 : (Nat → Int32)) (v1 : Int32) (v2 : Int32), bX11_hold_28 u c0_25 c0_26 a7 a8 a13 a14 a15 a20 n c0_0 a1 a16 a17 a21 a23 v1 v2 = some out → k_W X 5 0 0 (k_Q X ad (some (.long out.1)) (k_ap [(0, .inl (0, out.2.1)), (1, .inr (.inr (.inl out.2.2.1))), (16, .inr (.inr (.inl out.2.2.2.1))), (17, .inr (.inr (.inl out.2.2.2.2.1))), (21, .inr (.inr (.inl out.2.2.2.2.2.1))), (23, .inr (.inr (.inl out.2.2.2.2.2.2)))] (shM, I, L, Rf))) ad (k_ap [(0, .inl (0, c0_0)), (1, .inr (.inr (.inl a1))), (16, .inr (.inr (.inl a16))), (17, .inr (.inr (.inl a17))), (21, .inr (.inr (.inl a21))), (23, .inr (.inr (.inl a23)))] (shM, I, L, Rf)) 28 [some (.ref 0), some (.int v1), some (.int v2), none, none] [] := by
  intro n
  induction n with
  | zero => intro c0_0 a1 a16 a17 a21 a23 v1 v2 h; cases h
  | succ n ih =>
    intro c0_0 a1 a16 a17 a21 a23 v1 v2 h
    refine r_iload_n C dX11_hold_28 (rfl : 28 + 1 = 29) rfl ?_
    refine r_iconst (v := (4 : Int32)) C dX11_hold_29 (rfl : 29 + 1 = 30) rfl ?_
    refine r_icmp_gt (tgt := 66) C dX11_hold_30 (by decide) (rfl : 30 + 3 = 33) (fun c30 => ?_) (fun c30 => ?_)
    · have h := k_t c30 h
      refine r_ldc2 C dX11_hold_66 (rfl : 66 + 3 = 69) ct_X11_446 ?_
      cases h
      exact r_lret C hr dX11_hold_69
    · have h := k_f c30 h
      refine r_aload_n C dX11_hold_33 (rfl : 33 + 1 = 34) rfl ?_
      refine r_iload_n C dX11_hold_34 (rfl : 34 + 1 = 35) rfl ?_
      refine r_iconst (v := (0 : Int32)) C dX11_hold_35 (rfl : 35 + 1 = 36) rfl ?_
      refine r_lconst (v := (0 : Int64)) C dX11_hold_36 (rfl : 36 + 1 = 37) rfl ?_
      obtain ⟨r37, q37, h⟩ := k_b_of h
      refine d_V (As := [.int v2, .int (0 : Int32), .long (0 : Int64)]) (st := []) (st' := [.long r37.1]) (h' := k_ap [(0, .inl (0, c0_0)), (1, .inr (.inr (.inl a1))), (16, .inr (.inr (.inl r37.2.1))), (17, .inr (.inr (.inl r37.2.2.1))), (21, .inr (.inr (.inl r37.2.2.2.1))), (23, .inr (.inr (.inl r37.2.2.2.2)))] (shM, I, L, Rf)) C hR ⟨Nat.zero_le _, Nat.zero_le _⟩ mv_X11_holdsOn lk_X11_448 dX11_hold_37 (rfl : 37 + 3 = 40) rfl rfl rfl rfl (c_X11_holdsOn_r X.l u 6 (k_ap [(0, .inl (0, c0_0)), (1, .inr (.inr (.inl a1))), (16, .inr (.inr (.inl a16))), (17, .inr (.inr (.inl a17))), (21, .inr (.inr (.inl a21))), (23, .inr (.inr (.inl a23)))] (shM, I, L, Rf)) rfl ec0_25 ec0_26 ea7 ea8 ea13 ea14 ea15 rfl rfl rfl rfl q37) rfl rfl rfl (k_jn (us' := [(0, .inl (0, c0_0)), (1, .inr (.inr (.inl a1))), (16, .inr (.inr (.inl r37.2.1))), (17, .inr (.inr (.inl r37.2.2.1))), (21, .inr (.inr (.inl r37.2.2.2.1))), (23, .inr (.inr (.inl r37.2.2.2.2)))]) ds_X11_hold rfl rfl rfl) rfl ?_
      refine r_lstore_n C dX11_hold_40 (rfl : 40 + 1 = 41) (by decide) (Nat.le_of_ble_eq_true rfl) ?_
      show k_W _ _ _ _ _ _ _ _ [some (.ref 0), some (.int v1), some (.int v2), some (.long r37.1), none] _
      refine r_lload_n C dX11_hold_41 (rfl : 41 + 1 = 42) rfl ?_
      refine r_ldc2 C dX11_hold_42 (rfl : 42 + 3 = 45) ct_X11_446 ?_
      refine r_lcmp C dX11_hold_45 (rfl : 45 + 1 = 46) ?_
      refine r_if_eq (tgt := 60) C dX11_hold_46 (by decide) (rfl : 46 + 3 = 49) (fun c46 => ?_) (fun c46 => ?_)
      · have h := k_t c46 h
        refine r_iinc (v := (v2 + (1 : Int32))) C dX11_hold_60 (rfl : 60 + 3 = 63) rfl rfl (by decide) ?_
        show k_W _ _ _ _ _ _ _ _ [some (.ref 0), some (.int v1), some (.int (v2 + (1 : Int32))), some (.long r37.1), none] _
        refine r_goto (tgt := 28) C dX11_hold_63 (by decide) ?_
        refine k_mask [true, true, true, false, false] ?_
        exact ih c0_0 a1 r37.2.1 r37.2.2.1 r37.2.2.2.1 r37.2.2.2.2 v1 (v2 + (1 : Int32)) h
      · have h := k_f c46 h
        refine r_iload_n C dX11_hold_49 (rfl : 49 + 1 = 50) rfl ?_
        refine r_if_ne (tgt := 58) C dX11_hold_50 (by decide) (rfl : 50 + 3 = 53) (fun c50 => ?_) (fun c50 => ?_)
        · have h := k_f c50 h
          refine r_lload_n C dX11_hold_58 (rfl : 58 + 1 = 59) rfl ?_
          cases h
          exact r_lret C hr dX11_hold_59
        · have h := k_t c50 h
          refine r_iload_n C dX11_hold_53 (rfl : 53 + 1 = 54) rfl ?_
          refine r_i2l C dX11_hold_54 (rfl : 54 + 1 = 55) ?_
          refine r_goto (tgt := 59) C dX11_hold_55 (by decide) ?_
          cases h
          exact r_lret C hr dX11_hold_59
set_option maxHeartbeats 400000 in
set_option maxRecDepth 100000 in
theorem sX11_hold_0 (u : Nat) {X : k_X} {ad : Nat → Nat} (C : k_C X cX11_hold RX11 5 ad) (hr : X.meth.sig.returnType = (some .long)) (hR : X.R.frames = 31 ∧ X.R.locals = 693) {I : Nat → Nat → Int32} {L : Nat → Nat → Int64} {Rf : Nat → Nat → Option Nat} {c0_25 : Int32} (ec0_25 : I 0 25 = c0_25) {c0_26 : Int32} (ec0_26 : I 0 26 = c0_26) {a7 : (Nat → Int32)} (ea7 : I 7 = a7) {a8 : (Nat → Int32)} (ea8 : I 8 = a8) {a13 : (Nat → Int32)} (ea13 : I 13 = a13) {a14 : (Nat → Int32)} (ea14 : I 14 = a14) {a15 : (Nat → Int32)} (ea15 : I 15 = a15) {a20 : (Nat → Int32)} (ea20 : I 20 = a20) {out : Int64 × Int32 × (Nat → Int32) × (Nat → Int32) × (Nat → Int32) × (Nat → Int32) × (Nat → Int32)} : ∀ (c0_0 : Int32) (a1 : (Nat → Int32)) (a16 : (Nat → Int32)) (a17 : (Nat → Int32)) (a21 : (Nat → Int32)) (a23 : (Nat → Int32)) (v1 : Int32), bX11_hold_0 u c0_25 c0_26 a7 a8 a13 a14 a15 a20 c0_0 a1 a16 a17 a21 a23 v1 = some out → k_W X 5 0 0 (k_Q X ad (some (.long out.1)) (k_ap [(0, .inl (0, out.2.1)), (1, .inr (.inr (.inl out.2.2.1))), (16, .inr (.inr (.inl out.2.2.2.1))), (17, .inr (.inr (.inl out.2.2.2.2.1))), (21, .inr (.inr (.inl out.2.2.2.2.2.1))), (23, .inr (.inr (.inl out.2.2.2.2.2.2)))] (shM, I, L, Rf))) ad (k_ap [(0, .inl (0, c0_0)), (1, .inr (.inr (.inl a1))), (16, .inr (.inr (.inl a16))), (17, .inr (.inr (.inl a17))), (21, .inr (.inr (.inl a21))), (23, .inr (.inr (.inl a23)))] (shM, I, L, Rf)) 0 [some (.ref 0), some (.int v1), none, none, none] [] := by
  intro c0_0 a1 a16 a17 a21 a23 v1 h
  unfold bX11_hold_0 at h
  refine r_aload_n C dX11_hold_0 (rfl : 0 + 1 = 1) rfl ?_
  refine r_iconst (v := (0 : Int32)) C dX11_hold_1 (rfl : 1 + 1 = 2) rfl ?_
  refine p_I (us' := [(0, .inl (0, (0 : Int32))), (1, .inr (.inr (.inl a1))), (16, .inr (.inr (.inl a16))), (17, .inr (.inr (.inl a17))), (21, .inr (.inr (.inl a21))), (23, .inr (.inr (.inl a23)))]) C dX11_hold_2 (rfl : 2 + 3 = 5) fp_X11_3 rfl rfl ds_X11_hold rfl rfl rfl ?_
  refine r_aload_n C dX11_hold_5 (rfl : 5 + 1 = 6) rfl ?_
  refine r_iload_n C dX11_hold_6 (rfl : 6 + 1 = 7) rfl ?_
  refine r_iconst (v := (0 : Int32)) C dX11_hold_7 (rfl : 7 + 1 = 8) rfl ?_
  refine r_iconst (v := (1 : Int32)) C dX11_hold_8 (rfl : 8 + 1 = 9) rfl ?_
  obtain ⟨r9, q9, h⟩ := k_b_of h
  refine d_S (As := [.int v1, .int (0 : Int32), .int (1 : Int32)]) (st := [.ref 0]) (st' := [.int r9, .ref 0]) (h' := k_ap [(0, .inl (0, (0 : Int32))), (1, .inr (.inr (.inl a1))), (16, .inr (.inr (.inl a16))), (17, .inr (.inr (.inl a17))), (21, .inr (.inr (.inl a21))), (23, .inr (.inr (.inl a23)))] (shM, I, L, Rf)) C hR ⟨Nat.zero_le _, Nat.zero_le _⟩ ms_X11_within lk_X11_317 dX11_hold_9 (rfl : 9 + 3 = 12) rfl rfl (c_X11_within X.l u (k_ap [(0, .inl (0, (0 : Int32))), (1, .inr (.inr (.inl a1))), (16, .inr (.inr (.inl a16))), (17, .inr (.inr (.inl a17))), (21, .inr (.inr (.inl a21))), (23, .inr (.inr (.inl a23)))] (shM, I, L, Rf)) rfl  q9) rfl rfl rfl rfl rfl ?_
  refine r_iconst (v := (1 : Int32)) C dX11_hold_12 (rfl : 12 + 1 = 13) rfl ?_
  refine r_iconst (v := (2 : Int32)) C dX11_hold_13 (rfl : 13 + 1 = 14) rfl ?_
  obtain ⟨r14, q14, h⟩ := k_b_of h
  refine d_V (As := [.int r9, .int (1 : Int32), .int (2 : Int32)]) (st := []) (st' := [.int r14.1]) (h' := k_ap [(0, .inl (0, r14.2.1)), (1, .inr (.inr (.inl r14.2.2))), (16, .inr (.inr (.inl a16))), (17, .inr (.inr (.inl a17))), (21, .inr (.inr (.inl a21))), (23, .inr (.inr (.inl a23)))] (shM, I, L, Rf)) C hR ⟨Nat.zero_le _, Nat.zero_le _⟩ mv_X11_may lk_X11_252 dX11_hold_14 (rfl : 14 + 3 = 17) rfl rfl rfl rfl (c_X11_may X.l u (k_ap [(0, .inl (0, (0 : Int32))), (1, .inr (.inr (.inl a1))), (16, .inr (.inr (.inl a16))), (17, .inr (.inr (.inl a17))), (21, .inr (.inr (.inl a21))), (23, .inr (.inr (.inl a23)))] (shM, I, L, Rf)) rfl rfl rfl q14) rfl rfl rfl (k_jn (us' := [(0, .inl (0, r14.2.1)), (1, .inr (.inr (.inl r14.2.2))), (16, .inr (.inr (.inl a16))), (17, .inr (.inr (.inl a17))), (21, .inr (.inr (.inl a21))), (23, .inr (.inr (.inl a23)))]) ds_X11_hold rfl rfl rfl) rfl ?_
  refine r_if_ne (tgt := 22) C dX11_hold_17 (by decide) (rfl : 17 + 3 = 20) (fun c17 => ?_) (fun c17 => ?_)
  · have h := k_f c17 h
    refine r_aload_n C dX11_hold_22 (rfl : 22 + 1 = 23) rfl ?_
    obtain ⟨r23, q23, h⟩ := k_b_of h
    refine d_V (As := []) (st := []) (st' := []) (h' := k_ap [(0, .inl (0, r14.2.1)), (1, .inr (.inr (.inl r14.2.2))), (16, .inr (.inr (.inl a16))), (17, .inr (.inr (.inl a17))), (21, .inr (.inr (.inl r23))), (23, .inr (.inr (.inl a23)))] (shM, I, L, Rf)) C hR ⟨Nat.zero_le _, Nat.zero_le _⟩ mv_X11_take lk_X11_345 dX11_hold_23 (rfl : 23 + 3 = 26) rfl rfl rfl rfl (c_X11_take X.l u (k_ap [(0, .inl (0, r14.2.1)), (1, .inr (.inr (.inl r14.2.2))), (16, .inr (.inr (.inl a16))), (17, .inr (.inr (.inl a17))), (21, .inr (.inr (.inl a21))), (23, .inr (.inr (.inl a23)))] (shM, I, L, Rf)) rfl ea20 rfl q23) rfl rfl rfl (k_jn (us' := [(0, .inl (0, r14.2.1)), (1, .inr (.inr (.inl r14.2.2))), (16, .inr (.inr (.inl a16))), (17, .inr (.inr (.inl a17))), (21, .inr (.inr (.inl r23))), (23, .inr (.inr (.inl a23)))]) ds_X11_hold rfl rfl rfl) rfl ?_
    refine r_iconst (v := (0 : Int32)) C dX11_hold_26 (rfl : 26 + 1 = 27) rfl ?_
    refine r_istore_n C dX11_hold_27 (rfl : 27 + 1 = 28) (by decide) (Nat.le_of_ble_eq_true rfl) ?_
    show k_W _ _ _ _ _ _ _ _ [some (.ref 0), some (.int v1), some (.int (0 : Int32)), none, none] _
    refine k_mask [true, true, true, false, false] ?_
    exact sX11_hold_28 u C hr hR ec0_25 ec0_26 ea7 ea8 ea13 ea14 ea15 ea20 u r14.2.1 r14.2.2 a16 a17 r23 a23 v1 (0 : Int32) h
  · have h := k_t c17 h
    refine r_lconst (v := (0 : Int64)) C dX11_hold_20 (rfl : 20 + 1 = 21) rfl ?_
    cases h
    exact r_lret C hr dX11_hold_21
set_option maxHeartbeats 400000 in
set_option maxRecDepth 100000 in
theorem c_X11_hold (l : Launch) (u : Nat) (h : k_H) (hsh : h.1 = shM) {c0_0 : Int32} (ec0_0 : h.2.1 0 0 = c0_0) {c0_25 : Int32} (ec0_25 : h.2.1 0 25 = c0_25) {c0_26 : Int32} (ec0_26 : h.2.1 0 26 = c0_26) {a1 : (Nat → Int32)} (ea1 : h.2.1 1 = a1) {a7 : (Nat → Int32)} (ea7 : h.2.1 7 = a7) {a8 : (Nat → Int32)} (ea8 : h.2.1 8 = a8) {a13 : (Nat → Int32)} (ea13 : h.2.1 13 = a13) {a14 : (Nat → Int32)} (ea14 : h.2.1 14 = a14) {a15 : (Nat → Int32)} (ea15 : h.2.1 15 = a15) {a16 : (Nat → Int32)} (ea16 : h.2.1 16 = a16) {a17 : (Nat → Int32)} (ea17 : h.2.1 17 = a17) {a20 : (Nat → Int32)} (ea20 : h.2.1 20 = a20) {a21 : (Nat → Int32)} (ea21 : h.2.1 21 = a21) {a23 : (Nat → Int32)} (ea23 : h.2.1 23 = a23) {x0 : Int32} {out : Int64 × Int32 × (Nat → Int32) × (Nat → Int32) × (Nat → Int32) × (Nat → Int32) × (Nat → Int32)} (hf : f_X11_hold u c0_0 c0_25 c0_26 a1 a7 a8 a13 a14 a15 a16 a17 a20 a21 a23 x0 = some out) : k_CT l yX11_hold cX11_hold 5 (some .long) 31 693 [.ref 0, .int x0] h (some (.long out.1)) [(0, .inl (0, out.2.1)), (1, .inr (.inr (.inl out.2.2.1))), (16, .inr (.inr (.inl out.2.2.2.1))), (17, .inr (.inr (.inl out.2.2.2.2.1))), (21, .inr (.inr (.inl out.2.2.2.2.2.1))), (23, .inr (.inr (.inl out.2.2.2.2.2.2)))] := by
  obtain ⟨sh, I, L, Rf⟩ := h
  try dsimp only
  obtain rfl : sh = shM := hsh
  refine k_ofW (by decide) (Nat.le_of_ble_eq_true rfl) ?_
  intro X ad hl hR0 hr C
  have hR : X.R.frames = 31 ∧ X.R.locals = 693 := by rw [hR0]; exact ⟨rfl, rfl⟩
  have h := hf
  unfold f_X11_hold at h
  refine k_start (us := [(0, .inl (0, c0_0)), (1, .inr (.inr (.inl a1))), (16, .inr (.inr (.inl a16))), (17, .inr (.inr (.inl a17))), (21, .inr (.inr (.inl a21))), (23, .inr (.inr (.inl a23)))]) (k_ao_I ec0_0 (k_ao_A ea1 (k_ao_A ea16 (k_ao_A ea17 (k_ao_A ea21 (k_ao_A ea23 k_ap_0)))))) ?_
  show k_W X 5 0 0 _ ad (k_ap [(0, .inl (0, c0_0)), (1, .inr (.inr (.inl a1))), (16, .inr (.inr (.inl a16))), (17, .inr (.inr (.inl a17))), (21, .inr (.inr (.inl a21))), (23, .inr (.inr (.inl a23)))] (shM, I, L, Rf)) 0 [some (.ref 0), some (.int x0), none, none, none] []
  refine k_mask [true, true, false, false, false] ?_
  exact sX11_hold_0 u C hr hR ec0_25 ec0_26 ea7 ea8 ea13 ea14 ea15 ea20 c0_0 a1 a16 a17 a21 a23 x0 h
/-! LullabyPit$Law.read(LLullabyPit$Tape;)V -/
theorem ds_X1_read : k_ds [(0, 0, 2), (1, 2, 0), (3, 0, 3), (3, 0, 4), (3, 0, 5), (3, 0, 6)] = true := by decide +kernel
set_option maxHeartbeats 400000 in
set_option maxRecDepth 100000 in
theorem sX1_read_0 (u : Nat) {X : k_X} {ad : Nat → Nat} (C : k_C X cX1_read RX1 2 ad) (hr : X.meth.sig.returnType = none) (hR : X.R.frames = 73 ∧ X.R.locals = 1644) {I : Nat → Nat → Int32} {L : Nat → Nat → Int64} {Rf : Nat → Nat → Option Nat} {c3_2 : Int32} (ec3_2 : I 3 2 = c3_2) {a4 : (Nat → Int32)} (ea4 : I 4 = a4) {out : Int32 × (Nat → Int32) × Int32 × Int32 × Int32 × Int32} : ∀ (c0_2 : Int32) (a1 : (Nat → Int32)) (c3_3 : Int32) (c3_4 : Int32) (c3_5 : Int32) (c3_6 : Int32), bX1_read_0 u c3_2 a4 c0_2 a1 c3_3 c3_4 c3_5 c3_6 = some out → k_W X 2 0 0 (k_Q X ad none (k_ap [(0, .inl (2, out.1)), (1, .inr (.inr (.inl out.2.1))), (3, .inl (3, out.2.2.1)), (3, .inl (4, out.2.2.2.1)), (3, .inl (5, out.2.2.2.2.1)), (3, .inl (6, out.2.2.2.2.2))] (shLawTape, I, L, Rf))) ad (k_ap [(0, .inl (2, c0_2)), (1, .inr (.inr (.inl a1))), (3, .inl (3, c3_3)), (3, .inl (4, c3_4)), (3, .inl (5, c3_5)), (3, .inl (6, c3_6))] (shLawTape, I, L, Rf)) 0 [some (.ref 0), some (.ref 3)] [] := by
  intro c0_2 a1 c3_3 c3_4 c3_5 c3_6 h
  unfold bX1_read_0 at h
  refine r_aload_n C dX1_read_0 (rfl : 0 + 1 = 1) rfl ?_
  refine r_iconst (v := (0 : Int32)) C dX1_read_1 (rfl : 1 + 1 = 2) rfl ?_
  refine p_I (us' := [(0, .inl (2, (0 : Int32))), (1, .inr (.inr (.inl a1))), (3, .inl (3, c3_3)), (3, .inl (4, c3_4)), (3, .inl (5, c3_5)), (3, .inl (6, c3_6))]) C dX1_read_2 (rfl : 2 + 3 = 5) fp_X1_18 rfl rfl ds_X1_read rfl rfl rfl ?_
  refine r_aload_n C dX1_read_5 (rfl : 5 + 1 = 6) rfl ?_
  refine r_aload_n C dX1_read_6 (rfl : 6 + 1 = 7) rfl ?_
  refine r_iconst (v := (0 : Int32)) C dX1_read_7 (rfl : 7 + 1 = 8) rfl ?_
  obtain ⟨r8, q8, h⟩ := k_b_of h
  refine d_V (As := [.ref 3, .int (0 : Int32)]) (st := []) (st' := []) (h' := k_ap [(0, .inl (2, r8.1)), (1, .inr (.inr (.inl r8.2.1))), (3, .inl (3, r8.2.2.1)), (3, .inl (4, r8.2.2.2.1)), (3, .inl (5, r8.2.2.2.2.1)), (3, .inl (6, r8.2.2.2.2.2))] (shLawTape, I, L, Rf)) C hR ⟨Nat.zero_le _, Nat.zero_le _⟩ mv_X1_readSum lk_X1_32 dX1_read_8 (rfl : 8 + 3 = 11) rfl rfl rfl rfl (c_X1_readSum_r X.l u 9 (k_ap [(0, .inl (2, (0 : Int32))), (1, .inr (.inr (.inl a1))), (3, .inl (3, c3_3)), (3, .inl (4, c3_4)), (3, .inl (5, c3_5)), (3, .inl (6, c3_6))] (shLawTape, I, L, Rf)) rfl rfl rfl ec3_2 rfl rfl rfl rfl ea4 q8) rfl rfl rfl (k_jn (us' := [(0, .inl (2, r8.1)), (1, .inr (.inr (.inl r8.2.1))), (3, .inl (3, r8.2.2.1)), (3, .inl (4, r8.2.2.2.1)), (3, .inl (5, r8.2.2.2.2.1)), (3, .inl (6, r8.2.2.2.2.2))]) ds_X1_read rfl rfl rfl) rfl ?_
  refine r_aload_n C dX1_read_11 (rfl : 11 + 1 = 12) rfl ?_
  obtain ⟨r12, q12, h⟩ := k_b_of h
  refine d_Vp (pi := [3, 4]) (shl := shTape) (bl := 0) (As := []) (Al := []) (st := []) (st' := []) (h' := k_ap [(0, .inl (2, r8.1)), (1, .inr (.inr (.inl r8.2.1))), (3, .inl (3, r12.1)), (3, .inl (4, r8.2.2.2.1)), (3, .inl (5, r12.2.1)), (3, .inl (6, r12.2.2))] (shLawTape, I, L, Rf)) C hR ⟨Nat.zero_le _, Nat.zero_le _⟩ mv_X8_finish lk_X1_36 dX1_read_12 (rfl : 12 + 3 = 15) rfl rfl ck_shLawTape_shTape_3 rfl rfl (c_X8_finish X.l u (k_pl [3, 4] shTape (k_ap [(0, .inl (2, r8.1)), (1, .inr (.inr (.inl r8.2.1))), (3, .inl (3, r8.2.2.1)), (3, .inl (4, r8.2.2.2.1)), (3, .inl (5, r8.2.2.2.2.1)), (3, .inl (6, r8.2.2.2.2.2))] (shLawTape, I, L, Rf))) rfl ec3_2 rfl rfl rfl ea4 q12) rfl (fun _ => rfl) rfl (fun _ => rfl) rfl rfl rfl (k_jn (us' := [(0, .inl (2, r8.1)), (1, .inr (.inr (.inl r8.2.1))), (3, .inl (3, r12.1)), (3, .inl (4, r8.2.2.2.1)), (3, .inl (5, r12.2.1)), (3, .inl (6, r12.2.2))]) ds_X1_read rfl rfl rfl) rfl ?_
  cases h
  exact r_vret C hr dX1_read_15
set_option maxHeartbeats 400000 in
set_option maxRecDepth 100000 in
theorem c_X1_read (l : Launch) (u : Nat) (h : k_H) (hsh : h.1 = shLawTape) {c0_2 : Int32} (ec0_2 : h.2.1 0 2 = c0_2) {a1 : (Nat → Int32)} (ea1 : h.2.1 1 = a1) {c3_2 : Int32} (ec3_2 : h.2.1 3 2 = c3_2) {c3_3 : Int32} (ec3_3 : h.2.1 3 3 = c3_3) {c3_4 : Int32} (ec3_4 : h.2.1 3 4 = c3_4) {c3_5 : Int32} (ec3_5 : h.2.1 3 5 = c3_5) {c3_6 : Int32} (ec3_6 : h.2.1 3 6 = c3_6) {a4 : (Nat → Int32)} (ea4 : h.2.1 4 = a4) {out : Int32 × (Nat → Int32) × Int32 × Int32 × Int32 × Int32} (hf : f_X1_read u c0_2 a1 c3_2 c3_3 c3_4 c3_5 c3_6 a4 = some out) : k_CT l yX1_read cX1_read 2 none 73 1644 [.ref 0, .ref 3] h none [(0, .inl (2, out.1)), (1, .inr (.inr (.inl out.2.1))), (3, .inl (3, out.2.2.1)), (3, .inl (4, out.2.2.2.1)), (3, .inl (5, out.2.2.2.2.1)), (3, .inl (6, out.2.2.2.2.2))] := by
  obtain ⟨sh, I, L, Rf⟩ := h
  try dsimp only
  obtain rfl : sh = shLawTape := hsh
  refine k_ofW (by decide) (Nat.le_of_ble_eq_true rfl) ?_
  intro X ad hl hR0 hr C
  have hR : X.R.frames = 73 ∧ X.R.locals = 1644 := by rw [hR0]; exact ⟨rfl, rfl⟩
  have h := hf
  unfold f_X1_read at h
  refine k_start (us := [(0, .inl (2, c0_2)), (1, .inr (.inr (.inl a1))), (3, .inl (3, c3_3)), (3, .inl (4, c3_4)), (3, .inl (5, c3_5)), (3, .inl (6, c3_6))]) (k_ao_I ec0_2 (k_ao_A ea1 (k_ao_I ec3_3 (k_ao_I ec3_4 (k_ao_I ec3_5 (k_ao_I ec3_6 k_ap_0)))))) ?_
  show k_W X 2 0 0 _ ad (k_ap [(0, .inl (2, c0_2)), (1, .inr (.inr (.inl a1))), (3, .inl (3, c3_3)), (3, .inl (4, c3_4)), (3, .inl (5, c3_5)), (3, .inl (6, c3_6))] (shLawTape, I, L, Rf)) 0 [some (.ref 0), some (.ref 3)] []
  refine k_mask [true, true] ?_
  exact sX1_read_0 u C hr hR ec3_2 ea4 c0_2 a1 c3_3 c3_4 c3_5 c3_6 h
/-! LullabyPit$Program.read(LLullabyPit$Tape;LLullabyPit$Pit;)V -/
theorem ds_X6_read : k_ds [(0, 0, 3), (0, 0, 4), (0, 0, 5), (0, 0, 6), (1, 2, 0), (2, 2, 0), (3, 2, 0), (4, 0, 3), (4, 0, 4), (4, 0, 5), (4, 0, 6)] = true := by decide +kernel
set_option maxHeartbeats 400000 in
set_option maxRecDepth 100000 in
theorem sX6_read_0 (u : Nat) {X : k_X} {ad : Nat → Nat} (C : k_C X cX6_read RX6 3 ad) (hr : X.meth.sig.returnType = none) (hR : X.R.frames = 64 ∧ X.R.locals = 1446) {I : Nat → Nat → Int32} {L : Nat → Nat → Int64} {Rf : Nat → Nat → Option Nat} {c4_2 : Int32} (ec4_2 : I 4 2 = c4_2) {a5 : (Nat → Int32)} (ea5 : I 5 = a5) {c6_0 : Int32} (ec6_0 : I 6 0 = c6_0) {c6_1 : Int32} (ec6_1 : I 6 1 = c6_1) {out : Int32 × Int32 × Int32 × Int32 × (Nat → Int32) × (Nat → Int32) × (Nat → Int32) × Int32 × Int32 × Int32 × Int32} : ∀ (c0_3 : Int32) (c0_4 : Int32) (c0_5 : Int32) (c0_6 : Int32) (a1 : (Nat → Int32)) (a2 : (Nat → Int32)) (a3 : (Nat → Int32)) (c4_3 : Int32) (c4_4 : Int32) (c4_5 : Int32) (c4_6 : Int32), bX6_read_0 u c4_2 a5 c6_0 c6_1 c0_3 c0_4 c0_5 c0_6 a1 a2 a3 c4_3 c4_4 c4_5 c4_6 = some out → k_W X 3 0 0 (k_Q X ad none (k_ap [(0, .inl (3, out.1)), (0, .inl (4, out.2.1)), (0, .inl (5, out.2.2.1)), (0, .inl (6, out.2.2.2.1)), (1, .inr (.inr (.inl out.2.2.2.2.1))), (2, .inr (.inr (.inl out.2.2.2.2.2.1))), (3, .inr (.inr (.inl out.2.2.2.2.2.2.1))), (4, .inl (3, out.2.2.2.2.2.2.2.1)), (4, .inl (4, out.2.2.2.2.2.2.2.2.1)), (4, .inl (5, out.2.2.2.2.2.2.2.2.2.1)), (4, .inl (6, out.2.2.2.2.2.2.2.2.2.2))] (shProg, I, L, Rf))) ad (k_ap [(0, .inl (3, c0_3)), (0, .inl (4, c0_4)), (0, .inl (5, c0_5)), (0, .inl (6, c0_6)), (1, .inr (.inr (.inl a1))), (2, .inr (.inr (.inl a2))), (3, .inr (.inr (.inl a3))), (4, .inl (3, c4_3)), (4, .inl (4, c4_4)), (4, .inl (5, c4_5)), (4, .inl (6, c4_6))] (shProg, I, L, Rf)) 0 [some (.ref 0), some (.ref 4), some (.ref 6)] [] := by
  intro c0_3 c0_4 c0_5 c0_6 a1 a2 a3 c4_3 c4_4 c4_5 c4_6 h
  unfold bX6_read_0 at h
  refine r_aload_n C dX6_read_0 (rfl : 0 + 1 = 1) rfl ?_
  refine r_iconst (v := (0 : Int32)) C dX6_read_1 (rfl : 1 + 1 = 2) rfl ?_
  refine p_I (us' := [(0, .inl (3, (0 : Int32))), (0, .inl (4, c0_4)), (0, .inl (5, c0_5)), (0, .inl (6, c0_6)), (1, .inr (.inr (.inl a1))), (2, .inr (.inr (.inl a2))), (3, .inr (.inr (.inl a3))), (4, .inl (3, c4_3)), (4, .inl (4, c4_4)), (4, .inl (5, c4_5)), (4, .inl (6, c4_6))]) C dX6_read_2 (rfl : 2 + 3 = 5) fp_X6_21 rfl rfl ds_X6_read rfl rfl rfl ?_
  refine r_aload_n C dX6_read_5 (rfl : 5 + 1 = 6) rfl ?_
  refine r_iconst (v := (0 : Int32)) C dX6_read_6 (rfl : 6 + 1 = 7) rfl ?_
  refine p_I (us' := [(0, .inl (3, (0 : Int32))), (0, .inl (4, (0 : Int32))), (0, .inl (5, c0_5)), (0, .inl (6, c0_6)), (1, .inr (.inr (.inl a1))), (2, .inr (.inr (.inl a2))), (3, .inr (.inr (.inl a3))), (4, .inl (3, c4_3)), (4, .inl (4, c4_4)), (4, .inl (5, c4_5)), (4, .inl (6, c4_6))]) C dX6_read_7 (rfl : 7 + 3 = 10) fp_X6_25 rfl rfl ds_X6_read rfl rfl rfl ?_
  refine r_aload_n C dX6_read_10 (rfl : 10 + 1 = 11) rfl ?_
  refine r_iconst (v := (0 : Int32)) C dX6_read_11 (rfl : 11 + 1 = 12) rfl ?_
  refine p_I (us' := [(0, .inl (3, (0 : Int32))), (0, .inl (4, (0 : Int32))), (0, .inl (5, (0 : Int32))), (0, .inl (6, c0_6)), (1, .inr (.inr (.inl a1))), (2, .inr (.inr (.inl a2))), (3, .inr (.inr (.inl a3))), (4, .inl (3, c4_3)), (4, .inl (4, c4_4)), (4, .inl (5, c4_5)), (4, .inl (6, c4_6))]) C dX6_read_12 (rfl : 12 + 3 = 15) fp_X6_28 rfl rfl ds_X6_read rfl rfl rfl ?_
  refine r_aload_n C dX6_read_15 (rfl : 15 + 1 = 16) rfl ?_
  refine r_iconst (v := (0 : Int32)) C dX6_read_16 (rfl : 16 + 1 = 17) rfl ?_
  refine p_I (us' := [(0, .inl (3, (0 : Int32))), (0, .inl (4, (0 : Int32))), (0, .inl (5, (0 : Int32))), (0, .inl (6, (0 : Int32))), (1, .inr (.inr (.inl a1))), (2, .inr (.inr (.inl a2))), (3, .inr (.inr (.inl a3))), (4, .inl (3, c4_3)), (4, .inl (4, c4_4)), (4, .inl (5, c4_5)), (4, .inl (6, c4_6))]) C dX6_read_17 (rfl : 17 + 3 = 20) fp_X6_31 rfl rfl ds_X6_read rfl rfl rfl ?_
  refine r_aload_n C dX6_read_20 (rfl : 20 + 1 = 21) rfl ?_
  refine r_aload_n C dX6_read_21 (rfl : 21 + 1 = 22) rfl ?_
  refine r_aload_n C dX6_read_22 (rfl : 22 + 1 = 23) rfl ?_
  refine r_iconst (v := (0 : Int32)) C dX6_read_23 (rfl : 23 + 1 = 24) rfl ?_
  obtain ⟨r24, q24, h⟩ := k_b_of h
  refine d_V (As := [.ref 4, .ref 6, .int (0 : Int32)]) (st := []) (st' := []) (h' := k_ap [(0, .inl (3, r24.1)), (0, .inl (4, (0 : Int32))), (0, .inl (5, (0 : Int32))), (0, .inl (6, (0 : Int32))), (1, .inr (.inr (.inl r24.2.1))), (2, .inr (.inr (.inl r24.2.2.1))), (3, .inr (.inr (.inl r24.2.2.2.1))), (4, .inl (3, r24.2.2.2.2.1)), (4, .inl (4, r24.2.2.2.2.2.1)), (4, .inl (5, r24.2.2.2.2.2.2.1)), (4, .inl (6, r24.2.2.2.2.2.2.2))] (shProg, I, L, Rf)) C hR ⟨Nat.zero_le _, Nat.zero_le _⟩ mv_X6_readSteps lk_X6_34 dX6_read_24 (rfl : 24 + 3 = 27) rfl rfl rfl rfl (c_X6_readSteps_r X.l u 9 (k_ap [(0, .inl (3, (0 : Int32))), (0, .inl (4, (0 : Int32))), (0, .inl (5, (0 : Int32))), (0, .inl (6, (0 : Int32))), (1, .inr (.inr (.inl a1))), (2, .inr (.inr (.inl a2))), (3, .inr (.inr (.inl a3))), (4, .inl (3, c4_3)), (4, .inl (4, c4_4)), (4, .inl (5, c4_5)), (4, .inl (6, c4_6))] (shProg, I, L, Rf)) rfl rfl rfl rfl rfl ec4_2 rfl rfl rfl rfl ea5 ec6_0 ec6_1 q24) rfl rfl rfl (k_jn (us' := [(0, .inl (3, r24.1)), (0, .inl (4, (0 : Int32))), (0, .inl (5, (0 : Int32))), (0, .inl (6, (0 : Int32))), (1, .inr (.inr (.inl r24.2.1))), (2, .inr (.inr (.inl r24.2.2.1))), (3, .inr (.inr (.inl r24.2.2.2.1))), (4, .inl (3, r24.2.2.2.2.1)), (4, .inl (4, r24.2.2.2.2.2.1)), (4, .inl (5, r24.2.2.2.2.2.2.1)), (4, .inl (6, r24.2.2.2.2.2.2.2))]) ds_X6_read rfl rfl rfl) rfl ?_
  cases h
  exact r_vret C hr dX6_read_27
set_option maxHeartbeats 400000 in
set_option maxRecDepth 100000 in
theorem c_X6_read (l : Launch) (u : Nat) (h : k_H) (hsh : h.1 = shProg) {c0_3 : Int32} (ec0_3 : h.2.1 0 3 = c0_3) {c0_4 : Int32} (ec0_4 : h.2.1 0 4 = c0_4) {c0_5 : Int32} (ec0_5 : h.2.1 0 5 = c0_5) {c0_6 : Int32} (ec0_6 : h.2.1 0 6 = c0_6) {a1 : (Nat → Int32)} (ea1 : h.2.1 1 = a1) {a2 : (Nat → Int32)} (ea2 : h.2.1 2 = a2) {a3 : (Nat → Int32)} (ea3 : h.2.1 3 = a3) {c4_2 : Int32} (ec4_2 : h.2.1 4 2 = c4_2) {c4_3 : Int32} (ec4_3 : h.2.1 4 3 = c4_3) {c4_4 : Int32} (ec4_4 : h.2.1 4 4 = c4_4) {c4_5 : Int32} (ec4_5 : h.2.1 4 5 = c4_5) {c4_6 : Int32} (ec4_6 : h.2.1 4 6 = c4_6) {a5 : (Nat → Int32)} (ea5 : h.2.1 5 = a5) {c6_0 : Int32} (ec6_0 : h.2.1 6 0 = c6_0) {c6_1 : Int32} (ec6_1 : h.2.1 6 1 = c6_1) {out : Int32 × Int32 × Int32 × Int32 × (Nat → Int32) × (Nat → Int32) × (Nat → Int32) × Int32 × Int32 × Int32 × Int32} (hf : f_X6_read u c0_3 c0_4 c0_5 c0_6 a1 a2 a3 c4_2 c4_3 c4_4 c4_5 c4_6 a5 c6_0 c6_1 = some out) : k_CT l yX6_read cX6_read 3 none 64 1446 [.ref 0, .ref 4, .ref 6] h none [(0, .inl (3, out.1)), (0, .inl (4, out.2.1)), (0, .inl (5, out.2.2.1)), (0, .inl (6, out.2.2.2.1)), (1, .inr (.inr (.inl out.2.2.2.2.1))), (2, .inr (.inr (.inl out.2.2.2.2.2.1))), (3, .inr (.inr (.inl out.2.2.2.2.2.2.1))), (4, .inl (3, out.2.2.2.2.2.2.2.1)), (4, .inl (4, out.2.2.2.2.2.2.2.2.1)), (4, .inl (5, out.2.2.2.2.2.2.2.2.2.1)), (4, .inl (6, out.2.2.2.2.2.2.2.2.2.2))] := by
  obtain ⟨sh, I, L, Rf⟩ := h
  try dsimp only
  obtain rfl : sh = shProg := hsh
  refine k_ofW (by decide) (Nat.le_of_ble_eq_true rfl) ?_
  intro X ad hl hR0 hr C
  have hR : X.R.frames = 64 ∧ X.R.locals = 1446 := by rw [hR0]; exact ⟨rfl, rfl⟩
  have h := hf
  unfold f_X6_read at h
  refine k_start (us := [(0, .inl (3, c0_3)), (0, .inl (4, c0_4)), (0, .inl (5, c0_5)), (0, .inl (6, c0_6)), (1, .inr (.inr (.inl a1))), (2, .inr (.inr (.inl a2))), (3, .inr (.inr (.inl a3))), (4, .inl (3, c4_3)), (4, .inl (4, c4_4)), (4, .inl (5, c4_5)), (4, .inl (6, c4_6))]) (k_ao_I ec0_3 (k_ao_I ec0_4 (k_ao_I ec0_5 (k_ao_I ec0_6 (k_ao_A ea1 (k_ao_A ea2 (k_ao_A ea3 (k_ao_I ec4_3 (k_ao_I ec4_4 (k_ao_I ec4_5 (k_ao_I ec4_6 k_ap_0))))))))))) ?_
  show k_W X 3 0 0 _ ad (k_ap [(0, .inl (3, c0_3)), (0, .inl (4, c0_4)), (0, .inl (5, c0_5)), (0, .inl (6, c0_6)), (1, .inr (.inr (.inl a1))), (2, .inr (.inr (.inl a2))), (3, .inr (.inr (.inl a3))), (4, .inl (3, c4_3)), (4, .inl (4, c4_4)), (4, .inl (5, c4_5)), (4, .inl (6, c4_6))] (shProg, I, L, Rf)) 0 [some (.ref 0), some (.ref 4), some (.ref 6)] []
  refine k_mask [true, true, true] ?_
  exact sX6_read_0 u C hr hR ec4_2 ea5 ec6_0 ec6_1 c0_3 c0_4 c0_5 c0_6 a1 a2 a3 c4_3 c4_4 c4_5 c4_6 h
