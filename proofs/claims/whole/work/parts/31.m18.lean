/-! LullabyPitModel.way(III)I -/
theorem ds_X11_way : k_ds [(0, 0, 0), (1, 2, 0), (21, 2, 0), (28, 2, 0), (29, 2, 0)] = true := by decide +kernel
set_option maxHeartbeats 400000 in
set_option maxRecDepth 100000 in
theorem sX11_way_0 (u : Nat) {X : k_X} {ad : Nat → Nat} (C : k_C X cX11_way RX11 5 ad) (hr : X.meth.sig.returnType = (some .int)) (hR : X.R.frames = 4 ∧ X.R.locals = 92) {I : Nat → Nat → Int32} {L : Nat → Nat → Int64} {Rf : Nat → Nat → Option Nat} {c0_25 : Int32} (ec0_25 : I 0 25 = c0_25) {c0_26 : Int32} (ec0_26 : I 0 26 = c0_26) {c0_27 : Int32} (ec0_27 : I 0 27 = c0_27) {a7 : (Nat → Int32)} (ea7 : I 7 = a7) {a8 : (Nat → Int32)} (ea8 : I 8 = a8) {a20 : (Nat → Int32)} (ea20 : I 20 = a20) {out : Int32 × Int32 × (Nat → Int32) × (Nat → Int32) × (Nat → Int32) × (Nat → Int32)} : ∀ (c0_0 : Int32) (a1 : (Nat → Int32)) (a21 : (Nat → Int32)) (a28 : (Nat → Int32)) (a29 : (Nat → Int32)) (v1 : Int32) (v2 : Int32) (v3 : Int32), bX11_way_0 u c0_25 c0_26 c0_27 a7 a8 a20 c0_0 a1 a21 a28 a29 v1 v2 v3 = some out → k_W X 5 0 0 (k_Q X ad (some (.int out.1)) (k_ap [(0, .inl (0, out.2.1)), (1, .inr (.inr (.inl out.2.2.1))), (21, .inr (.inr (.inl out.2.2.2.1))), (28, .inr (.inr (.inl out.2.2.2.2.1))), (29, .inr (.inr (.inl out.2.2.2.2.2)))] (shM, I, L, Rf))) ad (k_ap [(0, .inl (0, c0_0)), (1, .inr (.inr (.inl a1))), (21, .inr (.inr (.inl a21))), (28, .inr (.inr (.inl a28))), (29, .inr (.inr (.inl a29)))] (shM, I, L, Rf)) 0 [some (.ref 0), some (.int v1), some (.int v2), some (.int v3), none] [] := by
  intro c0_0 a1 a21 a28 a29 v1 v2 v3 h
  unfold bX11_way_0 at h
  refine r_aload_n C dX11_way_0 (rfl : 0 + 1 = 1) rfl ?_
  refine r_iconst (v := (0 : Int32)) C dX11_way_1 (rfl : 1 + 1 = 2) rfl ?_
  refine p_I (us' := [(0, .inl (0, (0 : Int32))), (1, .inr (.inr (.inl a1))), (21, .inr (.inr (.inl a21))), (28, .inr (.inr (.inl a28))), (29, .inr (.inr (.inl a29)))]) C dX11_way_2 (rfl : 2 + 3 = 5) fp_X11_3 rfl rfl ds_X11_way rfl rfl rfl ?_
  refine r_aload_n C dX11_way_5 (rfl : 5 + 1 = 6) rfl ?_
  refine r_iload_n C dX11_way_6 (rfl : 6 + 1 = 7) rfl ?_
  refine r_iload_n C dX11_way_7 (rfl : 7 + 1 = 8) rfl ?_
  refine r_iconst (v := (1 : Int32)) C dX11_way_8 (rfl : 8 + 1 = 9) rfl ?_
  obtain ⟨r9, q9, h⟩ := k_b_of h
  refine d_V (As := [.int v1, .int v2, .int (1 : Int32)]) (st := []) (st' := [.int r9.1]) (h' := k_ap [(0, .inl (0, r9.2.1)), (1, .inr (.inr (.inl r9.2.2))), (21, .inr (.inr (.inl a21))), (28, .inr (.inr (.inl a28))), (29, .inr (.inr (.inl a29)))] (shM, I, L, Rf)) C hR ⟨Nat.zero_le _, Nat.zero_le _⟩ mv_X11_isCell lk_X11_415 dX11_way_9 (rfl : 9 + 3 = 12) rfl rfl rfl rfl (c_X11_isCell X.l u (k_ap [(0, .inl (0, (0 : Int32))), (1, .inr (.inr (.inl a1))), (21, .inr (.inr (.inl a21))), (28, .inr (.inr (.inl a28))), (29, .inr (.inr (.inl a29)))] (shM, I, L, Rf)) rfl rfl ec0_25 ec0_26 rfl q9) rfl rfl rfl (k_jn (us' := [(0, .inl (0, r9.2.1)), (1, .inr (.inr (.inl r9.2.2))), (21, .inr (.inr (.inl a21))), (28, .inr (.inr (.inl a28))), (29, .inr (.inr (.inl a29)))]) ds_X11_way rfl rfl rfl) rfl ?_
  refine r_if_eq (tgt := 30) C dX11_way_12 (by decide) (rfl : 12 + 3 = 15) (fun c12 => ?_) (fun c12 => ?_)
  · have h := k_t c12 h
    refine r_iconst (v := (0 : Int32)) C dX11_way_30 (rfl : 30 + 1 = 31) rfl ?_
    cases h
    exact r_iret C hr dX11_way_31
  · have h := k_f c12 h
    refine r_aload_n C dX11_way_15 (rfl : 15 + 1 = 16) rfl ?_
    refine r_iload_n C dX11_way_16 (rfl : 16 + 1 = 17) rfl ?_
    refine r_iconst (v := (0 : Int32)) C dX11_way_17 (rfl : 17 + 1 = 18) rfl ?_
    refine r_iconst (v := (1 : Int32)) C dX11_way_18 (rfl : 18 + 1 = 19) rfl ?_
    obtain ⟨r19, q19, h⟩ := k_b_of h
    refine d_S (As := [.int v3, .int (0 : Int32), .int (1 : Int32)]) (st := [.ref 0]) (st' := [.int r19, .ref 0]) (h' := k_ap [(0, .inl (0, r9.2.1)), (1, .inr (.inr (.inl r9.2.2))), (21, .inr (.inr (.inl a21))), (28, .inr (.inr (.inl a28))), (29, .inr (.inr (.inl a29)))] (shM, I, L, Rf)) C hR ⟨Nat.zero_le _, Nat.zero_le _⟩ ms_X11_within lk_X11_317 dX11_way_19 (rfl : 19 + 3 = 22) rfl rfl (c_X11_within X.l u (k_ap [(0, .inl (0, r9.2.1)), (1, .inr (.inr (.inl r9.2.2))), (21, .inr (.inr (.inl a21))), (28, .inr (.inr (.inl a28))), (29, .inr (.inr (.inl a29)))] (shM, I, L, Rf)) rfl  q19) rfl rfl rfl rfl rfl ?_
    refine r_iconst (v := (2 : Int32)) C dX11_way_22 (rfl : 22 + 1 = 23) rfl ?_
    refine r_iconst (v := (2 : Int32)) C dX11_way_23 (rfl : 23 + 1 = 24) rfl ?_
    obtain ⟨r24, q24, h⟩ := k_b_of h
    refine d_V (As := [.int r19, .int (2 : Int32), .int (2 : Int32)]) (st := []) (st' := [.int r24.1]) (h' := k_ap [(0, .inl (0, r24.2.1)), (1, .inr (.inr (.inl r24.2.2))), (21, .inr (.inr (.inl a21))), (28, .inr (.inr (.inl a28))), (29, .inr (.inr (.inl a29)))] (shM, I, L, Rf)) C hR ⟨Nat.zero_le _, Nat.zero_le _⟩ mv_X11_may lk_X11_252 dX11_way_24 (rfl : 24 + 3 = 27) rfl rfl rfl rfl (c_X11_may X.l u (k_ap [(0, .inl (0, r9.2.1)), (1, .inr (.inr (.inl r9.2.2))), (21, .inr (.inr (.inl a21))), (28, .inr (.inr (.inl a28))), (29, .inr (.inr (.inl a29)))] (shM, I, L, Rf)) rfl rfl rfl q24) rfl rfl rfl (k_jn (us' := [(0, .inl (0, r24.2.1)), (1, .inr (.inr (.inl r24.2.2))), (21, .inr (.inr (.inl a21))), (28, .inr (.inr (.inl a28))), (29, .inr (.inr (.inl a29)))]) ds_X11_way rfl rfl rfl) rfl ?_
    refine r_if_ne (tgt := 32) C dX11_way_27 (by decide) (rfl : 27 + 3 = 30) (fun c27 => ?_) (fun c27 => ?_)
    · have h := k_f c27 h
      refine r_aload_n C dX11_way_32 (rfl : 32 + 1 = 33) rfl ?_
      obtain ⟨r33, q33, h⟩ := k_b_of h
      refine d_V (As := []) (st := []) (st' := []) (h' := k_ap [(0, .inl (0, r24.2.1)), (1, .inr (.inr (.inl r24.2.2))), (21, .inr (.inr (.inl r33))), (28, .inr (.inr (.inl a28))), (29, .inr (.inr (.inl a29)))] (shM, I, L, Rf)) C hR ⟨Nat.zero_le _, Nat.zero_le _⟩ mv_X11_take lk_X11_345 dX11_way_33 (rfl : 33 + 3 = 36) rfl rfl rfl rfl (c_X11_take X.l u (k_ap [(0, .inl (0, r24.2.1)), (1, .inr (.inr (.inl r24.2.2))), (21, .inr (.inr (.inl a21))), (28, .inr (.inr (.inl a28))), (29, .inr (.inr (.inl a29)))] (shM, I, L, Rf)) rfl ea20 rfl q33) rfl rfl rfl (k_jn (us' := [(0, .inl (0, r24.2.1)), (1, .inr (.inr (.inl r24.2.2))), (21, .inr (.inr (.inl r33))), (28, .inr (.inr (.inl a28))), (29, .inr (.inr (.inl a29)))]) ds_X11_way rfl rfl rfl) rfl ?_
      refine r_aload_n C dX11_way_36 (rfl : 36 + 1 = 37) rfl ?_
      refine r_iload_n C dX11_way_37 (rfl : 37 + 1 = 38) rfl ?_
      refine r_iload_n C dX11_way_38 (rfl : 38 + 1 = 39) rfl ?_
      obtain ⟨r39, q39, h⟩ := k_b_of h
      refine d_V (As := [.int v1, .int v2]) (st := []) (st' := [.int r39]) (h' := k_ap [(0, .inl (0, r24.2.1)), (1, .inr (.inr (.inl r24.2.2))), (21, .inr (.inr (.inl r33))), (28, .inr (.inr (.inl a28))), (29, .inr (.inr (.inl a29)))] (shM, I, L, Rf)) C hR ⟨Nat.zero_le _, Nat.zero_le _⟩ mv_X11_isOpen lk_X11_367 dX11_way_39 (rfl : 39 + 3 = 42) rfl rfl rfl rfl (c_X11_isOpen X.l u (k_ap [(0, .inl (0, r24.2.1)), (1, .inr (.inr (.inl r24.2.2))), (21, .inr (.inr (.inl r33))), (28, .inr (.inr (.inl a28))), (29, .inr (.inr (.inl a29)))] (shM, I, L, Rf)) rfl ec0_25 ec0_26 rfl q39) rfl rfl rfl rfl rfl ?_
      refine r_if_eq (tgt := 47) C dX11_way_42 (by decide) (rfl : 42 + 3 = 45) (fun c42 => ?_) (fun c42 => ?_)
      · have h := k_t c42 h
        refine r_bipush (v := (8 : Int32)) C dX11_way_47 (rfl : 47 + 2 = 49) rfl ?_
        refine r_iload_n C dX11_way_49 (rfl : 49 + 1 = 50) rfl ?_
        refine r_imul C dX11_way_50 (rfl : 50 + 1 = 51) ?_
        refine r_iload_n C dX11_way_51 (rfl : 51 + 1 = 52) rfl ?_
        refine r_iadd C dX11_way_52 (rfl : 52 + 1 = 53) ?_
        refine r_istore C dX11_way_53 (rfl : 53 + 2 = 55) (by decide) (Nat.le_of_ble_eq_true rfl) ?_
        show k_W _ _ _ _ _ _ _ _ [some (.ref 0), some (.int v1), some (.int v2), some (.int v3), some (.int (((8 : Int32) * v2) + v1))] _
        refine r_aload_n C dX11_way_55 (rfl : 55 + 1 = 56) rfl ?_
        refine r_iload C dX11_way_56 (rfl : 56 + 2 = 58) rfl ?_
        obtain ⟨r58, q58, h⟩ := k_b_of h
        refine d_V (As := [.int (((8 : Int32) * v2) + v1)]) (st := []) (st' := []) (h' := k_ap [(0, .inl (0, r24.2.1)), (1, .inr (.inr (.inl r24.2.2))), (21, .inr (.inr (.inl r33))), (28, .inr (.inr (.inl r58.1))), (29, .inr (.inr (.inl r58.2)))] (shM, I, L, Rf)) C hR ⟨Nat.zero_le _, Nat.zero_le _⟩ mv_X11_findWays lk_X11_443 dX11_way_58 (rfl : 58 + 3 = 61) rfl rfl rfl rfl (c_X11_findWays X.l u (k_ap [(0, .inl (0, r24.2.1)), (1, .inr (.inr (.inl r24.2.2))), (21, .inr (.inr (.inl r33))), (28, .inr (.inr (.inl a28))), (29, .inr (.inr (.inl a29)))] (shM, I, L, Rf)) rfl ec0_25 ec0_26 ec0_27 ea7 ea8 rfl rfl rfl q58) rfl rfl rfl (k_jn (us' := [(0, .inl (0, r24.2.1)), (1, .inr (.inr (.inl r24.2.2))), (21, .inr (.inr (.inl r33))), (28, .inr (.inr (.inl r58.1))), (29, .inr (.inr (.inl r58.2)))]) ds_X11_way rfl rfl rfl) rfl ?_
        refine r_aload_n C dX11_way_61 (rfl : 61 + 1 = 62) rfl ?_
        refine r_getR (q := 28) C dX11_way_62 (rfl : 62 + 3 = 65) fl_X11_99 rfl rfl ?_
        refine r_iload C dX11_way_65 (rfl : 65 + 2 = 67) rfl ?_
        obtain ⟨hi67, h⟩ := k_i_of h
        refine a_i (j := ((((8 : Int32) * v2) + v1)).toNatClampNeg) (f := r58.1) C dX11_way_67 (rfl : 67 + 1 = 68) rfl rfl hi67 rfl ?_
        refine r_sipush (v := (1000 : Int32)) C dX11_way_68 (rfl : 68 + 3 = 71) rfl ?_
        refine r_icmp_lt (tgt := 78) C dX11_way_71 (by decide) (rfl : 71 + 3 = 74) (fun c71 => ?_) (fun c71 => ?_)
        · have h := k_t c71 h
          refine r_iload_n C dX11_way_78 (rfl : 78 + 1 = 79) rfl ?_
          refine r_if_ne (tgt := 92) C dX11_way_79 (by decide) (rfl : 79 + 3 = 82) (fun c79 => ?_) (fun c79 => ?_)
          · have h := k_f c79 h
            refine r_aload_n C dX11_way_92 (rfl : 92 + 1 = 93) rfl ?_
            refine r_getR (q := 29) C dX11_way_93 (rfl : 93 + 3 = 96) fl_X11_102 rfl rfl ?_
            refine r_iload C dX11_way_96 (rfl : 96 + 2 = 98) rfl ?_
            obtain ⟨hi98, h⟩ := k_i_of h
            refine a_i (j := ((((8 : Int32) * v2) + v1)).toNatClampNeg) (f := r58.2) C dX11_way_98 (rfl : 98 + 1 = 99) rfl rfl hi98 rfl ?_
            cases h
            exact r_iret C hr dX11_way_99
          · have h := k_t c79 h
            refine r_aload_n C dX11_way_82 (rfl : 82 + 1 = 83) rfl ?_
            refine r_getR (q := 28) C dX11_way_83 (rfl : 83 + 3 = 86) fl_X11_99 rfl rfl ?_
            refine r_iload C dX11_way_86 (rfl : 86 + 2 = 88) rfl ?_
            obtain ⟨hi88, h⟩ := k_i_of h
            refine a_i (j := ((((8 : Int32) * v2) + v1)).toNatClampNeg) (f := r58.1) C dX11_way_88 (rfl : 88 + 1 = 89) rfl rfl hi88 rfl ?_
            refine r_goto (tgt := 99) C dX11_way_89 (by decide) ?_
            cases h
            exact r_iret C hr dX11_way_99
        · have h := k_f c71 h
          refine r_iconst (v := (-1 : Int32)) C dX11_way_74 (rfl : 74 + 1 = 75) rfl ?_
          refine r_goto (tgt := 99) C dX11_way_75 (by decide) ?_
          cases h
          exact r_iret C hr dX11_way_99
      · have h := k_f c42 h
        refine r_iconst (v := (0 : Int32)) C dX11_way_45 (rfl : 45 + 1 = 46) rfl ?_
        cases h
        exact r_iret C hr dX11_way_46
    · have h := k_t c27 h
      refine r_iconst (v := (0 : Int32)) C dX11_way_30 (rfl : 30 + 1 = 31) rfl ?_
      cases h
      exact r_iret C hr dX11_way_31
set_option maxHeartbeats 400000 in
set_option maxRecDepth 100000 in
theorem c_X11_way (l : Launch) (u : Nat) (h : k_H) (hsh : h.1 = shM) {c0_0 : Int32} (ec0_0 : h.2.1 0 0 = c0_0) {c0_25 : Int32} (ec0_25 : h.2.1 0 25 = c0_25) {c0_26 : Int32} (ec0_26 : h.2.1 0 26 = c0_26) {c0_27 : Int32} (ec0_27 : h.2.1 0 27 = c0_27) {a1 : (Nat → Int32)} (ea1 : h.2.1 1 = a1) {a7 : (Nat → Int32)} (ea7 : h.2.1 7 = a7) {a8 : (Nat → Int32)} (ea8 : h.2.1 8 = a8) {a20 : (Nat → Int32)} (ea20 : h.2.1 20 = a20) {a21 : (Nat → Int32)} (ea21 : h.2.1 21 = a21) {a28 : (Nat → Int32)} (ea28 : h.2.1 28 = a28) {a29 : (Nat → Int32)} (ea29 : h.2.1 29 = a29) {x0 : Int32} {x1 : Int32} {x2 : Int32} {out : Int32 × Int32 × (Nat → Int32) × (Nat → Int32) × (Nat → Int32) × (Nat → Int32)} (hf : f_X11_way u c0_0 c0_25 c0_26 c0_27 a1 a7 a8 a20 a21 a28 a29 x0 x1 x2 = some out) : k_CT l yX11_way cX11_way 5 (some .int) 4 92 [.ref 0, .int x0, .int x1, .int x2] h (some (.int out.1)) [(0, .inl (0, out.2.1)), (1, .inr (.inr (.inl out.2.2.1))), (21, .inr (.inr (.inl out.2.2.2.1))), (28, .inr (.inr (.inl out.2.2.2.2.1))), (29, .inr (.inr (.inl out.2.2.2.2.2)))] := by
  obtain ⟨sh, I, L, Rf⟩ := h
  try dsimp only
  obtain rfl : sh = shM := hsh
  refine k_ofW (by decide) (Nat.le_of_ble_eq_true rfl) ?_
  intro X ad hl hR0 hr C
  have hR : X.R.frames = 4 ∧ X.R.locals = 92 := by rw [hR0]; exact ⟨rfl, rfl⟩
  have h := hf
  unfold f_X11_way at h
  refine k_start (us := [(0, .inl (0, c0_0)), (1, .inr (.inr (.inl a1))), (21, .inr (.inr (.inl a21))), (28, .inr (.inr (.inl a28))), (29, .inr (.inr (.inl a29)))]) (k_ao_I ec0_0 (k_ao_A ea1 (k_ao_A ea21 (k_ao_A ea28 (k_ao_A ea29 k_ap_0))))) ?_
  show k_W X 5 0 0 _ ad (k_ap [(0, .inl (0, c0_0)), (1, .inr (.inr (.inl a1))), (21, .inr (.inr (.inl a21))), (28, .inr (.inr (.inl a28))), (29, .inr (.inr (.inl a29)))] (shM, I, L, Rf)) 0 [some (.ref 0), some (.int x0), some (.int x1), some (.int x2), none] []
  refine k_mask [true, true, true, true, false] ?_
  exact sX11_way_0 u C hr hR ec0_25 ec0_26 ec0_27 ea7 ea8 ea20 c0_0 a1 a21 a28 a29 x0 x1 x2 h
/-! LullabyPitModel.fill(I)I -/
theorem ds_X11_fill : k_ds [(0, 0, 0), (1, 2, 0), (21, 2, 0), (24, 2, 0)] = true := by decide +kernel
set_option maxHeartbeats 400000 in
set_option maxRecDepth 100000 in
theorem sX11_fill_141 (u : Nat) {X : k_X} {ad : Nat → Nat} (C : k_C X cX11_fill RX11 8 ad) (hr : X.meth.sig.returnType = (some .int)) (hR : X.R.frames = 2 ∧ X.R.locals = 44) {I : Nat → Nat → Int32} {L : Nat → Nat → Int64} {Rf : Nat → Nat → Option Nat} {c0_30 : Int32} (ec0_30 : I 0 30 = c0_30) {a9 : (Nat → Int32)} (ea9 : I 9 = a9) {a10 : (Nat → Int32)} (ea10 : I 10 = a10) {a20 : (Nat → Int32)} (ea20 : I 20 = a20) {out : Int32 × Int32 × (Nat → Int32) × (Nat → Int32) × (Nat → Int32)} {k33 : Int32 → (Nat → Int32) → (Nat → Int32) → (Nat → Int32) → Int32 → Int32 → Int32 → Int32 → Option (Int32 × Int32 × (Nat → Int32) × (Nat → Int32) × (Nat → Int32))} (hk33 : ∀ (c0_0 : Int32) (a1 : (Nat → Int32)) (a21 : (Nat → Int32)) (a24 : (Nat → Int32)) (v1 : Int32) (v2 : Int32) (v3 : Int32) (v4 : Int32), k33 c0_0 a1 a21 a24 v1 v2 v3 v4 = some out → k_W X 8 0 0 (k_Q X ad (some (.int out.1)) (k_ap [(0, .inl (0, out.2.1)), (1, .inr (.inr (.inl out.2.2.1))), (21, .inr (.inr (.inl out.2.2.2.1))), (24, .inr (.inr (.inl out.2.2.2.2)))] (shM, I, L, Rf))) ad (k_ap [(0, .inl (0, c0_0)), (1, .inr (.inr (.inl a1))), (21, .inr (.inr (.inl a21))), (24, .inr (.inr (.inl a24)))] (shM, I, L, Rf)) 33 [some (.ref 0), some (.int v1), some (.int v2), some (.int v3), some (.int v4), none, none, none] []) {k57 : Int32 → (Nat → Int32) → (Nat → Int32) → (Nat → Int32) → Int32 → Int32 → Int32 → Int32 → Int32 → Int32 → Int32 → Option (Int32 × Int32 × (Nat → Int32) × (Nat → Int32) × (Nat → Int32))} (hk57 : ∀ (c0_0 : Int32) (a1 : (Nat → Int32)) (a21 : (Nat → Int32)) (a24 : (Nat → Int32)) (v1 : Int32) (v2 : Int32) (v3 : Int32) (v4 : Int32) (v5 : Int32) (v6 : Int32) (v7 : Int32), k57 c0_0 a1 a21 a24 v1 v2 v3 v4 v5 v6 v7 = some out → k_W X 8 0 0 (k_Q X ad (some (.int out.1)) (k_ap [(0, .inl (0, out.2.1)), (1, .inr (.inr (.inl out.2.2.1))), (21, .inr (.inr (.inl out.2.2.2.1))), (24, .inr (.inr (.inl out.2.2.2.2)))] (shM, I, L, Rf))) ad (k_ap [(0, .inl (0, c0_0)), (1, .inr (.inr (.inl a1))), (21, .inr (.inr (.inl a21))), (24, .inr (.inr (.inl a24)))] (shM, I, L, Rf)) 57 [some (.ref 0), some (.int v1), some (.int v2), some (.int v3), some (.int v4), some (.int v5), some (.int v6), some (.int v7)] []) : ∀ (c0_0 : Int32) (a1 : (Nat → Int32)) (a21 : (Nat → Int32)) (a24 : (Nat → Int32)) (v1 : Int32) (v2 : Int32) (v3 : Int32) (v4 : Int32) (v5 : Int32) (v6 : Int32) (v7 : Int32), bX11_fill_141 u c0_30 a9 a10 a20 k33 k57 c0_0 a1 a21 a24 v1 v2 v3 v4 v5 v6 v7 = some out → k_W X 8 0 0 (k_Q X ad (some (.int out.1)) (k_ap [(0, .inl (0, out.2.1)), (1, .inr (.inr (.inl out.2.2.1))), (21, .inr (.inr (.inl out.2.2.2.1))), (24, .inr (.inr (.inl out.2.2.2.2)))] (shM, I, L, Rf))) ad (k_ap [(0, .inl (0, c0_0)), (1, .inr (.inr (.inl a1))), (21, .inr (.inr (.inl a21))), (24, .inr (.inr (.inl a24)))] (shM, I, L, Rf)) 141 [some (.ref 0), some (.int v1), some (.int v2), some (.int v3), some (.int v4), some (.int v5), some (.int v6), some (.int v7)] [] := by
  intro c0_0 a1 a21 a24 v1 v2 v3 v4 v5 v6 v7 h
  unfold bX11_fill_141 at h
  refine r_iinc (v := (v7 + (1 : Int32))) C dX11_fill_141 (rfl : 141 + 3 = 144) rfl rfl (by decide) ?_
  show k_W _ _ _ _ _ _ _ _ [some (.ref 0), some (.int v1), some (.int v2), some (.int v3), some (.int v4), some (.int v5), some (.int v6), some (.int (v7 + (1 : Int32)))] _
  refine r_goto (tgt := 57) C dX11_fill_144 (by decide) ?_
  refine k_mask [true, true, true, true, true, true, true, true] ?_
  exact hk57 c0_0 a1 a21 a24 v1 v2 v3 v4 v5 v6 (v7 + (1 : Int32)) h
set_option maxHeartbeats 400000 in
set_option maxRecDepth 100000 in
theorem sX11_fill_122 (u : Nat) {X : k_X} {ad : Nat → Nat} (C : k_C X cX11_fill RX11 8 ad) (hr : X.meth.sig.returnType = (some .int)) (hR : X.R.frames = 2 ∧ X.R.locals = 44) {I : Nat → Nat → Int32} {L : Nat → Nat → Int64} {Rf : Nat → Nat → Option Nat} {c0_30 : Int32} (ec0_30 : I 0 30 = c0_30) {a9 : (Nat → Int32)} (ea9 : I 9 = a9) {a10 : (Nat → Int32)} (ea10 : I 10 = a10) {a20 : (Nat → Int32)} (ea20 : I 20 = a20) {out : Int32 × Int32 × (Nat → Int32) × (Nat → Int32) × (Nat → Int32)} {k33 : Int32 → (Nat → Int32) → (Nat → Int32) → (Nat → Int32) → Int32 → Int32 → Int32 → Int32 → Option (Int32 × Int32 × (Nat → Int32) × (Nat → Int32) × (Nat → Int32))} (hk33 : ∀ (c0_0 : Int32) (a1 : (Nat → Int32)) (a21 : (Nat → Int32)) (a24 : (Nat → Int32)) (v1 : Int32) (v2 : Int32) (v3 : Int32) (v4 : Int32), k33 c0_0 a1 a21 a24 v1 v2 v3 v4 = some out → k_W X 8 0 0 (k_Q X ad (some (.int out.1)) (k_ap [(0, .inl (0, out.2.1)), (1, .inr (.inr (.inl out.2.2.1))), (21, .inr (.inr (.inl out.2.2.2.1))), (24, .inr (.inr (.inl out.2.2.2.2)))] (shM, I, L, Rf))) ad (k_ap [(0, .inl (0, c0_0)), (1, .inr (.inr (.inl a1))), (21, .inr (.inr (.inl a21))), (24, .inr (.inr (.inl a24)))] (shM, I, L, Rf)) 33 [some (.ref 0), some (.int v1), some (.int v2), some (.int v3), some (.int v4), none, none, none] []) {k57 : Int32 → (Nat → Int32) → (Nat → Int32) → (Nat → Int32) → Int32 → Int32 → Int32 → Int32 → Int32 → Int32 → Int32 → Option (Int32 × Int32 × (Nat → Int32) × (Nat → Int32) × (Nat → Int32))} (hk57 : ∀ (c0_0 : Int32) (a1 : (Nat → Int32)) (a21 : (Nat → Int32)) (a24 : (Nat → Int32)) (v1 : Int32) (v2 : Int32) (v3 : Int32) (v4 : Int32) (v5 : Int32) (v6 : Int32) (v7 : Int32), k57 c0_0 a1 a21 a24 v1 v2 v3 v4 v5 v6 v7 = some out → k_W X 8 0 0 (k_Q X ad (some (.int out.1)) (k_ap [(0, .inl (0, out.2.1)), (1, .inr (.inr (.inl out.2.2.1))), (21, .inr (.inr (.inl out.2.2.2.1))), (24, .inr (.inr (.inl out.2.2.2.2)))] (shM, I, L, Rf))) ad (k_ap [(0, .inl (0, c0_0)), (1, .inr (.inr (.inl a1))), (21, .inr (.inr (.inl a21))), (24, .inr (.inr (.inl a24)))] (shM, I, L, Rf)) 57 [some (.ref 0), some (.int v1), some (.int v2), some (.int v3), some (.int v4), some (.int v5), some (.int v6), some (.int v7)] []) : ∀ (c0_0 : Int32) (a1 : (Nat → Int32)) (a21 : (Nat → Int32)) (a24 : (Nat → Int32)) (v1 : Int32) (v2 : Int32) (v3 : Int32) (v4 : Int32) (v5 : Int32) (v7 : Int32) (w0 : Int32), bX11_fill_122 u c0_30 a9 a10 a20 k33 k57 c0_0 a1 a21 a24 v1 v2 v3 v4 v5 v7 w0 = some out → k_W X 8 0 0 (k_Q X ad (some (.int out.1)) (k_ap [(0, .inl (0, out.2.1)), (1, .inr (.inr (.inl out.2.2.1))), (21, .inr (.inr (.inl out.2.2.2.1))), (24, .inr (.inr (.inl out.2.2.2.2)))] (shM, I, L, Rf))) ad (k_ap [(0, .inl (0, c0_0)), (1, .inr (.inr (.inl a1))), (21, .inr (.inr (.inl a21))), (24, .inr (.inr (.inl a24)))] (shM, I, L, Rf)) 122 [some (.ref 0), some (.int v1), some (.int v2), some (.int v3), some (.int v4), some (.int v5), none, some (.int v7)] [.int w0] := by
  intro c0_0 a1 a21 a24 v1 v2 v3 v4 v5 v7 w0 h
  unfold bX11_fill_122 at h
  refine r_istore C dX11_fill_122 (rfl : 122 + 2 = 124) (by decide) (Nat.le_of_ble_eq_true rfl) ?_
  show k_W _ _ _ _ _ _ _ _ [some (.ref 0), some (.int v1), some (.int v2), some (.int v3), some (.int v4), some (.int v5), some (.int w0), some (.int v7)] _
  refine r_aload_n C dX11_fill_124 (rfl : 124 + 1 = 125) rfl ?_
  refine r_iload C dX11_fill_125 (rfl : 125 + 2 = 127) rfl ?_
  obtain ⟨r127, q127, h⟩ := k_b_of h
  refine d_V (As := [.int v7]) (st := []) (st' := []) (h' := k_ap [(0, .inl (0, c0_0)), (1, .inr (.inr (.inl a1))), (21, .inr (.inr (.inl a21))), (24, .inr (.inr (.inl r127)))] (shM, I, L, Rf)) C hR ⟨Nat.zero_le _, Nat.zero_le _⟩ mv_X11_adds lk_X11_397 dX11_fill_127 (rfl : 127 + 3 = 130) rfl rfl rfl rfl (c_X11_adds X.l u (k_ap [(0, .inl (0, c0_0)), (1, .inr (.inr (.inl a1))), (21, .inr (.inr (.inl a21))), (24, .inr (.inr (.inl a24)))] (shM, I, L, Rf)) rfl ea10 rfl q127) rfl rfl rfl (k_jn (us' := [(0, .inl (0, c0_0)), (1, .inr (.inr (.inl a1))), (21, .inr (.inr (.inl a21))), (24, .inr (.inr (.inl r127)))]) ds_X11_fill rfl rfl rfl) rfl ?_
  refine r_iload C dX11_fill_130 (rfl : 130 + 2 = 132) rfl ?_
  refine r_aload_n C dX11_fill_132 (rfl : 132 + 1 = 133) rfl ?_
  refine r_iload C dX11_fill_133 (rfl : 133 + 2 = 135) rfl ?_
  obtain ⟨r135, q135, h⟩ := k_b_of h
  refine d_V (As := [.int v7]) (st := [.int v5]) (st' := [.int r135, .int v5]) (h' := k_ap [(0, .inl (0, c0_0)), (1, .inr (.inr (.inl a1))), (21, .inr (.inr (.inl a21))), (24, .inr (.inr (.inl r127)))] (shM, I, L, Rf)) C hR ⟨Nat.zero_le _, Nat.zero_le _⟩ mv_X11_worthOf lk_X11_403 dX11_fill_135 (rfl : 135 + 3 = 138) rfl rfl rfl rfl (c_X11_worthOf X.l u (k_ap [(0, .inl (0, c0_0)), (1, .inr (.inr (.inl a1))), (21, .inr (.inr (.inl a21))), (24, .inr (.inr (.inl r127)))] (shM, I, L, Rf)) rfl ea9 ea10 q135) rfl rfl rfl rfl rfl ?_
  refine r_iadd C dX11_fill_138 (rfl : 138 + 1 = 139) ?_
  refine r_istore C dX11_fill_139 (rfl : 139 + 2 = 141) (by decide) (Nat.le_of_ble_eq_true rfl) ?_
  show k_W _ _ _ _ _ _ _ _ [some (.ref 0), some (.int v1), some (.int v2), some (.int v3), some (.int v4), some (.int (v5 + r135)), some (.int w0), some (.int v7)] _
  refine k_mask [true, true, true, true, true, true, true, true] ?_
  exact sX11_fill_141 u C hr hR ec0_30 ea9 ea10 ea20 hk33 hk57 c0_0 a1 a21 r127 v1 v2 v3 v4 (v5 + r135) w0 v7 h
set_option maxHeartbeats 400000 in
set_option maxRecDepth 100000 in
theorem sX11_fill_121 (u : Nat) {X : k_X} {ad : Nat → Nat} (C : k_C X cX11_fill RX11 8 ad) (hr : X.meth.sig.returnType = (some .int)) (hR : X.R.frames = 2 ∧ X.R.locals = 44) {I : Nat → Nat → Int32} {L : Nat → Nat → Int64} {Rf : Nat → Nat → Option Nat} {c0_30 : Int32} (ec0_30 : I 0 30 = c0_30) {a9 : (Nat → Int32)} (ea9 : I 9 = a9) {a10 : (Nat → Int32)} (ea10 : I 10 = a10) {a20 : (Nat → Int32)} (ea20 : I 20 = a20) {out : Int32 × Int32 × (Nat → Int32) × (Nat → Int32) × (Nat → Int32)} {k33 : Int32 → (Nat → Int32) → (Nat → Int32) → (Nat → Int32) → Int32 → Int32 → Int32 → Int32 → Option (Int32 × Int32 × (Nat → Int32) × (Nat → Int32) × (Nat → Int32))} (hk33 : ∀ (c0_0 : Int32) (a1 : (Nat → Int32)) (a21 : (Nat → Int32)) (a24 : (Nat → Int32)) (v1 : Int32) (v2 : Int32) (v3 : Int32) (v4 : Int32), k33 c0_0 a1 a21 a24 v1 v2 v3 v4 = some out → k_W X 8 0 0 (k_Q X ad (some (.int out.1)) (k_ap [(0, .inl (0, out.2.1)), (1, .inr (.inr (.inl out.2.2.1))), (21, .inr (.inr (.inl out.2.2.2.1))), (24, .inr (.inr (.inl out.2.2.2.2)))] (shM, I, L, Rf))) ad (k_ap [(0, .inl (0, c0_0)), (1, .inr (.inr (.inl a1))), (21, .inr (.inr (.inl a21))), (24, .inr (.inr (.inl a24)))] (shM, I, L, Rf)) 33 [some (.ref 0), some (.int v1), some (.int v2), some (.int v3), some (.int v4), none, none, none] []) {k57 : Int32 → (Nat → Int32) → (Nat → Int32) → (Nat → Int32) → Int32 → Int32 → Int32 → Int32 → Int32 → Int32 → Int32 → Option (Int32 × Int32 × (Nat → Int32) × (Nat → Int32) × (Nat → Int32))} (hk57 : ∀ (c0_0 : Int32) (a1 : (Nat → Int32)) (a21 : (Nat → Int32)) (a24 : (Nat → Int32)) (v1 : Int32) (v2 : Int32) (v3 : Int32) (v4 : Int32) (v5 : Int32) (v6 : Int32) (v7 : Int32), k57 c0_0 a1 a21 a24 v1 v2 v3 v4 v5 v6 v7 = some out → k_W X 8 0 0 (k_Q X ad (some (.int out.1)) (k_ap [(0, .inl (0, out.2.1)), (1, .inr (.inr (.inl out.2.2.1))), (21, .inr (.inr (.inl out.2.2.2.1))), (24, .inr (.inr (.inl out.2.2.2.2)))] (shM, I, L, Rf))) ad (k_ap [(0, .inl (0, c0_0)), (1, .inr (.inr (.inl a1))), (21, .inr (.inr (.inl a21))), (24, .inr (.inr (.inl a24)))] (shM, I, L, Rf)) 57 [some (.ref 0), some (.int v1), some (.int v2), some (.int v3), some (.int v4), some (.int v5), some (.int v6), some (.int v7)] []) : ∀ (c0_0 : Int32) (a1 : (Nat → Int32)) (a21 : (Nat → Int32)) (a24 : (Nat → Int32)) (v1 : Int32) (v2 : Int32) (v3 : Int32) (v4 : Int32) (v5 : Int32) (v7 : Int32), bX11_fill_121 u c0_30 a9 a10 a20 k33 k57 c0_0 a1 a21 a24 v1 v2 v3 v4 v5 v7 = some out → k_W X 8 0 0 (k_Q X ad (some (.int out.1)) (k_ap [(0, .inl (0, out.2.1)), (1, .inr (.inr (.inl out.2.2.1))), (21, .inr (.inr (.inl out.2.2.2.1))), (24, .inr (.inr (.inl out.2.2.2.2)))] (shM, I, L, Rf))) ad (k_ap [(0, .inl (0, c0_0)), (1, .inr (.inr (.inl a1))), (21, .inr (.inr (.inl a21))), (24, .inr (.inr (.inl a24)))] (shM, I, L, Rf)) 121 [some (.ref 0), some (.int v1), some (.int v2), some (.int v3), some (.int v4), some (.int v5), none, some (.int v7)] [] := by
  intro c0_0 a1 a21 a24 v1 v2 v3 v4 v5 v7 h
  unfold bX11_fill_121 at h
  refine r_iconst (v := (0 : Int32)) C dX11_fill_121 (rfl : 121 + 1 = 122) rfl ?_
  refine k_mask [true, true, true, true, true, true, false, true] ?_
  exact sX11_fill_122 u C hr hR ec0_30 ea9 ea10 ea20 hk33 hk57 c0_0 a1 a21 a24 v1 v2 v3 v4 v5 v7 (0 : Int32) h
set_option maxHeartbeats 400000 in
set_option maxRecDepth 100000 in
theorem sX11_fill_174 (u : Nat) {X : k_X} {ad : Nat → Nat} (C : k_C X cX11_fill RX11 8 ad) (hr : X.meth.sig.returnType = (some .int)) (hR : X.R.frames = 2 ∧ X.R.locals = 44) {I : Nat → Nat → Int32} {L : Nat → Nat → Int64} {Rf : Nat → Nat → Option Nat} {c0_30 : Int32} (ec0_30 : I 0 30 = c0_30) {a9 : (Nat → Int32)} (ea9 : I 9 = a9) {a10 : (Nat → Int32)} (ea10 : I 10 = a10) {a20 : (Nat → Int32)} (ea20 : I 20 = a20) {out : Int32 × Int32 × (Nat → Int32) × (Nat → Int32) × (Nat → Int32)} {k33 : Int32 → (Nat → Int32) → (Nat → Int32) → (Nat → Int32) → Int32 → Int32 → Int32 → Int32 → Option (Int32 × Int32 × (Nat → Int32) × (Nat → Int32) × (Nat → Int32))} (hk33 : ∀ (c0_0 : Int32) (a1 : (Nat → Int32)) (a21 : (Nat → Int32)) (a24 : (Nat → Int32)) (v1 : Int32) (v2 : Int32) (v3 : Int32) (v4 : Int32), k33 c0_0 a1 a21 a24 v1 v2 v3 v4 = some out → k_W X 8 0 0 (k_Q X ad (some (.int out.1)) (k_ap [(0, .inl (0, out.2.1)), (1, .inr (.inr (.inl out.2.2.1))), (21, .inr (.inr (.inl out.2.2.2.1))), (24, .inr (.inr (.inl out.2.2.2.2)))] (shM, I, L, Rf))) ad (k_ap [(0, .inl (0, c0_0)), (1, .inr (.inr (.inl a1))), (21, .inr (.inr (.inl a21))), (24, .inr (.inr (.inl a24)))] (shM, I, L, Rf)) 33 [some (.ref 0), some (.int v1), some (.int v2), some (.int v3), some (.int v4), none, none, none] []) : ∀ (c0_0 : Int32) (a1 : (Nat → Int32)) (a21 : (Nat → Int32)) (a24 : (Nat → Int32)) (v1 : Int32) (v2 : Int32) (v3 : Int32) (v4 : Int32), bX11_fill_174 u c0_30 a9 a10 a20 k33 c0_0 a1 a21 a24 v1 v2 v3 v4 = some out → k_W X 8 0 0 (k_Q X ad (some (.int out.1)) (k_ap [(0, .inl (0, out.2.1)), (1, .inr (.inr (.inl out.2.2.1))), (21, .inr (.inr (.inl out.2.2.2.1))), (24, .inr (.inr (.inl out.2.2.2.2)))] (shM, I, L, Rf))) ad (k_ap [(0, .inl (0, c0_0)), (1, .inr (.inr (.inl a1))), (21, .inr (.inr (.inl a21))), (24, .inr (.inr (.inl a24)))] (shM, I, L, Rf)) 174 [some (.ref 0), some (.int v1), some (.int v2), some (.int v3), some (.int v4), none, none, none] [] := by
  intro c0_0 a1 a21 a24 v1 v2 v3 v4 h
  unfold bX11_fill_174 at h
  refine r_iinc (v := (v4 + (1 : Int32))) C dX11_fill_174 (rfl : 174 + 3 = 177) rfl rfl (by decide) ?_
  show k_W _ _ _ _ _ _ _ _ [some (.ref 0), some (.int v1), some (.int v2), some (.int v3), some (.int (v4 + (1 : Int32))), none, none, none] _
  refine r_goto (tgt := 33) C dX11_fill_177 (by decide) ?_
  refine k_mask [true, true, true, true, true, false, false, false] ?_
  exact hk33 c0_0 a1 a21 a24 v1 v2 v3 (v4 + (1 : Int32)) h
set_option maxHeartbeats 400000 in
set_option maxRecDepth 100000 in
theorem sX11_fill_57 (u : Nat) {X : k_X} {ad : Nat → Nat} (C : k_C X cX11_fill RX11 8 ad) (hr : X.meth.sig.returnType = (some .int)) (hR : X.R.frames = 2 ∧ X.R.locals = 44) {I : Nat → Nat → Int32} {L : Nat → Nat → Int64} {Rf : Nat → Nat → Option Nat} {c0_30 : Int32} (ec0_30 : I 0 30 = c0_30) {a9 : (Nat → Int32)} (ea9 : I 9 = a9) {a10 : (Nat → Int32)} (ea10 : I 10 = a10) {a20 : (Nat → Int32)} (ea20 : I 20 = a20) {out : Int32 × Int32 × (Nat → Int32) × (Nat → Int32) × (Nat → Int32)} {k33 : Int32 → (Nat → Int32) → (Nat → Int32) → (Nat → Int32) → Int32 → Int32 → Int32 → Int32 → Option (Int32 × Int32 × (Nat → Int32) × (Nat → Int32) × (Nat → Int32))} (hk33 : ∀ (c0_0 : Int32) (a1 : (Nat → Int32)) (a21 : (Nat → Int32)) (a24 : (Nat → Int32)) (v1 : Int32) (v2 : Int32) (v3 : Int32) (v4 : Int32), k33 c0_0 a1 a21 a24 v1 v2 v3 v4 = some out → k_W X 8 0 0 (k_Q X ad (some (.int out.1)) (k_ap [(0, .inl (0, out.2.1)), (1, .inr (.inr (.inl out.2.2.1))), (21, .inr (.inr (.inl out.2.2.2.1))), (24, .inr (.inr (.inl out.2.2.2.2)))] (shM, I, L, Rf))) ad (k_ap [(0, .inl (0, c0_0)), (1, .inr (.inr (.inl a1))), (21, .inr (.inr (.inl a21))), (24, .inr (.inr (.inl a24)))] (shM, I, L, Rf)) 33 [some (.ref 0), some (.int v1), some (.int v2), some (.int v3), some (.int v4), none, none, none] []) : ∀ (n : Nat) (c0_0 : Int32) (a1 : (Nat → Int32)) (a21 : (Nat → Int32)) (a24 : (Nat → Int32)) (v1 : Int32) (v2 : Int32) (v3 : Int32) (v4 : Int32) (v5 : Int32) (v6 : Int32) (v7 : Int32), bX11_fill_57 u c0_30 a9 a10 a20 k33 n c0_0 a1 a21 a24 v1 v2 v3 v4 v5 v6 v7 = some out → k_W X 8 0 0 (k_Q X ad (some (.int out.1)) (k_ap [(0, .inl (0, out.2.1)), (1, .inr (.inr (.inl out.2.2.1))), (21, .inr (.inr (.inl out.2.2.2.1))), (24, .inr (.inr (.inl out.2.2.2.2)))] (shM, I, L, Rf))) ad (k_ap [(0, .inl (0, c0_0)), (1, .inr (.inr (.inl a1))), (21, .inr (.inr (.inl a21))), (24, .inr (.inr (.inl a24)))] (shM, I, L, Rf)) 57 [some (.ref 0), some (.int v1), some (.int v2), some (.int v3), some (.int v4), some (.int v5), some (.int v6), some (.int v7)] [] := by
  intro n
  induction n with
  | zero => intro c0_0 a1 a21 a24 v1 v2 v3 v4 v5 v6 v7 h; cases h
  | succ n ih =>
    intro c0_0 a1 a21 a24 v1 v2 v3 v4 v5 v6 v7 h
    refine r_iload C dX11_fill_57 (rfl : 57 + 2 = 59) rfl ?_
    refine r_aload_n C dX11_fill_59 (rfl : 59 + 1 = 60) rfl ?_
    refine r_getI (v := c0_30) C dX11_fill_60 (rfl : 60 + 3 = 63) fl_X11_199 rfl rfl ec0_30 ?_
    refine r_icmp_ge (tgt := 147) C dX11_fill_63 (by decide) (rfl : 63 + 3 = 66) (fun c63 => ?_) (fun c63 => ?_)
    · have h := k_t c63 h
      refine r_iload C dX11_fill_147 (rfl : 147 + 2 = 149) rfl ?_
      refine r_if_eq (tgt := 174) C dX11_fill_149 (by decide) (rfl : 149 + 3 = 152) (fun c149 => ?_) (fun c149 => ?_)
      · have h := k_t c149 h
        refine k_mask [true, true, true, true, true, false, false, false] ?_
        exact sX11_fill_174 u C hr hR ec0_30 ea9 ea10 ea20 hk33 c0_0 a1 a21 a24 v1 v2 v3 v4 h
      · have h := k_f c149 h
        refine r_aload_n C dX11_fill_152 (rfl : 152 + 1 = 153) rfl ?_
        obtain ⟨r153, q153, h⟩ := k_b_of h
        refine d_V (As := []) (st := []) (st' := [.int r153]) (h' := k_ap [(0, .inl (0, c0_0)), (1, .inr (.inr (.inl a1))), (21, .inr (.inr (.inl a21))), (24, .inr (.inr (.inl a24)))] (shM, I, L, Rf)) C hR ⟨Nat.zero_le _, Nat.zero_le _⟩ mv_X11_lackNow lk_X11_400 dX11_fill_153 (rfl : 153 + 3 = 156) rfl rfl rfl rfl (c_X11_lackNow X.l u (k_ap [(0, .inl (0, c0_0)), (1, .inr (.inr (.inl a1))), (21, .inr (.inr (.inl a21))), (24, .inr (.inr (.inl a24)))] (shM, I, L, Rf)) rfl rfl rfl q153) rfl rfl rfl rfl rfl ?_
        refine r_if_gt (tgt := 174) C dX11_fill_156 (by decide) (rfl : 156 + 3 = 159) (fun c156 => ?_) (fun c156 => ?_)
        · have h := k_t c156 h
          refine k_mask [true, true, true, true, true, false, false, false] ?_
          exact sX11_fill_174 u C hr hR ec0_30 ea9 ea10 ea20 hk33 c0_0 a1 a21 a24 v1 v2 v3 v4 h
        · have h := k_f c156 h
          refine r_iload C dX11_fill_159 (rfl : 159 + 2 = 161) rfl ?_
          refine r_iload_n C dX11_fill_161 (rfl : 161 + 1 = 162) rfl ?_
          refine r_icmp_gt (tgt := 168) C dX11_fill_162 (by decide) (rfl : 162 + 3 = 165) (fun c162 => ?_) (fun c162 => ?_)
          · have h := k_t c162 h
            refine r_iload C dX11_fill_168 (rfl : 168 + 2 = 170) rfl ?_
            refine r_istore_n C dX11_fill_170 (rfl : 170 + 1 = 171) (by decide) (Nat.le_of_ble_eq_true rfl) ?_
            show k_W _ _ _ _ _ _ _ _ [some (.ref 0), some (.int v1), some (.int v4), some (.int v3), some (.int v4), some (.int v5), some (.int v6), some (.int v7)] _
            refine r_iload C dX11_fill_171 (rfl : 171 + 2 = 173) rfl ?_
            refine r_istore_n C dX11_fill_173 (rfl : 173 + 1 = 174) (by decide) (Nat.le_of_ble_eq_true rfl) ?_
            show k_W _ _ _ _ _ _ _ _ [some (.ref 0), some (.int v1), some (.int v4), some (.int v5), some (.int v4), some (.int v5), some (.int v6), some (.int v7)] _
            refine k_mask [true, true, true, true, true, false, false, false] ?_
            exact sX11_fill_174 u C hr hR ec0_30 ea9 ea10 ea20 hk33 c0_0 a1 a21 a24 v1 v4 v5 v4 h
          · have h := k_f c162 h
            refine r_goto (tgt := 174) C dX11_fill_165 (by decide) ?_
            refine k_mask [true, true, true, true, true, false, false, false] ?_
            exact sX11_fill_174 u C hr hR ec0_30 ea9 ea10 ea20 hk33 c0_0 a1 a21 a24 v1 v2 v3 v4 h
    · have h := k_f c63 h
      refine r_iload C dX11_fill_66 (rfl : 66 + 2 = 68) rfl ?_
      refine r_iload C dX11_fill_68 (rfl : 68 + 2 = 70) rfl ?_
      refine r_ishr C dX11_fill_70 (rfl : 70 + 1 = 71) ?_
      refine r_iconst (v := (1 : Int32)) C dX11_fill_71 (rfl : 71 + 1 = 72) rfl ?_
      refine r_iand C dX11_fill_72 (rfl : 72 + 1 = 73) ?_
      refine r_if_ne (tgt := 79) C dX11_fill_73 (by decide) (rfl : 73 + 3 = 76) (fun c73 => ?_) (fun c73 => ?_)
      · have h := k_f c73 h
        refine r_iload C dX11_fill_79 (rfl : 79 + 2 = 81) rfl ?_
        refine r_if_eq (tgt := 121) C dX11_fill_81 (by decide) (rfl : 81 + 3 = 84) (fun c81 => ?_) (fun c81 => ?_)
        · have h := k_t c81 h
          refine k_mask [true, true, true, true, true, true, false, true] ?_
          exact sX11_fill_121 u C hr hR ec0_30 ea9 ea10 ea20 hk33 ih c0_0 a1 a21 a24 v1 v2 v3 v4 v5 v7 h
        · have h := k_f c81 h
          refine r_aload_n C dX11_fill_84 (rfl : 84 + 1 = 85) rfl ?_
          refine r_getR (q := 10) C dX11_fill_85 (rfl : 85 + 3 = 88) fl_X11_44 rfl rfl ?_
          refine r_bipush (v := (10 : Int32)) C dX11_fill_88 (rfl : 88 + 2 = 90) rfl ?_
          refine r_iload C dX11_fill_90 (rfl : 90 + 2 = 92) rfl ?_
          refine r_imul C dX11_fill_92 (rfl : 92 + 1 = 93) ?_
          obtain ⟨hi93, h⟩ := k_i_of h
          refine a_i (j := (((10 : Int32) * v7)).toNatClampNeg) (f := a10) C dX11_fill_93 (rfl : 93 + 1 = 94) rfl ea10 hi93 rfl ?_
          refine r_aload_n C dX11_fill_94 (rfl : 94 + 1 = 95) rfl ?_
          refine r_getR (q := 21) C dX11_fill_95 (rfl : 95 + 3 = 98) fl_X11_77 rfl rfl ?_
          refine r_bipush (v := (69 : Int32)) C dX11_fill_98 (rfl : 98 + 2 = 100) rfl ?_
          refine a_i (j := 69) (f := a21) C dX11_fill_100 (rfl : 100 + 1 = 101) rfl rfl (show ¬ ((69 : Int32) < 0 ∨ 77 ≤ ((69 : Int32)).toNatClampNeg) by decide) rfl ?_
          refine r_icmp_lt (tgt := 121) C dX11_fill_101 (by decide) (rfl : 101 + 3 = 104) (fun c101 => ?_) (fun c101 => ?_)
          · have h := k_t c101 h
            refine k_mask [true, true, true, true, true, true, false, true] ?_
            exact sX11_fill_121 u C hr hR ec0_30 ea9 ea10 ea20 hk33 ih c0_0 a1 a21 a24 v1 v2 v3 v4 v5 v7 h
          · have h := k_f c101 h
            refine r_aload_n C dX11_fill_104 (rfl : 104 + 1 = 105) rfl ?_
            refine r_getR (q := 21) C dX11_fill_105 (rfl : 105 + 3 = 108) fl_X11_77 rfl rfl ?_
            refine r_bipush (v := (63 : Int32)) C dX11_fill_108 (rfl : 108 + 2 = 110) rfl ?_
            refine r_iload C dX11_fill_110 (rfl : 110 + 2 = 112) rfl ?_
            refine r_iadd C dX11_fill_112 (rfl : 112 + 1 = 113) ?_
            obtain ⟨hi113, h⟩ := k_i_of h
            refine a_i (j := (((63 : Int32) + v7)).toNatClampNeg) (f := a21) C dX11_fill_113 (rfl : 113 + 1 = 114) rfl rfl hi113 rfl ?_
            refine r_if_ne (tgt := 121) C dX11_fill_114 (by decide) (rfl : 114 + 3 = 117) (fun c114 => ?_) (fun c114 => ?_)
            · have h := k_f c114 h
              refine k_mask [true, true, true, true, true, true, false, true] ?_
              exact sX11_fill_121 u C hr hR ec0_30 ea9 ea10 ea20 hk33 ih c0_0 a1 a21 a24 v1 v2 v3 v4 v5 v7 h
            · have h := k_t c114 h
              refine r_iconst (v := (1 : Int32)) C dX11_fill_117 (rfl : 117 + 1 = 118) rfl ?_
              refine r_goto (tgt := 122) C dX11_fill_118 (by decide) ?_
              refine k_mask [true, true, true, true, true, true, false, true] ?_
              exact sX11_fill_122 u C hr hR ec0_30 ea9 ea10 ea20 hk33 ih c0_0 a1 a21 a24 v1 v2 v3 v4 v5 v7 (1 : Int32) h
      · have h := k_t c73 h
        refine r_goto (tgt := 141) C dX11_fill_76 (by decide) ?_
        refine k_mask [true, true, true, true, true, true, true, true] ?_
        exact sX11_fill_141 u C hr hR ec0_30 ea9 ea10 ea20 hk33 ih c0_0 a1 a21 a24 v1 v2 v3 v4 v5 v6 v7 h
set_option maxHeartbeats 400000 in
set_option maxRecDepth 100000 in
theorem sX11_fill_33 (u : Nat) {X : k_X} {ad : Nat → Nat} (C : k_C X cX11_fill RX11 8 ad) (hr : X.meth.sig.returnType = (some .int)) (hR : X.R.frames = 2 ∧ X.R.locals = 44) {I : Nat → Nat → Int32} {L : Nat → Nat → Int64} {Rf : Nat → Nat → Option Nat} {c0_30 : Int32} (ec0_30 : I 0 30 = c0_30) {a9 : (Nat → Int32)} (ea9 : I 9 = a9) {a10 : (Nat → Int32)} (ea10 : I 10 = a10) {a20 : (Nat → Int32)} (ea20 : I 20 = a20) {out : Int32 × Int32 × (Nat → Int32) × (Nat → Int32) × (Nat → Int32)} : ∀ (n : Nat) (c0_0 : Int32) (a1 : (Nat → Int32)) (a21 : (Nat → Int32)) (a24 : (Nat → Int32)) (v1 : Int32) (v2 : Int32) (v3 : Int32) (v4 : Int32), bX11_fill_33 u c0_30 a9 a10 a20 n c0_0 a1 a21 a24 v1 v2 v3 v4 = some out → k_W X 8 0 0 (k_Q X ad (some (.int out.1)) (k_ap [(0, .inl (0, out.2.1)), (1, .inr (.inr (.inl out.2.2.1))), (21, .inr (.inr (.inl out.2.2.2.1))), (24, .inr (.inr (.inl out.2.2.2.2)))] (shM, I, L, Rf))) ad (k_ap [(0, .inl (0, c0_0)), (1, .inr (.inr (.inl a1))), (21, .inr (.inr (.inl a21))), (24, .inr (.inr (.inl a24)))] (shM, I, L, Rf)) 33 [some (.ref 0), some (.int v1), some (.int v2), some (.int v3), some (.int v4), none, none, none] [] := by
  intro n
  induction n with
  | zero => intro c0_0 a1 a21 a24 v1 v2 v3 v4 h; cases h
  | succ n ih =>
    intro c0_0 a1 a21 a24 v1 v2 v3 v4 h
    refine r_iload C dX11_fill_33 (rfl : 33 + 2 = 35) rfl ?_
    refine r_iconst (v := (1 : Int32)) C dX11_fill_35 (rfl : 35 + 1 = 36) rfl ?_
    refine r_aload_n C dX11_fill_36 (rfl : 36 + 1 = 37) rfl ?_
    refine r_getI (v := c0_30) C dX11_fill_37 (rfl : 37 + 3 = 40) fl_X11_199 rfl rfl ec0_30 ?_
    refine r_ishl C dX11_fill_40 (rfl : 40 + 1 = 41) ?_
    refine r_icmp_ge (tgt := 180) C dX11_fill_41 (by decide) (rfl : 41 + 3 = 44) (fun c41 => ?_) (fun c41 => ?_)
    · have h := k_t c41 h
      refine r_iload_n C dX11_fill_180 (rfl : 180 + 1 = 181) rfl ?_
      refine r_if_ne (tgt := 188) C dX11_fill_181 (by decide) (rfl : 181 + 3 = 184) (fun c181 => ?_) (fun c181 => ?_)
      · have h := k_f c181 h
        refine r_iload_n C dX11_fill_188 (rfl : 188 + 1 = 189) rfl ?_
        cases h
        exact r_iret C hr dX11_fill_189
      · have h := k_t c181 h
        refine r_iload_n C dX11_fill_184 (rfl : 184 + 1 = 185) rfl ?_
        refine r_goto (tgt := 189) C dX11_fill_185 (by decide) ?_
        cases h
        exact r_iret C hr dX11_fill_189
    · have h := k_f c41 h
      refine r_aload_n C dX11_fill_44 (rfl : 44 + 1 = 45) rfl ?_
      obtain ⟨r45, q45, h⟩ := k_b_of h
      refine d_V (As := []) (st := []) (st' := []) (h' := k_ap [(0, .inl (0, c0_0)), (1, .inr (.inr (.inl a1))), (21, .inr (.inr (.inl a21))), (24, .inr (.inr (.inl r45)))] (shM, I, L, Rf)) C hR ⟨Nat.zero_le _, Nat.zero_le _⟩ mv_X11_wantsNothing lk_X11_394 dX11_fill_45 (rfl : 45 + 3 = 48) rfl rfl rfl rfl (c_X11_wantsNothing X.l u (k_ap [(0, .inl (0, c0_0)), (1, .inr (.inr (.inl a1))), (21, .inr (.inr (.inl a21))), (24, .inr (.inr (.inl a24)))] (shM, I, L, Rf)) rfl rfl q45) rfl rfl rfl (k_jn (us' := [(0, .inl (0, c0_0)), (1, .inr (.inr (.inl a1))), (21, .inr (.inr (.inl a21))), (24, .inr (.inr (.inl r45)))]) ds_X11_fill rfl rfl rfl) rfl ?_
      refine r_iconst (v := (0 : Int32)) C dX11_fill_48 (rfl : 48 + 1 = 49) rfl ?_
      refine r_istore C dX11_fill_49 (rfl : 49 + 2 = 51) (by decide) (Nat.le_of_ble_eq_true rfl) ?_
      show k_W _ _ _ _ _ _ _ _ [some (.ref 0), some (.int v1), some (.int v2), some (.int v3), some (.int v4), some (.int (0 : Int32)), none, none] _
      refine r_iconst (v := (1 : Int32)) C dX11_fill_51 (rfl : 51 + 1 = 52) rfl ?_
      refine r_istore C dX11_fill_52 (rfl : 52 + 2 = 54) (by decide) (Nat.le_of_ble_eq_true rfl) ?_
      show k_W _ _ _ _ _ _ _ _ [some (.ref 0), some (.int v1), some (.int v2), some (.int v3), some (.int v4), some (.int (0 : Int32)), some (.int (1 : Int32)), none] _
      refine r_iconst (v := (0 : Int32)) C dX11_fill_54 (rfl : 54 + 1 = 55) rfl ?_
      refine r_istore C dX11_fill_55 (rfl : 55 + 2 = 57) (by decide) (Nat.le_of_ble_eq_true rfl) ?_
      show k_W _ _ _ _ _ _ _ _ [some (.ref 0), some (.int v1), some (.int v2), some (.int v3), some (.int v4), some (.int (0 : Int32)), some (.int (1 : Int32)), some (.int (0 : Int32))] _
      refine k_mask [true, true, true, true, true, true, true, true] ?_
      exact sX11_fill_57 u C hr hR ec0_30 ea9 ea10 ea20 ih u c0_0 a1 a21 r45 v1 v2 v3 v4 (0 : Int32) (1 : Int32) (0 : Int32) h
set_option maxHeartbeats 400000 in
set_option maxRecDepth 100000 in
theorem sX11_fill_0 (u : Nat) {X : k_X} {ad : Nat → Nat} (C : k_C X cX11_fill RX11 8 ad) (hr : X.meth.sig.returnType = (some .int)) (hR : X.R.frames = 2 ∧ X.R.locals = 44) {I : Nat → Nat → Int32} {L : Nat → Nat → Int64} {Rf : Nat → Nat → Option Nat} {c0_30 : Int32} (ec0_30 : I 0 30 = c0_30) {a9 : (Nat → Int32)} (ea9 : I 9 = a9) {a10 : (Nat → Int32)} (ea10 : I 10 = a10) {a20 : (Nat → Int32)} (ea20 : I 20 = a20) {out : Int32 × Int32 × (Nat → Int32) × (Nat → Int32) × (Nat → Int32)} : ∀ (c0_0 : Int32) (a1 : (Nat → Int32)) (a21 : (Nat → Int32)) (a24 : (Nat → Int32)) (v1 : Int32), bX11_fill_0 u c0_30 a9 a10 a20 c0_0 a1 a21 a24 v1 = some out → k_W X 8 0 0 (k_Q X ad (some (.int out.1)) (k_ap [(0, .inl (0, out.2.1)), (1, .inr (.inr (.inl out.2.2.1))), (21, .inr (.inr (.inl out.2.2.2.1))), (24, .inr (.inr (.inl out.2.2.2.2)))] (shM, I, L, Rf))) ad (k_ap [(0, .inl (0, c0_0)), (1, .inr (.inr (.inl a1))), (21, .inr (.inr (.inl a21))), (24, .inr (.inr (.inl a24)))] (shM, I, L, Rf)) 0 [some (.ref 0), some (.int v1), none, none, none, none, none, none] [] := by
  intro c0_0 a1 a21 a24 v1 h
  unfold bX11_fill_0 at h
  refine r_aload_n C dX11_fill_0 (rfl : 0 + 1 = 1) rfl ?_
  refine r_iconst (v := (0 : Int32)) C dX11_fill_1 (rfl : 1 + 1 = 2) rfl ?_
  refine p_I (us' := [(0, .inl (0, (0 : Int32))), (1, .inr (.inr (.inl a1))), (21, .inr (.inr (.inl a21))), (24, .inr (.inr (.inl a24)))]) C dX11_fill_2 (rfl : 2 + 3 = 5) fp_X11_3 rfl rfl ds_X11_fill rfl rfl rfl ?_
  refine r_aload_n C dX11_fill_5 (rfl : 5 + 1 = 6) rfl ?_
  refine r_iload_n C dX11_fill_6 (rfl : 6 + 1 = 7) rfl ?_
  refine r_iconst (v := (0 : Int32)) C dX11_fill_7 (rfl : 7 + 1 = 8) rfl ?_
  refine r_iconst (v := (1 : Int32)) C dX11_fill_8 (rfl : 8 + 1 = 9) rfl ?_
  obtain ⟨r9, q9, h⟩ := k_b_of h
  refine d_S (As := [.int v1, .int (0 : Int32), .int (1 : Int32)]) (st := [.ref 0]) (st' := [.int r9, .ref 0]) (h' := k_ap [(0, .inl (0, (0 : Int32))), (1, .inr (.inr (.inl a1))), (21, .inr (.inr (.inl a21))), (24, .inr (.inr (.inl a24)))] (shM, I, L, Rf)) C hR ⟨Nat.zero_le _, Nat.zero_le _⟩ ms_X11_within lk_X11_317 dX11_fill_9 (rfl : 9 + 3 = 12) rfl rfl (c_X11_within X.l u (k_ap [(0, .inl (0, (0 : Int32))), (1, .inr (.inr (.inl a1))), (21, .inr (.inr (.inl a21))), (24, .inr (.inr (.inl a24)))] (shM, I, L, Rf)) rfl  q9) rfl rfl rfl rfl rfl ?_
  refine r_iconst (v := (1 : Int32)) C dX11_fill_12 (rfl : 12 + 1 = 13) rfl ?_
  refine r_iconst (v := (2 : Int32)) C dX11_fill_13 (rfl : 13 + 1 = 14) rfl ?_
  obtain ⟨r14, q14, h⟩ := k_b_of h
  refine d_V (As := [.int r9, .int (1 : Int32), .int (2 : Int32)]) (st := []) (st' := [.int r14.1]) (h' := k_ap [(0, .inl (0, r14.2.1)), (1, .inr (.inr (.inl r14.2.2))), (21, .inr (.inr (.inl a21))), (24, .inr (.inr (.inl a24)))] (shM, I, L, Rf)) C hR ⟨Nat.zero_le _, Nat.zero_le _⟩ mv_X11_may lk_X11_252 dX11_fill_14 (rfl : 14 + 3 = 17) rfl rfl rfl rfl (c_X11_may X.l u (k_ap [(0, .inl (0, (0 : Int32))), (1, .inr (.inr (.inl a1))), (21, .inr (.inr (.inl a21))), (24, .inr (.inr (.inl a24)))] (shM, I, L, Rf)) rfl rfl rfl q14) rfl rfl rfl (k_jn (us' := [(0, .inl (0, r14.2.1)), (1, .inr (.inr (.inl r14.2.2))), (21, .inr (.inr (.inl a21))), (24, .inr (.inr (.inl a24)))]) ds_X11_fill rfl rfl rfl) rfl ?_
  refine r_if_ne (tgt := 22) C dX11_fill_17 (by decide) (rfl : 17 + 3 = 20) (fun c17 => ?_) (fun c17 => ?_)
  · have h := k_f c17 h
    refine r_aload_n C dX11_fill_22 (rfl : 22 + 1 = 23) rfl ?_
    obtain ⟨r23, q23, h⟩ := k_b_of h
    refine d_V (As := []) (st := []) (st' := []) (h' := k_ap [(0, .inl (0, r14.2.1)), (1, .inr (.inr (.inl r14.2.2))), (21, .inr (.inr (.inl r23))), (24, .inr (.inr (.inl a24)))] (shM, I, L, Rf)) C hR ⟨Nat.zero_le _, Nat.zero_le _⟩ mv_X11_take lk_X11_345 dX11_fill_23 (rfl : 23 + 3 = 26) rfl rfl rfl rfl (c_X11_take X.l u (k_ap [(0, .inl (0, r14.2.1)), (1, .inr (.inr (.inl r14.2.2))), (21, .inr (.inr (.inl a21))), (24, .inr (.inr (.inl a24)))] (shM, I, L, Rf)) rfl ea20 rfl q23) rfl rfl rfl (k_jn (us' := [(0, .inl (0, r14.2.1)), (1, .inr (.inr (.inl r14.2.2))), (21, .inr (.inr (.inl r23))), (24, .inr (.inr (.inl a24)))]) ds_X11_fill rfl rfl rfl) rfl ?_
    refine r_iconst (v := (0 : Int32)) C dX11_fill_26 (rfl : 26 + 1 = 27) rfl ?_
    refine r_istore_n C dX11_fill_27 (rfl : 27 + 1 = 28) (by decide) (Nat.le_of_ble_eq_true rfl) ?_
    show k_W _ _ _ _ _ _ _ _ [some (.ref 0), some (.int v1), some (.int (0 : Int32)), none, none, none, none, none] _
    refine r_iconst (v := (0 : Int32)) C dX11_fill_28 (rfl : 28 + 1 = 29) rfl ?_
    refine r_istore_n C dX11_fill_29 (rfl : 29 + 1 = 30) (by decide) (Nat.le_of_ble_eq_true rfl) ?_
    show k_W _ _ _ _ _ _ _ _ [some (.ref 0), some (.int v1), some (.int (0 : Int32)), some (.int (0 : Int32)), none, none, none, none] _
    refine r_iconst (v := (1 : Int32)) C dX11_fill_30 (rfl : 30 + 1 = 31) rfl ?_
    refine r_istore C dX11_fill_31 (rfl : 31 + 2 = 33) (by decide) (Nat.le_of_ble_eq_true rfl) ?_
    show k_W _ _ _ _ _ _ _ _ [some (.ref 0), some (.int v1), some (.int (0 : Int32)), some (.int (0 : Int32)), some (.int (1 : Int32)), none, none, none] _
    refine k_mask [true, true, true, true, true, false, false, false] ?_
    exact sX11_fill_33 u C hr hR ec0_30 ea9 ea10 ea20 u r14.2.1 r14.2.2 r23 a24 v1 (0 : Int32) (0 : Int32) (1 : Int32) h
  · have h := k_t c17 h
    refine r_iconst (v := (0 : Int32)) C dX11_fill_20 (rfl : 20 + 1 = 21) rfl ?_
    cases h
    exact r_iret C hr dX11_fill_21
set_option maxHeartbeats 400000 in
set_option maxRecDepth 100000 in
theorem c_X11_fill (l : Launch) (u : Nat) (h : k_H) (hsh : h.1 = shM) {c0_0 : Int32} (ec0_0 : h.2.1 0 0 = c0_0) {c0_30 : Int32} (ec0_30 : h.2.1 0 30 = c0_30) {a1 : (Nat → Int32)} (ea1 : h.2.1 1 = a1) {a9 : (Nat → Int32)} (ea9 : h.2.1 9 = a9) {a10 : (Nat → Int32)} (ea10 : h.2.1 10 = a10) {a20 : (Nat → Int32)} (ea20 : h.2.1 20 = a20) {a21 : (Nat → Int32)} (ea21 : h.2.1 21 = a21) {a24 : (Nat → Int32)} (ea24 : h.2.1 24 = a24) {x0 : Int32} {out : Int32 × Int32 × (Nat → Int32) × (Nat → Int32) × (Nat → Int32)} (hf : f_X11_fill u c0_0 c0_30 a1 a9 a10 a20 a21 a24 x0 = some out) : k_CT l yX11_fill cX11_fill 8 (some .int) 2 44 [.ref 0, .int x0] h (some (.int out.1)) [(0, .inl (0, out.2.1)), (1, .inr (.inr (.inl out.2.2.1))), (21, .inr (.inr (.inl out.2.2.2.1))), (24, .inr (.inr (.inl out.2.2.2.2)))] := by
  obtain ⟨sh, I, L, Rf⟩ := h
  try dsimp only
  obtain rfl : sh = shM := hsh
  refine k_ofW (by decide) (Nat.le_of_ble_eq_true rfl) ?_
  intro X ad hl hR0 hr C
  have hR : X.R.frames = 2 ∧ X.R.locals = 44 := by rw [hR0]; exact ⟨rfl, rfl⟩
  have h := hf
  unfold f_X11_fill at h
  refine k_start (us := [(0, .inl (0, c0_0)), (1, .inr (.inr (.inl a1))), (21, .inr (.inr (.inl a21))), (24, .inr (.inr (.inl a24)))]) (k_ao_I ec0_0 (k_ao_A ea1 (k_ao_A ea21 (k_ao_A ea24 k_ap_0)))) ?_
  show k_W X 8 0 0 _ ad (k_ap [(0, .inl (0, c0_0)), (1, .inr (.inr (.inl a1))), (21, .inr (.inr (.inl a21))), (24, .inr (.inr (.inl a24)))] (shM, I, L, Rf)) 0 [some (.ref 0), some (.int x0), none, none, none, none, none, none] []
  refine k_mask [true, true, false, false, false, false, false, false] ?_
  exact sX11_fill_0 u C hr hR ec0_30 ea9 ea10 ea20 c0_0 a1 a21 a24 x0 h
/-! LullabyPitModel.tapAt(I)I -/
theorem ds_X11_tapAt : k_ds [] = true := by decide +kernel
set_option maxHeartbeats 400000 in
set_option maxRecDepth 100000 in
theorem sX11_tapAt_59 (u : Nat) {X : k_X} {ad : Nat → Nat} (C : k_C X cX11_tapAt RX11 3 ad) (hr : X.meth.sig.returnType = (some .int)) (hR : X.R.frames = 0 ∧ X.R.locals = 0) {I : Nat → Nat → Int32} {L : Nat → Nat → Int64} {Rf : Nat → Nat → Option Nat} {c0_25 : Int32} (ec0_25 : I 0 25 = c0_25) {c0_26 : Int32} (ec0_26 : I 0 26 = c0_26) {a7 : (Nat → Int32)} (ea7 : I 7 = a7) {out : Int32} {k19 : Int32 → Int32 → Option (Int32)} (hk19 : ∀ (v1 : Int32) (v2 : Int32), k19 v1 v2 = some out → k_W X 3 0 0 (k_Q X ad (some (.int out)) (k_ap [] (shM, I, L, Rf))) ad (k_ap [] (shM, I, L, Rf)) 19 [some (.ref 0), some (.int v1), some (.int v2)] []) : ∀ (v1 : Int32) (v2 : Int32), bX11_tapAt_59 u c0_25 c0_26 a7 k19 v1 v2 = some out → k_W X 3 0 0 (k_Q X ad (some (.int out)) (k_ap [] (shM, I, L, Rf))) ad (k_ap [] (shM, I, L, Rf)) 59 [some (.ref 0), some (.int v1), some (.int v2)] [] := by
  intro v1 v2 h
  unfold bX11_tapAt_59 at h
  refine r_iinc (v := (v2 + (1 : Int32))) C dX11_tapAt_59 (rfl : 59 + 3 = 62) rfl rfl (by decide) ?_
  show k_W _ _ _ _ _ _ _ _ [some (.ref 0), some (.int v1), some (.int (v2 + (1 : Int32)))] _
  refine r_goto (tgt := 19) C dX11_tapAt_62 (by decide) ?_
  refine k_mask [true, true, true] ?_
  exact hk19 v1 (v2 + (1 : Int32)) h
set_option maxHeartbeats 400000 in
set_option maxRecDepth 100000 in
theorem sX11_tapAt_19 (u : Nat) {X : k_X} {ad : Nat → Nat} (C : k_C X cX11_tapAt RX11 3 ad) (hr : X.meth.sig.returnType = (some .int)) (hR : X.R.frames = 0 ∧ X.R.locals = 0) {I : Nat → Nat → Int32} {L : Nat → Nat → Int64} {Rf : Nat → Nat → Option Nat} {c0_25 : Int32} (ec0_25 : I 0 25 = c0_25) {c0_26 : Int32} (ec0_26 : I 0 26 = c0_26) {a7 : (Nat → Int32)} (ea7 : I 7 = a7) {out : Int32} : ∀ (n : Nat) (v1 : Int32) (v2 : Int32), bX11_tapAt_19 u c0_25 c0_26 a7 n v1 v2 = some out → k_W X 3 0 0 (k_Q X ad (some (.int out)) (k_ap [] (shM, I, L, Rf))) ad (k_ap [] (shM, I, L, Rf)) 19 [some (.ref 0), some (.int v1), some (.int v2)] [] := by
  intro n
  induction n with
  | zero => intro v1 v2 h; cases h
  | succ n ih =>
    intro v1 v2 h
    refine r_iload_n C dX11_tapAt_19 (rfl : 19 + 1 = 20) rfl ?_
    refine r_aload_n C dX11_tapAt_20 (rfl : 20 + 1 = 21) rfl ?_
    refine r_getI (v := c0_26) C dX11_tapAt_21 (rfl : 21 + 3 = 24) fl_X11_187 rfl rfl ec0_26 ?_
    refine r_icmp_ge (tgt := 65) C dX11_tapAt_24 (by decide) (rfl : 24 + 3 = 27) (fun c24 => ?_) (fun c24 => ?_)
    · have h := k_t c24 h
      refine r_aload_n C dX11_tapAt_65 (rfl : 65 + 1 = 66) rfl ?_
      refine r_getI (v := c0_26) C dX11_tapAt_66 (rfl : 66 + 3 = 69) fl_X11_187 rfl rfl ec0_26 ?_
      cases h
      exact r_iret C hr dX11_tapAt_69
    · have h := k_f c24 h
      refine r_aload_n C dX11_tapAt_27 (rfl : 27 + 1 = 28) rfl ?_
      refine r_getR (q := 7) C dX11_tapAt_28 (rfl : 28 + 3 = 31) fl_X11_35 rfl rfl ?_
      refine r_bipush (v := (8 : Int32)) C dX11_tapAt_31 (rfl : 31 + 2 = 33) rfl ?_
      refine r_iload_n C dX11_tapAt_33 (rfl : 33 + 1 = 34) rfl ?_
      refine r_imul C dX11_tapAt_34 (rfl : 34 + 1 = 35) ?_
      refine r_iload_n C dX11_tapAt_35 (rfl : 35 + 1 = 36) rfl ?_
      refine r_iadd C dX11_tapAt_36 (rfl : 36 + 1 = 37) ?_
      obtain ⟨hi37, h⟩ := k_i_of h
      refine a_i (j := ((((8 : Int32) * v2) + v1)).toNatClampNeg) (f := a7) C dX11_tapAt_37 (rfl : 37 + 1 = 38) rfl ea7 hi37 rfl ?_
      refine r_iconst (v := (1 : Int32)) C dX11_tapAt_38 (rfl : 38 + 1 = 39) rfl ?_
      refine r_icmp_lt (tgt := 59) C dX11_tapAt_39 (by decide) (rfl : 39 + 3 = 42) (fun c39 => ?_) (fun c39 => ?_)
      · have h := k_t c39 h
        refine k_mask [true, true, true] ?_
        exact sX11_tapAt_59 u C hr hR ec0_25 ec0_26 ea7 ih v1 v2 h
      · have h := k_f c39 h
        refine r_aload_n C dX11_tapAt_42 (rfl : 42 + 1 = 43) rfl ?_
        refine r_getR (q := 7) C dX11_tapAt_43 (rfl : 43 + 3 = 46) fl_X11_35 rfl rfl ?_
        refine r_bipush (v := (8 : Int32)) C dX11_tapAt_46 (rfl : 46 + 2 = 48) rfl ?_
        refine r_iload_n C dX11_tapAt_48 (rfl : 48 + 1 = 49) rfl ?_
        refine r_imul C dX11_tapAt_49 (rfl : 49 + 1 = 50) ?_
        refine r_iload_n C dX11_tapAt_50 (rfl : 50 + 1 = 51) rfl ?_
        refine r_iadd C dX11_tapAt_51 (rfl : 51 + 1 = 52) ?_
        obtain ⟨hi52, h⟩ := k_i_of h
        refine a_i (j := ((((8 : Int32) * v2) + v1)).toNatClampNeg) (f := a7) C dX11_tapAt_52 (rfl : 52 + 1 = 53) rfl ea7 hi52 rfl ?_
        refine r_iconst (v := (4 : Int32)) C dX11_tapAt_53 (rfl : 53 + 1 = 54) rfl ?_
        refine r_icmp_gt (tgt := 59) C dX11_tapAt_54 (by decide) (rfl : 54 + 3 = 57) (fun c54 => ?_) (fun c54 => ?_)
        · have h := k_t c54 h
          refine k_mask [true, true, true] ?_
          exact sX11_tapAt_59 u C hr hR ec0_25 ec0_26 ea7 ih v1 v2 h
        · have h := k_f c54 h
          refine r_iload_n C dX11_tapAt_57 (rfl : 57 + 1 = 58) rfl ?_
          cases h
          exact r_iret C hr dX11_tapAt_58
set_option maxHeartbeats 400000 in
set_option maxRecDepth 100000 in
theorem sX11_tapAt_0 (u : Nat) {X : k_X} {ad : Nat → Nat} (C : k_C X cX11_tapAt RX11 3 ad) (hr : X.meth.sig.returnType = (some .int)) (hR : X.R.frames = 0 ∧ X.R.locals = 0) {I : Nat → Nat → Int32} {L : Nat → Nat → Int64} {Rf : Nat → Nat → Option Nat} {c0_25 : Int32} (ec0_25 : I 0 25 = c0_25) {c0_26 : Int32} (ec0_26 : I 0 26 = c0_26) {a7 : (Nat → Int32)} (ea7 : I 7 = a7) {out : Int32} : ∀ (v1 : Int32), bX11_tapAt_0 u c0_25 c0_26 a7 v1 = some out → k_W X 3 0 0 (k_Q X ad (some (.int out)) (k_ap [] (shM, I, L, Rf))) ad (k_ap [] (shM, I, L, Rf)) 0 [some (.ref 0), some (.int v1), none] [] := by
  intro v1 h
  unfold bX11_tapAt_0 at h
  refine r_iload_n C dX11_tapAt_0 (rfl : 0 + 1 = 1) rfl ?_
  refine r_if_lt (tgt := 12) C dX11_tapAt_1 (by decide) (rfl : 1 + 3 = 4) (fun c1 => ?_) (fun c1 => ?_)
  · have h := k_t c1 h
    refine r_aload_n C dX11_tapAt_12 (rfl : 12 + 1 = 13) rfl ?_
    refine r_getI (v := c0_26) C dX11_tapAt_13 (rfl : 13 + 3 = 16) fl_X11_187 rfl rfl ec0_26 ?_
    cases h
    exact r_iret C hr dX11_tapAt_16
  · have h := k_f c1 h
    refine r_iload_n C dX11_tapAt_4 (rfl : 4 + 1 = 5) rfl ?_
    refine r_aload_n C dX11_tapAt_5 (rfl : 5 + 1 = 6) rfl ?_
    refine r_getI (v := c0_25) C dX11_tapAt_6 (rfl : 6 + 3 = 9) fl_X11_184 rfl rfl ec0_25 ?_
    refine r_icmp_lt (tgt := 17) C dX11_tapAt_9 (by decide) (rfl : 9 + 3 = 12) (fun c9 => ?_) (fun c9 => ?_)
    · have h := k_t c9 h
      refine r_iconst (v := (0 : Int32)) C dX11_tapAt_17 (rfl : 17 + 1 = 18) rfl ?_
      refine r_istore_n C dX11_tapAt_18 (rfl : 18 + 1 = 19) (by decide) (Nat.le_of_ble_eq_true rfl) ?_
      show k_W _ _ _ _ _ _ _ _ [some (.ref 0), some (.int v1), some (.int (0 : Int32))] _
      refine k_mask [true, true, true] ?_
      exact sX11_tapAt_19 u C hr hR ec0_25 ec0_26 ea7 u v1 (0 : Int32) h
    · have h := k_f c9 h
      refine r_aload_n C dX11_tapAt_12 (rfl : 12 + 1 = 13) rfl ?_
      refine r_getI (v := c0_26) C dX11_tapAt_13 (rfl : 13 + 3 = 16) fl_X11_187 rfl rfl ec0_26 ?_
      cases h
      exact r_iret C hr dX11_tapAt_16
set_option maxHeartbeats 400000 in
set_option maxRecDepth 100000 in
theorem c_X11_tapAt (l : Launch) (u : Nat) (h : k_H) (hsh : h.1 = shM) {c0_25 : Int32} (ec0_25 : h.2.1 0 25 = c0_25) {c0_26 : Int32} (ec0_26 : h.2.1 0 26 = c0_26) {a7 : (Nat → Int32)} (ea7 : h.2.1 7 = a7) {x0 : Int32} {out : Int32} (hf : f_X11_tapAt u c0_25 c0_26 a7 x0 = some out) : k_CT l yX11_tapAt cX11_tapAt 3 (some .int) 0 0 [.ref 0, .int x0] h (some (.int out)) [] := by
  obtain ⟨sh, I, L, Rf⟩ := h
  try dsimp only
  obtain rfl : sh = shM := hsh
  refine k_ofW (by decide) (Nat.le_of_ble_eq_true rfl) ?_
  intro X ad hl hR0 hr C
  have hR : X.R.frames = 0 ∧ X.R.locals = 0 := by rw [hR0]; exact ⟨rfl, rfl⟩
  have h := hf
  unfold f_X11_tapAt at h
  refine k_start (us := []) k_ap_0 ?_
  show k_W X 3 0 0 _ ad (k_ap [] (shM, I, L, Rf)) 0 [some (.ref 0), some (.int x0), none] []
  refine k_mask [true, true, false] ?_
  exact sX11_tapAt_0 u C hr hR ec0_25 ec0_26 ea7 x0 h
/-! LullabyPitModel.isColumn(I)Z -/
theorem ds_X11_isColumn : k_ds [] = true := by decide +kernel
set_option maxHeartbeats 400000 in
set_option maxRecDepth 100000 in
theorem sX11_isColumn_0 (u : Nat) {X : k_X} {ad : Nat → Nat} (C : k_C X cX11_isColumn RX11 2 ad) (hr : X.meth.sig.returnType = (some .boolean)) (hR : X.R.frames = 0 ∧ X.R.locals = 0) {I : Nat → Nat → Int32} {L : Nat → Nat → Int64} {Rf : Nat → Nat → Option Nat} {c0_25 : Int32} (ec0_25 : I 0 25 = c0_25) {out : Int32} : ∀ (v1 : Int32), bX11_isColumn_0 u c0_25 v1 = some out → k_W X 2 0 0 (k_Q X ad (some (.int out)) (k_ap [] (shM, I, L, Rf))) ad (k_ap [] (shM, I, L, Rf)) 0 [some (.ref 0), some (.int v1)] [] := by
  intro v1 h
  unfold bX11_isColumn_0 at h
  refine r_iload_n C dX11_isColumn_0 (rfl : 0 + 1 = 1) rfl ?_
  refine r_if_lt (tgt := 16) C dX11_isColumn_1 (by decide) (rfl : 1 + 3 = 4) (fun c1 => ?_) (fun c1 => ?_)
  · have h := k_t c1 h
    refine r_iconst (v := (0 : Int32)) C dX11_isColumn_16 (rfl : 16 + 1 = 17) rfl ?_
    cases h
    exact r_zret C hr (Or.inl rfl) dX11_isColumn_17
  · have h := k_f c1 h
    refine r_iload_n C dX11_isColumn_4 (rfl : 4 + 1 = 5) rfl ?_
    refine r_aload_n C dX11_isColumn_5 (rfl : 5 + 1 = 6) rfl ?_
    refine r_getI (v := c0_25) C dX11_isColumn_6 (rfl : 6 + 3 = 9) fl_X11_184 rfl rfl ec0_25 ?_
    refine r_icmp_ge (tgt := 16) C dX11_isColumn_9 (by decide) (rfl : 9 + 3 = 12) (fun c9 => ?_) (fun c9 => ?_)
    · have h := k_t c9 h
      refine r_iconst (v := (0 : Int32)) C dX11_isColumn_16 (rfl : 16 + 1 = 17) rfl ?_
      cases h
      exact r_zret C hr (Or.inl rfl) dX11_isColumn_17
    · have h := k_f c9 h
      refine r_iconst (v := (1 : Int32)) C dX11_isColumn_12 (rfl : 12 + 1 = 13) rfl ?_
      refine r_goto (tgt := 17) C dX11_isColumn_13 (by decide) ?_
      cases h
      exact r_zret C hr (Or.inr rfl) dX11_isColumn_17
set_option maxHeartbeats 400000 in
set_option maxRecDepth 100000 in
theorem c_X11_isColumn (l : Launch) (u : Nat) (h : k_H) (hsh : h.1 = shM) {c0_25 : Int32} (ec0_25 : h.2.1 0 25 = c0_25) {x0 : Int32} {out : Int32} (hf : f_X11_isColumn u c0_25 x0 = some out) : k_CT l yX11_isColumn cX11_isColumn 2 (some .boolean) 0 0 [.ref 0, .int x0] h (some (.int out)) [] := by
  obtain ⟨sh, I, L, Rf⟩ := h
  try dsimp only
  obtain rfl : sh = shM := hsh
  refine k_ofW (by decide) (Nat.le_of_ble_eq_true rfl) ?_
  intro X ad hl hR0 hr C
  have hR : X.R.frames = 0 ∧ X.R.locals = 0 := by rw [hR0]; exact ⟨rfl, rfl⟩
  have h := hf
  unfold f_X11_isColumn at h
  refine k_start (us := []) k_ap_0 ?_
  show k_W X 2 0 0 _ ad (k_ap [] (shM, I, L, Rf)) 0 [some (.ref 0), some (.int x0)] []
  refine k_mask [true, true] ?_
  exact sX11_isColumn_0 u C hr hR ec0_25 x0 h
