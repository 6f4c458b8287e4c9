/-! LullabyPitModel.holdsOn(IIJ)J -/
theorem ds_X11_holdsOn : k_ds [(16, 2, 0), (17, 2, 0), (21, 2, 0), (23, 2, 0)] = true := by decide +kernel
set_option maxHeartbeats 400000 in
set_option maxRecDepth 100000 in
theorem sX11_holdsOn_95 (u : Nat) (g : Int32 → Int32 → (Nat → Int32) → (Nat → Int32) → (Nat → Int32) → (Nat → Int32) → (Nat → Int32) → (Nat → Int32) → (Nat → Int32) → (Nat → Int32) → (Nat → Int32) → Int32 → Int32 → Int64 → Option (Int64 × (Nat → Int32) × (Nat → Int32) × (Nat → Int32) × (Nat → Int32))) {fg ng : Nat} {X : k_X} {ad : Nat → Nat} (C : k_C X cX11_holdsOn RX11 8 ad) (hr : X.meth.sig.returnType = (some .long)) (hR : X.R.frames = (fg + 5) ∧ X.R.locals = (ng + 111)) {I : Nat → Nat → Int32} {L : Nat → Nat → Int64} {Rf : Nat → Nat → Option Nat} (hg : H_X11_holdsOn X.l g fg ng) {c0_25 : Int32} (ec0_25 : I 0 25 = c0_25) {c0_26 : Int32} (ec0_26 : I 0 26 = c0_26) {a7 : (Nat → Int32)} (ea7 : I 7 = a7) {a8 : (Nat → Int32)} (ea8 : I 8 = a8) {a13 : (Nat → Int32)} (ea13 : I 13 = a13) {a14 : (Nat → Int32)} (ea14 : I 14 = a14) {a15 : (Nat → Int32)} (ea15 : I 15 = a15) {out : Int64 × (Nat → Int32) × (Nat → Int32) × (Nat → Int32) × (Nat → Int32)} {k22 : (Nat → Int32) → (Nat → Int32) → (Nat → Int32) → (Nat → Int32) → Int32 → Int64 → Int32 → Option (Int64 × (Nat → Int32) × (Nat → Int32) × (Nat → Int32) × (Nat → Int32))} (hk22 : ∀ (a16 : (Nat → Int32)) (a17 : (Nat → Int32)) (a21 : (Nat → Int32)) (a23 : (Nat → Int32)) (v1 : Int32) (v3 : Int64) (v5 : Int32), k22 a16 a17 a21 a23 v1 v3 v5 = some out → k_W X 8 0 0 (k_Q X ad (some (.long out.1)) (k_ap [(16, .inr (.inr (.inl out.2.1))), (17, .inr (.inr (.inl out.2.2.1))), (21, .inr (.inr (.inl out.2.2.2.1))), (23, .inr (.inr (.inl out.2.2.2.2)))] (shM, I, L, Rf))) ad (k_ap [(16, .inr (.inr (.inl a16))), (17, .inr (.inr (.inl a17))), (21, .inr (.inr (.inl a21))), (23, .inr (.inr (.inl a23)))] (shM, I, L, Rf)) 22 [some (.ref 0), some (.int v1), none, some (.long v3), none, some (.int v5), none, none] []) : ∀ (a16 : (Nat → Int32)) (a17 : (Nat → Int32)) (a21 : (Nat → Int32)) (a23 : (Nat → Int32)) (v1 : Int32) (v3 : Int64) (v5 : Int32), bX11_holdsOn_95 u g c0_25 c0_26 a7 a8 a13 a14 a15 k22 a16 a17 a21 a23 v1 v3 v5 = some out → k_W X 8 0 0 (k_Q X ad (some (.long out.1)) (k_ap [(16, .inr (.inr (.inl out.2.1))), (17, .inr (.inr (.inl out.2.2.1))), (21, .inr (.inr (.inl out.2.2.2.1))), (23, .inr (.inr (.inl out.2.2.2.2)))] (shM, I, L, Rf))) ad (k_ap [(16, .inr (.inr (.inl a16))), (17, .inr (.inr (.inl a17))), (21, .inr (.inr (.inl a21))), (23, .inr (.inr (.inl a23)))] (shM, I, L, Rf)) 95 [some (.ref 0), some (.int v1), none, some (.long v3), none, some (.int v5), none, none] [] := by
  intro a16 a17 a21 a23 v1 v3 v5 h
  unfold bX11_holdsOn_95 at h
  refine r_iinc (v := (v5 + (1 : Int32))) C dX11_holdsOn_95 (rfl : 95 + 3 = 98) rfl rfl (by decide) ?_
  show k_W _ _ _ _ _ _ _ _ [some (.ref 0), some (.int v1), none, some (.long v3), none, some (.int (v5 + (1 : Int32))), none, none] _
  refine r_goto (tgt := 22) C dX11_holdsOn_98 (by decide) ?_
  refine k_mask [true, true, false, true, false, true, false, false] ?_
  exact hk22 a16 a17 a21 a23 v1 v3 (v5 + (1 : Int32)) h
set_option maxHeartbeats 400000 in
set_option maxRecDepth 100000 in
theorem sX11_holdsOn_22 (u : Nat) (g : Int32 → Int32 → (Nat → Int32) → (Nat → Int32) → (Nat → Int32) → (Nat → Int32) → (Nat → Int32) → (Nat → Int32) → (Nat → Int32) → (Nat → Int32) → (Nat → Int32) → Int32 → Int32 → Int64 → Option (Int64 × (Nat → Int32) × (Nat → Int32) × (Nat → Int32) × (Nat → Int32))) {fg ng : Nat} {X : k_X} {ad : Nat → Nat} (C : k_C X cX11_holdsOn RX11 8 ad) (hr : X.meth.sig.returnType = (some .long)) (hR : X.R.frames = (fg + 5) ∧ X.R.locals = (ng + 111)) {I : Nat → Nat → Int32} {L : Nat → Nat → Int64} {Rf : Nat → Nat → Option Nat} (hg : H_X11_holdsOn X.l g fg ng) {c0_25 : Int32} (ec0_25 : I 0 25 = c0_25) {c0_26 : Int32} (ec0_26 : I 0 26 = c0_26) {a7 : (Nat → Int32)} (ea7 : I 7 = a7) {a8 : (Nat → Int32)} (ea8 : I 8 = a8) {a13 : (Nat → Int32)} (ea13 : I 13 = a13) {a14 : (Nat → Int32)} (ea14 : I 14 = a14) {a15 : (Nat → Int32)} (ea15 : I 15 = a15) {out : Int64 × (Nat → Int32) × (Nat → Int32) × (Nat → Int32) × (Nat → Int32)} : ∀ (n : Nat) (a16 : (Nat → Int32)) (a17 : (Nat → Int32)) (a21 : (Nat → Int32)) (a23 : (Nat → Int32)) (v1 : Int32) (v3 : Int64) (v5 : Int32), bX11_holdsOn_22 u g c0_25 c0_26 a7 a8 a13 a14 a15 n a16 a17 a21 a23 v1 v3 v5 = some out → k_W X 8 0 0 (k_Q X ad (some (.long out.1)) (k_ap [(16, .inr (.inr (.inl out.2.1))), (17, .inr (.inr (.inl out.2.2.1))), (21, .inr (.inr (.inl out.2.2.2.1))), (23, .inr (.inr (.inl out.2.2.2.2)))] (shM, I, L, Rf))) ad (k_ap [(16, .inr (.inr (.inl a16))), (17, .inr (.inr (.inl a17))), (21, .inr (.inr (.inl a21))), (23, .inr (.inr (.inl a23)))] (shM, I, L, Rf)) 22 [some (.ref 0), some (.int v1), none, some (.long v3), none, some (.int v5), none, none] [] := by
  intro n
  induction n with
  | zero => intro a16 a17 a21 a23 v1 v3 v5 h; cases h
  | succ n ih =>
    intro a16 a17 a21 a23 v1 v3 v5 h
    refine r_iload C dX11_holdsOn_22 (rfl : 22 + 2 = 24) rfl ?_
    refine r_bipush (v := (48 : Int32)) C dX11_holdsOn_24 (rfl : 24 + 2 = 26) rfl ?_
    refine r_icmp_ge (tgt := 101) C dX11_holdsOn_26 (by decide) (rfl : 26 + 3 = 29) (fun c26 => ?_) (fun c26 => ?_)
    · have h := k_t c26 h
      refine r_ldc2 C dX11_holdsOn_101 (rfl : 101 + 3 = 104) ct_X11_446 ?_
      cases h
      exact r_lret C hr dX11_holdsOn_104
    · have h := k_f c26 h
      refine r_aload_n C dX11_holdsOn_29 (rfl : 29 + 1 = 30) rfl ?_
      refine r_getR (q := 21) C dX11_holdsOn_30 (rfl : 30 + 3 = 33) fl_X11_77 rfl rfl ?_
      refine r_iload C dX11_holdsOn_33 (rfl : 33 + 2 = 35) rfl ?_
      obtain ⟨hi35, h⟩ := k_i_of h
      refine a_i (j := (v5).toNatClampNeg) (f := a21) C dX11_holdsOn_35 (rfl : 35 + 1 = 36) rfl rfl hi35 rfl ?_
      refine r_iconst (v := (1 : Int32)) C dX11_holdsOn_36 (rfl : 36 + 1 = 37) rfl ?_
      refine r_icmp_eq (tgt := 43) C dX11_holdsOn_37 (by decide) (rfl : 37 + 3 = 40) (fun c37 => ?_) (fun c37 => ?_)
      · have h := k_t c37 h
        refine r_aload_n C dX11_holdsOn_43 (rfl : 43 + 1 = 44) rfl ?_
        refine r_getR (q := 21) C dX11_holdsOn_44 (rfl : 44 + 3 = 47) fl_X11_77 rfl rfl ?_
        refine r_iload C dX11_holdsOn_47 (rfl : 47 + 2 = 49) rfl ?_
        refine r_iconst (v := (2 : Int32)) C dX11_holdsOn_49 (rfl : 49 + 1 = 50) rfl ?_
        obtain ⟨hi50, h⟩ := k_i_of h
        refine s_i (j := (v5).toNatClampNeg) (f := a21) (us' := [(16, .inr (.inr (.inl a16))), (17, .inr (.inr (.inl a17))), (21, .inr (.inr (.inl (upd a21 ((v5).toNatClampNeg) (2 : Int32))))), (23, .inr (.inr (.inl a23)))]) C dX11_holdsOn_50 (rfl : 50 + 1 = 51) rfl rfl hi50 rfl ds_X11_holdsOn rfl rfl rfl ?_
        refine r_aload_n C dX11_holdsOn_51 (rfl : 51 + 1 = 52) rfl ?_
        refine r_iload_n C dX11_holdsOn_52 (rfl : 52 + 1 = 53) rfl ?_
        refine r_iconst (v := (1 : Int32)) C dX11_holdsOn_53 (rfl : 53 + 1 = 54) rfl ?_
        refine r_isub C dX11_holdsOn_54 (rfl : 54 + 1 = 55) ?_
        refine r_iload C dX11_holdsOn_55 (rfl : 55 + 2 = 57) rfl ?_
        refine r_iconst (v := (1 : Int32)) C dX11_holdsOn_57 (rfl : 57 + 1 = 58) rfl ?_
        refine r_iadd C dX11_holdsOn_58 (rfl : 58 + 1 = 59) ?_
        refine r_ldc2 C dX11_holdsOn_59 (rfl : 59 + 3 = 62) ct_X11_431 ?_
        refine r_lload_n C dX11_holdsOn_62 (rfl : 62 + 1 = 63) rfl ?_
        refine r_lmul C dX11_holdsOn_63 (rfl : 63 + 1 = 64) ?_
        refine r_iload C dX11_holdsOn_64 (rfl : 64 + 2 = 66) rfl ?_
        refine r_i2l C dX11_holdsOn_66 (rfl : 66 + 1 = 67) ?_
        refine r_ladd C dX11_holdsOn_67 (rfl : 67 + 1 = 68) ?_
        refine r_lconst (v := (1 : Int64)) C dX11_holdsOn_68 (rfl : 68 + 1 = 69) rfl ?_
        refine r_ladd C dX11_holdsOn_69 (rfl : 69 + 1 = 70) ?_
        obtain ⟨r70, q70, h⟩ := k_b_of h
        refine d_V (As := [.int (v1 - (1 : Int32)), .int (v5 + (1 : Int32)), .long ((((64 : Int64) * v3) + (v5).toInt64) + (1 : Int64))]) (st := []) (st' := [.long r70.1]) (h' := k_ap [(16, .inr (.inr (.inl r70.2.1))), (17, .inr (.inr (.inl r70.2.2.1))), (21, .inr (.inr (.inl r70.2.2.2.1))), (23, .inr (.inr (.inl r70.2.2.2.2)))] (shM, I, L, Rf)) C hR ⟨Nat.zero_le _, Nat.zero_le _⟩ mv_X11_holdsOn lk_X11_448 dX11_holdsOn_70 (rfl : 70 + 3 = 73) (k_bl (by omega)) (k_bl (by omega)) rfl rfl (hg (k_ap [(16, .inr (.inr (.inl a16))), (17, .inr (.inr (.inl a17))), (21, .inr (.inr (.inl (upd a21 ((v5).toNatClampNeg) (2 : Int32))))), (23, .inr (.inr (.inl a23)))] (shM, I, L, Rf)) rfl ec0_25 ec0_26 ea7 ea8 ea13 ea14 ea15 rfl rfl rfl rfl q70) rfl rfl rfl (k_jn (us' := [(16, .inr (.inr (.inl r70.2.1))), (17, .inr (.inr (.inl r70.2.2.1))), (21, .inr (.inr (.inl r70.2.2.2.1))), (23, .inr (.inr (.inl r70.2.2.2.2)))]) ds_X11_holdsOn rfl rfl rfl) rfl ?_
        refine r_lstore C dX11_holdsOn_73 (rfl : 73 + 2 = 75) (by decide) (Nat.le_of_ble_eq_true rfl) ?_
        show k_W _ _ _ _ _ _ _ _ [some (.ref 0), some (.int v1), none, some (.long v3), none, some (.int v5), some (.long r70.1), none] _
        refine r_aload_n C dX11_holdsOn_75 (rfl : 75 + 1 = 76) rfl ?_
        refine r_getR (q := 21) C dX11_holdsOn_76 (rfl : 76 + 3 = 79) fl_X11_77 rfl rfl ?_
        refine r_iload C dX11_holdsOn_79 (rfl : 79 + 2 = 81) rfl ?_
        refine r_iconst (v := (1 : Int32)) C dX11_holdsOn_81 (rfl : 81 + 1 = 82) rfl ?_
        obtain ⟨hi82, h⟩ := k_i_of h
        refine s_i (j := (v5).toNatClampNeg) (f := r70.2.2.2.1) (us' := [(16, .inr (.inr (.inl r70.2.1))), (17, .inr (.inr (.inl r70.2.2.1))), (21, .inr (.inr (.inl (upd r70.2.2.2.1 ((v5).toNatClampNeg) (1 : Int32))))), (23, .inr (.inr (.inl r70.2.2.2.2)))]) C dX11_holdsOn_82 (rfl : 82 + 1 = 83) rfl rfl hi82 rfl ds_X11_holdsOn rfl rfl rfl ?_
        refine r_lload C dX11_holdsOn_83 (rfl : 83 + 2 = 85) rfl ?_
        refine r_ldc2 C dX11_holdsOn_85 (rfl : 85 + 3 = 88) ct_X11_446 ?_
        refine r_lcmp C dX11_holdsOn_88 (rfl : 88 + 1 = 89) ?_
        refine r_if_eq (tgt := 95) C dX11_holdsOn_89 (by decide) (rfl : 89 + 3 = 92) (fun c89 => ?_) (fun c89 => ?_)
        · have h := k_t c89 h
          refine k_mask [true, true, false, true, false, true, false, false] ?_
          exact sX11_holdsOn_95 u g C hr hR hg ec0_25 ec0_26 ea7 ea8 ea13 ea14 ea15 ih r70.2.1 r70.2.2.1 (upd r70.2.2.2.1 ((v5).toNatClampNeg) (1 : Int32)) r70.2.2.2.2 v1 v3 v5 h
        · have h := k_f c89 h
          refine r_lload C dX11_holdsOn_92 (rfl : 92 + 2 = 94) rfl ?_
          cases h
          exact r_lret C hr dX11_holdsOn_94
      · have h := k_f c37 h
        refine r_goto (tgt := 95) C dX11_holdsOn_40 (by decide) ?_
        refine k_mask [true, true, false, true, false, true, false, false] ?_
        exact sX11_holdsOn_95 u g C hr hR hg ec0_25 ec0_26 ea7 ea8 ea13 ea14 ea15 ih a16 a17 a21 a23 v1 v3 v5 h
set_option maxHeartbeats 400000 in
set_option maxRecDepth 100000 in
theorem sX11_holdsOn_0 (u : Nat) (g : Int32 → Int32 → (Nat → Int32) → (Nat → Int32) → (Nat → Int32) → (Nat → Int32) → (Nat → Int32) → (Nat → Int32) → (Nat → Int32) → (Nat → Int32) → (Nat → Int32) → Int32 → Int32 → Int64 → Option (Int64 × (Nat → Int32) × (Nat → Int32) × (Nat → Int32) × (Nat → Int32))) {fg ng : Nat} {X : k_X} {ad : Nat → Nat} (C : k_C X cX11_holdsOn RX11 8 ad) (hr : X.meth.sig.returnType = (some .long)) (hR : X.R.frames = (fg + 5) ∧ X.R.locals = (ng + 111)) {I : Nat → Nat → Int32} {L : Nat → Nat → Int64} {Rf : Nat → Nat → Option Nat} (hg : H_X11_holdsOn X.l g fg ng) {c0_25 : Int32} (ec0_25 : I 0 25 = c0_25) {c0_26 : Int32} (ec0_26 : I 0 26 = c0_26) {a7 : (Nat → Int32)} (ea7 : I 7 = a7) {a8 : (Nat → Int32)} (ea8 : I 8 = a8) {a13 : (Nat → Int32)} (ea13 : I 13 = a13) {a14 : (Nat → Int32)} (ea14 : I 14 = a14) {a15 : (Nat → Int32)} (ea15 : I 15 = a15) {out : Int64 × (Nat → Int32) × (Nat → Int32) × (Nat → Int32) × (Nat → Int32)} : ∀ (a16 : (Nat → Int32)) (a17 : (Nat → Int32)) (a21 : (Nat → Int32)) (a23 : (Nat → Int32)) (v1 : Int32) (v2 : Int32) (v3 : Int64), bX11_holdsOn_0 u g c0_25 c0_26 a7 a8 a13 a14 a15 a16 a17 a21 a23 v1 v2 v3 = some out → k_W X 8 0 0 (k_Q X ad (some (.long out.1)) (k_ap [(16, .inr (.inr (.inl out.2.1))), (17, .inr (.inr (.inl out.2.2.1))), (21, .inr (.inr (.inl out.2.2.2.1))), (23, .inr (.inr (.inl out.2.2.2.2)))] (shM, I, L, Rf))) ad (k_ap [(16, .inr (.inr (.inl a16))), (17, .inr (.inr (.inl a17))), (21, .inr (.inr (.inl a21))), (23, .inr (.inr (.inl a23)))] (shM, I, L, Rf)) 0 [some (.ref 0), some (.int v1), some (.int v2), some (.long v3), none, none, none, none] [] := by
  intro a16 a17 a21 a23 v1 v2 v3 h
  unfold bX11_holdsOn_0 at h
  refine r_iload_n C dX11_holdsOn_0 (rfl : 0 + 1 = 1) rfl ?_
  refine r_if_ne (tgt := 19) C dX11_holdsOn_1 (by decide) (rfl : 1 + 3 = 4) (fun c1 => ?_) (fun c1 => ?_)
  · have h := k_f c1 h
    refine r_iload_n C dX11_holdsOn_19 (rfl : 19 + 1 = 20) rfl ?_
    refine r_istore C dX11_holdsOn_20 (rfl : 20 + 2 = 22) (by decide) (Nat.le_of_ble_eq_true rfl) ?_
    show k_W _ _ _ _ _ _ _ _ [some (.ref 0), some (.int v1), some (.int v2), some (.long v3), none, some (.int v2), none, none] _
    refine k_mask [true, true, false, true, false, true, false, false] ?_
    exact sX11_holdsOn_22 u g C hr hR hg ec0_25 ec0_26 ea7 ea8 ea13 ea14 ea15 u a16 a17 a21 a23 v1 v3 v2 h
  · have h := k_t c1 h
    refine r_aload_n C dX11_holdsOn_4 (rfl : 4 + 1 = 5) rfl ?_
    obtain ⟨r5, q5, h⟩ := k_b_of h
    refine d_V (As := []) (st := []) (st' := [.int r5.1]) (h' := k_ap [(16, .inr (.inr (.inl r5.2.1))), (17, .inr (.inr (.inl r5.2.2.1))), (21, .inr (.inr (.inl a21))), (23, .inr (.inr (.inl r5.2.2.2)))] (shM, I, L, Rf)) C hR ⟨Nat.zero_le _, Nat.zero_le _⟩ mv_X11_fallNow lk_X11_391 dX11_holdsOn_5 (rfl : 5 + 3 = 8) (k_bl (by omega)) (k_bl (by omega)) rfl rfl (c_X11_fallNow X.l u (k_ap [(16, .inr (.inr (.inl a16))), (17, .inr (.inr (.inl a17))), (21, .inr (.inr (.inl a21))), (23, .inr (.inr (.inl a23)))] (shM, I, L, Rf)) rfl ec0_25 ec0_26 ea7 ea8 ea13 ea14 ea15 rfl rfl rfl rfl q5) rfl rfl rfl (k_jn (us' := [(16, .inr (.inr (.inl r5.2.1))), (17, .inr (.inr (.inl r5.2.2.1))), (21, .inr (.inr (.inl a21))), (23, .inr (.inr (.inl r5.2.2.2)))]) ds_X11_holdsOn rfl rfl rfl) rfl ?_
    refine r_if_ne (tgt := 15) C dX11_holdsOn_8 (by decide) (rfl : 8 + 3 = 11) (fun c8 => ?_) (fun c8 => ?_)
    · have h := k_f c8 h
      refine r_ldc2 C dX11_holdsOn_15 (rfl : 15 + 3 = 18) ct_X11_446 ?_
      cases h
      exact r_lret C hr dX11_holdsOn_18
    · have h := k_t c8 h
      refine r_lload_n C dX11_holdsOn_11 (rfl : 11 + 1 = 12) rfl ?_
      refine r_goto (tgt := 18) C dX11_holdsOn_12 (by decide) ?_
      cases h
      exact r_lret C hr dX11_holdsOn_18
set_option maxHeartbeats 400000 in
set_option maxRecDepth 100000 in
theorem c_X11_holdsOn (l : Launch) (u : Nat) (g : Int32 → Int32 → (Nat → Int32) → (Nat → Int32) → (Nat → Int32) → (Nat → Int32) → (Nat → Int32) → (Nat → Int32) → (Nat → Int32) → (Nat → Int32) → (Nat → Int32) → Int32 → Int32 → Int64 → Option (Int64 × (Nat → Int32) × (Nat → Int32) × (Nat → Int32) × (Nat → Int32))) {fg ng : Nat} (hg : H_X11_holdsOn l g fg ng) (h : k_H) (hsh : h.1 = shM) {c0_25 : Int32} (ec0_25 : h.2.1 0 25 = c0_25) {c0_26 : Int32} (ec0_26 : h.2.1 0 26 = c0_26) {a7 : (Nat → Int32)} (ea7 : h.2.1 7 = a7) {a8 : (Nat → Int32)} (ea8 : h.2.1 8 = a8) {a13 : (Nat → Int32)} (ea13 : h.2.1 13 = a13) {a14 : (Nat → Int32)} (ea14 : h.2.1 14 = a14) {a15 : (Nat → Int32)} (ea15 : h.2.1 15 = a15) {a16 : (Nat → Int32)} (ea16 : h.2.1 16 = a16) {a17 : (Nat → Int32)} (ea17 : h.2.1 17 = a17) {a21 : (Nat → Int32)} (ea21 : h.2.1 21 = a21) {a23 : (Nat → Int32)} (ea23 : h.2.1 23 = a23) {x0 : Int32} {x1 : Int32} {x2 : Int64} {out : Int64 × (Nat → Int32) × (Nat → Int32) × (Nat → Int32) × (Nat → Int32)} (hf : f_X11_holdsOn u g c0_25 c0_26 a7 a8 a13 a14 a15 a16 a17 a21 a23 x0 x1 x2 = some out) : k_CT l yX11_holdsOn cX11_holdsOn 8 (some .long) (fg + 5) (ng + 111) [.ref 0, .int x0, .int x1, .long x2] h (some (.long out.1)) [(16, .inr (.inr (.inl out.2.1))), (17, .inr (.inr (.inl out.2.2.1))), (21, .inr (.inr (.inl out.2.2.2.1))), (23, .inr (.inr (.inl out.2.2.2.2)))] := by
  obtain ⟨sh, I, L, Rf⟩ := h
  try dsimp only
  obtain rfl : sh = shM := hsh
  refine k_ofW (by decide) (Nat.le_of_ble_eq_true rfl) ?_
  intro X ad hl hR0 hr C
  have hg : H_X11_holdsOn X.l g fg ng := by rw [hl]; exact hg
  have hR : X.R.frames = (fg + 5) ∧ X.R.locals = (ng + 111) := by rw [hR0]; exact ⟨rfl, rfl⟩
  have h := hf
  unfold f_X11_holdsOn at h
  refine k_start (us := [(16, .inr (.inr (.inl a16))), (17, .inr (.inr (.inl a17))), (21, .inr (.inr (.inl a21))), (23, .inr (.inr (.inl a23)))]) (k_ao_A ea16 (k_ao_A ea17 (k_ao_A ea21 (k_ao_A ea23 k_ap_0)))) ?_
  show k_W X 8 0 0 _ ad (k_ap [(16, .inr (.inr (.inl a16))), (17, .inr (.inr (.inl a17))), (21, .inr (.inr (.inl a21))), (23, .inr (.inr (.inl a23)))] (shM, I, L, Rf)) 0 [some (.ref 0), some (.int x0), some (.int x1), some (.long x2), none, none, none, none] []
  refine k_mask [true, true, true, true, false, false, false, false] ?_
  exact sX11_holdsOn_0 u g C hr hR hg ec0_25 ec0_26 ea7 ea8 ea13 ea14 ea15 a16 a17 a21 a23 x0 x1 x2 h
theorem c_X11_holdsOn_r (l : Launch) (u : Nat) : ∀ d : Nat, H_X11_holdsOn l (f_X11_holdsOn_r u d) (5 * d) (111 * d)
  | 0 => by
    intro h hsh
    intros
    rename_i hf
    cases hf
  | d + 1 => by
    intro h hsh
    intros
    rename_i hf
    exact c_X11_holdsOn l u (f_X11_holdsOn_r u d) (c_X11_holdsOn_r l u d) h hsh (by assumption) (by assumption) (by assumption) (by assumption) (by assumption) (by assumption) (by assumption) (by assumption) (by assumption) (by assumption) (by assumption) hf
def H_X1_readSum (l : Launch) (g : Int32 → (Nat → Int32) → Int32 → Int32 → Int32 → Int32 → Int32 → (Nat → Int32) → Int32 → Option (Int32 × (Nat → Int32) × Int32 × Int32 × Int32 × Int32)) (fg ng : Nat) : Prop := ∀ (h : k_H) (hsh : h.1 = shLawTape) {c0_2 : Int32} (ec0_2 : h.2.1 0 2 = c0_2) {a1 : (Nat → Int32)} (ea1 : h.2.1 1 = a1) {c3_2 : Int32} (ec3_2 : h.2.1 3 2 = c3_2) {c3_3 : Int32} (ec3_3 : h.2.1 3 3 = c3_3) {c3_4 : Int32} (ec3_4 : h.2.1 3 4 = c3_4) {c3_5 : Int32} (ec3_5 : h.2.1 3 5 = c3_5) {c3_6 : Int32} (ec3_6 : h.2.1 3 6 = c3_6) {a4 : (Nat → Int32)} (ea4 : h.2.1 4 = a4) {x1 : Int32} {out : Int32 × (Nat → Int32) × Int32 × Int32 × Int32 × Int32} (hf : g c0_2 a1 c3_2 c3_3 c3_4 c3_5 c3_6 a4 x1 = some out), k_CT l yX1_readSum cX1_readSum 5 none fg ng [.ref 0, .ref 3, .int x1] h none [(0, .inl (2, out.1)), (1, .inr (.inr (.inl out.2.1))), (3, .inl (3, out.2.2.1)), (3, .inl (4, out.2.2.2.1)), (3, .inl (5, out.2.2.2.2.1)), (3, .inl (6, out.2.2.2.2.2))]
/-! LullabyPit$Law.readBracket(LLullabyPit$Tape;I)V -/
theorem ds_X1_readBracket : k_ds [(0, 0, 2), (1, 2, 0), (3, 0, 3), (3, 0, 4), (3, 0, 5), (3, 0, 6)] = true := by decide +kernel
set_option maxHeartbeats 400000 in
set_option maxRecDepth 100000 in
theorem sX1_readBracket_0 (u : Nat) (g : Int32 → (Nat → Int32) → Int32 → Int32 → Int32 → Int32 → Int32 → (Nat → Int32) → Int32 → Option (Int32 × (Nat → Int32) × Int32 × Int32 × Int32 × Int32)) {fg ng : Nat} {X : k_X} {ad : Nat → Nat} (C : k_C X cX1_readBracket RX1 3 ad) (hr : X.meth.sig.returnType = none) (hR : X.R.frames = (fg + 2) ∧ X.R.locals = (ng + 43)) {I : Nat → Nat → Int32} {L : Nat → Nat → Int64} {Rf : Nat → Nat → Option Nat} (hg : H_X1_readSum X.l g fg ng) {c3_2 : Int32} (ec3_2 : I 3 2 = c3_2) {a4 : (Nat → Int32)} (ea4 : I 4 = a4) {out : Int32 × (Nat → Int32) × Int32 × Int32 × Int32 × Int32} : ∀ (c0_2 : Int32) (a1 : (Nat → Int32)) (c3_3 : Int32) (c3_4 : Int32) (c3_5 : Int32) (c3_6 : Int32) (v2 : Int32), bX1_readBracket_0 u g c3_2 a4 c0_2 a1 c3_3 c3_4 c3_5 c3_6 v2 = some out → k_W X 3 0 0 (k_Q X ad none (k_ap [(0, .inl (2, out.1)), (1, .inr (.inr (.inl out.2.1))), (3, .inl (3, out.2.2.1)), (3, .inl (4, out.2.2.2.1)), (3, .inl (5, out.2.2.2.2.1)), (3, .inl (6, out.2.2.2.2.2))] (shLawTape, I, L, Rf))) ad (k_ap [(0, .inl (2, c0_2)), (1, .inr (.inr (.inl a1))), (3, .inl (3, c3_3)), (3, .inl (4, c3_4)), (3, .inl (5, c3_5)), (3, .inl (6, c3_6))] (shLawTape, I, L, Rf)) 0 [some (.ref 0), some (.ref 3), some (.int v2)] [] := by
  intro c0_2 a1 c3_3 c3_4 c3_5 c3_6 v2 h
  unfold bX1_readBracket_0 at h
  refine r_iload_n C dX1_readBracket_0 (rfl : 0 + 1 = 1) rfl ?_
  refine r_bipush (v := (6 : Int32)) C dX1_readBracket_1 (rfl : 1 + 2 = 3) rfl ?_
  refine r_icmp_lt (tgt := 12) C dX1_readBracket_3 (by decide) (rfl : 3 + 3 = 6) (fun c3 => ?_) (fun c3 => ?_)
  · have h := k_t c3 h
    refine r_aload_n C dX1_readBracket_12 (rfl : 12 + 1 = 13) rfl ?_
    refine r_bipush (v := (40 : Int32)) C dX1_readBracket_13 (rfl : 13 + 2 = 15) rfl ?_
    obtain ⟨r15, q15, h⟩ := k_b_of h
    refine d_Vp (pi := [3, 4]) (shl := shTape) (bl := 0) (As := [.int (40 : Int32)]) (Al := [.int (40 : Int32)]) (st := []) (st' := []) (h' := k_ap [(0, .inl (2, c0_2)), (1, .inr (.inr (.inl a1))), (3, .inl (3, r15.1)), (3, .inl (4, c3_4)), (3, .inl (5, r15.2.1)), (3, .inl (6, r15.2.2))] (shLawTape, I, L, Rf)) C hR ⟨Nat.zero_le _, Nat.zero_le _⟩ mv_X8_sign lk_X1_52 dX1_readBracket_15 (rfl : 15 + 3 = 18) (k_bl (by omega)) (k_bl (by omega)) ck_shLawTape_shTape_3 rfl rfl (c_X8_sign X.l u (k_pl [3, 4] shTape (k_ap [(0, .inl (2, c0_2)), (1, .inr (.inr (.inl a1))), (3, .inl (3, c3_3)), (3, .inl (4, c3_4)), (3, .inl (5, c3_5)), (3, .inl (6, c3_6))] (shLawTape, I, L, Rf))) rfl ec3_2 rfl rfl rfl ea4 q15) rfl (fun _ => rfl) rfl (fun _ => rfl) rfl rfl rfl (k_jn (us' := [(0, .inl (2, c0_2)), (1, .inr (.inr (.inl a1))), (3, .inl (3, r15.1)), (3, .inl (4, c3_4)), (3, .inl (5, r15.2.1)), (3, .inl (6, r15.2.2))]) ds_X1_readBracket rfl rfl rfl) rfl ?_
    refine r_aload_n C dX1_readBracket_18 (rfl : 18 + 1 = 19) rfl ?_
    refine r_aload_n C dX1_readBracket_19 (rfl : 19 + 1 = 20) rfl ?_
    refine r_iload_n C dX1_readBracket_20 (rfl : 20 + 1 = 21) rfl ?_
    refine r_iconst (v := (1 : Int32)) C dX1_readBracket_21 (rfl : 21 + 1 = 22) rfl ?_
    refine r_iadd C dX1_readBracket_22 (rfl : 22 + 1 = 23) ?_
    obtain ⟨r23, q23, h⟩ := k_b_of h
    refine d_V (As := [.ref 3, .int (v2 + (1 : Int32))]) (st := []) (st' := []) (h' := k_ap [(0, .inl (2, r23.1)), (1, .inr (.inr (.inl r23.2.1))), (3, .inl (3, r23.2.2.1)), (3, .inl (4, r23.2.2.2.1)), (3, .inl (5, r23.2.2.2.2.1)), (3, .inl (6, r23.2.2.2.2.2))] (shLawTape, I, L, Rf)) C hR ⟨Nat.zero_le _, Nat.zero_le _⟩ mv_X1_readSum lk_X1_32 dX1_readBracket_23 (rfl : 23 + 3 = 26) (k_bl (by omega)) (k_bl (by omega)) rfl rfl (hg (k_ap [(0, .inl (2, c0_2)), (1, .inr (.inr (.inl a1))), (3, .inl (3, r15.1)), (3, .inl (4, c3_4)), (3, .inl (5, r15.2.1)), (3, .inl (6, r15.2.2))] (shLawTape, I, L, Rf)) rfl rfl rfl ec3_2 rfl rfl rfl rfl ea4 q23) rfl rfl rfl (k_jn (us' := [(0, .inl (2, r23.1)), (1, .inr (.inr (.inl r23.2.1))), (3, .inl (3, r23.2.2.1)), (3, .inl (4, r23.2.2.2.1)), (3, .inl (5, r23.2.2.2.2.1)), (3, .inl (6, r23.2.2.2.2.2))]) ds_X1_readBracket rfl rfl rfl) rfl ?_
    refine r_aload_n C dX1_readBracket_26 (rfl : 26 + 1 = 27) rfl ?_
    refine r_bipush (v := (41 : Int32)) C dX1_readBracket_27 (rfl : 27 + 2 = 29) rfl ?_
    obtain ⟨r29, q29, h⟩ := k_b_of h
    refine d_Vp (pi := [3, 4]) (shl := shTape) (bl := 0) (As := [.int (41 : Int32)]) (Al := [.int (41 : Int32)]) (st := []) (st' := []) (h' := k_ap [(0, .inl (2, r23.1)), (1, .inr (.inr (.inl r23.2.1))), (3, .inl (3, r29.1)), (3, .inl (4, r23.2.2.2.1)), (3, .inl (5, r29.2.1)), (3, .inl (6, r29.2.2))] (shLawTape, I, L, Rf)) C hR ⟨Nat.zero_le _, Nat.zero_le _⟩ mv_X8_sign lk_X1_52 dX1_readBracket_29 (rfl : 29 + 3 = 32) (k_bl (by omega)) (k_bl (by omega)) ck_shLawTape_shTape_3 rfl rfl (c_X8_sign X.l u (k_pl [3, 4] shTape (k_ap [(0, .inl (2, r23.1)), (1, .inr (.inr (.inl r23.2.1))), (3, .inl (3, r23.2.2.1)), (3, .inl (4, r23.2.2.2.1)), (3, .inl (5, r23.2.2.2.2.1)), (3, .inl (6, r23.2.2.2.2.2))] (shLawTape, I, L, Rf))) rfl ec3_2 rfl rfl rfl ea4 q29) rfl (fun _ => rfl) rfl (fun _ => rfl) rfl rfl rfl (k_jn (us' := [(0, .inl (2, r23.1)), (1, .inr (.inr (.inl r23.2.1))), (3, .inl (3, r29.1)), (3, .inl (4, r23.2.2.2.1)), (3, .inl (5, r29.2.1)), (3, .inl (6, r29.2.2))]) ds_X1_readBracket rfl rfl rfl) rfl ?_
    cases h
    exact r_vret C hr dX1_readBracket_32
  · have h := k_f c3 h
    refine r_aload_n C dX1_readBracket_6 (rfl : 6 + 1 = 7) rfl ?_
    refine r_iconst (v := (3 : Int32)) C dX1_readBracket_7 (rfl : 7 + 1 = 8) rfl ?_
    obtain ⟨r8, q8, h⟩ := k_b_of h
    refine d_Vp (pi := [3, 4]) (shl := shTape) (bl := 0) (As := [.int (3 : Int32)]) (Al := [.int (3 : Int32)]) (st := []) (st' := []) (h' := k_ap [(0, .inl (2, c0_2)), (1, .inr (.inr (.inl a1))), (3, .inl (3, r8.1)), (3, .inl (4, c3_4)), (3, .inl (5, r8.2.1)), (3, .inl (6, r8.2.2))] (shLawTape, I, L, Rf)) C hR ⟨Nat.zero_le _, Nat.zero_le _⟩ mv_X8_failHere lk_X1_78 dX1_readBracket_8 (rfl : 8 + 3 = 11) (k_bl (by omega)) (k_bl (by omega)) ck_shLawTape_shTape_3 rfl rfl (c_X8_failHere X.l u (k_pl [3, 4] shTape (k_ap [(0, .inl (2, c0_2)), (1, .inr (.inr (.inl a1))), (3, .inl (3, c3_3)), (3, .inl (4, c3_4)), (3, .inl (5, c3_5)), (3, .inl (6, c3_6))] (shLawTape, I, L, Rf))) rfl ec3_2 rfl rfl rfl ea4 q8) rfl (fun _ => rfl) rfl (fun _ => rfl) rfl rfl rfl (k_jn (us' := [(0, .inl (2, c0_2)), (1, .inr (.inr (.inl a1))), (3, .inl (3, r8.1)), (3, .inl (4, c3_4)), (3, .inl (5, r8.2.1)), (3, .inl (6, r8.2.2))]) ds_X1_readBracket rfl rfl rfl) rfl ?_
    cases h
    exact r_vret C hr dX1_readBracket_11
set_option maxHeartbeats 400000 in
set_option maxRecDepth 100000 in
theorem c_X1_readBracket (l : Launch) (u : Nat) (g : Int32 → (Nat → Int32) → Int32 → Int32 → Int32 → Int32 → Int32 → (Nat → Int32) → Int32 → Option (Int32 × (Nat → Int32) × Int32 × Int32 × Int32 × Int32)) {fg ng : Nat} (hg : H_X1_readSum l g fg ng) (h : k_H) (hsh : h.1 = shLawTape) {c0_2 : Int32} (ec0_2 : h.2.1 0 2 = c0_2) {a1 : (Nat → Int32)} (ea1 : h.2.1 1 = a1) {c3_2 : Int32} (ec3_2 : h.2.1 3 2 = c3_2) {c3_3 : Int32} (ec3_3 : h.2.1 3 3 = c3_3) {c3_4 : Int32} (ec3_4 : h.2.1 3 4 = c3_4) {c3_5 : Int32} (ec3_5 : h.2.1 3 5 = c3_5) {c3_6 : Int32} (ec3_6 : h.2.1 3 6 = c3_6) {a4 : (Nat → Int32)} (ea4 : h.2.1 4 = a4) {x1 : Int32} {out : Int32 × (Nat → Int32) × Int32 × Int32 × Int32 × Int32} (hf : f_X1_readBracket u g c0_2 a1 c3_2 c3_3 c3_4 c3_5 c3_6 a4 x1 = some out) : k_CT l yX1_readBracket cX1_readBracket 3 none (fg + 2) (ng + 43) [.ref 0, .ref 3, .int x1] h none [(0, .inl (2, out.1)), (1, .inr (.inr (.inl out.2.1))), (3, .inl (3, out.2.2.1)), (3, .inl (4, out.2.2.2.1)), (3, .inl (5, out.2.2.2.2.1)), (3, .inl (6, out.2.2.2.2.2))] := by
  obtain ⟨sh, I, L, Rf⟩ := h
  try dsimp only
  obtain rfl : sh = shLawTape := hsh
  refine k_ofW (by decide) (Nat.le_of_ble_eq_true rfl) ?_
  intro X ad hl hR0 hr C
  have hg : H_X1_readSum X.l g fg ng := by rw [hl]; exact hg
  have hR : X.R.frames = (fg + 2) ∧ X.R.locals = (ng + 43) := by rw [hR0]; exact ⟨rfl, rfl⟩
  have h := hf
  unfold f_X1_readBracket at h
  refine k_start (us := [(0, .inl (2, c0_2)), (1, .inr (.inr (.inl a1))), (3, .inl (3, c3_3)), (3, .inl (4, c3_4)), (3, .inl (5, c3_5)), (3, .inl (6, c3_6))]) (k_ao_I ec0_2 (k_ao_A ea1 (k_ao_I ec3_3 (k_ao_I ec3_4 (k_ao_I ec3_5 (k_ao_I ec3_6 k_ap_0)))))) ?_
  show k_W X 3 0 0 _ ad (k_ap [(0, .inl (2, c0_2)), (1, .inr (.inr (.inl a1))), (3, .inl (3, c3_3)), (3, .inl (4, c3_4)), (3, .inl (5, c3_5)), (3, .inl (6, c3_6))] (shLawTape, I, L, Rf)) 0 [some (.ref 0), some (.ref 3), some (.int x1)] []
  refine k_mask [true, true, true] ?_
  exact sX1_readBracket_0 u g C hr hR hg ec3_2 ea4 c0_2 a1 c3_3 c3_4 c3_5 c3_6 x1 h
/-! LullabyPit$Law.readPair(LLullabyPit$Tape;I)V -/
theorem ds_X1_readPair : k_ds [(0, 0, 2), (1, 2, 0), (3, 0, 3), (3, 0, 4), (3, 0, 5), (3, 0, 6)] = true := by decide +kernel
set_option maxHeartbeats 400000 in
set_option maxRecDepth 100000 in
theorem sX1_readPair_0 (u : Nat) (g : Int32 → (Nat → Int32) → Int32 → Int32 → Int32 → Int32 → Int32 → (Nat → Int32) → Int32 → Option (Int32 × (Nat → Int32) × Int32 × Int32 × Int32 × Int32)) {fg ng : Nat} {X : k_X} {ad : Nat → Nat} (C : k_C X cX1_readPair RX1 3 ad) (hr : X.meth.sig.returnType = none) (hR : X.R.frames = (fg + 2) ∧ X.R.locals = (ng + 43)) {I : Nat → Nat → Int32} {L : Nat → Nat → Int64} {Rf : Nat → Nat → Option Nat} (hg : H_X1_readSum X.l g fg ng) {c3_2 : Int32} (ec3_2 : I 3 2 = c3_2) {a4 : (Nat → Int32)} (ea4 : I 4 = a4) {out : Int32 × (Nat → Int32) × Int32 × Int32 × Int32 × Int32} : ∀ (c0_2 : Int32) (a1 : (Nat → Int32)) (c3_3 : Int32) (c3_4 : Int32) (c3_5 : Int32) (c3_6 : Int32) (v2 : Int32), bX1_readPair_0 u g c3_2 a4 c0_2 a1 c3_3 c3_4 c3_5 c3_6 v2 = some out → k_W X 3 0 0 (k_Q X ad none (k_ap [(0, .inl (2, out.1)), (1, .inr (.inr (.inl out.2.1))), (3, .inl (3, out.2.2.1)), (3, .inl (4, out.2.2.2.1)), (3, .inl (5, out.2.2.2.2.1)), (3, .inl (6, out.2.2.2.2.2))] (shLawTape, I, L, Rf))) ad (k_ap [(0, .inl (2, c0_2)), (1, .inr (.inr (.inl a1))), (3, .inl (3, c3_3)), (3, .inl (4, c3_4)), (3, .inl (5, c3_5)), (3, .inl (6, c3_6))] (shLawTape, I, L, Rf)) 0 [some (.ref 0), some (.ref 3), some (.int v2)] [] := by
  intro c0_2 a1 c3_3 c3_4 c3_5 c3_6 v2 h
  unfold bX1_readPair_0 at h
  refine r_iload_n C dX1_readPair_0 (rfl : 0 + 1 = 1) rfl ?_
  refine r_bipush (v := (6 : Int32)) C dX1_readPair_1 (rfl : 1 + 2 = 3) rfl ?_
  refine r_icmp_lt (tgt := 16) C dX1_readPair_3 (by decide) (rfl : 3 + 3 = 6) (fun c3 => ?_) (fun c3 => ?_)
  · have h := k_t c3 h
    refine r_aload_n C dX1_readPair_16 (rfl : 16 + 1 = 17) rfl ?_
    refine r_bipush (v := (91 : Int32)) C dX1_readPair_17 (rfl : 17 + 2 = 19) rfl ?_
    obtain ⟨r19, q19, h⟩ := k_b_of h
    refine d_Vp (pi := [3, 4]) (shl := shTape) (bl := 0) (As := [.int (91 : Int32)]) (Al := [.int (91 : Int32)]) (st := []) (st' := []) (h' := k_ap [(0, .inl (2, c0_2)), (1, .inr (.inr (.inl a1))), (3, .inl (3, r19.1)), (3, .inl (4, c3_4)), (3, .inl (5, r19.2.1)), (3, .inl (6, r19.2.2))] (shLawTape, I, L, Rf)) C hR ⟨Nat.zero_le _, Nat.zero_le _⟩ mv_X8_sign lk_X1_52 dX1_readPair_19 (rfl : 19 + 3 = 22) (k_bl (by omega)) (k_bl (by omega)) ck_shLawTape_shTape_3 rfl rfl (c_X8_sign X.l u (k_pl [3, 4] shTape (k_ap [(0, .inl (2, c0_2)), (1, .inr (.inr (.inl a1))), (3, .inl (3, c3_3)), (3, .inl (4, c3_4)), (3, .inl (5, c3_5)), (3, .inl (6, c3_6))] (shLawTape, I, L, Rf))) rfl ec3_2 rfl rfl rfl ea4 q19) rfl (fun _ => rfl) rfl (fun _ => rfl) rfl rfl rfl (k_jn (us' := [(0, .inl (2, c0_2)), (1, .inr (.inr (.inl a1))), (3, .inl (3, r19.1)), (3, .inl (4, c3_4)), (3, .inl (5, r19.2.1)), (3, .inl (6, r19.2.2))]) ds_X1_readPair rfl rfl rfl) rfl ?_
    refine r_aload_n C dX1_readPair_22 (rfl : 22 + 1 = 23) rfl ?_
    refine r_aload_n C dX1_readPair_23 (rfl : 23 + 1 = 24) rfl ?_
    refine r_iload_n C dX1_readPair_24 (rfl : 24 + 1 = 25) rfl ?_
    refine r_iconst (v := (1 : Int32)) C dX1_readPair_25 (rfl : 25 + 1 = 26) rfl ?_
    refine r_iadd C dX1_readPair_26 (rfl : 26 + 1 = 27) ?_
    obtain ⟨r27, q27, h⟩ := k_b_of h
    refine d_V (As := [.ref 3, .int (v2 + (1 : Int32))]) (st := []) (st' := []) (h' := k_ap [(0, .inl (2, r27.1)), (1, .inr (.inr (.inl r27.2.1))), (3, .inl (3, r27.2.2.1)), (3, .inl (4, r27.2.2.2.1)), (3, .inl (5, r27.2.2.2.2.1)), (3, .inl (6, r27.2.2.2.2.2))] (shLawTape, I, L, Rf)) C hR ⟨Nat.zero_le _, Nat.zero_le _⟩ mv_X1_readSum lk_X1_32 dX1_readPair_27 (rfl : 27 + 3 = 30) (k_bl (by omega)) (k_bl (by omega)) rfl rfl (hg (k_ap [(0, .inl (2, c0_2)), (1, .inr (.inr (.inl a1))), (3, .inl (3, r19.1)), (3, .inl (4, c3_4)), (3, .inl (5, r19.2.1)), (3, .inl (6, r19.2.2))] (shLawTape, I, L, Rf)) rfl rfl rfl ec3_2 rfl rfl rfl rfl ea4 q27) rfl rfl rfl (k_jn (us' := [(0, .inl (2, r27.1)), (1, .inr (.inr (.inl r27.2.1))), (3, .inl (3, r27.2.2.1)), (3, .inl (4, r27.2.2.2.1)), (3, .inl (5, r27.2.2.2.2.1)), (3, .inl (6, r27.2.2.2.2.2))]) ds_X1_readPair rfl rfl rfl) rfl ?_
    refine r_aload_n C dX1_readPair_30 (rfl : 30 + 1 = 31) rfl ?_
    refine r_bipush (v := (44 : Int32)) C dX1_readPair_31 (rfl : 31 + 2 = 33) rfl ?_
    obtain ⟨r33, q33, h⟩ := k_b_of h
    refine d_Vp (pi := [3, 4]) (shl := shTape) (bl := 0) (As := [.int (44 : Int32)]) (Al := [.int (44 : Int32)]) (st := []) (st' := []) (h' := k_ap [(0, .inl (2, r27.1)), (1, .inr (.inr (.inl r27.2.1))), (3, .inl (3, r33.1)), (3, .inl (4, r27.2.2.2.1)), (3, .inl (5, r33.2.1)), (3, .inl (6, r33.2.2))] (shLawTape, I, L, Rf)) C hR ⟨Nat.zero_le _, Nat.zero_le _⟩ mv_X8_sign lk_X1_52 dX1_readPair_33 (rfl : 33 + 3 = 36) (k_bl (by omega)) (k_bl (by omega)) ck_shLawTape_shTape_3 rfl rfl (c_X8_sign X.l u (k_pl [3, 4] shTape (k_ap [(0, .inl (2, r27.1)), (1, .inr (.inr (.inl r27.2.1))), (3, .inl (3, r27.2.2.1)), (3, .inl (4, r27.2.2.2.1)), (3, .inl (5, r27.2.2.2.2.1)), (3, .inl (6, r27.2.2.2.2.2))] (shLawTape, I, L, Rf))) rfl ec3_2 rfl rfl rfl ea4 q33) rfl (fun _ => rfl) rfl (fun _ => rfl) rfl rfl rfl (k_jn (us' := [(0, .inl (2, r27.1)), (1, .inr (.inr (.inl r27.2.1))), (3, .inl (3, r33.1)), (3, .inl (4, r27.2.2.2.1)), (3, .inl (5, r33.2.1)), (3, .inl (6, r33.2.2))]) ds_X1_readPair rfl rfl rfl) rfl ?_
    refine r_aload_n C dX1_readPair_36 (rfl : 36 + 1 = 37) rfl ?_
    refine r_aload_n C dX1_readPair_37 (rfl : 37 + 1 = 38) rfl ?_
    refine r_iload_n C dX1_readPair_38 (rfl : 38 + 1 = 39) rfl ?_
    refine r_iconst (v := (1 : Int32)) C dX1_readPair_39 (rfl : 39 + 1 = 40) rfl ?_
    refine r_iadd C dX1_readPair_40 (rfl : 40 + 1 = 41) ?_
    obtain ⟨r41, q41, h⟩ := k_b_of h
    refine d_V (As := [.ref 3, .int (v2 + (1 : Int32))]) (st := []) (st' := []) (h' := k_ap [(0, .inl (2, r41.1)), (1, .inr (.inr (.inl r41.2.1))), (3, .inl (3, r41.2.2.1)), (3, .inl (4, r41.2.2.2.1)), (3, .inl (5, r41.2.2.2.2.1)), (3, .inl (6, r41.2.2.2.2.2))] (shLawTape, I, L, Rf)) C hR ⟨Nat.zero_le _, Nat.zero_le _⟩ mv_X1_readSum lk_X1_32 dX1_readPair_41 (rfl : 41 + 3 = 44) (k_bl (by omega)) (k_bl (by omega)) rfl rfl (hg (k_ap [(0, .inl (2, r27.1)), (1, .inr (.inr (.inl r27.2.1))), (3, .inl (3, r33.1)), (3, .inl (4, r27.2.2.2.1)), (3, .inl (5, r33.2.1)), (3, .inl (6, r33.2.2))] (shLawTape, I, L, Rf)) rfl rfl rfl ec3_2 rfl rfl rfl rfl ea4 q41) rfl rfl rfl (k_jn (us' := [(0, .inl (2, r41.1)), (1, .inr (.inr (.inl r41.2.1))), (3, .inl (3, r41.2.2.1)), (3, .inl (4, r41.2.2.2.1)), (3, .inl (5, r41.2.2.2.2.1)), (3, .inl (6, r41.2.2.2.2.2))]) ds_X1_readPair rfl rfl rfl) rfl ?_
    refine r_aload_n C dX1_readPair_44 (rfl : 44 + 1 = 45) rfl ?_
    refine r_bipush (v := (93 : Int32)) C dX1_readPair_45 (rfl : 45 + 2 = 47) rfl ?_
    obtain ⟨r47, q47, h⟩ := k_b_of h
    refine d_Vp (pi := [3, 4]) (shl := shTape) (bl := 0) (As := [.int (93 : Int32)]) (Al := [.int (93 : Int32)]) (st := []) (st' := []) (h' := k_ap [(0, .inl (2, r41.1)), (1, .inr (.inr (.inl r41.2.1))), (3, .inl (3, r47.1)), (3, .inl (4, r41.2.2.2.1)), (3, .inl (5, r47.2.1)), (3, .inl (6, r47.2.2))] (shLawTape, I, L, Rf)) C hR ⟨Nat.zero_le _, Nat.zero_le _⟩ mv_X8_sign lk_X1_52 dX1_readPair_47 (rfl : 47 + 3 = 50) (k_bl (by omega)) (k_bl (by omega)) ck_shLawTape_shTape_3 rfl rfl (c_X8_sign X.l u (k_pl [3, 4] shTape (k_ap [(0, .inl (2, r41.1)), (1, .inr (.inr (.inl r41.2.1))), (3, .inl (3, r41.2.2.1)), (3, .inl (4, r41.2.2.2.1)), (3, .inl (5, r41.2.2.2.2.1)), (3, .inl (6, r41.2.2.2.2.2))] (shLawTape, I, L, Rf))) rfl ec3_2 rfl rfl rfl ea4 q47) rfl (fun _ => rfl) rfl (fun _ => rfl) rfl rfl rfl (k_jn (us' := [(0, .inl (2, r41.1)), (1, .inr (.inr (.inl r41.2.1))), (3, .inl (3, r47.1)), (3, .inl (4, r41.2.2.2.1)), (3, .inl (5, r47.2.1)), (3, .inl (6, r47.2.2))]) ds_X1_readPair rfl rfl rfl) rfl ?_
    cases h
    exact r_vret C hr dX1_readPair_50
  · have h := k_f c3 h
    refine r_aload_n C dX1_readPair_6 (rfl : 6 + 1 = 7) rfl ?_
    refine r_iconst (v := (3 : Int32)) C dX1_readPair_7 (rfl : 7 + 1 = 8) rfl ?_
    refine r_aload_n C dX1_readPair_8 (rfl : 8 + 1 = 9) rfl ?_
    refine r_getI (v := c3_4) C dX1_readPair_9 (rfl : 9 + 3 = 12) fl_X1_81 rfl rfl rfl ?_
    obtain ⟨r12, q12, h⟩ := k_b_of h
    refine d_Vp (pi := [3, 4]) (shl := shTape) (bl := 0) (As := [.int (3 : Int32), .int c3_4]) (Al := [.int (3 : Int32), .int c3_4]) (st := []) (st' := []) (h' := k_ap [(0, .inl (2, c0_2)), (1, .inr (.inr (.inl a1))), (3, .inl (3, c3_3)), (3, .inl (4, c3_4)), (3, .inl (5, r12.1)), (3, .inl (6, r12.2))] (shLawTape, I, L, Rf)) C hR ⟨Nat.zero_le _, Nat.zero_le _⟩ mv_X8_fail lk_X1_84 dX1_readPair_12 (rfl : 12 + 3 = 15) (k_bl (by omega)) (k_bl (by omega)) ck_shLawTape_shTape_3 rfl rfl (c_X8_fail X.l u (k_pl [3, 4] shTape (k_ap [(0, .inl (2, c0_2)), (1, .inr (.inr (.inl a1))), (3, .inl (3, c3_3)), (3, .inl (4, c3_4)), (3, .inl (5, c3_5)), (3, .inl (6, c3_6))] (shLawTape, I, L, Rf))) rfl rfl rfl q12) rfl (fun _ => rfl) rfl (fun _ => rfl) rfl rfl rfl (k_jn (us' := [(0, .inl (2, c0_2)), (1, .inr (.inr (.inl a1))), (3, .inl (3, c3_3)), (3, .inl (4, c3_4)), (3, .inl (5, r12.1)), (3, .inl (6, r12.2))]) ds_X1_readPair rfl rfl rfl) rfl ?_
    cases h
    exact r_vret C hr dX1_readPair_15
set_option maxHeartbeats 400000 in
set_option maxRecDepth 100000 in
theorem c_X1_readPair (l : Launch) (u : Nat) (g : Int32 → (Nat → Int32) → Int32 → Int32 → Int32 → Int32 → Int32 → (Nat → Int32) → Int32 → Option (Int32 × (Nat → Int32) × Int32 × Int32 × Int32 × Int32)) {fg ng : Nat} (hg : H_X1_readSum l g fg ng) (h : k_H) (hsh : h.1 = shLawTape) {c0_2 : Int32} (ec0_2 : h.2.1 0 2 = c0_2) {a1 : (Nat → Int32)} (ea1 : h.2.1 1 = a1) {c3_2 : Int32} (ec3_2 : h.2.1 3 2 = c3_2) {c3_3 : Int32} (ec3_3 : h.2.1 3 3 = c3_3) {c3_4 : Int32} (ec3_4 : h.2.1 3 4 = c3_4) {c3_5 : Int32} (ec3_5 : h.2.1 3 5 = c3_5) {c3_6 : Int32} (ec3_6 : h.2.1 3 6 = c3_6) {a4 : (Nat → Int32)} (ea4 : h.2.1 4 = a4) {x1 : Int32} {out : Int32 × (Nat → Int32) × Int32 × Int32 × Int32 × Int32} (hf : f_X1_readPair u g c0_2 a1 c3_2 c3_3 c3_4 c3_5 c3_6 a4 x1 = some out) : k_CT l yX1_readPair cX1_readPair 3 none (fg + 2) (ng + 43) [.ref 0, .ref 3, .int x1] h none [(0, .inl (2, out.1)), (1, .inr (.inr (.inl out.2.1))), (3, .inl (3, out.2.2.1)), (3, .inl (4, out.2.2.2.1)), (3, .inl (5, out.2.2.2.2.1)), (3, .inl (6, out.2.2.2.2.2))] := by
  obtain ⟨sh, I, L, Rf⟩ := h
  try dsimp only
  obtain rfl : sh = shLawTape := hsh
  refine k_ofW (by decide) (Nat.le_of_ble_eq_true rfl) ?_
  intro X ad hl hR0 hr C
  have hg : H_X1_readSum X.l g fg ng := by rw [hl]; exact hg
  have hR : X.R.frames = (fg + 2) ∧ X.R.locals = (ng + 43) := by rw [hR0]; exact ⟨rfl, rfl⟩
  have h := hf
  unfold f_X1_readPair at h
  refine k_start (us := [(0, .inl (2, c0_2)), (1, .inr (.inr (.inl a1))), (3, .inl (3, c3_3)), (3, .inl (4, c3_4)), (3, .inl (5, c3_5)), (3, .inl (6, c3_6))]) (k_ao_I ec0_2 (k_ao_A ea1 (k_ao_I ec3_3 (k_ao_I ec3_4 (k_ao_I ec3_5 (k_ao_I ec3_6 k_ap_0)))))) ?_
  show k_W X 3 0 0 _ ad (k_ap [(0, .inl (2, c0_2)), (1, .inr (.inr (.inl a1))), (3, .inl (3, c3_3)), (3, .inl (4, c3_4)), (3, .inl (5, c3_5)), (3, .inl (6, c3_6))] (shLawTape, I, L, Rf)) 0 [some (.ref 0), some (.ref 3), some (.int x1)] []
  refine k_mask [true, true, true] ?_
  exact sX1_readPair_0 u g C hr hR hg ec3_2 ea4 c0_2 a1 c3_3 c3_4 c3_5 c3_6 x1 h
/-! LullabyPit$Law.readUnit(LLullabyPit$Tape;I)V -/
theorem ds_X1_readUnit : k_ds [(0, 0, 2), (1, 2, 0), (3, 0, 3), (3, 0, 4), (3, 0, 5), (3, 0, 6)] = true := by decide +kernel
set_option maxHeartbeats 400000 in
set_option maxRecDepth 100000 in
theorem sX1_readUnit_75 (u : Nat) (g : Int32 → (Nat → Int32) → Int32 → Int32 → Int32 → Int32 → Int32 → (Nat → Int32) → Int32 → Option (Int32 × (Nat → Int32) × Int32 × Int32 × Int32 × Int32)) {fg ng : Nat} {X : k_X} {ad : Nat → Nat} (C : k_C X cX1_readUnit RX1 4 ad) (hr : X.meth.sig.returnType = none) (hR : X.R.frames = (fg + 6) ∧ X.R.locals = (ng + 133)) {I : Nat → Nat → Int32} {L : Nat → Nat → Int64} {Rf : Nat → Nat → Option Nat} (hg : H_X1_readSum X.l g fg ng) {c3_2 : Int32} (ec3_2 : I 3 2 = c3_2) {a4 : (Nat → Int32)} (ea4 : I 4 = a4) {out : Int32 × (Nat → Int32) × Int32 × Int32 × Int32 × Int32} : ∀ (c0_2 : Int32) (a1 : (Nat → Int32)) (c3_3 : Int32) (c3_4 : Int32) (c3_5 : Int32) (c3_6 : Int32) (v3 : Int32), bX1_readUnit_75 u g c3_2 a4 c0_2 a1 c3_3 c3_4 c3_5 c3_6 v3 = some out → k_W X 4 0 0 (k_Q X ad none (k_ap [(0, .inl (2, out.1)), (1, .inr (.inr (.inl out.2.1))), (3, .inl (3, out.2.2.1)), (3, .inl (4, out.2.2.2.1)), (3, .inl (5, out.2.2.2.2.1)), (3, .inl (6, out.2.2.2.2.2))] (shLawTape, I, L, Rf))) ad (k_ap [(0, .inl (2, c0_2)), (1, .inr (.inr (.inl a1))), (3, .inl (3, c3_3)), (3, .inl (4, c3_4)), (3, .inl (5, c3_5)), (3, .inl (6, c3_6))] (shLawTape, I, L, Rf)) 75 [some (.ref 0), none, none, some (.int v3)] [] := by
  intro c0_2 a1 c3_3 c3_4 c3_5 c3_6 v3 h
  unfold bX1_readUnit_75 at h
  refine r_aload_n C dX1_readUnit_75 (rfl : 75 + 1 = 76) rfl ?_
  refine r_iload_n C dX1_readUnit_76 (rfl : 76 + 1 = 77) rfl ?_
  obtain ⟨r77, q77, h⟩ := k_b_of h
  refine d_Vp (pi := [0, 1, 2]) (shl := shLaw) (bl := 0) (As := [.int v3]) (Al := [.int v3]) (st := []) (st' := []) (h' := k_ap [(0, .inl (2, r77.1)), (1, .inr (.inr (.inl r77.2))), (3, .inl (3, c3_3)), (3, .inl (4, c3_4)), (3, .inl (5, c3_5)), (3, .inl (6, c3_6))] (shLawTape, I, L, Rf)) C hR ⟨Nat.zero_le _, Nat.zero_le _⟩ mv_X1_put lk_X1_22 dX1_readUnit_77 (rfl : 77 + 3 = 80) (k_bl (by omega)) (k_bl (by omega)) ck_shLawTape_shLaw_0 rfl rfl (c_X1_put X.l u (k_pl [0, 1, 2] shLaw (k_ap [(0, .inl (2, c0_2)), (1, .inr (.inr (.inl a1))), (3, .inl (3, c3_3)), (3, .inl (4, c3_4)), (3, .inl (5, c3_5)), (3, .inl (6, c3_6))] (shLawTape, I, L, Rf))) rfl rfl rfl q77) rfl (fun _ => rfl) rfl (fun _ => rfl) rfl rfl rfl (k_jn (us' := [(0, .inl (2, r77.1)), (1, .inr (.inr (.inl r77.2))), (3, .inl (3, c3_3)), (3, .inl (4, c3_4)), (3, .inl (5, c3_5)), (3, .inl (6, c3_6))]) ds_X1_readUnit rfl rfl rfl) rfl ?_
  cases h
  exact r_vret C hr dX1_readUnit_80
set_option maxHeartbeats 400000 in
set_option maxRecDepth 100000 in
theorem sX1_readUnit_69 (u : Nat) (g : Int32 → (Nat → Int32) → Int32 → Int32 → Int32 → Int32 → Int32 → (Nat → Int32) → Int32 → Option (Int32 × (Nat → Int32) × Int32 × Int32 × Int32 × Int32)) {fg ng : Nat} {X : k_X} {ad : Nat → Nat} (C : k_C X cX1_readUnit RX1 4 ad) (hr : X.meth.sig.returnType = none) (hR : X.R.frames = (fg + 6) ∧ X.R.locals = (ng + 133)) {I : Nat → Nat → Int32} {L : Nat → Nat → Int64} {Rf : Nat → Nat → Option Nat} (hg : H_X1_readSum X.l g fg ng) {c3_2 : Int32} (ec3_2 : I 3 2 = c3_2) {a4 : (Nat → Int32)} (ea4 : I 4 = a4) {out : Int32 × (Nat → Int32) × Int32 × Int32 × Int32 × Int32} : ∀ (c0_2 : Int32) (a1 : (Nat → Int32)) (c3_3 : Int32) (c3_4 : Int32) (c3_5 : Int32) (c3_6 : Int32) (v2 : Int32) (v3 : Int32), bX1_readUnit_69 u g c3_2 a4 c0_2 a1 c3_3 c3_4 c3_5 c3_6 v2 v3 = some out → k_W X 4 0 0 (k_Q X ad none (k_ap [(0, .inl (2, out.1)), (1, .inr (.inr (.inl out.2.1))), (3, .inl (3, out.2.2.1)), (3, .inl (4, out.2.2.2.1)), (3, .inl (5, out.2.2.2.2.1)), (3, .inl (6, out.2.2.2.2.2))] (shLawTape, I, L, Rf))) ad (k_ap [(0, .inl (2, c0_2)), (1, .inr (.inr (.inl a1))), (3, .inl (3, c3_3)), (3, .inl (4, c3_4)), (3, .inl (5, c3_5)), (3, .inl (6, c3_6))] (shLawTape, I, L, Rf)) 69 [some (.ref 0), some (.ref 3), some (.int v2), some (.int v3)] [] := by
  intro c0_2 a1 c3_3 c3_4 c3_5 c3_6 v2 v3 h
  unfold bX1_readUnit_69 at h
  refine r_aload_n C dX1_readUnit_69 (rfl : 69 + 1 = 70) rfl ?_
  refine r_aload_n C dX1_readUnit_70 (rfl : 70 + 1 = 71) rfl ?_
  refine r_iload_n C dX1_readUnit_71 (rfl : 71 + 1 = 72) rfl ?_
  obtain ⟨r72, q72, h⟩ := k_b_of h
  refine d_V (As := [.ref 3, .int v2]) (st := []) (st' := []) (h' := k_ap [(0, .inl (2, r72.1)), (1, .inr (.inr (.inl r72.2.1))), (3, .inl (3, r72.2.2.1)), (3, .inl (4, r72.2.2.2.1)), (3, .inl (5, r72.2.2.2.2.1)), (3, .inl (6, r72.2.2.2.2.2))] (shLawTape, I, L, Rf)) C hR ⟨Nat.zero_le _, Nat.zero_le _⟩ mv_X1_readPair lk_X1_75 dX1_readUnit_72 (rfl : 72 + 3 = 75) (k_bl (by omega)) (k_bl (by omega)) rfl rfl (c_X1_readPair X.l u g hg (k_ap [(0, .inl (2, c0_2)), (1, .inr (.inr (.inl a1))), (3, .inl (3, c3_3)), (3, .inl (4, c3_4)), (3, .inl (5, c3_5)), (3, .inl (6, c3_6))] (shLawTape, I, L, Rf)) rfl rfl rfl ec3_2 rfl rfl rfl rfl ea4 q72) rfl rfl rfl (k_jn (us' := [(0, .inl (2, r72.1)), (1, .inr (.inr (.inl r72.2.1))), (3, .inl (3, r72.2.2.1)), (3, .inl (4, r72.2.2.2.1)), (3, .inl (5, r72.2.2.2.2.1)), (3, .inl (6, r72.2.2.2.2.2))]) ds_X1_readUnit rfl rfl rfl) rfl ?_
  refine k_mask [true, false, false, true] ?_
  exact sX1_readUnit_75 u g C hr hR hg ec3_2 ea4 r72.1 r72.2.1 r72.2.2.1 r72.2.2.2.1 r72.2.2.2.2.1 r72.2.2.2.2.2 v3 h
set_option maxHeartbeats 400000 in
set_option maxRecDepth 100000 in
theorem sX1_readUnit_0 (u : Nat) (g : Int32 → (Nat → Int32) → Int32 → Int32 → Int32 → Int32 → Int32 → (Nat → Int32) → Int32 → Option (Int32 × (Nat → Int32) × Int32 × Int32 × Int32 × Int32)) {fg ng : Nat} {X : k_X} {ad : Nat → Nat} (C : k_C X cX1_readUnit RX1 4 ad) (hr : X.meth.sig.returnType = none) (hR : X.R.frames = (fg + 6) ∧ X.R.locals = (ng + 133)) {I : Nat → Nat → Int32} {L : Nat → Nat → Int64} {Rf : Nat → Nat → Option Nat} (hg : H_X1_readSum X.l g fg ng) {c3_2 : Int32} (ec3_2 : I 3 2 = c3_2) {a4 : (Nat → Int32)} (ea4 : I 4 = a4) {out : Int32 × (Nat → Int32) × Int32 × Int32 × Int32 × Int32} : ∀ (c0_2 : Int32) (a1 : (Nat → Int32)) (c3_3 : Int32) (c3_4 : Int32) (c3_5 : Int32) (c3_6 : Int32) (v2 : Int32), bX1_readUnit_0 u g c3_2 a4 c0_2 a1 c3_3 c3_4 c3_5 c3_6 v2 = some out → k_W X 4 0 0 (k_Q X ad none (k_ap [(0, .inl (2, out.1)), (1, .inr (.inr (.inl out.2.1))), (3, .inl (3, out.2.2.1)), (3, .inl (4, out.2.2.2.1)), (3, .inl (5, out.2.2.2.2.1)), (3, .inl (6, out.2.2.2.2.2))] (shLawTape, I, L, Rf))) ad (k_ap [(0, .inl (2, c0_2)), (1, .inr (.inr (.inl a1))), (3, .inl (3, c3_3)), (3, .inl (4, c3_4)), (3, .inl (5, c3_5)), (3, .inl (6, c3_6))] (shLawTape, I, L, Rf)) 0 [some (.ref 0), some (.ref 3), some (.int v2), none] [] := by
  intro c0_2 a1 c3_3 c3_4 c3_5 c3_6 v2 h
  unfold bX1_readUnit_0 at h
  refine r_aload_n C dX1_readUnit_0 (rfl : 0 + 1 = 1) rfl ?_
  obtain ⟨r1, q1, h⟩ := k_b_of h
  refine d_Vp (pi := [3, 4]) (shl := shTape) (bl := 0) (As := []) (Al := []) (st := []) (st' := [.int r1.1]) (h' := k_ap [(0, .inl (2, c0_2)), (1, .inr (.inr (.inl a1))), (3, .inl (3, r1.2)), (3, .inl (4, c3_4)), (3, .inl (5, c3_5)), (3, .inl (6, c3_6))] (shLawTape, I, L, Rf)) C hR ⟨Nat.zero_le _, Nat.zero_le _⟩ mv_X8_isDigitNext lk_X1_59 dX1_readUnit_1 (rfl : 1 + 3 = 4) (k_bl (by omega)) (k_bl (by omega)) ck_shLawTape_shTape_3 rfl rfl (c_X8_isDigitNext X.l u (k_pl [3, 4] shTape (k_ap [(0, .inl (2, c0_2)), (1, .inr (.inr (.inl a1))), (3, .inl (3, c3_3)), (3, .inl (4, c3_4)), (3, .inl (5, c3_5)), (3, .inl (6, c3_6))] (shLawTape, I, L, Rf))) rfl ec3_2 rfl ea4 q1) rfl (fun _ => rfl) rfl (fun _ => rfl) rfl rfl rfl (k_jn (us' := [(0, .inl (2, c0_2)), (1, .inr (.inr (.inl a1))), (3, .inl (3, r1.2)), (3, .inl (4, c3_4)), (3, .inl (5, c3_5)), (3, .inl (6, c3_6))]) ds_X1_readUnit rfl rfl rfl) rfl ?_
  refine r_if_eq (tgt := 22) C dX1_readUnit_4 (by decide) (rfl : 4 + 3 = 7) (fun c4 => ?_) (fun c4 => ?_)
  · have h := k_t c4 h
    refine r_aload_n C dX1_readUnit_22 (rfl : 22 + 1 = 23) rfl ?_
    refine r_bipush (v := (40 : Int32)) C dX1_readUnit_23 (rfl : 23 + 2 = 25) rfl ?_
    obtain ⟨r25, q25, h⟩ := k_b_of h
    refine d_Vp (pi := [3, 4]) (shl := shTape) (bl := 0) (As := [.int (40 : Int32)]) (Al := [.int (40 : Int32)]) (st := []) (st' := [.int r25.1]) (h' := k_ap [(0, .inl (2, c0_2)), (1, .inr (.inr (.inl a1))), (3, .inl (3, r25.2)), (3, .inl (4, c3_4)), (3, .inl (5, c3_5)), (3, .inl (6, c3_6))] (shLawTape, I, L, Rf)) C hR ⟨Nat.zero_le _, Nat.zero_le _⟩ mv_X8_isNext lk_X1_48 dX1_readUnit_25 (rfl : 25 + 3 = 28) (k_bl (by omega)) (k_bl (by omega)) ck_shLawTape_shTape_3 rfl rfl (c_X8_isNext X.l u (k_pl [3, 4] shTape (k_ap [(0, .inl (2, c0_2)), (1, .inr (.inr (.inl a1))), (3, .inl (3, r1.2)), (3, .inl (4, c3_4)), (3, .inl (5, c3_5)), (3, .inl (6, c3_6))] (shLawTape, I, L, Rf))) rfl ec3_2 rfl ea4 q25) rfl (fun _ => rfl) rfl (fun _ => rfl) rfl rfl rfl (k_jn (us' := [(0, .inl (2, c0_2)), (1, .inr (.inr (.inl a1))), (3, .inl (3, r25.2)), (3, .inl (4, c3_4)), (3, .inl (5, c3_5)), (3, .inl (6, c3_6))]) ds_X1_readUnit rfl rfl rfl) rfl ?_
    refine r_if_eq (tgt := 40) C dX1_readUnit_28 (by decide) (rfl : 28 + 3 = 31) (fun c28 => ?_) (fun c28 => ?_)
    · have h := k_t c28 h
      refine r_iconst (v := (-1 : Int32)) C dX1_readUnit_40 (rfl : 40 + 1 = 41) rfl ?_
      refine r_aload_n C dX1_readUnit_41 (rfl : 41 + 1 = 42) rfl ?_
      refine r_ldcS (i := 3) C rfl dX1_readUnit_42 (rfl : 42 + 2 = 44) ?_
      obtain ⟨r44, q44, h⟩ := k_b_of h
      refine d_Vp (pi := [3, 4]) (shl := shTape) (bl := 0) (As := [.ref (1000000 + 3)]) (Al := [.ref (1000000 + 3)]) (st := [.int (-1 : Int32)]) (st' := [.int r44.1, .int (-1 : Int32)]) (h' := k_ap [(0, .inl (2, c0_2)), (1, .inr (.inr (.inl a1))), (3, .inl (3, r44.2.1)), (3, .inl (4, r44.2.2.1)), (3, .inl (5, r44.2.2.2.1)), (3, .inl (6, r44.2.2.2.2))] (shLawTape, I, L, Rf)) C hR ⟨Nat.zero_le _, Nat.zero_le _⟩ mv_X8_word lk_X1_71 dX1_readUnit_44 (rfl : 44 + 3 = 47) (k_bl (by omega)) (k_bl (by omega)) ck_shLawTape_shTape_3 rfl rfl (c_X8_word X.l u 3 (by decide) (k_pl [3, 4] shTape (k_ap [(0, .inl (2, c0_2)), (1, .inr (.inr (.inl a1))), (3, .inl (3, r25.2)), (3, .inl (4, c3_4)), (3, .inl (5, c3_5)), (3, .inl (6, c3_6))] (shLawTape, I, L, Rf))) rfl ec3_2 rfl rfl rfl rfl ea4 q44) rfl (fun _ => rfl) rfl (fun _ => rfl) rfl rfl rfl (k_jn (us' := [(0, .inl (2, c0_2)), (1, .inr (.inr (.inl a1))), (3, .inl (3, r44.2.1)), (3, .inl (4, r44.2.2.1)), (3, .inl (5, r44.2.2.2.1)), (3, .inl (6, r44.2.2.2.2))]) ds_X1_readUnit rfl rfl rfl) rfl ?_
      refine r_isub C dX1_readUnit_47 (rfl : 47 + 1 = 48) ?_
      refine r_istore_n C dX1_readUnit_48 (rfl : 48 + 1 = 49) (by decide) (Nat.le_of_ble_eq_true rfl) ?_
      show k_W _ _ _ _ _ _ _ _ [some (.ref 0), some (.ref 3), some (.int v2), some (.int ((-1 : Int32) - r44.1))] _
      refine r_aload_n C dX1_readUnit_49 (rfl : 49 + 1 = 50) rfl ?_
      obtain ⟨r50, q50, h⟩ := k_b_of h
      refine d_Vp (pi := [3, 4]) (shl := shTape) (bl := 0) (As := []) (Al := []) (st := []) (st' := [.int r50]) (h' := k_ap [(0, .inl (2, c0_2)), (1, .inr (.inr (.inl a1))), (3, .inl (3, r44.2.1)), (3, .inl (4, r44.2.2.1)), (3, .inl (5, r44.2.2.2.1)), (3, .inl (6, r44.2.2.2.2))] (shLawTape, I, L, Rf)) C hR ⟨Nat.zero_le _, Nat.zero_le _⟩ mv_X8_good lk_X1_44 dX1_readUnit_50 (rfl : 50 + 3 = 53) (k_bl (by omega)) (k_bl (by omega)) ck_shLawTape_shTape_3 rfl rfl (c_X8_good X.l u (k_pl [3, 4] shTape (k_ap [(0, .inl (2, c0_2)), (1, .inr (.inr (.inl a1))), (3, .inl (3, r44.2.1)), (3, .inl (4, r44.2.2.1)), (3, .inl (5, r44.2.2.2.1)), (3, .inl (6, r44.2.2.2.2))] (shLawTape, I, L, Rf))) rfl rfl q50) rfl (fun _ => rfl) rfl (fun _ => rfl) rfl rfl rfl rfl rfl ?_
      refine r_if_ne (tgt := 57) C dX1_readUnit_53 (by decide) (rfl : 53 + 3 = 56) (fun c53 => ?_) (fun c53 => ?_)
      · have h := k_f c53 h
        refine r_iload_n C dX1_readUnit_57 (rfl : 57 + 1 = 58) rfl ?_
        refine r_bipush (v := (-9 : Int32)) C dX1_readUnit_58 (rfl : 58 + 2 = 60) rfl ?_
        refine r_icmp_eq (tgt := 69) C dX1_readUnit_60 (by decide) (rfl : 60 + 3 = 63) (fun c60 => ?_) (fun c60 => ?_)
        · have h := k_t c60 h
          refine k_mask [true, true, true, true] ?_
          exact sX1_readUnit_69 u g C hr hR hg ec3_2 ea4 c0_2 a1 r44.2.1 r44.2.2.1 r44.2.2.2.1 r44.2.2.2.2 v2 ((-1 : Int32) - r44.1) h
        · have h := k_f c60 h
          refine r_iload_n C dX1_readUnit_63 (rfl : 63 + 1 = 64) rfl ?_
          refine r_bipush (v := (-10 : Int32)) C dX1_readUnit_64 (rfl : 64 + 2 = 66) rfl ?_
          refine r_icmp_ne (tgt := 75) C dX1_readUnit_66 (by decide) (rfl : 66 + 3 = 69) (fun c66 => ?_) (fun c66 => ?_)
          · have h := k_f c66 h
            refine k_mask [true, false, false, true] ?_
            exact sX1_readUnit_75 u g C hr hR hg ec3_2 ea4 c0_2 a1 r44.2.1 r44.2.2.1 r44.2.2.2.1 r44.2.2.2.2 ((-1 : Int32) - r44.1) h
          · have h := k_t c66 h
            refine k_mask [true, true, true, true] ?_
            exact sX1_readUnit_69 u g C hr hR hg ec3_2 ea4 c0_2 a1 r44.2.1 r44.2.2.1 r44.2.2.2.1 r44.2.2.2.2 v2 ((-1 : Int32) - r44.1) h
      · have h := k_t c53 h
        cases h
        exact r_vret C hr dX1_readUnit_56
    · have h := k_f c28 h
      refine r_aload_n C dX1_readUnit_31 (rfl : 31 + 1 = 32) rfl ?_
      refine r_aload_n C dX1_readUnit_32 (rfl : 32 + 1 = 33) rfl ?_
      refine r_iload_n C dX1_readUnit_33 (rfl : 33 + 1 = 34) rfl ?_
      obtain ⟨r34, q34, h⟩ := k_b_of h
      refine d_V (As := [.ref 3, .int v2]) (st := []) (st' := []) (h' := k_ap [(0, .inl (2, r34.1)), (1, .inr (.inr (.inl r34.2.1))), (3, .inl (3, r34.2.2.1)), (3, .inl (4, r34.2.2.2.1)), (3, .inl (5, r34.2.2.2.2.1)), (3, .inl (6, r34.2.2.2.2.2))] (shLawTape, I, L, Rf)) C hR ⟨Nat.zero_le _, Nat.zero_le _⟩ mv_X1_readBracket lk_X1_66 dX1_readUnit_34 (rfl : 34 + 3 = 37) (k_bl (by omega)) (k_bl (by omega)) rfl rfl (c_X1_readBracket X.l u g hg (k_ap [(0, .inl (2, c0_2)), (1, .inr (.inr (.inl a1))), (3, .inl (3, r25.2)), (3, .inl (4, c3_4)), (3, .inl (5, c3_5)), (3, .inl (6, c3_6))] (shLawTape, I, L, Rf)) rfl rfl rfl ec3_2 rfl rfl rfl rfl ea4 q34) rfl rfl rfl (k_jn (us' := [(0, .inl (2, r34.1)), (1, .inr (.inr (.inl r34.2.1))), (3, .inl (3, r34.2.2.1)), (3, .inl (4, r34.2.2.2.1)), (3, .inl (5, r34.2.2.2.2.1)), (3, .inl (6, r34.2.2.2.2.2))]) ds_X1_readUnit rfl rfl rfl) rfl ?_
      refine r_goto (tgt := 80) C dX1_readUnit_37 (by decide) ?_
      cases h
      exact r_vret C hr dX1_readUnit_80
  · have h := k_f c4 h
    refine r_aload_n C dX1_readUnit_7 (rfl : 7 + 1 = 8) rfl ?_
    refine r_aload_n C dX1_readUnit_8 (rfl : 8 + 1 = 9) rfl ?_
    refine r_iconst (v := (0 : Int32)) C dX1_readUnit_9 (rfl : 9 + 1 = 10) rfl ?_
    refine r_sipush (v := (999 : Int32)) C dX1_readUnit_10 (rfl : 10 + 3 = 13) rfl ?_
    obtain ⟨r13, q13, h⟩ := k_b_of h
    refine d_Vp (pi := [3, 4]) (shl := shTape) (bl := 0) (As := [.int (0 : Int32), .int (999 : Int32)]) (Al := [.int (0 : Int32), .int (999 : Int32)]) (st := [.ref 0]) (st' := [.int r13.1, .ref 0]) (h' := k_ap [(0, .inl (2, c0_2)), (1, .inr (.inr (.inl a1))), (3, .inl (3, r13.2.1)), (3, .inl (4, r13.2.2.1)), (3, .inl (5, r13.2.2.2.1)), (3, .inl (6, r13.2.2.2.2))] (shLawTape, I, L, Rf)) C hR ⟨Nat.zero_le _, Nat.zero_le _⟩ mv_X8_number lk_X1_62 dX1_readUnit_13 (rfl : 13 + 3 = 16) (k_bl (by omega)) (k_bl (by omega)) ck_shLawTape_shTape_3 rfl rfl (c_X8_number X.l u (k_pl [3, 4] shTape (k_ap [(0, .inl (2, c0_2)), (1, .inr (.inr (.inl a1))), (3, .inl (3, r1.2)), (3, .inl (4, c3_4)), (3, .inl (5, c3_5)), (3, .inl (6, c3_6))] (shLawTape, I, L, Rf))) rfl ec3_2 rfl rfl rfl rfl ea4 q13) rfl (fun _ => rfl) rfl (fun _ => rfl) rfl rfl rfl (k_jn (us' := [(0, .inl (2, c0_2)), (1, .inr (.inr (.inl a1))), (3, .inl (3, r13.2.1)), (3, .inl (4, r13.2.2.1)), (3, .inl (5, r13.2.2.2.1)), (3, .inl (6, r13.2.2.2.2))]) ds_X1_readUnit rfl rfl rfl) rfl ?_
    obtain ⟨r16, q16, h⟩ := k_b_of h
    refine d_Vp (pi := [0, 1, 2]) (shl := shLaw) (bl := 0) (As := [.int r13.1]) (Al := [.int r13.1]) (st := []) (st' := []) (h' := k_ap [(0, .inl (2, r16.1)), (1, .inr (.inr (.inl r16.2))), (3, .inl (3, r13.2.1)), (3, .inl (4, r13.2.2.1)), (3, .inl (5, r13.2.2.2.1)), (3, .inl (6, r13.2.2.2.2))] (shLawTape, I, L, Rf)) C hR ⟨Nat.zero_le _, Nat.zero_le _⟩ mv_X1_put lk_X1_22 dX1_readUnit_16 (rfl : 16 + 3 = 19) (k_bl (by omega)) (k_bl (by omega)) ck_shLawTape_shLaw_0 rfl rfl (c_X1_put X.l u (k_pl [0, 1, 2] shLaw (k_ap [(0, .inl (2, c0_2)), (1, .inr (.inr (.inl a1))), (3, .inl (3, r13.2.1)), (3, .inl (4, r13.2.2.1)), (3, .inl (5, r13.2.2.2.1)), (3, .inl (6, r13.2.2.2.2))] (shLawTape, I, L, Rf))) rfl rfl rfl q16) rfl (fun _ => rfl) rfl (fun _ => rfl) rfl rfl rfl (k_jn (us' := [(0, .inl (2, r16.1)), (1, .inr (.inr (.inl r16.2))), (3, .inl (3, r13.2.1)), (3, .inl (4, r13.2.2.1)), (3, .inl (5, r13.2.2.2.1)), (3, .inl (6, r13.2.2.2.2))]) ds_X1_readUnit rfl rfl rfl) rfl ?_
    refine r_goto (tgt := 80) C dX1_readUnit_19 (by decide) ?_
    cases h
    exact r_vret C hr dX1_readUnit_80
set_option maxHeartbeats 400000 in
set_option maxRecDepth 100000 in
theorem c_X1_readUnit (l : Launch) (u : Nat) (g : Int32 → (Nat → Int32) → Int32 → Int32 → Int32 → Int32 → Int32 → (Nat → Int32) → Int32 → Option (Int32 × (Nat → Int32) × Int32 × Int32 × Int32 × Int32)) {fg ng : Nat} (hg : H_X1_readSum l g fg ng) (h : k_H) (hsh : h.1 = shLawTape) {c0_2 : Int32} (ec0_2 : h.2.1 0 2 = c0_2) {a1 : (Nat → Int32)} (ea1 : h.2.1 1 = a1) {c3_2 : Int32} (ec3_2 : h.2.1 3 2 = c3_2) {c3_3 : Int32} (ec3_3 : h.2.1 3 3 = c3_3) {c3_4 : Int32} (ec3_4 : h.2.1 3 4 = c3_4) {c3_5 : Int32} (ec3_5 : h.2.1 3 5 = c3_5) {c3_6 : Int32} (ec3_6 : h.2.1 3 6 = c3_6) {a4 : (Nat → Int32)} (ea4 : h.2.1 4 = a4) {x1 : Int32} {out : Int32 × (Nat → Int32) × Int32 × Int32 × Int32 × Int32} (hf : f_X1_readUnit u g c0_2 a1 c3_2 c3_3 c3_4 c3_5 c3_6 a4 x1 = some out) : k_CT l yX1_readUnit cX1_readUnit 4 none (fg + 6) (ng + 133) [.ref 0, .ref 3, .int x1] h none [(0, .inl (2, out.1)), (1, .inr (.inr (.inl out.2.1))), (3, .inl (3, out.2.2.1)), (3, .inl (4, out.2.2.2.1)), (3, .inl (5, out.2.2.2.2.1)), (3, .inl (6, out.2.2.2.2.2))] := by
  obtain ⟨sh, I, L, Rf⟩ := h
  try dsimp only
  obtain rfl : sh = shLawTape := hsh
  refine k_ofW (by decide) (Nat.le_of_ble_eq_true rfl) ?_
  intro X ad hl hR0 hr C
  have hg : H_X1_readSum X.l g fg ng := by rw [hl]; exact hg
  have hR : X.R.frames = (fg + 6) ∧ X.R.locals = (ng + 133) := by rw [hR0]; exact ⟨rfl, rfl⟩
  have h := hf
  unfold f_X1_readUnit at h
  refine k_start (us := [(0, .inl (2, c0_2)), (1, .inr (.inr (.inl a1))), (3, .inl (3, c3_3)), (3, .inl (4, c3_4)), (3, .inl (5, c3_5)), (3, .inl (6, c3_6))]) (k_ao_I ec0_2 (k_ao_A ea1 (k_ao_I ec3_3 (k_ao_I ec3_4 (k_ao_I ec3_5 (k_ao_I ec3_6 k_ap_0)))))) ?_
  show k_W X 4 0 0 _ ad (k_ap [(0, .inl (2, c0_2)), (1, .inr (.inr (.inl a1))), (3, .inl (3, c3_3)), (3, .inl (4, c3_4)), (3, .inl (5, c3_5)), (3, .inl (6, c3_6))] (shLawTape, I, L, Rf)) 0 [some (.ref 0), some (.ref 3), some (.int x1), none] []
  refine k_mask [true, true, true, false] ?_
  exact sX1_readUnit_0 u g C hr hR hg ec3_2 ea4 c0_2 a1 c3_3 c3_4 c3_5 c3_6 x1 h
