/-! LullabyPitModel.decade(IIII)I -/
theorem ds_X11_decade : k_ds [(0, 0, 0), (0, 0, 62), (0, 0, 63), (1, 2, 0), (16, 2, 0), (17, 2, 0), (21, 2, 0), (23, 2, 0), (24, 2, 0)] = true := by decide +kernel
set_option maxHeartbeats 400000 in
set_option maxRecDepth 100000 in
theorem sX11_decade_29 (u : Nat) {X : k_X} {ad : Nat → Nat} (C : k_C X cX11_decade RX11 5 ad) (hr : X.meth.sig.returnType = (some .int)) (hR : X.R.frames = 7 ∧ X.R.locals = 158) {I : Nat → Nat → Int32} {L : Nat → Nat → Int64} {Rf : Nat → Nat → Option Nat} {c0_25 : Int32} (ec0_25 : I 0 25 = c0_25) {c0_26 : Int32} (ec0_26 : I 0 26 = c0_26) {c0_27 : Int32} (ec0_27 : I 0 27 = c0_27) {c0_28 : Int32} (ec0_28 : I 0 28 = c0_28) {c0_30 : Int32} (ec0_30 : I 0 30 = c0_30) {a7 : (Nat → Int32)} (ea7 : I 7 = a7) {a8 : (Nat → Int32)} (ea8 : I 8 = a8) {a9 : (Nat → Int32)} (ea9 : I 9 = a9) {a10 : (Nat → Int32)} (ea10 : I 10 = a10) {a13 : (Nat → Int32)} (ea13 : I 13 = a13) {a14 : (Nat → Int32)} (ea14 : I 14 = a14) {a15 : (Nat → Int32)} (ea15 : I 15 = a15) {a20 : (Nat → Int32)} (ea20 : I 20 = a20) {out : Int32 × Int32 × Int32 × Int32 × (Nat → Int32) × (Nat → Int32) × (Nat → Int32) × (Nat → Int32) × (Nat → Int32) × (Nat → Int32)} : ∀ (c0_0 : Int32) (c0_62 : Int32) (c0_63 : Int32) (a1 : (Nat → Int32)) (a16 : (Nat → Int32)) (a17 : (Nat → Int32)) (a21 : (Nat → Int32)) (a23 : (Nat → Int32)) (a24 : (Nat → Int32)) (v1 : Int32) (v2 : Int32) (v3 : Int32) (v4 : Int32) (w0 : Int32), bX11_decade_29 u c0_25 c0_26 c0_27 c0_28 c0_30 a7 a8 a9 a10 a13 a14 a15 a20 c0_0 c0_62 c0_63 a1 a16 a17 a21 a23 a24 v1 v2 v3 v4 w0 = some out → k_W X 5 0 0 (k_Q X ad (some (.int out.1)) (k_ap [(0, .inl (0, out.2.1)), (0, .inl (62, out.2.2.1)), (0, .inl (63, out.2.2.2.1)), (1, .inr (.inr (.inl out.2.2.2.2.1))), (16, .inr (.inr (.inl out.2.2.2.2.2.1))), (17, .inr (.inr (.inl out.2.2.2.2.2.2.1))), (21, .inr (.inr (.inl out.2.2.2.2.2.2.2.1))), (23, .inr (.inr (.inl out.2.2.2.2.2.2.2.2.1))), (24, .inr (.inr (.inl out.2.2.2.2.2.2.2.2.2)))] (shM, I, L, Rf))) ad (k_ap [(0, .inl (0, c0_0)), (0, .inl (62, c0_62)), (0, .inl (63, c0_63)), (1, .inr (.inr (.inl a1))), (16, .inr (.inr (.inl a16))), (17, .inr (.inr (.inl a17))), (21, .inr (.inr (.inl a21))), (23, .inr (.inr (.inl a23))), (24, .inr (.inr (.inl a24)))] (shM, I, L, Rf)) 29 [some (.ref 0), some (.int v1), some (.int v2), some (.int v3), some (.int v4)] [.int w0, .ref 0] := by
  intro c0_0 c0_62 c0_63 a1 a16 a17 a21 a23 a24 v1 v2 v3 v4 w0 h
  unfold bX11_decade_29 at h
  refine r_iconst (v := (1 : Int32)) C dX11_decade_29 (rfl : 29 + 1 = 30) rfl ?_
  refine r_iconst (v := (2 : Int32)) C dX11_decade_30 (rfl : 30 + 1 = 31) rfl ?_
  obtain ⟨r31, q31, h⟩ := k_b_of h
  refine d_V (As := [.int w0, .int (1 : Int32), .int (2 : Int32)]) (st := []) (st' := [.int r31.1]) (h' := k_ap [(0, .inl (0, r31.2.1)), (0, .inl (62, c0_62)), (0, .inl (63, c0_63)), (1, .inr (.inr (.inl r31.2.2))), (16, .inr (.inr (.inl a16))), (17, .inr (.inr (.inl a17))), (21, .inr (.inr (.inl a21))), (23, .inr (.inr (.inl a23))), (24, .inr (.inr (.inl a24)))] (shM, I, L, Rf)) C hR ⟨Nat.zero_le _, Nat.zero_le _⟩ mv_X11_may lk_X11_252 dX11_decade_31 (rfl : 31 + 3 = 34) rfl rfl rfl rfl (c_X11_may X.l u (k_ap [(0, .inl (0, c0_0)), (0, .inl (62, c0_62)), (0, .inl (63, c0_63)), (1, .inr (.inr (.inl a1))), (16, .inr (.inr (.inl a16))), (17, .inr (.inr (.inl a17))), (21, .inr (.inr (.inl a21))), (23, .inr (.inr (.inl a23))), (24, .inr (.inr (.inl a24)))] (shM, I, L, Rf)) rfl rfl rfl q31) rfl rfl rfl (k_jn (us' := [(0, .inl (0, r31.2.1)), (0, .inl (62, c0_62)), (0, .inl (63, c0_63)), (1, .inr (.inr (.inl r31.2.2))), (16, .inr (.inr (.inl a16))), (17, .inr (.inr (.inl a17))), (21, .inr (.inr (.inl a21))), (23, .inr (.inr (.inl a23))), (24, .inr (.inr (.inl a24)))]) ds_X11_decade rfl rfl rfl) rfl ?_
  refine r_if_ne (tgt := 39) C dX11_decade_34 (by decide) (rfl : 34 + 3 = 37) (fun c34 => ?_) (fun c34 => ?_)
  · have h := k_f c34 h
    refine r_aload_n C dX11_decade_39 (rfl : 39 + 1 = 40) rfl ?_
    refine r_iload_n C dX11_decade_40 (rfl : 40 + 1 = 41) rfl ?_
    refine r_iload_n C dX11_decade_41 (rfl : 41 + 1 = 42) rfl ?_
    refine r_iload_n C dX11_decade_42 (rfl : 42 + 1 = 43) rfl ?_
    obtain ⟨r43, q43, h⟩ := k_b_of h
    refine d_V (As := [.int v1, .int v2, .int v3]) (st := []) (st' := []) (h' := k_ap [(0, .inl (0, r31.2.1)), (0, .inl (62, r43.1)), (0, .inl (63, r43.2.1)), (1, .inr (.inr (.inl r31.2.2))), (16, .inr (.inr (.inl r43.2.2.1))), (17, .inr (.inr (.inl r43.2.2.2.1))), (21, .inr (.inr (.inl r43.2.2.2.2.1))), (23, .inr (.inr (.inl r43.2.2.2.2.2.1))), (24, .inr (.inr (.inl r43.2.2.2.2.2.2)))] (shM, I, L, Rf)) C hR ⟨Nat.zero_le _, Nat.zero_le _⟩ mv_X11_goesOn lk_X11_490 dX11_decade_43 (rfl : 43 + 3 = 46) rfl rfl rfl rfl (c_X11_goesOn X.l u (k_ap [(0, .inl (0, r31.2.1)), (0, .inl (62, c0_62)), (0, .inl (63, c0_63)), (1, .inr (.inr (.inl r31.2.2))), (16, .inr (.inr (.inl a16))), (17, .inr (.inr (.inl a17))), (21, .inr (.inr (.inl a21))), (23, .inr (.inr (.inl a23))), (24, .inr (.inr (.inl a24)))] (shM, I, L, Rf)) rfl ec0_25 ec0_26 ec0_27 ec0_28 ec0_30 rfl rfl ea7 ea8 ea9 ea10 ea13 ea14 ea15 rfl rfl ea20 rfl rfl rfl q43) rfl rfl rfl (k_jn (us' := [(0, .inl (0, r31.2.1)), (0, .inl (62, r43.1)), (0, .inl (63, r43.2.1)), (1, .inr (.inr (.inl r31.2.2))), (16, .inr (.inr (.inl r43.2.2.1))), (17, .inr (.inr (.inl r43.2.2.2.1))), (21, .inr (.inr (.inl r43.2.2.2.2.1))), (23, .inr (.inr (.inl r43.2.2.2.2.2.1))), (24, .inr (.inr (.inl r43.2.2.2.2.2.2)))]) ds_X11_decade rfl rfl rfl) rfl ?_
    refine r_iload C dX11_decade_46 (rfl : 46 + 2 = 48) rfl ?_
    refine r_if_ne (tgt := 69) C dX11_decade_48 (by decide) (rfl : 48 + 3 = 51) (fun c48 => ?_) (fun c48 => ?_)
    · have h := k_f c48 h
      refine r_iload C dX11_decade_69 (rfl : 69 + 2 = 71) rfl ?_
      refine r_iconst (v := (1 : Int32)) C dX11_decade_71 (rfl : 71 + 1 = 72) rfl ?_
      refine r_icmp_ne (tgt := 93) C dX11_decade_72 (by decide) (rfl : 72 + 3 = 75) (fun c72 => ?_) (fun c72 => ?_)
      · have h := k_f c72 h
        refine r_iload C dX11_decade_93 (rfl : 93 + 2 = 95) rfl ?_
        refine r_iconst (v := (2 : Int32)) C dX11_decade_95 (rfl : 95 + 1 = 96) rfl ?_
        refine r_icmp_ne (tgt := 106) C dX11_decade_96 (by decide) (rfl : 96 + 3 = 99) (fun c96 => ?_) (fun c96 => ?_)
        · have h := k_f c96 h
          refine r_aload_n C dX11_decade_106 (rfl : 106 + 1 = 107) rfl ?_
          refine r_getR (q := 21) C dX11_decade_107 (rfl : 107 + 3 = 110) fl_X11_77 rfl rfl ?_
          refine r_bipush (v := (73 : Int32)) C dX11_decade_110 (rfl : 110 + 2 = 112) rfl ?_
          refine a_i (j := 73) (f := r43.2.2.2.2.1) C dX11_decade_112 (rfl : 112 + 1 = 113) rfl rfl (show ¬ ((73 : Int32) < 0 ∨ 77 ≤ ((73 : Int32)).toNatClampNeg) by decide) rfl ?_
          refine r_aload_n C dX11_decade_113 (rfl : 113 + 1 = 114) rfl ?_
          refine r_getR (q := 20) C dX11_decade_114 (rfl : 114 + 3 = 117) fl_X11_74 rfl rfl ?_
          refine r_bipush (v := (73 : Int32)) C dX11_decade_117 (rfl : 117 + 2 = 119) rfl ?_
          refine a_i (j := 73) (f := a20) C dX11_decade_119 (rfl : 119 + 1 = 120) rfl ea20 (show ¬ ((73 : Int32) < 0 ∨ 77 ≤ ((73 : Int32)).toNatClampNeg) by decide) rfl ?_
          refine r_isub C dX11_decade_120 (rfl : 120 + 1 = 121) ?_
          cases h
          exact r_iret C hr dX11_decade_121
        · have h := k_t c96 h
          refine r_aload_n C dX11_decade_99 (rfl : 99 + 1 = 100) rfl ?_
          refine r_getI (v := r43.2.1) C dX11_decade_100 (rfl : 100 + 3 = 103) fl_X11_481 rfl rfl rfl ?_
          refine r_goto (tgt := 121) C dX11_decade_103 (by decide) ?_
          cases h
          exact r_iret C hr dX11_decade_121
      · have h := k_t c72 h
        refine r_aload_n C dX11_decade_75 (rfl : 75 + 1 = 76) rfl ?_
        refine r_getR (q := 21) C dX11_decade_76 (rfl : 76 + 3 = 79) fl_X11_77 rfl rfl ?_
        refine r_bipush (v := (76 : Int32)) C dX11_decade_79 (rfl : 79 + 2 = 81) rfl ?_
        refine a_i (j := 76) (f := r43.2.2.2.2.1) C dX11_decade_81 (rfl : 81 + 1 = 82) rfl rfl (show ¬ ((76 : Int32) < 0 ∨ 77 ≤ ((76 : Int32)).toNatClampNeg) by decide) rfl ?_
        refine r_aload_n C dX11_decade_82 (rfl : 82 + 1 = 83) rfl ?_
        refine r_getR (q := 20) C dX11_decade_83 (rfl : 83 + 3 = 86) fl_X11_74 rfl rfl ?_
        refine r_bipush (v := (76 : Int32)) C dX11_decade_86 (rfl : 86 + 2 = 88) rfl ?_
        refine a_i (j := 76) (f := a20) C dX11_decade_88 (rfl : 88 + 1 = 89) rfl ea20 (show ¬ ((76 : Int32) < 0 ∨ 77 ≤ ((76 : Int32)).toNatClampNeg) by decide) rfl ?_
        refine r_isub C dX11_decade_89 (rfl : 89 + 1 = 90) ?_
        refine r_goto (tgt := 121) C dX11_decade_90 (by decide) ?_
        cases h
        exact r_iret C hr dX11_decade_121
    · have h := k_t c48 h
      refine r_aload_n C dX11_decade_51 (rfl : 51 + 1 = 52) rfl ?_
      refine r_getR (q := 21) C dX11_decade_52 (rfl : 52 + 3 = 55) fl_X11_77 rfl rfl ?_
      refine r_bipush (v := (75 : Int32)) C dX11_decade_55 (rfl : 55 + 2 = 57) rfl ?_
      refine a_i (j := 75) (f := r43.2.2.2.2.1) C dX11_decade_57 (rfl : 57 + 1 = 58) rfl rfl (show ¬ ((75 : Int32) < 0 ∨ 77 ≤ ((75 : Int32)).toNatClampNeg) by decide) rfl ?_
      refine r_aload_n C dX11_decade_58 (rfl : 58 + 1 = 59) rfl ?_
      refine r_getR (q := 20) C dX11_decade_59 (rfl : 59 + 3 = 62) fl_X11_74 rfl rfl ?_
      refine r_bipush (v := (75 : Int32)) C dX11_decade_62 (rfl : 62 + 2 = 64) rfl ?_
      refine a_i (j := 75) (f := a20) C dX11_decade_64 (rfl : 64 + 1 = 65) rfl ea20 (show ¬ ((75 : Int32) < 0 ∨ 77 ≤ ((75 : Int32)).toNatClampNeg) by decide) rfl ?_
      refine r_isub C dX11_decade_65 (rfl : 65 + 1 = 66) ?_
      refine r_goto (tgt := 121) C dX11_decade_66 (by decide) ?_
      cases h
      exact r_iret C hr dX11_decade_121
  · have h := k_t c34 h
    refine r_iconst (v := (0 : Int32)) C dX11_decade_37 (rfl : 37 + 1 = 38) rfl ?_
    cases h
    exact r_iret C hr dX11_decade_38
set_option maxHeartbeats 400000 in
set_option maxRecDepth 100000 in
theorem sX11_decade_28 (u : Nat) {X : k_X} {ad : Nat → Nat} (C : k_C X cX11_decade RX11 5 ad) (hr : X.meth.sig.returnType = (some .int)) (hR : X.R.frames = 7 ∧ X.R.locals = 158) {I : Nat → Nat → Int32} {L : Nat → Nat → Int64} {Rf : Nat → Nat → Option Nat} {c0_25 : Int32} (ec0_25 : I 0 25 = c0_25) {c0_26 : Int32} (ec0_26 : I 0 26 = c0_26) {c0_27 : Int32} (ec0_27 : I 0 27 = c0_27) {c0_28 : Int32} (ec0_28 : I 0 28 = c0_28) {c0_30 : Int32} (ec0_30 : I 0 30 = c0_30) {a7 : (Nat → Int32)} (ea7 : I 7 = a7) {a8 : (Nat → Int32)} (ea8 : I 8 = a8) {a9 : (Nat → Int32)} (ea9 : I 9 = a9) {a10 : (Nat → Int32)} (ea10 : I 10 = a10) {a13 : (Nat → Int32)} (ea13 : I 13 = a13) {a14 : (Nat → Int32)} (ea14 : I 14 = a14) {a15 : (Nat → Int32)} (ea15 : I 15 = a15) {a20 : (Nat → Int32)} (ea20 : I 20 = a20) {out : Int32 × Int32 × Int32 × Int32 × (Nat → Int32) × (Nat → Int32) × (Nat → Int32) × (Nat → Int32) × (Nat → Int32) × (Nat → Int32)} : ∀ (c0_0 : Int32) (c0_62 : Int32) (c0_63 : Int32) (a1 : (Nat → Int32)) (a16 : (Nat → Int32)) (a17 : (Nat → Int32)) (a21 : (Nat → Int32)) (a23 : (Nat → Int32)) (a24 : (Nat → Int32)) (v1 : Int32) (v2 : Int32) (v3 : Int32) (v4 : Int32), bX11_decade_28 u c0_25 c0_26 c0_27 c0_28 c0_30 a7 a8 a9 a10 a13 a14 a15 a20 c0_0 c0_62 c0_63 a1 a16 a17 a21 a23 a24 v1 v2 v3 v4 = some out → k_W X 5 0 0 (k_Q X ad (some (.int out.1)) (k_ap [(0, .inl (0, out.2.1)), (0, .inl (62, out.2.2.1)), (0, .inl (63, out.2.2.2.1)), (1, .inr (.inr (.inl out.2.2.2.2.1))), (16, .inr (.inr (.inl out.2.2.2.2.2.1))), (17, .inr (.inr (.inl out.2.2.2.2.2.2.1))), (21, .inr (.inr (.inl out.2.2.2.2.2.2.2.1))), (23, .inr (.inr (.inl out.2.2.2.2.2.2.2.2.1))), (24, .inr (.inr (.inl out.2.2.2.2.2.2.2.2.2)))] (shM, I, L, Rf))) ad (k_ap [(0, .inl (0, c0_0)), (0, .inl (62, c0_62)), (0, .inl (63, c0_63)), (1, .inr (.inr (.inl a1))), (16, .inr (.inr (.inl a16))), (17, .inr (.inr (.inl a17))), (21, .inr (.inr (.inl a21))), (23, .inr (.inr (.inl a23))), (24, .inr (.inr (.inl a24)))] (shM, I, L, Rf)) 28 [some (.ref 0), some (.int v1), some (.int v2), some (.int v3), some (.int v4)] [.ref 0] := by
  intro c0_0 c0_62 c0_63 a1 a16 a17 a21 a23 a24 v1 v2 v3 v4 h
  unfold bX11_decade_28 at h
  refine r_iconst (v := (0 : Int32)) C dX11_decade_28 (rfl : 28 + 1 = 29) rfl ?_
  refine k_mask [true, true, true, true, true] ?_
  exact sX11_decade_29 u C hr hR ec0_25 ec0_26 ec0_27 ec0_28 ec0_30 ea7 ea8 ea9 ea10 ea13 ea14 ea15 ea20 c0_0 c0_62 c0_63 a1 a16 a17 a21 a23 a24 v1 v2 v3 v4 (0 : Int32) h
set_option maxHeartbeats 400000 in
set_option maxRecDepth 100000 in
theorem sX11_decade_0 (u : Nat) {X : k_X} {ad : Nat → Nat} (C : k_C X cX11_decade RX11 5 ad) (hr : X.meth.sig.returnType = (some .int)) (hR : X.R.frames = 7 ∧ X.R.locals = 158) {I : Nat → Nat → Int32} {L : Nat → Nat → Int64} {Rf : Nat → Nat → Option Nat} {c0_25 : Int32} (ec0_25 : I 0 25 = c0_25) {c0_26 : Int32} (ec0_26 : I 0 26 = c0_26) {c0_27 : Int32} (ec0_27 : I 0 27 = c0_27) {c0_28 : Int32} (ec0_28 : I 0 28 = c0_28) {c0_30 : Int32} (ec0_30 : I 0 30 = c0_30) {a7 : (Nat → Int32)} (ea7 : I 7 = a7) {a8 : (Nat → Int32)} (ea8 : I 8 = a8) {a9 : (Nat → Int32)} (ea9 : I 9 = a9) {a10 : (Nat → Int32)} (ea10 : I 10 = a10) {a13 : (Nat → Int32)} (ea13 : I 13 = a13) {a14 : (Nat → Int32)} (ea14 : I 14 = a14) {a15 : (Nat → Int32)} (ea15 : I 15 = a15) {a20 : (Nat → Int32)} (ea20 : I 20 = a20) {out : Int32 × Int32 × Int32 × Int32 × (Nat → Int32) × (Nat → Int32) × (Nat → Int32) × (Nat → Int32) × (Nat → Int32) × (Nat → Int32)} : ∀ (c0_0 : Int32) (c0_62 : Int32) (c0_63 : Int32) (a1 : (Nat → Int32)) (a16 : (Nat → Int32)) (a17 : (Nat → Int32)) (a21 : (Nat → Int32)) (a23 : (Nat → Int32)) (a24 : (Nat → Int32)) (v1 : Int32) (v2 : Int32) (v3 : Int32) (v4 : Int32), bX11_decade_0 u c0_25 c0_26 c0_27 c0_28 c0_30 a7 a8 a9 a10 a13 a14 a15 a20 c0_0 c0_62 c0_63 a1 a16 a17 a21 a23 a24 v1 v2 v3 v4 = some out → k_W X 5 0 0 (k_Q X ad (some (.int out.1)) (k_ap [(0, .inl (0, out.2.1)), (0, .inl (62, out.2.2.1)), (0, .inl (63, out.2.2.2.1)), (1, .inr (.inr (.inl out.2.2.2.2.1))), (16, .inr (.inr (.inl out.2.2.2.2.2.1))), (17, .inr (.inr (.inl out.2.2.2.2.2.2.1))), (21, .inr (.inr (.inl out.2.2.2.2.2.2.2.1))), (23, .inr (.inr (.inl out.2.2.2.2.2.2.2.2.1))), (24, .inr (.inr (.inl out.2.2.2.2.2.2.2.2.2)))] (shM, I, L, Rf))) ad (k_ap [(0, .inl (0, c0_0)), (0, .inl (62, c0_62)), (0, .inl (63, c0_63)), (1, .inr (.inr (.inl a1))), (16, .inr (.inr (.inl a16))), (17, .inr (.inr (.inl a17))), (21, .inr (.inr (.inl a21))), (23, .inr (.inr (.inl a23))), (24, .inr (.inr (.inl a24)))] (shM, I, L, Rf)) 0 [some (.ref 0), some (.int v1), some (.int v2), some (.int v3), some (.int v4)] [] := by
  intro c0_0 c0_62 c0_63 a1 a16 a17 a21 a23 a24 v1 v2 v3 v4 h
  unfold bX11_decade_0 at h
  refine r_aload_n C dX11_decade_0 (rfl : 0 + 1 = 1) rfl ?_
  refine r_iconst (v := (0 : Int32)) C dX11_decade_1 (rfl : 1 + 1 = 2) rfl ?_
  refine p_I (us' := [(0, .inl (0, (0 : Int32))), (0, .inl (62, c0_62)), (0, .inl (63, c0_63)), (1, .inr (.inr (.inl a1))), (16, .inr (.inr (.inl a16))), (17, .inr (.inr (.inl a17))), (21, .inr (.inr (.inl a21))), (23, .inr (.inr (.inl a23))), (24, .inr (.inr (.inl a24)))]) C dX11_decade_2 (rfl : 2 + 3 = 5) fp_X11_3 rfl rfl ds_X11_decade rfl rfl rfl ?_
  refine r_aload_n C dX11_decade_5 (rfl : 5 + 1 = 6) rfl ?_
  refine r_iload_n C dX11_decade_6 (rfl : 6 + 1 = 7) rfl ?_
  refine r_iload_n C dX11_decade_7 (rfl : 7 + 1 = 8) rfl ?_
  obtain ⟨r8, q8, h⟩ := k_b_of h
  refine d_S (As := [.int v2, .int v3]) (st := [.ref 0]) (st' := [.int r8, .ref 0]) (h' := k_ap [(0, .inl (0, (0 : Int32))), (0, .inl (62, c0_62)), (0, .inl (63, c0_63)), (1, .inr (.inr (.inl a1))), (16, .inr (.inr (.inl a16))), (17, .inr (.inr (.inl a17))), (21, .inr (.inr (.inl a21))), (23, .inr (.inr (.inl a23))), (24, .inr (.inr (.inl a24)))] (shM, I, L, Rf)) C hR ⟨Nat.zero_le _, Nat.zero_le _⟩ ms_X11_isDecade lk_X11_487 dX11_decade_8 (rfl : 8 + 3 = 11) rfl rfl (c_X11_isDecade X.l u (k_ap [(0, .inl (0, (0 : Int32))), (0, .inl (62, c0_62)), (0, .inl (63, c0_63)), (1, .inr (.inr (.inl a1))), (16, .inr (.inr (.inl a16))), (17, .inr (.inr (.inl a17))), (21, .inr (.inr (.inl a21))), (23, .inr (.inr (.inl a23))), (24, .inr (.inr (.inl a24)))] (shM, I, L, Rf)) rfl  q8) rfl rfl rfl rfl rfl ?_
  refine r_if_eq (tgt := 28) C dX11_decade_11 (by decide) (rfl : 11 + 3 = 14) (fun c11 => ?_) (fun c11 => ?_)
  · have h := k_t c11 h
    refine k_mask [true, true, true, true, true] ?_
    exact sX11_decade_28 u C hr hR ec0_25 ec0_26 ec0_27 ec0_28 ec0_30 ea7 ea8 ea9 ea10 ea13 ea14 ea15 ea20 (0 : Int32) c0_62 c0_63 a1 a16 a17 a21 a23 a24 v1 v2 v3 v4 h
  · have h := k_f c11 h
    refine r_iload C dX11_decade_14 (rfl : 14 + 2 = 16) rfl ?_
    refine r_iconst (v := (0 : Int32)) C dX11_decade_16 (rfl : 16 + 1 = 17) rfl ?_
    refine r_iconst (v := (3 : Int32)) C dX11_decade_17 (rfl : 17 + 1 = 18) rfl ?_
    obtain ⟨r18, q18, h⟩ := k_b_of h
    refine d_S (As := [.int v4, .int (0 : Int32), .int (3 : Int32)]) (st := [.ref 0]) (st' := [.int r18, .ref 0]) (h' := k_ap [(0, .inl (0, (0 : Int32))), (0, .inl (62, c0_62)), (0, .inl (63, c0_63)), (1, .inr (.inr (.inl a1))), (16, .inr (.inr (.inl a16))), (17, .inr (.inr (.inl a17))), (21, .inr (.inr (.inl a21))), (23, .inr (.inr (.inl a23))), (24, .inr (.inr (.inl a24)))] (shM, I, L, Rf)) C hR ⟨Nat.zero_le _, Nat.zero_le _⟩ ms_X11_within lk_X11_317 dX11_decade_18 (rfl : 18 + 3 = 21) rfl rfl (c_X11_within X.l u (k_ap [(0, .inl (0, (0 : Int32))), (0, .inl (62, c0_62)), (0, .inl (63, c0_63)), (1, .inr (.inr (.inl a1))), (16, .inr (.inr (.inl a16))), (17, .inr (.inr (.inl a17))), (21, .inr (.inr (.inl a21))), (23, .inr (.inr (.inl a23))), (24, .inr (.inr (.inl a24)))] (shM, I, L, Rf)) rfl  q18) rfl rfl rfl rfl rfl ?_
    refine r_if_eq (tgt := 28) C dX11_decade_21 (by decide) (rfl : 21 + 3 = 24) (fun c21 => ?_) (fun c21 => ?_)
    · have h := k_t c21 h
      refine k_mask [true, true, true, true, true] ?_
      exact sX11_decade_28 u C hr hR ec0_25 ec0_26 ec0_27 ec0_28 ec0_30 ea7 ea8 ea9 ea10 ea13 ea14 ea15 ea20 (0 : Int32) c0_62 c0_63 a1 a16 a17 a21 a23 a24 v1 v2 v3 v4 h
    · have h := k_f c21 h
      refine r_iconst (v := (1 : Int32)) C dX11_decade_24 (rfl : 24 + 1 = 25) rfl ?_
      refine r_goto (tgt := 29) C dX11_decade_25 (by decide) ?_
      refine k_mask [true, true, true, true, true] ?_
      exact sX11_decade_29 u C hr hR ec0_25 ec0_26 ec0_27 ec0_28 ec0_30 ea7 ea8 ea9 ea10 ea13 ea14 ea15 ea20 (0 : Int32) c0_62 c0_63 a1 a16 a17 a21 a23 a24 v1 v2 v3 v4 (1 : Int32) h
set_option maxHeartbeats 400000 in
set_option maxRecDepth 100000 in
theorem c_X11_decade (l : Launch) (u : Nat) (h : k_H) (hsh : h.1 = shM) {c0_0 : Int32} (ec0_0 : h.2.1 0 0 = c0_0) {c0_25 : Int32} (ec0_25 : h.2.1 0 25 = c0_25) {c0_26 : Int32} (ec0_26 : h.2.1 0 26 = c0_26) {c0_27 : Int32} (ec0_27 : h.2.1 0 27 = c0_27) {c0_28 : Int32} (ec0_28 : h.2.1 0 28 = c0_28) {c0_30 : Int32} (ec0_30 : h.2.1 0 30 = c0_30) {c0_62 : Int32} (ec0_62 : h.2.1 0 62 = c0_62) {c0_63 : Int32} (ec0_63 : h.2.1 0 63 = c0_63) {a1 : (Nat → Int32)} (ea1 : h.2.1 1 = a1) {a7 : (Nat → Int32)} (ea7 : h.2.1 7 = a7) {a8 : (Nat → Int32)} (ea8 : h.2.1 8 = a8) {a9 : (Nat → Int32)} (ea9 : h.2.1 9 = a9) {a10 : (Nat → Int32)} (ea10 : h.2.1 10 = a10) {a13 : (Nat → Int32)} (ea13 : h.2.1 13 = a13) {a14 : (Nat → Int32)} (ea14 : h.2.1 14 = a14) {a15 : (Nat → Int32)} (ea15 : h.2.1 15 = a15) {a16 : (Nat → Int32)} (ea16 : h.2.1 16 = a16) {a17 : (Nat → Int32)} (ea17 : h.2.1 17 = a17) {a20 : (Nat → Int32)} (ea20 : h.2.1 20 = a20) {a21 : (Nat → Int32)} (ea21 : h.2.1 21 = a21) {a23 : (Nat → Int32)} (ea23 : h.2.1 23 = a23) {a24 : (Nat → Int32)} (ea24 : h.2.1 24 = a24) {x0 : Int32} {x1 : Int32} {x2 : Int32} {x3 : Int32} {out : Int32 × Int32 × Int32 × Int32 × (Nat → Int32) × (Nat → Int32) × (Nat → Int32) × (Nat → Int32) × (Nat → Int32) × (Nat → Int32)} (hf : f_X11_decade u c0_0 c0_25 c0_26 c0_27 c0_28 c0_30 c0_62 c0_63 a1 a7 a8 a9 a10 a13 a14 a15 a16 a17 a20 a21 a23 a24 x0 x1 x2 x3 = some out) : k_CT l yX11_decade cX11_decade 5 (some .int) 7 158 [.ref 0, .int x0, .int x1, .int x2, .int x3] h (some (.int out.1)) [(0, .inl (0, out.2.1)), (0, .inl (62, out.2.2.1)), (0, .inl (63, out.2.2.2.1)), (1, .inr (.inr (.inl out.2.2.2.2.1))), (16, .inr (.inr (.inl out.2.2.2.2.2.1))), (17, .inr (.inr (.inl out.2.2.2.2.2.2.1))), (21, .inr (.inr (.inl out.2.2.2.2.2.2.2.1))), (23, .inr (.inr (.inl out.2.2.2.2.2.2.2.2.1))), (24, .inr (.inr (.inl out.2.2.2.2.2.2.2.2.2)))] := by
  obtain ⟨sh, I, L, Rf⟩ := h
  try dsimp only
  obtain rfl : sh = shM := hsh
  refine k_ofW (by decide) (Nat.le_of_ble_eq_true rfl) ?_
  intro X ad hl hR0 hr C
  have hR : X.R.frames = 7 ∧ X.R.locals = 158 := by rw [hR0]; exact ⟨rfl, rfl⟩
  have h := hf
  unfold f_X11_decade at h
  refine k_start (us := [(0, .inl (0, c0_0)), (0, .inl (62, c0_62)), (0, .inl (63, c0_63)), (1, .inr (.inr (.inl a1))), (16, .inr (.inr (.inl a16))), (17, .inr (.inr (.inl a17))), (21, .inr (.inr (.inl a21))), (23, .inr (.inr (.inl a23))), (24, .inr (.inr (.inl a24)))]) (k_ao_I ec0_0 (k_ao_I ec0_62 (k_ao_I ec0_63 (k_ao_A ea1 (k_ao_A ea16 (k_ao_A ea17 (k_ao_A ea21 (k_ao_A ea23 (k_ao_A ea24 k_ap_0))))))))) ?_
  show k_W X 5 0 0 _ ad (k_ap [(0, .inl (0, c0_0)), (0, .inl (62, c0_62)), (0, .inl (63, c0_63)), (1, .inr (.inr (.inl a1))), (16, .inr (.inr (.inl a16))), (17, .inr (.inr (.inl a17))), (21, .inr (.inr (.inl a21))), (23, .inr (.inr (.inl a23))), (24, .inr (.inr (.inl a24)))] (shM, I, L, Rf)) 0 [some (.ref 0), some (.int x0), some (.int x1), some (.int x2), some (.int x3)] []
  refine k_mask [true, true, true, true, true] ?_
  exact sX11_decade_0 u C hr hR ec0_25 ec0_26 ec0_27 ec0_28 ec0_30 ea7 ea8 ea9 ea10 ea13 ea14 ea15 ea20 c0_0 c0_62 c0_63 a1 a16 a17 a21 a23 a24 x0 x1 x2 x3 h
