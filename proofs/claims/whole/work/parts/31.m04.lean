/-! LullabyPitModel.readSeam()V -/
theorem ds_X11_readSeam : k_ds [(0, 0, 4), (0, 0, 5), (0, 0, 6), (3, 2, 0), (4, 2, 0)] = true := by decide +kernel
set_option maxHeartbeats 400000 in
set_option maxRecDepth 100000 in
theorem sX11_readSeam_89 (u : Nat) {X : k_X} {ad : Nat → Nat} (C : k_C X cX11_readSeam RX11 9 ad) (hr : X.meth.sig.returnType = none) (hR : X.R.frames = 2 ∧ X.R.locals = 47) {I : Nat → Nat → Int32} {L : Nat → Nat → Int64} {Rf : Nat → Nat → Option Nat} {c0_3 : Int32} (ec0_3 : I 0 3 = c0_3) {c0_18 : Int32} (ec0_18 : I 0 18 = c0_18) {c0_19 : Int32} (ec0_19 : I 0 19 = c0_19) {a2 : (Nat → Int32)} (ea2 : I 2 = a2) {out : Int32 × Int32 × Int32 × (Nat → Int32) × (Nat → Int32)} {k77 : Int32 → Int32 → Int32 → (Nat → Int32) → (Nat → Int32) → Int32 → Int32 → Int32 → Int32 → Int32 → Int32 → Int32 → Option (Int32 × Int32 × Int32 × (Nat → Int32) × (Nat → Int32))} (hk77 : ∀ (c0_4 : Int32) (c0_5 : Int32) (c0_6 : Int32) (a3 : (Nat → Int32)) (a4 : (Nat → Int32)) (v1 : Int32) (v2 : Int32) (v3 : Int32) (v4 : Int32) (v5 : Int32) (v6 : Int32) (v7 : Int32), k77 c0_4 c0_5 c0_6 a3 a4 v1 v2 v3 v4 v5 v6 v7 = some out → k_W X 9 0 0 (k_Q X ad none (k_ap [(0, .inl (4, out.1)), (0, .inl (5, out.2.1)), (0, .inl (6, out.2.2.1)), (3, .inr (.inr (.inl out.2.2.2.1))), (4, .inr (.inr (.inl out.2.2.2.2)))] (shM, I, L, Rf))) ad (k_ap [(0, .inl (4, c0_4)), (0, .inl (5, c0_5)), (0, .inl (6, c0_6)), (3, .inr (.inr (.inl a3))), (4, .inr (.inr (.inl a4)))] (shM, I, L, Rf)) 77 [some (.ref 0), some (.int v1), some (.int v2), some (.int v3), some (.int v4), some (.int v5), some (.int v6), some (.int v7), none] []) : ∀ (n : Nat) (c0_4 : Int32) (c0_5 : Int32) (c0_6 : Int32) (a3 : (Nat → Int32)) (a4 : (Nat → Int32)) (v1 : Int32) (v2 : Int32) (v3 : Int32) (v4 : Int32) (v5 : Int32) (v6 : Int32) (v7 : Int32) (v8 : Int32), bX11_readSeam_89 u c0_3 c0_18 c0_19 a2 k77 n c0_4 c0_5 c0_6 a3 a4 v1 v2 v3 v4 v5 v6 v7 v8 = some out → k_W X 9 0 0 (k_Q X ad none (k_ap [(0, .inl (4, out.1)), (0, .inl (5, out.2.1)), (0, .inl (6, out.2.2.1)), (3, .inr (.inr (.inl out.2.2.2.1))), (4, .inr (.inr (.inl out.2.2.2.2)))] (shM, I, L, Rf))) ad (k_ap [(0, .inl (4, c0_4)), (0, .inl (5, c0_5)), (0, .inl (6, c0_6)), (3, .inr (.inr (.inl a3))), (4, .inr (.inr (.inl a4)))] (shM, I, L, Rf)) 89 [some (.ref 0), some (.int v1), some (.int v2), some (.int v3), some (.int v4), some (.int v5), some (.int v6), some (.int v7), some (.int v8)] [] := by
  intro n
  induction n with
  | zero => intro c0_4 c0_5 c0_6 a3 a4 v1 v2 v3 v4 v5 v6 v7 v8 h; cases h
  | succ n ih =>
    intro c0_4 c0_5 c0_6 a3 a4 v1 v2 v3 v4 v5 v6 v7 v8 h
    refine r_iload C dX11_readSeam_89 (rfl : 89 + 2 = 91) rfl ?_
    refine r_iload_n C dX11_readSeam_91 (rfl : 91 + 1 = 92) rfl ?_
    refine r_iload_n C dX11_readSeam_92 (rfl : 92 + 1 = 93) rfl ?_
    refine r_iadd C dX11_readSeam_93 (rfl : 93 + 1 = 94) ?_
    refine r_icmp_ge (tgt := 133) C dX11_readSeam_94 (by decide) (rfl : 94 + 3 = 97) (fun c94 => ?_) (fun c94 => ?_)
    · have h := k_t c94 h
      refine r_iinc (v := (v7 + (1 : Int32))) C dX11_readSeam_133 (rfl : 133 + 3 = 136) rfl rfl (by decide) ?_
      show k_W _ _ _ _ _ _ _ _ [some (.ref 0), some (.int v1), some (.int v2), some (.int v3), some (.int v4), some (.int v5), some (.int v6), some (.int (v7 + (1 : Int32))), some (.int v8)] _
      refine r_goto (tgt := 77) C dX11_readSeam_136 (by decide) ?_
      refine k_mask [true, true, true, true, true, true, true, true, false] ?_
      exact hk77 c0_4 c0_5 c0_6 a3 a4 v1 v2 v3 v4 v5 v6 (v7 + (1 : Int32)) h
    · have h := k_f c94 h
      refine r_aload_n C dX11_readSeam_97 (rfl : 97 + 1 = 98) rfl ?_
      refine r_getR (q := 3) C dX11_readSeam_98 (rfl : 98 + 3 = 101) fl_X11_23 rfl rfl ?_
      refine r_bipush (v := (8 : Int32)) C dX11_readSeam_101 (rfl : 101 + 2 = 103) rfl ?_
      refine r_iload C dX11_readSeam_103 (rfl : 103 + 2 = 105) rfl ?_
      refine r_imul C dX11_readSeam_105 (rfl : 105 + 1 = 106) ?_
      refine r_iload C dX11_readSeam_106 (rfl : 106 + 2 = 108) rfl ?_
      refine r_iadd C dX11_readSeam_108 (rfl : 108 + 1 = 109) ?_
      refine r_iload C dX11_readSeam_109 (rfl : 109 + 2 = 111) rfl ?_
      obtain ⟨hi111, h⟩ := k_i_of h
      refine s_i (j := ((((8 : Int32) * v7) + v8)).toNatClampNeg) (f := a3) (us' := [(0, .inl (4, c0_4)), (0, .inl (5, c0_5)), (0, .inl (6, c0_6)), (3, .inr (.inr (.inl (upd a3 (((((8 : Int32) * v7) + v8)).toNatClampNeg) v5)))), (4, .inr (.inr (.inl a4)))]) C dX11_readSeam_111 (rfl : 111 + 1 = 112) rfl rfl hi111 rfl ds_X11_readSeam rfl rfl rfl ?_
      refine r_aload_n C dX11_readSeam_112 (rfl : 112 + 1 = 113) rfl ?_
      refine r_getR (q := 4) C dX11_readSeam_113 (rfl : 113 + 3 = 116) fl_X11_26 rfl rfl ?_
      refine r_bipush (v := (8 : Int32)) C dX11_readSeam_116 (rfl : 116 + 2 = 118) rfl ?_
      refine r_iload C dX11_readSeam_118 (rfl : 118 + 2 = 120) rfl ?_
      refine r_imul C dX11_readSeam_120 (rfl : 120 + 1 = 121) ?_
      refine r_iload C dX11_readSeam_121 (rfl : 121 + 2 = 123) rfl ?_
      refine r_iadd C dX11_readSeam_123 (rfl : 123 + 1 = 124) ?_
      refine r_iload C dX11_readSeam_124 (rfl : 124 + 2 = 126) rfl ?_
      obtain ⟨hi126, h⟩ := k_i_of h
      refine s_i (j := ((((8 : Int32) * v7) + v8)).toNatClampNeg) (f := a4) (us' := [(0, .inl (4, c0_4)), (0, .inl (5, c0_5)), (0, .inl (6, c0_6)), (3, .inr (.inr (.inl (upd a3 (((((8 : Int32) * v7) + v8)).toNatClampNeg) v5)))), (4, .inr (.inr (.inl (upd a4 (((((8 : Int32) * v7) + v8)).toNatClampNeg) v6))))]) C dX11_readSeam_126 (rfl : 126 + 1 = 127) rfl rfl hi126 rfl ds_X11_readSeam rfl rfl rfl ?_
      refine r_iinc (v := (v8 + (1 : Int32))) C dX11_readSeam_127 (rfl : 127 + 3 = 130) rfl rfl (by decide) ?_
      show k_W _ _ _ _ _ _ _ _ [some (.ref 0), some (.int v1), some (.int v2), some (.int v3), some (.int v4), some (.int v5), some (.int v6), some (.int v7), some (.int (v8 + (1 : Int32)))] _
      refine r_goto (tgt := 89) C dX11_readSeam_130 (by decide) ?_
      refine k_mask [true, true, true, true, true, true, true, true, true] ?_
      exact ih c0_4 c0_5 c0_6 (upd a3 (((((8 : Int32) * v7) + v8)).toNatClampNeg) v5) (upd a4 (((((8 : Int32) * v7) + v8)).toNatClampNeg) v6) v1 v2 v3 v4 v5 v6 v7 (v8 + (1 : Int32)) h
set_option maxHeartbeats 400000 in
set_option maxRecDepth 100000 in
theorem sX11_readSeam_77 (u : Nat) {X : k_X} {ad : Nat → Nat} (C : k_C X cX11_readSeam RX11 9 ad) (hr : X.meth.sig.returnType = none) (hR : X.R.frames = 2 ∧ X.R.locals = 47) {I : Nat → Nat → Int32} {L : Nat → Nat → Int64} {Rf : Nat → Nat → Option Nat} {c0_3 : Int32} (ec0_3 : I 0 3 = c0_3) {c0_18 : Int32} (ec0_18 : I 0 18 = c0_18) {c0_19 : Int32} (ec0_19 : I 0 19 = c0_19) {a2 : (Nat → Int32)} (ea2 : I 2 = a2) {out : Int32 × Int32 × Int32 × (Nat → Int32) × (Nat → Int32)} : ∀ (n : Nat) (c0_4 : Int32) (c0_5 : Int32) (c0_6 : Int32) (a3 : (Nat → Int32)) (a4 : (Nat → Int32)) (v1 : Int32) (v2 : Int32) (v3 : Int32) (v4 : Int32) (v5 : Int32) (v6 : Int32) (v7 : Int32), bX11_readSeam_77 u c0_3 c0_18 c0_19 a2 n c0_4 c0_5 c0_6 a3 a4 v1 v2 v3 v4 v5 v6 v7 = some out → k_W X 9 0 0 (k_Q X ad none (k_ap [(0, .inl (4, out.1)), (0, .inl (5, out.2.1)), (0, .inl (6, out.2.2.1)), (3, .inr (.inr (.inl out.2.2.2.1))), (4, .inr (.inr (.inl out.2.2.2.2)))] (shM, I, L, Rf))) ad (k_ap [(0, .inl (4, c0_4)), (0, .inl (5, c0_5)), (0, .inl (6, c0_6)), (3, .inr (.inr (.inl a3))), (4, .inr (.inr (.inl a4)))] (shM, I, L, Rf)) 77 [some (.ref 0), some (.int v1), some (.int v2), some (.int v3), some (.int v4), some (.int v5), some (.int v6), some (.int v7), none] [] := by
  intro n
  induction n with
  | zero => intro c0_4 c0_5 c0_6 a3 a4 v1 v2 v3 v4 v5 v6 v7 h; cases h
  | succ n ih =>
    intro c0_4 c0_5 c0_6 a3 a4 v1 v2 v3 v4 v5 v6 v7 h
    refine r_iload C dX11_readSeam_77 (rfl : 77 + 2 = 79) rfl ?_
    refine r_iload_n C dX11_readSeam_79 (rfl : 79 + 1 = 80) rfl ?_
    refine r_iload C dX11_readSeam_80 (rfl : 80 + 2 = 82) rfl ?_
    refine r_iadd C dX11_readSeam_82 (rfl : 82 + 1 = 83) ?_
    refine r_icmp_ge (tgt := 139) C dX11_readSeam_83 (by decide) (rfl : 83 + 3 = 86) (fun c83 => ?_) (fun c83 => ?_)
    · have h := k_t c83 h
      cases h
      exact r_vret C hr dX11_readSeam_139
    · have h := k_f c83 h
      refine r_iload_n C dX11_readSeam_86 (rfl : 86 + 1 = 87) rfl ?_
      refine r_istore C dX11_readSeam_87 (rfl : 87 + 2 = 89) (by decide) (Nat.le_of_ble_eq_true rfl) ?_
      show k_W _ _ _ _ _ _ _ _ [some (.ref 0), some (.int v1), some (.int v2), some (.int v3), some (.int v4), some (.int v5), some (.int v6), some (.int v7), some (.int v1)] _
      refine k_mask [true, true, true, true, true, true, true, true, true] ?_
      exact sX11_readSeam_89 u C hr hR ec0_3 ec0_18 ec0_19 ea2 ih u c0_4 c0_5 c0_6 a3 a4 v1 v2 v3 v4 v5 v6 v7 v1 h
set_option maxHeartbeats 400000 in
set_option maxRecDepth 100000 in
theorem sX11_readSeam_0 (u : Nat) {X : k_X} {ad : Nat → Nat} (C : k_C X cX11_readSeam RX11 9 ad) (hr : X.meth.sig.returnType = none) (hR : X.R.frames = 2 ∧ X.R.locals = 47) {I : Nat → Nat → Int32} {L : Nat → Nat → Int64} {Rf : Nat → Nat → Option Nat} {c0_3 : Int32} (ec0_3 : I 0 3 = c0_3) {c0_18 : Int32} (ec0_18 : I 0 18 = c0_18) {c0_19 : Int32} (ec0_19 : I 0 19 = c0_19) {a2 : (Nat → Int32)} (ea2 : I 2 = a2) {out : Int32 × Int32 × Int32 × (Nat → Int32) × (Nat → Int32)} : ∀ (c0_4 : Int32) (c0_5 : Int32) (c0_6 : Int32) (a3 : (Nat → Int32)) (a4 : (Nat → Int32)), bX11_readSeam_0 u c0_3 c0_18 c0_19 a2 c0_4 c0_5 c0_6 a3 a4 = some out → k_W X 9 0 0 (k_Q X ad none (k_ap [(0, .inl (4, out.1)), (0, .inl (5, out.2.1)), (0, .inl (6, out.2.2.1)), (3, .inr (.inr (.inl out.2.2.2.1))), (4, .inr (.inr (.inl out.2.2.2.2)))] (shM, I, L, Rf))) ad (k_ap [(0, .inl (4, c0_4)), (0, .inl (5, c0_5)), (0, .inl (6, c0_6)), (3, .inr (.inr (.inl a3))), (4, .inr (.inr (.inl a4)))] (shM, I, L, Rf)) 0 [some (.ref 0), none, none, none, none, none, none, none, none] [] := by
  intro c0_4 c0_5 c0_6 a3 a4 h
  unfold bX11_readSeam_0 at h
  refine r_aload_n C dX11_readSeam_0 (rfl : 0 + 1 = 1) rfl ?_
  refine r_iconst (v := (0 : Int32)) C dX11_readSeam_1 (rfl : 1 + 1 = 2) rfl ?_
  refine r_aload_n C dX11_readSeam_2 (rfl : 2 + 1 = 3) rfl ?_
  refine r_getI (v := c0_18) C dX11_readSeam_3 (rfl : 3 + 3 = 6) fl_X11_163 rfl rfl ec0_18 ?_
  refine r_iconst (v := (1 : Int32)) C dX11_readSeam_6 (rfl : 6 + 1 = 7) rfl ?_
  refine r_isub C dX11_readSeam_7 (rfl : 7 + 1 = 8) ?_
  obtain ⟨r8, q8, h⟩ := k_b_of h
  refine d_V (As := [.int (0 : Int32), .int (c0_18 - (1 : Int32))]) (st := []) (st' := [.int r8.1]) (h' := k_ap [(0, .inl (4, r8.2.1)), (0, .inl (5, r8.2.2.1)), (0, .inl (6, r8.2.2.2)), (3, .inr (.inr (.inl a3))), (4, .inr (.inr (.inl a4)))] (shM, I, L, Rf)) C hR ⟨Nat.zero_le _, Nat.zero_le _⟩ mv_X11_readNumber lk_X11_218 dX11_readSeam_8 (rfl : 8 + 3 = 11) rfl rfl rfl rfl (c_X11_readNumber X.l u (k_ap [(0, .inl (4, c0_4)), (0, .inl (5, c0_5)), (0, .inl (6, c0_6)), (3, .inr (.inr (.inl a3))), (4, .inr (.inr (.inl a4)))] (shM, I, L, Rf)) rfl ec0_3 rfl rfl rfl ea2 q8) rfl rfl rfl (k_jn (us' := [(0, .inl (4, r8.2.1)), (0, .inl (5, r8.2.2.1)), (0, .inl (6, r8.2.2.2)), (3, .inr (.inr (.inl a3))), (4, .inr (.inr (.inl a4)))]) ds_X11_readSeam rfl rfl rfl) rfl ?_
  refine r_istore_n C dX11_readSeam_11 (rfl : 11 + 1 = 12) (by decide) (Nat.le_of_ble_eq_true rfl) ?_
  show k_W _ _ _ _ _ _ _ _ [some (.ref 0), some (.int r8.1), none, none, none, none, none, none, none] _
  refine r_aload_n C dX11_readSeam_12 (rfl : 12 + 1 = 13) rfl ?_
  refine r_iconst (v := (0 : Int32)) C dX11_readSeam_13 (rfl : 13 + 1 = 14) rfl ?_
  refine r_aload_n C dX11_readSeam_14 (rfl : 14 + 1 = 15) rfl ?_
  refine r_getI (v := c0_19) C dX11_readSeam_15 (rfl : 15 + 3 = 18) fl_X11_166 rfl rfl ec0_19 ?_
  refine r_iconst (v := (1 : Int32)) C dX11_readSeam_18 (rfl : 18 + 1 = 19) rfl ?_
  refine r_isub C dX11_readSeam_19 (rfl : 19 + 1 = 20) ?_
  obtain ⟨r20, q20, h⟩ := k_b_of h
  refine d_V (As := [.int (0 : Int32), .int (c0_19 - (1 : Int32))]) (st := []) (st' := [.int r20.1]) (h' := k_ap [(0, .inl (4, r20.2.1)), (0, .inl (5, r20.2.2.1)), (0, .inl (6, r20.2.2.2)), (3, .inr (.inr (.inl a3))), (4, .inr (.inr (.inl a4)))] (shM, I, L, Rf)) C hR ⟨Nat.zero_le _, Nat.zero_le _⟩ mv_X11_readNumber lk_X11_218 dX11_readSeam_20 (rfl : 20 + 3 = 23) rfl rfl rfl rfl (c_X11_readNumber X.l u (k_ap [(0, .inl (4, r8.2.1)), (0, .inl (5, r8.2.2.1)), (0, .inl (6, r8.2.2.2)), (3, .inr (.inr (.inl a3))), (4, .inr (.inr (.inl a4)))] (shM, I, L, Rf)) rfl ec0_3 rfl rfl rfl ea2 q20) rfl rfl rfl (k_jn (us' := [(0, .inl (4, r20.2.1)), (0, .inl (5, r20.2.2.1)), (0, .inl (6, r20.2.2.2)), (3, .inr (.inr (.inl a3))), (4, .inr (.inr (.inl a4)))]) ds_X11_readSeam rfl rfl rfl) rfl ?_
  refine r_istore_n C dX11_readSeam_23 (rfl : 23 + 1 = 24) (by decide) (Nat.le_of_ble_eq_true rfl) ?_
  show k_W _ _ _ _ _ _ _ _ [some (.ref 0), some (.int r8.1), some (.int r20.1), none, none, none, none, none, none] _
  refine r_aload_n C dX11_readSeam_24 (rfl : 24 + 1 = 25) rfl ?_
  refine r_iconst (v := (1 : Int32)) C dX11_readSeam_25 (rfl : 25 + 1 = 26) rfl ?_
  refine r_aload_n C dX11_readSeam_26 (rfl : 26 + 1 = 27) rfl ?_
  refine r_getI (v := c0_18) C dX11_readSeam_27 (rfl : 27 + 3 = 30) fl_X11_163 rfl rfl ec0_18 ?_
  refine r_iload_n C dX11_readSeam_30 (rfl : 30 + 1 = 31) rfl ?_
  refine r_isub C dX11_readSeam_31 (rfl : 31 + 1 = 32) ?_
  obtain ⟨r32, q32, h⟩ := k_b_of h
  refine d_V (As := [.int (1 : Int32), .int (c0_18 - r8.1)]) (st := []) (st' := [.int r32.1]) (h' := k_ap [(0, .inl (4, r32.2.1)), (0, .inl (5, r32.2.2.1)), (0, .inl (6, r32.2.2.2)), (3, .inr (.inr (.inl a3))), (4, .inr (.inr (.inl a4)))] (shM, I, L, Rf)) C hR ⟨Nat.zero_le _, Nat.zero_le _⟩ mv_X11_readNumber lk_X11_218 dX11_readSeam_32 (rfl : 32 + 3 = 35) rfl rfl rfl rfl (c_X11_readNumber X.l u (k_ap [(0, .inl (4, r20.2.1)), (0, .inl (5, r20.2.2.1)), (0, .inl (6, r20.2.2.2)), (3, .inr (.inr (.inl a3))), (4, .inr (.inr (.inl a4)))] (shM, I, L, Rf)) rfl ec0_3 rfl rfl rfl ea2 q32) rfl rfl rfl (k_jn (us' := [(0, .inl (4, r32.2.1)), (0, .inl (5, r32.2.2.1)), (0, .inl (6, r32.2.2.2)), (3, .inr (.inr (.inl a3))), (4, .inr (.inr (.inl a4)))]) ds_X11_readSeam rfl rfl rfl) rfl ?_
  refine r_istore_n C dX11_readSeam_35 (rfl : 35 + 1 = 36) (by decide) (Nat.le_of_ble_eq_true rfl) ?_
  show k_W _ _ _ _ _ _ _ _ [some (.ref 0), some (.int r8.1), some (.int r20.1), some (.int r32.1), none, none, none, none, none] _
  refine r_aload_n C dX11_readSeam_36 (rfl : 36 + 1 = 37) rfl ?_
  refine r_iconst (v := (1 : Int32)) C dX11_readSeam_37 (rfl : 37 + 1 = 38) rfl ?_
  refine r_aload_n C dX11_readSeam_38 (rfl : 38 + 1 = 39) rfl ?_
  refine r_getI (v := c0_19) C dX11_readSeam_39 (rfl : 39 + 3 = 42) fl_X11_166 rfl rfl ec0_19 ?_
  refine r_iload_n C dX11_readSeam_42 (rfl : 42 + 1 = 43) rfl ?_
  refine r_isub C dX11_readSeam_43 (rfl : 43 + 1 = 44) ?_
  obtain ⟨r44, q44, h⟩ := k_b_of h
  refine d_V (As := [.int (1 : Int32), .int (c0_19 - r20.1)]) (st := []) (st' := [.int r44.1]) (h' := k_ap [(0, .inl (4, r44.2.1)), (0, .inl (5, r44.2.2.1)), (0, .inl (6, r44.2.2.2)), (3, .inr (.inr (.inl a3))), (4, .inr (.inr (.inl a4)))] (shM, I, L, Rf)) C hR ⟨Nat.zero_le _, Nat.zero_le _⟩ mv_X11_readNumber lk_X11_218 dX11_readSeam_44 (rfl : 44 + 3 = 47) rfl rfl rfl rfl (c_X11_readNumber X.l u (k_ap [(0, .inl (4, r32.2.1)), (0, .inl (5, r32.2.2.1)), (0, .inl (6, r32.2.2.2)), (3, .inr (.inr (.inl a3))), (4, .inr (.inr (.inl a4)))] (shM, I, L, Rf)) rfl ec0_3 rfl rfl rfl ea2 q44) rfl rfl rfl (k_jn (us' := [(0, .inl (4, r44.2.1)), (0, .inl (5, r44.2.2.1)), (0, .inl (6, r44.2.2.2)), (3, .inr (.inr (.inl a3))), (4, .inr (.inr (.inl a4)))]) ds_X11_readSeam rfl rfl rfl) rfl ?_
  refine r_istore C dX11_readSeam_47 (rfl : 47 + 2 = 49) (by decide) (Nat.le_of_ble_eq_true rfl) ?_
  show k_W _ _ _ _ _ _ _ _ [some (.ref 0), some (.int r8.1), some (.int r20.1), some (.int r32.1), some (.int r44.1), none, none, none, none] _
  refine r_aload_n C dX11_readSeam_49 (rfl : 49 + 1 = 50) rfl ?_
  refine r_iconst (v := (1 : Int32)) C dX11_readSeam_50 (rfl : 50 + 1 = 51) rfl ?_
  refine r_iconst (v := (4 : Int32)) C dX11_readSeam_51 (rfl : 51 + 1 = 52) rfl ?_
  obtain ⟨r52, q52, h⟩ := k_b_of h
  refine d_V (As := [.int (1 : Int32), .int (4 : Int32)]) (st := []) (st' := [.int r52.1]) (h' := k_ap [(0, .inl (4, r52.2.1)), (0, .inl (5, r52.2.2.1)), (0, .inl (6, r52.2.2.2)), (3, .inr (.inr (.inl a3))), (4, .inr (.inr (.inl a4)))] (shM, I, L, Rf)) C hR ⟨Nat.zero_le _, Nat.zero_le _⟩ mv_X11_readNumber lk_X11_218 dX11_readSeam_52 (rfl : 52 + 3 = 55) rfl rfl rfl rfl (c_X11_readNumber X.l u (k_ap [(0, .inl (4, r44.2.1)), (0, .inl (5, r44.2.2.1)), (0, .inl (6, r44.2.2.2)), (3, .inr (.inr (.inl a3))), (4, .inr (.inr (.inl a4)))] (shM, I, L, Rf)) rfl ec0_3 rfl rfl rfl ea2 q52) rfl rfl rfl (k_jn (us' := [(0, .inl (4, r52.2.1)), (0, .inl (5, r52.2.2.1)), (0, .inl (6, r52.2.2.2)), (3, .inr (.inr (.inl a3))), (4, .inr (.inr (.inl a4)))]) ds_X11_readSeam rfl rfl rfl) rfl ?_
  refine r_istore C dX11_readSeam_55 (rfl : 55 + 2 = 57) (by decide) (Nat.le_of_ble_eq_true rfl) ?_
  show k_W _ _ _ _ _ _ _ _ [some (.ref 0), some (.int r8.1), some (.int r20.1), some (.int r32.1), some (.int r44.1), some (.int r52.1), none, none, none] _
  refine r_aload_n C dX11_readSeam_57 (rfl : 57 + 1 = 58) rfl ?_
  refine r_iconst (v := (1 : Int32)) C dX11_readSeam_58 (rfl : 58 + 1 = 59) rfl ?_
  refine r_bipush (v := (9 : Int32)) C dX11_readSeam_59 (rfl : 59 + 2 = 61) rfl ?_
  obtain ⟨r61, q61, h⟩ := k_b_of h
  refine d_V (As := [.int (1 : Int32), .int (9 : Int32)]) (st := []) (st' := [.int r61.1]) (h' := k_ap [(0, .inl (4, r61.2.1)), (0, .inl (5, r61.2.2.1)), (0, .inl (6, r61.2.2.2)), (3, .inr (.inr (.inl a3))), (4, .inr (.inr (.inl a4)))] (shM, I, L, Rf)) C hR ⟨Nat.zero_le _, Nat.zero_le _⟩ mv_X11_readNumber lk_X11_218 dX11_readSeam_61 (rfl : 61 + 3 = 64) rfl rfl rfl rfl (c_X11_readNumber X.l u (k_ap [(0, .inl (4, r52.2.1)), (0, .inl (5, r52.2.2.1)), (0, .inl (6, r52.2.2.2)), (3, .inr (.inr (.inl a3))), (4, .inr (.inr (.inl a4)))] (shM, I, L, Rf)) rfl ec0_3 rfl rfl rfl ea2 q61) rfl rfl rfl (k_jn (us' := [(0, .inl (4, r61.2.1)), (0, .inl (5, r61.2.2.1)), (0, .inl (6, r61.2.2.2)), (3, .inr (.inr (.inl a3))), (4, .inr (.inr (.inl a4)))]) ds_X11_readSeam rfl rfl rfl) rfl ?_
  refine r_istore C dX11_readSeam_64 (rfl : 64 + 2 = 66) (by decide) (Nat.le_of_ble_eq_true rfl) ?_
  show k_W _ _ _ _ _ _ _ _ [some (.ref 0), some (.int r8.1), some (.int r20.1), some (.int r32.1), some (.int r44.1), some (.int r52.1), some (.int r61.1), none, none] _
  refine r_aload_n C dX11_readSeam_66 (rfl : 66 + 1 = 67) rfl ?_
  obtain ⟨r67, q67, h⟩ := k_b_of h
  refine d_V (As := []) (st := []) (st' := [.int r67]) (h' := k_ap [(0, .inl (4, r61.2.1)), (0, .inl (5, r61.2.2.1)), (0, .inl (6, r61.2.2.2)), (3, .inr (.inr (.inl a3))), (4, .inr (.inr (.inl a4)))] (shM, I, L, Rf)) C hR ⟨Nat.zero_le _, Nat.zero_le _⟩ mv_X11_fine lk_X11_149 dX11_readSeam_67 (rfl : 67 + 3 = 70) rfl rfl rfl rfl (c_X11_fine X.l u (k_ap [(0, .inl (4, r61.2.1)), (0, .inl (5, r61.2.2.1)), (0, .inl (6, r61.2.2.2)), (3, .inr (.inr (.inl a3))), (4, .inr (.inr (.inl a4)))] (shM, I, L, Rf)) rfl rfl q67) rfl rfl rfl rfl rfl ?_
  refine r_if_ne (tgt := 74) C dX11_readSeam_70 (by decide) (rfl : 70 + 3 = 73) (fun c70 => ?_) (fun c70 => ?_)
  · have h := k_f c70 h
    refine r_iload_n C dX11_readSeam_74 (rfl : 74 + 1 = 75) rfl ?_
    refine r_istore C dX11_readSeam_75 (rfl : 75 + 2 = 77) (by decide) (Nat.le_of_ble_eq_true rfl) ?_
    show k_W _ _ _ _ _ _ _ _ [some (.ref 0), some (.int r8.1), some (.int r20.1), some (.int r32.1), some (.int r44.1), some (.int r52.1), some (.int r61.1), some (.int r20.1), none] _
    refine k_mask [true, true, true, true, true, true, true, true, false] ?_
    exact sX11_readSeam_77 u C hr hR ec0_3 ec0_18 ec0_19 ea2 u r61.2.1 r61.2.2.1 r61.2.2.2 a3 a4 r8.1 r20.1 r32.1 r44.1 r52.1 r61.1 r20.1 h
  · have h := k_t c70 h
    cases h
    exact r_vret C hr dX11_readSeam_73
set_option maxHeartbeats 400000 in
set_option maxRecDepth 100000 in
theorem c_X11_readSeam (l : Launch) (u : Nat) (h : k_H) (hsh : h.1 = shM) {c0_3 : Int32} (ec0_3 : h.2.1 0 3 = c0_3) {c0_4 : Int32} (ec0_4 : h.2.1 0 4 = c0_4) {c0_5 : Int32} (ec0_5 : h.2.1 0 5 = c0_5) {c0_6 : Int32} (ec0_6 : h.2.1 0 6 = c0_6) {c0_18 : Int32} (ec0_18 : h.2.1 0 18 = c0_18) {c0_19 : Int32} (ec0_19 : h.2.1 0 19 = c0_19) {a2 : (Nat → Int32)} (ea2 : h.2.1 2 = a2) {a3 : (Nat → Int32)} (ea3 : h.2.1 3 = a3) {a4 : (Nat → Int32)} (ea4 : h.2.1 4 = a4) {out : Int32 × Int32 × Int32 × (Nat → Int32) × (Nat → Int32)} (hf : f_X11_readSeam u c0_3 c0_4 c0_5 c0_6 c0_18 c0_19 a2 a3 a4 = some out) : k_CT l yX11_readSeam cX11_readSeam 9 none 2 47 [.ref 0] h none [(0, .inl (4, out.1)), (0, .inl (5, out.2.1)), (0, .inl (6, out.2.2.1)), (3, .inr (.inr (.inl out.2.2.2.1))), (4, .inr (.inr (.inl out.2.2.2.2)))] := by
  obtain ⟨sh, I, L, Rf⟩ := h
  try dsimp only
  obtain rfl : sh = shM := hsh
  refine k_ofW (by decide) (Nat.le_of_ble_eq_true rfl) ?_
  intro X ad hl hR0 hr C
  have hR : X.R.frames = 2 ∧ X.R.locals = 47 := by rw [hR0]; exact ⟨rfl, rfl⟩
  have h := hf
  unfold f_X11_readSeam at h
  refine k_start (us := [(0, .inl (4, c0_4)), (0, .inl (5, c0_5)), (0, .inl (6, c0_6)), (3, .inr (.inr (.inl a3))), (4, .inr (.inr (.inl a4)))]) (k_ao_I ec0_4 (k_ao_I ec0_5 (k_ao_I ec0_6 (k_ao_A ea3 (k_ao_A ea4 k_ap_0))))) ?_
  show k_W X 9 0 0 _ ad (k_ap [(0, .inl (4, c0_4)), (0, .inl (5, c0_5)), (0, .inl (6, c0_6)), (3, .inr (.inr (.inl a3))), (4, .inr (.inr (.inl a4)))] (shM, I, L, Rf)) 0 [some (.ref 0), none, none, none, none, none, none, none, none] []
  refine k_mask [true, false, false, false, false, false, false, false, false] ?_
  exact sX11_readSeam_0 u C hr hR ec0_3 ec0_18 ec0_19 ea2 c0_4 c0_5 c0_6 a3 a4 h
/-! LullabyPitModel.readOrder()V -/
theorem ds_X11_readOrder : k_ds [(0, 0, 4), (0, 0, 5), (0, 0, 6), (0, 0, 24), (6, 2, 0)] = true := by decide +kernel
set_option maxHeartbeats 400000 in
set_option maxRecDepth 100000 in
theorem sX11_readOrder_72 (u : Nat) {X : k_X} {ad : Nat → Nat} (C : k_C X cX11_readOrder RX11 5 ad) (hr : X.meth.sig.returnType = none) (hR : X.R.frames = 5 ∧ X.R.locals = 107) {I : Nat → Nat → Int32} {L : Nat → Nat → Int64} {Rf : Nat → Nat → Option Nat} {c0_3 : Int32} (ec0_3 : I 0 3 = c0_3) {a2 : (Nat → Int32)} (ea2 : I 2 = a2) {out : Int32 × Int32 × Int32 × Int32 × (Nat → Int32)} {k23 : Int32 → Int32 → Int32 → Int32 → (Nat → Int32) → Int32 → Int32 → Option (Int32 × Int32 × Int32 × Int32 × (Nat → Int32))} (hk23 : ∀ (c0_4 : Int32) (c0_5 : Int32) (c0_6 : Int32) (c0_24 : Int32) (a6 : (Nat → Int32)) (v1 : Int32) (v2 : Int32), k23 c0_4 c0_5 c0_6 c0_24 a6 v1 v2 = some out → k_W X 5 0 0 (k_Q X ad none (k_ap [(0, .inl (4, out.1)), (0, .inl (5, out.2.1)), (0, .inl (6, out.2.2.1)), (0, .inl (24, out.2.2.2.1)), (6, .inr (.inr (.inl out.2.2.2.2)))] (shM, I, L, Rf))) ad (k_ap [(0, .inl (4, c0_4)), (0, .inl (5, c0_5)), (0, .inl (6, c0_6)), (0, .inl (24, c0_24)), (6, .inr (.inr (.inl a6)))] (shM, I, L, Rf)) 23 [some (.ref 0), some (.int v1), some (.int v2), none, none] []) : ∀ (c0_4 : Int32) (c0_5 : Int32) (c0_6 : Int32) (c0_24 : Int32) (a6 : (Nat → Int32)) (v1 : Int32) (v2 : Int32) (v4 : Int32), bX11_readOrder_72 u c0_3 a2 k23 c0_4 c0_5 c0_6 c0_24 a6 v1 v2 v4 = some out → k_W X 5 0 0 (k_Q X ad none (k_ap [(0, .inl (4, out.1)), (0, .inl (5, out.2.1)), (0, .inl (6, out.2.2.1)), (0, .inl (24, out.2.2.2.1)), (6, .inr (.inr (.inl out.2.2.2.2)))] (shM, I, L, Rf))) ad (k_ap [(0, .inl (4, c0_4)), (0, .inl (5, c0_5)), (0, .inl (6, c0_6)), (0, .inl (24, c0_24)), (6, .inr (.inr (.inl a6)))] (shM, I, L, Rf)) 72 [some (.ref 0), some (.int v1), some (.int v2), none, some (.int v4)] [] := by
  intro c0_4 c0_5 c0_6 c0_24 a6 v1 v2 v4 h
  unfold bX11_readOrder_72 at h
  refine r_aload_n C dX11_readOrder_72 (rfl : 72 + 1 = 73) rfl ?_
  obtain ⟨r73, q73, h⟩ := k_b_of h
  refine d_V (As := []) (st := []) (st' := [.int r73]) (h' := k_ap [(0, .inl (4, c0_4)), (0, .inl (5, c0_5)), (0, .inl (6, c0_6)), (0, .inl (24, c0_24)), (6, .inr (.inr (.inl a6)))] (shM, I, L, Rf)) C hR ⟨Nat.zero_le _, Nat.zero_le _⟩ mv_X11_fine lk_X11_149 dX11_readOrder_73 (rfl : 73 + 3 = 76) rfl rfl rfl rfl (c_X11_fine X.l u (k_ap [(0, .inl (4, c0_4)), (0, .inl (5, c0_5)), (0, .inl (6, c0_6)), (0, .inl (24, c0_24)), (6, .inr (.inr (.inl a6)))] (shM, I, L, Rf)) rfl rfl q73) rfl rfl rfl rfl rfl ?_
  refine r_if_ne (tgt := 80) C dX11_readOrder_76 (by decide) (rfl : 76 + 3 = 79) (fun c76 => ?_) (fun c76 => ?_)
  · have h := k_f c76 h
    refine r_aload_n C dX11_readOrder_80 (rfl : 80 + 1 = 81) rfl ?_
    refine r_getR (q := 6) C dX11_readOrder_81 (rfl : 81 + 3 = 84) fl_X11_32 rfl rfl ?_
    refine r_iload_n C dX11_readOrder_84 (rfl : 84 + 1 = 85) rfl ?_
    refine r_iconst (v := (2 : Int32)) C dX11_readOrder_85 (rfl : 85 + 1 = 86) rfl ?_
    refine r_iadd C dX11_readOrder_86 (rfl : 86 + 1 = 87) ?_
    refine r_iload_n C dX11_readOrder_87 (rfl : 87 + 1 = 88) rfl ?_
    refine r_iadd C dX11_readOrder_88 (rfl : 88 + 1 = 89) ?_
    refine r_iload C dX11_readOrder_89 (rfl : 89 + 2 = 91) rfl ?_
    obtain ⟨hi91, h⟩ := k_i_of h
    refine s_i (j := (((v1 + (2 : Int32)) + v2)).toNatClampNeg) (f := a6) (us' := [(0, .inl (4, c0_4)), (0, .inl (5, c0_5)), (0, .inl (6, c0_6)), (0, .inl (24, c0_24)), (6, .inr (.inr (.inl (upd a6 ((((v1 + (2 : Int32)) + v2)).toNatClampNeg) v4))))]) C dX11_readOrder_91 (rfl : 91 + 1 = 92) rfl rfl hi91 rfl ds_X11_readOrder rfl rfl rfl ?_
    refine r_iinc (v := (v2 + (1 : Int32))) C dX11_readOrder_92 (rfl : 92 + 3 = 95) rfl rfl (by decide) ?_
    show k_W _ _ _ _ _ _ _ _ [some (.ref 0), some (.int v1), some (.int (v2 + (1 : Int32))), none, some (.int v4)] _
    refine r_goto (tgt := 23) C dX11_readOrder_95 (by decide) ?_
    refine k_mask [true, true, true, false, false] ?_
    exact hk23 c0_4 c0_5 c0_6 c0_24 (upd a6 ((((v1 + (2 : Int32)) + v2)).toNatClampNeg) v4) v1 (v2 + (1 : Int32)) h
  · have h := k_t c76 h
    cases h
    exact r_vret C hr dX11_readOrder_79
set_option maxHeartbeats 400000 in
set_option maxRecDepth 100000 in
theorem sX11_readOrder_130 (u : Nat) {X : k_X} {ad : Nat → Nat} (C : k_C X cX11_readOrder RX11 5 ad) (hr : X.meth.sig.returnType = none) (hR : X.R.frames = 5 ∧ X.R.locals = 107) {I : Nat → Nat → Int32} {L : Nat → Nat → Int64} {Rf : Nat → Nat → Option Nat} {c0_3 : Int32} (ec0_3 : I 0 3 = c0_3) {a2 : (Nat → Int32)} (ea2 : I 2 = a2) {out : Int32 × Int32 × Int32 × Int32 × (Nat → Int32)} : ∀ (c0_4 : Int32) (c0_5 : Int32) (c0_6 : Int32) (c0_24 : Int32) (a6 : (Nat → Int32)) (v1 : Int32) (v2 : Int32), bX11_readOrder_130 u c0_3 a2 c0_4 c0_5 c0_6 c0_24 a6 v1 v2 = some out → k_W X 5 0 0 (k_Q X ad none (k_ap [(0, .inl (4, out.1)), (0, .inl (5, out.2.1)), (0, .inl (6, out.2.2.1)), (0, .inl (24, out.2.2.2.1)), (6, .inr (.inr (.inl out.2.2.2.2)))] (shM, I, L, Rf))) ad (k_ap [(0, .inl (4, c0_4)), (0, .inl (5, c0_5)), (0, .inl (6, c0_6)), (0, .inl (24, c0_24)), (6, .inr (.inr (.inl a6)))] (shM, I, L, Rf)) 130 [some (.ref 0), some (.int v1), some (.int v2), none, none] [] := by
  intro c0_4 c0_5 c0_6 c0_24 a6 v1 v2 h
  unfold bX11_readOrder_130 at h
  refine r_aload_n C dX11_readOrder_130 (rfl : 130 + 1 = 131) rfl ?_
  obtain ⟨r131, q131, h⟩ := k_b_of h
  refine d_V (As := []) (st := []) (st' := [.int r131]) (h' := k_ap [(0, .inl (4, c0_4)), (0, .inl (5, c0_5)), (0, .inl (6, c0_6)), (0, .inl (24, c0_24)), (6, .inr (.inr (.inl a6)))] (shM, I, L, Rf)) C hR ⟨Nat.zero_le _, Nat.zero_le _⟩ mv_X11_fine lk_X11_149 dX11_readOrder_131 (rfl : 131 + 3 = 134) rfl rfl rfl rfl (c_X11_fine X.l u (k_ap [(0, .inl (4, c0_4)), (0, .inl (5, c0_5)), (0, .inl (6, c0_6)), (0, .inl (24, c0_24)), (6, .inr (.inr (.inl a6)))] (shM, I, L, Rf)) rfl rfl q131) rfl rfl rfl rfl rfl ?_
  refine r_if_ne (tgt := 138) C dX11_readOrder_134 (by decide) (rfl : 134 + 3 = 137) (fun c134 => ?_) (fun c134 => ?_)
  · have h := k_f c134 h
    refine r_aload_n C dX11_readOrder_138 (rfl : 138 + 1 = 139) rfl ?_
    obtain ⟨r139, q139, h⟩ := k_b_of h
    refine d_V (As := []) (st := []) (st' := []) (h' := k_ap [(0, .inl (4, r139)), (0, .inl (5, c0_5)), (0, .inl (6, c0_6)), (0, .inl (24, c0_24)), (6, .inr (.inr (.inl a6)))] (shM, I, L, Rf)) C hR ⟨Nat.zero_le _, Nat.zero_le _⟩ mv_X11_pass lk_X11_231 dX11_readOrder_139 (rfl : 139 + 3 = 142) rfl rfl rfl rfl (c_X11_pass X.l u (k_ap [(0, .inl (4, c0_4)), (0, .inl (5, c0_5)), (0, .inl (6, c0_6)), (0, .inl (24, c0_24)), (6, .inr (.inr (.inl a6)))] (shM, I, L, Rf)) rfl ec0_3 rfl ea2 q139) rfl rfl rfl (k_jn (us' := [(0, .inl (4, r139)), (0, .inl (5, c0_5)), (0, .inl (6, c0_6)), (0, .inl (24, c0_24)), (6, .inr (.inr (.inl a6)))]) ds_X11_readOrder rfl rfl rfl) rfl ?_
    refine r_aload_n C dX11_readOrder_142 (rfl : 142 + 1 = 143) rfl ?_
    refine r_getR (q := 6) C dX11_readOrder_143 (rfl : 143 + 3 = 146) fl_X11_32 rfl rfl ?_
    refine r_iload_n C dX11_readOrder_146 (rfl : 146 + 1 = 147) rfl ?_
    refine r_iconst (v := (1 : Int32)) C dX11_readOrder_147 (rfl : 147 + 1 = 148) rfl ?_
    refine r_iadd C dX11_readOrder_148 (rfl : 148 + 1 = 149) ?_
    refine r_iload_n C dX11_readOrder_149 (rfl : 149 + 1 = 150) rfl ?_
    obtain ⟨hi150, h⟩ := k_i_of h
    refine s_i (j := ((v1 + (1 : Int32))).toNatClampNeg) (f := a6) (us' := [(0, .inl (4, r139)), (0, .inl (5, c0_5)), (0, .inl (6, c0_6)), (0, .inl (24, c0_24)), (6, .inr (.inr (.inl (upd a6 (((v1 + (1 : Int32))).toNatClampNeg) v2))))]) C dX11_readOrder_150 (rfl : 150 + 1 = 151) rfl rfl hi150 rfl ds_X11_readOrder rfl rfl rfl ?_
    refine r_aload_n C dX11_readOrder_151 (rfl : 151 + 1 = 152) rfl ?_
    refine r_dup C dX11_readOrder_152 (rfl : 152 + 1 = 153) rfl ?_
    refine r_getI (v := c0_24) C dX11_readOrder_153 (rfl : 153 + 3 = 156) fl_X11_181 rfl rfl rfl ?_
    refine r_iconst (v := (1 : Int32)) C dX11_readOrder_156 (rfl : 156 + 1 = 157) rfl ?_
    refine r_iadd C dX11_readOrder_157 (rfl : 157 + 1 = 158) ?_
    refine p_I (us' := [(0, .inl (4, r139)), (0, .inl (5, c0_5)), (0, .inl (6, c0_6)), (0, .inl (24, (c0_24 + (1 : Int32)))), (6, .inr (.inr (.inl (upd a6 (((v1 + (1 : Int32))).toNatClampNeg) v2))))]) C dX11_readOrder_158 (rfl : 158 + 3 = 161) fp_X11_181 rfl rfl ds_X11_readOrder rfl rfl rfl ?_
    cases h
    exact r_vret C hr dX11_readOrder_161
  · have h := k_t c134 h
    cases h
    exact r_vret C hr dX11_readOrder_137
set_option maxHeartbeats 400000 in
set_option maxRecDepth 100000 in
theorem sX11_readOrder_121 (u : Nat) {X : k_X} {ad : Nat → Nat} (C : k_C X cX11_readOrder RX11 5 ad) (hr : X.meth.sig.returnType = none) (hR : X.R.frames = 5 ∧ X.R.locals = 107) {I : Nat → Nat → Int32} {L : Nat → Nat → Int64} {Rf : Nat → Nat → Option Nat} {c0_3 : Int32} (ec0_3 : I 0 3 = c0_3) {a2 : (Nat → Int32)} (ea2 : I 2 = a2) {out : Int32 × Int32 × Int32 × Int32 × (Nat → Int32)} : ∀ (c0_4 : Int32) (c0_5 : Int32) (c0_6 : Int32) (c0_24 : Int32) (a6 : (Nat → Int32)) (v1 : Int32) (v2 : Int32), bX11_readOrder_121 u c0_3 a2 c0_4 c0_5 c0_6 c0_24 a6 v1 v2 = some out → k_W X 5 0 0 (k_Q X ad none (k_ap [(0, .inl (4, out.1)), (0, .inl (5, out.2.1)), (0, .inl (6, out.2.2.1)), (0, .inl (24, out.2.2.2.1)), (6, .inr (.inr (.inl out.2.2.2.2)))] (shM, I, L, Rf))) ad (k_ap [(0, .inl (4, c0_4)), (0, .inl (5, c0_5)), (0, .inl (6, c0_6)), (0, .inl (24, c0_24)), (6, .inr (.inr (.inl a6)))] (shM, I, L, Rf)) 121 [some (.ref 0), some (.int v1), some (.int v2), none, none] [] := by
  intro c0_4 c0_5 c0_6 c0_24 a6 v1 v2 h
  unfold bX11_readOrder_121 at h
  refine r_aload_n C dX11_readOrder_121 (rfl : 121 + 1 = 122) rfl ?_
  refine r_iconst (v := (1 : Int32)) C dX11_readOrder_122 (rfl : 122 + 1 = 123) rfl ?_
  refine r_aload_n C dX11_readOrder_123 (rfl : 123 + 1 = 124) rfl ?_
  refine r_getI (v := c0_4) C dX11_readOrder_124 (rfl : 124 + 3 = 127) fl_X11_127 rfl rfl rfl ?_
  obtain ⟨r127, q127, h⟩ := k_b_of h
  refine d_V (As := [.int (1 : Int32), .int c0_4]) (st := []) (st' := []) (h' := k_ap [(0, .inl (4, c0_4)), (0, .inl (5, r127.1)), (0, .inl (6, r127.2)), (0, .inl (24, c0_24)), (6, .inr (.inr (.inl a6)))] (shM, I, L, Rf)) C hR ⟨Nat.zero_le _, Nat.zero_le _⟩ mv_X11_wrong lk_X11_156 dX11_readOrder_127 (rfl : 127 + 3 = 130) rfl rfl rfl rfl (c_X11_wrong X.l u (k_ap [(0, .inl (4, c0_4)), (0, .inl (5, c0_5)), (0, .inl (6, c0_6)), (0, .inl (24, c0_24)), (6, .inr (.inr (.inl a6)))] (shM, I, L, Rf)) rfl rfl rfl q127) rfl rfl rfl (k_jn (us' := [(0, .inl (4, c0_4)), (0, .inl (5, r127.1)), (0, .inl (6, r127.2)), (0, .inl (24, c0_24)), (6, .inr (.inr (.inl a6)))]) ds_X11_readOrder rfl rfl rfl) rfl ?_
  refine k_mask [true, true, true, false, false] ?_
  exact sX11_readOrder_130 u C hr hR ec0_3 ea2 c0_4 r127.1 r127.2 c0_24 a6 v1 v2 h
set_option maxHeartbeats 400000 in
set_option maxRecDepth 100000 in
theorem sX11_readOrder_98 (u : Nat) {X : k_X} {ad : Nat → Nat} (C : k_C X cX11_readOrder RX11 5 ad) (hr : X.meth.sig.returnType = none) (hR : X.R.frames = 5 ∧ X.R.locals = 107) {I : Nat → Nat → Int32} {L : Nat → Nat → Int64} {Rf : Nat → Nat → Option Nat} {c0_3 : Int32} (ec0_3 : I 0 3 = c0_3) {a2 : (Nat → Int32)} (ea2 : I 2 = a2) {out : Int32 × Int32 × Int32 × Int32 × (Nat → Int32)} : ∀ (c0_4 : Int32) (c0_5 : Int32) (c0_6 : Int32) (c0_24 : Int32) (a6 : (Nat → Int32)) (v1 : Int32) (v2 : Int32), bX11_readOrder_98 u c0_3 a2 c0_4 c0_5 c0_6 c0_24 a6 v1 v2 = some out → k_W X 5 0 0 (k_Q X ad none (k_ap [(0, .inl (4, out.1)), (0, .inl (5, out.2.1)), (0, .inl (6, out.2.2.1)), (0, .inl (24, out.2.2.2.1)), (6, .inr (.inr (.inl out.2.2.2.2)))] (shM, I, L, Rf))) ad (k_ap [(0, .inl (4, c0_4)), (0, .inl (5, c0_5)), (0, .inl (6, c0_6)), (0, .inl (24, c0_24)), (6, .inr (.inr (.inl a6)))] (shM, I, L, Rf)) 98 [some (.ref 0), some (.int v1), some (.int v2), none, none] [] := by
  intro c0_4 c0_5 c0_6 c0_24 a6 v1 v2 h
  unfold bX11_readOrder_98 at h
  refine r_aload_n C dX11_readOrder_98 (rfl : 98 + 1 = 99) rfl ?_
  obtain ⟨r99, q99, h⟩ := k_b_of h
  refine d_V (As := []) (st := []) (st' := [.int r99]) (h' := k_ap [(0, .inl (4, c0_4)), (0, .inl (5, c0_5)), (0, .inl (6, c0_6)), (0, .inl (24, c0_24)), (6, .inr (.inr (.inl a6)))] (shM, I, L, Rf)) C hR ⟨Nat.zero_le _, Nat.zero_le _⟩ mv_X11_fine lk_X11_149 dX11_readOrder_99 (rfl : 99 + 3 = 102) rfl rfl rfl rfl (c_X11_fine X.l u (k_ap [(0, .inl (4, c0_4)), (0, .inl (5, c0_5)), (0, .inl (6, c0_6)), (0, .inl (24, c0_24)), (6, .inr (.inr (.inl a6)))] (shM, I, L, Rf)) rfl rfl q99) rfl rfl rfl rfl rfl ?_
  refine r_if_eq (tgt := 130) C dX11_readOrder_102 (by decide) (rfl : 102 + 3 = 105) (fun c102 => ?_) (fun c102 => ?_)
  · have h := k_t c102 h
    refine k_mask [true, true, true, false, false] ?_
    exact sX11_readOrder_130 u C hr hR ec0_3 ea2 c0_4 c0_5 c0_6 c0_24 a6 v1 v2 h
  · have h := k_f c102 h
    refine r_iload_n C dX11_readOrder_105 (rfl : 105 + 1 = 106) rfl ?_
    refine r_if_eq (tgt := 121) C dX11_readOrder_106 (by decide) (rfl : 106 + 3 = 109) (fun c106 => ?_) (fun c106 => ?_)
    · have h := k_t c106 h
      refine k_mask [true, true, true, false, false] ?_
      exact sX11_readOrder_121 u C hr hR ec0_3 ea2 c0_4 c0_5 c0_6 c0_24 a6 v1 v2 h
    · have h := k_f c106 h
      refine r_aload_n C dX11_readOrder_109 (rfl : 109 + 1 = 110) rfl ?_
      obtain ⟨r110, q110, h⟩ := k_b_of h
      refine d_V (As := []) (st := []) (st' := [.int r110.1]) (h' := k_ap [(0, .inl (4, r110.2)), (0, .inl (5, c0_5)), (0, .inl (6, c0_6)), (0, .inl (24, c0_24)), (6, .inr (.inr (.inl a6)))] (shM, I, L, Rf)) C hR ⟨Nat.zero_le _, Nat.zero_le _⟩ mv_X11_word lk_X11_222 dX11_readOrder_110 (rfl : 110 + 3 = 113) rfl rfl rfl rfl (c_X11_word X.l u (k_ap [(0, .inl (4, c0_4)), (0, .inl (5, c0_5)), (0, .inl (6, c0_6)), (0, .inl (24, c0_24)), (6, .inr (.inr (.inl a6)))] (shM, I, L, Rf)) rfl ec0_3 rfl ea2 q110) rfl rfl rfl (k_jn (us' := [(0, .inl (4, r110.2)), (0, .inl (5, c0_5)), (0, .inl (6, c0_6)), (0, .inl (24, c0_24)), (6, .inr (.inr (.inl a6)))]) ds_X11_readOrder rfl rfl rfl) rfl ?_
      refine r_ldcS (i := 15) C rfl dX11_readOrder_113 (rfl : 113 + 2 = 115) ?_
      obtain ⟨r115, q115, h⟩ := k_b_of h
      refine d_S (As := [.ref (1000000 + 15)]) (st := [.int r110.1]) (st' := [.int r115, .int r110.1]) (h' := k_ap [(0, .inl (4, r110.2)), (0, .inl (5, c0_5)), (0, .inl (6, c0_6)), (0, .inl (24, c0_24)), (6, .inr (.inr (.inl a6)))] (shM, I, L, Rf)) C hR ⟨Nat.zero_le _, Nat.zero_le _⟩ ms_X11_of lk_X11_227 dX11_readOrder_115 (rfl : 115 + 3 = 118) rfl rfl (c_X11_of X.l u 15 (by decide) (k_ap [(0, .inl (4, r110.2)), (0, .inl (5, c0_5)), (0, .inl (6, c0_6)), (0, .inl (24, c0_24)), (6, .inr (.inr (.inl a6)))] (shM, I, L, Rf)) rfl  q115) rfl rfl rfl rfl rfl ?_
      refine r_icmp_eq (tgt := 130) C dX11_readOrder_118 (by decide) (rfl : 118 + 3 = 121) (fun c118 => ?_) (fun c118 => ?_)
      · have h := k_t c118 h
        refine k_mask [true, true, true, false, false] ?_
        exact sX11_readOrder_130 u C hr hR ec0_3 ea2 r110.2 c0_5 c0_6 c0_24 a6 v1 v2 h
      · have h := k_f c118 h
        refine k_mask [true, true, true, false, false] ?_
        exact sX11_readOrder_121 u C hr hR ec0_3 ea2 r110.2 c0_5 c0_6 c0_24 a6 v1 v2 h
set_option maxHeartbeats 400000 in
set_option maxRecDepth 100000 in
theorem sX11_readOrder_23 (u : Nat) {X : k_X} {ad : Nat → Nat} (C : k_C X cX11_readOrder RX11 5 ad) (hr : X.meth.sig.returnType = none) (hR : X.R.frames = 5 ∧ X.R.locals = 107) {I : Nat → Nat → Int32} {L : Nat → Nat → Int64} {Rf : Nat → Nat → Option Nat} {c0_3 : Int32} (ec0_3 : I 0 3 = c0_3) {a2 : (Nat → Int32)} (ea2 : I 2 = a2) {out : Int32 × Int32 × Int32 × Int32 × (Nat → Int32)} : ∀ (n : Nat) (c0_4 : Int32) (c0_5 : Int32) (c0_6 : Int32) (c0_24 : Int32) (a6 : (Nat → Int32)) (v1 : Int32) (v2 : Int32), bX11_readOrder_23 u c0_3 a2 n c0_4 c0_5 c0_6 c0_24 a6 v1 v2 = some out → k_W X 5 0 0 (k_Q X ad none (k_ap [(0, .inl (4, out.1)), (0, .inl (5, out.2.1)), (0, .inl (6, out.2.2.1)), (0, .inl (24, out.2.2.2.1)), (6, .inr (.inr (.inl out.2.2.2.2)))] (shM, I, L, Rf))) ad (k_ap [(0, .inl (4, c0_4)), (0, .inl (5, c0_5)), (0, .inl (6, c0_6)), (0, .inl (24, c0_24)), (6, .inr (.inr (.inl a6)))] (shM, I, L, Rf)) 23 [some (.ref 0), some (.int v1), some (.int v2), none, none] [] := by
  intro n
  induction n with
  | zero => intro c0_4 c0_5 c0_6 c0_24 a6 v1 v2 h; cases h
  | succ n ih =>
    intro c0_4 c0_5 c0_6 c0_24 a6 v1 v2 h
    refine r_aload_n C dX11_readOrder_23 (rfl : 23 + 1 = 24) rfl ?_
    obtain ⟨r24, q24, h⟩ := k_b_of h
    refine d_V (As := []) (st := []) (st' := [.int r24]) (h' := k_ap [(0, .inl (4, c0_4)), (0, .inl (5, c0_5)), (0, .inl (6, c0_6)), (0, .inl (24, c0_24)), (6, .inr (.inr (.inl a6)))] (shM, I, L, Rf)) C hR ⟨Nat.zero_le _, Nat.zero_le _⟩ mv_X11_fine lk_X11_149 dX11_readOrder_24 (rfl : 24 + 3 = 27) rfl rfl rfl rfl (c_X11_fine X.l u (k_ap [(0, .inl (4, c0_4)), (0, .inl (5, c0_5)), (0, .inl (6, c0_6)), (0, .inl (24, c0_24)), (6, .inr (.inr (.inl a6)))] (shM, I, L, Rf)) rfl rfl q24) rfl rfl rfl rfl rfl ?_
    refine r_if_eq (tgt := 98) C dX11_readOrder_27 (by decide) (rfl : 27 + 3 = 30) (fun c27 => ?_) (fun c27 => ?_)
    · have h := k_t c27 h
      refine k_mask [true, true, true, false, false] ?_
      exact sX11_readOrder_98 u C hr hR ec0_3 ea2 c0_4 c0_5 c0_6 c0_24 a6 v1 v2 h
    · have h := k_f c27 h
      refine r_aload_n C dX11_readOrder_30 (rfl : 30 + 1 = 31) rfl ?_
      obtain ⟨r31, q31, h⟩ := k_b_of h
      refine d_V (As := []) (st := []) (st' := [.int r31.1]) (h' := k_ap [(0, .inl (4, r31.2)), (0, .inl (5, c0_5)), (0, .inl (6, c0_6)), (0, .inl (24, c0_24)), (6, .inr (.inr (.inl a6)))] (shM, I, L, Rf)) C hR ⟨Nat.zero_le _, Nat.zero_le _⟩ mv_X11_here lk_X11_133 dX11_readOrder_31 (rfl : 31 + 3 = 34) rfl rfl rfl rfl (c_X11_here X.l u (k_ap [(0, .inl (4, c0_4)), (0, .inl (5, c0_5)), (0, .inl (6, c0_6)), (0, .inl (24, c0_24)), (6, .inr (.inr (.inl a6)))] (shM, I, L, Rf)) rfl ec0_3 rfl ea2 q31) rfl rfl rfl (k_jn (us' := [(0, .inl (4, r31.2)), (0, .inl (5, c0_5)), (0, .inl (6, c0_6)), (0, .inl (24, c0_24)), (6, .inr (.inr (.inl a6)))]) ds_X11_readOrder rfl rfl rfl) rfl ?_
      obtain ⟨r34, q34, h⟩ := k_b_of h
      refine d_S (As := [.int r31.1]) (st := []) (st' := [.int r34]) (h' := k_ap [(0, .inl (4, r31.2)), (0, .inl (5, c0_5)), (0, .inl (6, c0_6)), (0, .inl (24, c0_24)), (6, .inr (.inr (.inl a6)))] (shM, I, L, Rf)) C hR ⟨Nat.zero_le _, Nat.zero_le _⟩ ms_X11_isDigit lk_X11_153 dX11_readOrder_34 (rfl : 34 + 3 = 37) rfl rfl (c_X11_isDigit X.l u (k_ap [(0, .inl (4, r31.2)), (0, .inl (5, c0_5)), (0, .inl (6, c0_6)), (0, .inl (24, c0_24)), (6, .inr (.inr (.inl a6)))] (shM, I, L, Rf)) rfl  q34) rfl rfl rfl rfl rfl ?_
      refine r_if_eq (tgt := 98) C dX11_readOrder_37 (by decide) (rfl : 37 + 3 = 40) (fun c37 => ?_) (fun c37 => ?_)
      · have h := k_t c37 h
        refine k_mask [true, true, true, false, false] ?_
        exact sX11_readOrder_98 u C hr hR ec0_3 ea2 r31.2 c0_5 c0_6 c0_24 a6 v1 v2 h
      · have h := k_f c37 h
        refine r_aload_n C dX11_readOrder_40 (rfl : 40 + 1 = 41) rfl ?_
        refine r_getI (v := r31.2) C dX11_readOrder_41 (rfl : 41 + 3 = 44) fl_X11_127 rfl rfl rfl ?_
        refine r_istore_n C dX11_readOrder_44 (rfl : 44 + 1 = 45) (by decide) (Nat.le_of_ble_eq_true rfl) ?_
        show k_W _ _ _ _ _ _ _ _ [some (.ref 0), some (.int v1), some (.int v2), some (.int r31.2), none] _
        refine r_aload_n C dX11_readOrder_45 (rfl : 45 + 1 = 46) rfl ?_
        refine r_iconst (v := (1 : Int32)) C dX11_readOrder_46 (rfl : 46 + 1 = 47) rfl ?_
        refine r_iconst (v := (4 : Int32)) C dX11_readOrder_47 (rfl : 47 + 1 = 48) rfl ?_
        obtain ⟨r48, q48, h⟩ := k_b_of h
        refine d_V (As := [.int (1 : Int32), .int (4 : Int32)]) (st := []) (st' := [.int r48.1]) (h' := k_ap [(0, .inl (4, r48.2.1)), (0, .inl (5, r48.2.2.1)), (0, .inl (6, r48.2.2.2)), (0, .inl (24, c0_24)), (6, .inr (.inr (.inl a6)))] (shM, I, L, Rf)) C hR ⟨Nat.zero_le _, Nat.zero_le _⟩ mv_X11_readNumber lk_X11_218 dX11_readOrder_48 (rfl : 48 + 3 = 51) rfl rfl rfl rfl (c_X11_readNumber X.l u (k_ap [(0, .inl (4, r31.2)), (0, .inl (5, c0_5)), (0, .inl (6, c0_6)), (0, .inl (24, c0_24)), (6, .inr (.inr (.inl a6)))] (shM, I, L, Rf)) rfl ec0_3 rfl rfl rfl ea2 q48) rfl rfl rfl (k_jn (us' := [(0, .inl (4, r48.2.1)), (0, .inl (5, r48.2.2.1)), (0, .inl (6, r48.2.2.2)), (0, .inl (24, c0_24)), (6, .inr (.inr (.inl a6)))]) ds_X11_readOrder rfl rfl rfl) rfl ?_
        refine r_istore C dX11_readOrder_51 (rfl : 51 + 2 = 53) (by decide) (Nat.le_of_ble_eq_true rfl) ?_
        show k_W _ _ _ _ _ _ _ _ [some (.ref 0), some (.int v1), some (.int v2), some (.int r31.2), some (.int r48.1)] _
        refine r_aload_n C dX11_readOrder_53 (rfl : 53 + 1 = 54) rfl ?_
        obtain ⟨r54, q54, h⟩ := k_b_of h
        refine d_V (As := []) (st := []) (st' := [.int r54]) (h' := k_ap [(0, .inl (4, r48.2.1)), (0, .inl (5, r48.2.2.1)), (0, .inl (6, r48.2.2.2)), (0, .inl (24, c0_24)), (6, .inr (.inr (.inl a6)))] (shM, I, L, Rf)) C hR ⟨Nat.zero_le _, Nat.zero_le _⟩ mv_X11_fine lk_X11_149 dX11_readOrder_54 (rfl : 54 + 3 = 57) rfl rfl rfl rfl (c_X11_fine X.l u (k_ap [(0, .inl (4, r48.2.1)), (0, .inl (5, r48.2.2.1)), (0, .inl (6, r48.2.2.2)), (0, .inl (24, c0_24)), (6, .inr (.inr (.inl a6)))] (shM, I, L, Rf)) rfl rfl q54) rfl rfl rfl rfl rfl ?_
        refine r_if_eq (tgt := 72) C dX11_readOrder_57 (by decide) (rfl : 57 + 3 = 60) (fun c57 => ?_) (fun c57 => ?_)
        · have h := k_t c57 h
          refine k_mask [true, true, true, false, true] ?_
          exact sX11_readOrder_72 u C hr hR ec0_3 ea2 ih r48.2.1 r48.2.2.1 r48.2.2.2 c0_24 a6 v1 v2 r48.1 h
        · have h := k_f c57 h
          refine r_iload_n C dX11_readOrder_60 (rfl : 60 + 1 = 61) rfl ?_
          refine r_bipush (v := (8 : Int32)) C dX11_readOrder_61 (rfl : 61 + 2 = 63) rfl ?_
          refine r_icmp_ne (tgt := 72) C dX11_readOrder_63 (by decide) (rfl : 63 + 3 = 66) (fun c63 => ?_) (fun c63 => ?_)
          · have h := k_f c63 h
            refine k_mask [true, true, true, false, true] ?_
            exact sX11_readOrder_72 u C hr hR ec0_3 ea2 ih r48.2.1 r48.2.2.1 r48.2.2.2 c0_24 a6 v1 v2 r48.1 h
          · have h := k_t c63 h
            refine r_aload_n C dX11_readOrder_66 (rfl : 66 + 1 = 67) rfl ?_
            refine r_iconst (v := (3 : Int32)) C dX11_readOrder_67 (rfl : 67 + 1 = 68) rfl ?_
            refine r_iload_n C dX11_readOrder_68 (rfl : 68 + 1 = 69) rfl ?_
            obtain ⟨r69, q69, h⟩ := k_b_of h
            refine d_V (As := [.int (3 : Int32), .int r31.2]) (st := []) (st' := []) (h' := k_ap [(0, .inl (4, r48.2.1)), (0, .inl (5, r69.1)), (0, .inl (6, r69.2)), (0, .inl (24, c0_24)), (6, .inr (.inr (.inl a6)))] (shM, I, L, Rf)) C hR ⟨Nat.zero_le _, Nat.zero_le _⟩ mv_X11_wrong lk_X11_156 dX11_readOrder_69 (rfl : 69 + 3 = 72) rfl rfl rfl rfl (c_X11_wrong X.l u (k_ap [(0, .inl (4, r48.2.1)), (0, .inl (5, r48.2.2.1)), (0, .inl (6, r48.2.2.2)), (0, .inl (24, c0_24)), (6, .inr (.inr (.inl a6)))] (shM, I, L, Rf)) rfl rfl rfl q69) rfl rfl rfl (k_jn (us' := [(0, .inl (4, r48.2.1)), (0, .inl (5, r69.1)), (0, .inl (6, r69.2)), (0, .inl (24, c0_24)), (6, .inr (.inr (.inl a6)))]) ds_X11_readOrder rfl rfl rfl) rfl ?_
            refine k_mask [true, true, true, false, true] ?_
            exact sX11_readOrder_72 u C hr hR ec0_3 ea2 ih r48.2.1 r69.1 r69.2 c0_24 a6 v1 v2 r48.1 h
set_option maxHeartbeats 400000 in
set_option maxRecDepth 100000 in
theorem sX11_readOrder_0 (u : Nat) {X : k_X} {ad : Nat → Nat} (C : k_C X cX11_readOrder RX11 5 ad) (hr : X.meth.sig.returnType = none) (hR : X.R.frames = 5 ∧ X.R.locals = 107) {I : Nat → Nat → Int32} {L : Nat → Nat → Int64} {Rf : Nat → Nat → Option Nat} {c0_3 : Int32} (ec0_3 : I 0 3 = c0_3) {a2 : (Nat → Int32)} (ea2 : I 2 = a2) {out : Int32 × Int32 × Int32 × Int32 × (Nat → Int32)} : ∀ (c0_4 : Int32) (c0_5 : Int32) (c0_6 : Int32) (c0_24 : Int32) (a6 : (Nat → Int32)), bX11_readOrder_0 u c0_3 a2 c0_4 c0_5 c0_6 c0_24 a6 = some out → k_W X 5 0 0 (k_Q X ad none (k_ap [(0, .inl (4, out.1)), (0, .inl (5, out.2.1)), (0, .inl (6, out.2.2.1)), (0, .inl (24, out.2.2.2.1)), (6, .inr (.inr (.inl out.2.2.2.2)))] (shM, I, L, Rf))) ad (k_ap [(0, .inl (4, c0_4)), (0, .inl (5, c0_5)), (0, .inl (6, c0_6)), (0, .inl (24, c0_24)), (6, .inr (.inr (.inl a6)))] (shM, I, L, Rf)) 0 [some (.ref 0), none, none, none, none] [] := by
  intro c0_4 c0_5 c0_6 c0_24 a6 h
  unfold bX11_readOrder_0 at h
  refine r_bipush (v := (10 : Int32)) C dX11_readOrder_0 (rfl : 0 + 2 = 2) rfl ?_
  refine r_aload_n C dX11_readOrder_2 (rfl : 2 + 1 = 3) rfl ?_
  refine r_getI (v := c0_24) C dX11_readOrder_3 (rfl : 3 + 3 = 6) fl_X11_181 rfl rfl rfl ?_
  refine r_imul C dX11_readOrder_6 (rfl : 6 + 1 = 7) ?_
  refine r_istore_n C dX11_readOrder_7 (rfl : 7 + 1 = 8) (by decide) (Nat.le_of_ble_eq_true rfl) ?_
  show k_W _ _ _ _ _ _ _ _ [some (.ref 0), some (.int ((10 : Int32) * c0_24)), none, none, none] _
  refine r_aload_n C dX11_readOrder_8 (rfl : 8 + 1 = 9) rfl ?_
  refine r_getR (q := 6) C dX11_readOrder_9 (rfl : 9 + 3 = 12) fl_X11_32 rfl rfl ?_
  refine r_iload_n C dX11_readOrder_12 (rfl : 12 + 1 = 13) rfl ?_
  refine r_aload_n C dX11_readOrder_13 (rfl : 13 + 1 = 14) rfl ?_
  refine r_iconst (v := (1 : Int32)) C dX11_readOrder_14 (rfl : 14 + 1 = 15) rfl ?_
  refine r_bipush (v := (60 : Int32)) C dX11_readOrder_15 (rfl : 15 + 2 = 17) rfl ?_
  obtain ⟨r17, q17, h⟩ := k_b_of h
  refine d_V (As := [.int (1 : Int32), .int (60 : Int32)]) (st := [.int ((10 : Int32) * c0_24), .ref 6]) (st' := [.int r17.1, .int ((10 : Int32) * c0_24), .ref 6]) (h' := k_ap [(0, .inl (4, r17.2.1)), (0, .inl (5, r17.2.2.1)), (0, .inl (6, r17.2.2.2)), (0, .inl (24, c0_24)), (6, .inr (.inr (.inl a6)))] (shM, I, L, Rf)) C hR ⟨Nat.zero_le _, Nat.zero_le _⟩ mv_X11_readNumber lk_X11_218 dX11_readOrder_17 (rfl : 17 + 3 = 20) rfl rfl rfl rfl (c_X11_readNumber X.l u (k_ap [(0, .inl (4, c0_4)), (0, .inl (5, c0_5)), (0, .inl (6, c0_6)), (0, .inl (24, c0_24)), (6, .inr (.inr (.inl a6)))] (shM, I, L, Rf)) rfl ec0_3 rfl rfl rfl ea2 q17) rfl rfl rfl (k_jn (us' := [(0, .inl (4, r17.2.1)), (0, .inl (5, r17.2.2.1)), (0, .inl (6, r17.2.2.2)), (0, .inl (24, c0_24)), (6, .inr (.inr (.inl a6)))]) ds_X11_readOrder rfl rfl rfl) rfl ?_
  obtain ⟨hi20, h⟩ := k_i_of h
  refine s_i (j := (((10 : Int32) * c0_24)).toNatClampNeg) (f := a6) (us' := [(0, .inl (4, r17.2.1)), (0, .inl (5, r17.2.2.1)), (0, .inl (6, r17.2.2.2)), (0, .inl (24, c0_24)), (6, .inr (.inr (.inl (upd a6 ((((10 : Int32) * c0_24)).toNatClampNeg) r17.1))))]) C dX11_readOrder_20 (rfl : 20 + 1 = 21) rfl rfl hi20 rfl ds_X11_readOrder rfl rfl rfl ?_
  refine r_iconst (v := (0 : Int32)) C dX11_readOrder_21 (rfl : 21 + 1 = 22) rfl ?_
  refine r_istore_n C dX11_readOrder_22 (rfl : 22 + 1 = 23) (by decide) (Nat.le_of_ble_eq_true rfl) ?_
  show k_W _ _ _ _ _ _ _ _ [some (.ref 0), some (.int ((10 : Int32) * c0_24)), some (.int (0 : Int32)), none, none] _
  refine k_mask [true, true, true, false, false] ?_
  exact sX11_readOrder_23 u C hr hR ec0_3 ea2 u r17.2.1 r17.2.2.1 r17.2.2.2 c0_24 (upd a6 ((((10 : Int32) * c0_24)).toNatClampNeg) r17.1) ((10 : Int32) * c0_24) (0 : Int32) h
set_option maxHeartbeats 400000 in
set_option maxRecDepth 100000 in
theorem c_X11_readOrder (l : Launch) (u : Nat) (h : k_H) (hsh : h.1 = shM) {c0_3 : Int32} (ec0_3 : h.2.1 0 3 = c0_3) {c0_4 : Int32} (ec0_4 : h.2.1 0 4 = c0_4) {c0_5 : Int32} (ec0_5 : h.2.1 0 5 = c0_5) {c0_6 : Int32} (ec0_6 : h.2.1 0 6 = c0_6) {c0_24 : Int32} (ec0_24 : h.2.1 0 24 = c0_24) {a2 : (Nat → Int32)} (ea2 : h.2.1 2 = a2) {a6 : (Nat → Int32)} (ea6 : h.2.1 6 = a6) {out : Int32 × Int32 × Int32 × Int32 × (Nat → Int32)} (hf : f_X11_readOrder u c0_3 c0_4 c0_5 c0_6 c0_24 a2 a6 = some out) : k_CT l yX11_readOrder cX11_readOrder 5 none 5 107 [.ref 0] h none [(0, .inl (4, out.1)), (0, .inl (5, out.2.1)), (0, .inl (6, out.2.2.1)), (0, .inl (24, out.2.2.2.1)), (6, .inr (.inr (.inl out.2.2.2.2)))] := by
  obtain ⟨sh, I, L, Rf⟩ := h
  try dsimp only
  obtain rfl : sh = shM := hsh
  refine k_ofW (by decide) (Nat.le_of_ble_eq_true rfl) ?_
  intro X ad hl hR0 hr C
  have hR : X.R.frames = 5 ∧ X.R.locals = 107 := by rw [hR0]; exact ⟨rfl, rfl⟩
  have h := hf
  unfold f_X11_readOrder at h
  refine k_start (us := [(0, .inl (4, c0_4)), (0, .inl (5, c0_5)), (0, .inl (6, c0_6)), (0, .inl (24, c0_24)), (6, .inr (.inr (.inl a6)))]) (k_ao_I ec0_4 (k_ao_I ec0_5 (k_ao_I ec0_6 (k_ao_I ec0_24 (k_ao_A ea6 k_ap_0))))) ?_
  show k_W X 5 0 0 _ ad (k_ap [(0, .inl (4, c0_4)), (0, .inl (5, c0_5)), (0, .inl (6, c0_6)), (0, .inl (24, c0_24)), (6, .inr (.inr (.inl a6)))] (shM, I, L, Rf)) 0 [some (.ref 0), none, none, none, none] []
  refine k_mask [true, false, false, false, false] ?_
  exact sX11_readOrder_0 u C hr hR ec0_3 ea2 c0_4 c0_5 c0_6 c0_24 a6 h
