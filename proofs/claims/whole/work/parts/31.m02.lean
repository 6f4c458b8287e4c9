/-! LullabyPitModel.readNumber(II)I -/
theorem ds_X11_readNumber : k_ds [(0, 0, 4), (0, 0, 5), (0, 0, 6)] = true := by decide +kernel
set_option maxHeartbeats 400000 in
set_option maxRecDepth 100000 in
theorem sX11_readNumber_99 (u : Nat) {X : k_X} {ad : Nat → Nat} (C : k_C X cX11_readNumber RX11 6 ad) (hr : X.meth.sig.returnType = (some .int)) (hR : X.R.frames = 1 ∧ X.R.locals = 22) {I : Nat → Nat → Int32} {L : Nat → Nat → Int64} {Rf : Nat → Nat → Option Nat} {c0_3 : Int32} (ec0_3 : I 0 3 = c0_3) {a2 : (Nat → Int32)} (ea2 : I 2 = a2) {out : Int32 × Int32 × Int32 × Int32} {k41 : Int32 → Int32 → Int32 → Int32 → Int32 → Int32 → Int32 → Option (Int32 × Int32 × Int32 × Int32)} (hk41 : ∀ (c0_4 : Int32) (c0_5 : Int32) (c0_6 : Int32) (v1 : Int32) (v2 : Int32) (v4 : Int32) (v5 : Int32), k41 c0_4 c0_5 c0_6 v1 v2 v4 v5 = some out → k_W X 6 0 0 (k_Q X ad (some (.int out.1)) (k_ap [(0, .inl (4, out.2.1)), (0, .inl (5, out.2.2.1)), (0, .inl (6, out.2.2.2))] (shM, I, L, Rf))) ad (k_ap [(0, .inl (4, c0_4)), (0, .inl (5, c0_5)), (0, .inl (6, c0_6))] (shM, I, L, Rf)) 41 [some (.ref 0), some (.int v1), some (.int v2), none, some (.int v4), some (.int v5)] []) : ∀ (c0_4 : Int32) (c0_5 : Int32) (c0_6 : Int32) (v1 : Int32) (v2 : Int32) (v4 : Int32) (w0 : Int32), bX11_readNumber_99 u c0_3 a2 k41 c0_4 c0_5 c0_6 v1 v2 v4 w0 = some out → k_W X 6 0 0 (k_Q X ad (some (.int out.1)) (k_ap [(0, .inl (4, out.2.1)), (0, .inl (5, out.2.2.1)), (0, .inl (6, out.2.2.2))] (shM, I, L, Rf))) ad (k_ap [(0, .inl (4, c0_4)), (0, .inl (5, c0_5)), (0, .inl (6, c0_6))] (shM, I, L, Rf)) 99 [some (.ref 0), some (.int v1), some (.int v2), none, some (.int v4), none] [.int w0] := by
  intro c0_4 c0_5 c0_6 v1 v2 v4 w0 h
  unfold bX11_readNumber_99 at h
  refine r_istore C dX11_readNumber_99 (rfl : 99 + 2 = 101) (by decide) (Nat.le_of_ble_eq_true rfl) ?_
  show k_W _ _ _ _ _ _ _ _ [some (.ref 0), some (.int v1), some (.int v2), none, some (.int v4), some (.int w0)] _
  refine r_aload_n C dX11_readNumber_101 (rfl : 101 + 1 = 102) rfl ?_
  refine r_dup C dX11_readNumber_102 (rfl : 102 + 1 = 103) rfl ?_
  refine r_getI (v := c0_4) C dX11_readNumber_103 (rfl : 103 + 3 = 106) fl_X11_127 rfl rfl rfl ?_
  refine r_iconst (v := (1 : Int32)) C dX11_readNumber_106 (rfl : 106 + 1 = 107) rfl ?_
  refine r_iadd C dX11_readNumber_107 (rfl : 107 + 1 = 108) ?_
  refine p_I (us' := [(0, .inl (4, (c0_4 + (1 : Int32)))), (0, .inl (5, c0_5)), (0, .inl (6, c0_6))]) C dX11_readNumber_108 (rfl : 108 + 3 = 111) fp_X11_127 rfl rfl ds_X11_readNumber rfl rfl rfl ?_
  refine r_goto (tgt := 41) C dX11_readNumber_111 (by decide) ?_
  refine k_mask [true, true, true, false, true, true] ?_
  exact hk41 (c0_4 + (1 : Int32)) c0_5 c0_6 v1 v2 v4 w0 h
set_option maxHeartbeats 400000 in
set_option maxRecDepth 100000 in
theorem sX11_readNumber_126 (u : Nat) {X : k_X} {ad : Nat → Nat} (C : k_C X cX11_readNumber RX11 6 ad) (hr : X.meth.sig.returnType = (some .int)) (hR : X.R.frames = 1 ∧ X.R.locals = 22) {I : Nat → Nat → Int32} {L : Nat → Nat → Int64} {Rf : Nat → Nat → Option Nat} {c0_3 : Int32} (ec0_3 : I 0 3 = c0_3) {a2 : (Nat → Int32)} (ea2 : I 2 = a2) {out : Int32 × Int32 × Int32 × Int32} : ∀ (c0_4 : Int32) (c0_5 : Int32) (c0_6 : Int32) (v4 : Int32), bX11_readNumber_126 u c0_3 a2 c0_4 c0_5 c0_6 v4 = some out → k_W X 6 0 0 (k_Q X ad (some (.int out.1)) (k_ap [(0, .inl (4, out.2.1)), (0, .inl (5, out.2.2.1)), (0, .inl (6, out.2.2.2))] (shM, I, L, Rf))) ad (k_ap [(0, .inl (4, c0_4)), (0, .inl (5, c0_5)), (0, .inl (6, c0_6))] (shM, I, L, Rf)) 126 [some (.ref 0), none, none, none, some (.int v4), none] [] := by
  intro c0_4 c0_5 c0_6 v4 h
  unfold bX11_readNumber_126 at h
  refine r_aload_n C dX11_readNumber_126 (rfl : 126 + 1 = 127) rfl ?_
  refine r_iconst (v := (2 : Int32)) C dX11_readNumber_127 (rfl : 127 + 1 = 128) rfl ?_
  refine r_iload C dX11_readNumber_128 (rfl : 128 + 2 = 130) rfl ?_
  obtain ⟨r130, q130, h⟩ := k_b_of h
  refine d_V (As := [.int (2 : Int32), .int v4]) (st := []) (st' := []) (h' := k_ap [(0, .inl (4, c0_4)), (0, .inl (5, r130.1)), (0, .inl (6, r130.2))] (shM, I, L, Rf)) C hR ⟨Nat.zero_le _, Nat.zero_le _⟩ mv_X11_wrong lk_X11_156 dX11_readNumber_130 (rfl : 130 + 3 = 133) rfl rfl rfl rfl (c_X11_wrong X.l u (k_ap [(0, .inl (4, c0_4)), (0, .inl (5, c0_5)), (0, .inl (6, c0_6))] (shM, I, L, Rf)) rfl rfl rfl q130) rfl rfl rfl (k_jn (us' := [(0, .inl (4, c0_4)), (0, .inl (5, r130.1)), (0, .inl (6, r130.2))]) ds_X11_readNumber rfl rfl rfl) rfl ?_
  refine r_iconst (v := (0 : Int32)) C dX11_readNumber_133 (rfl : 133 + 1 = 134) rfl ?_
  cases h
  exact r_iret C hr dX11_readNumber_134
set_option maxHeartbeats 400000 in
set_option maxRecDepth 100000 in
theorem sX11_readNumber_114 (u : Nat) {X : k_X} {ad : Nat → Nat} (C : k_C X cX11_readNumber RX11 6 ad) (hr : X.meth.sig.returnType = (some .int)) (hR : X.R.frames = 1 ∧ X.R.locals = 22) {I : Nat → Nat → Int32} {L : Nat → Nat → Int64} {Rf : Nat → Nat → Option Nat} {c0_3 : Int32} (ec0_3 : I 0 3 = c0_3) {a2 : (Nat → Int32)} (ea2 : I 2 = a2) {out : Int32 × Int32 × Int32 × Int32} : ∀ (c0_4 : Int32) (c0_5 : Int32) (c0_6 : Int32) (v1 : Int32) (v2 : Int32) (v4 : Int32) (v5 : Int32), bX11_readNumber_114 u c0_3 a2 c0_4 c0_5 c0_6 v1 v2 v4 v5 = some out → k_W X 6 0 0 (k_Q X ad (some (.int out.1)) (k_ap [(0, .inl (4, out.2.1)), (0, .inl (5, out.2.2.1)), (0, .inl (6, out.2.2.2))] (shM, I, L, Rf))) ad (k_ap [(0, .inl (4, c0_4)), (0, .inl (5, c0_5)), (0, .inl (6, c0_6))] (shM, I, L, Rf)) 114 [some (.ref 0), some (.int v1), some (.int v2), none, some (.int v4), some (.int v5)] [] := by
  intro c0_4 c0_5 c0_6 v1 v2 v4 v5 h
  unfold bX11_readNumber_114 at h
  refine r_iload C dX11_readNumber_114 (rfl : 114 + 2 = 116) rfl ?_
  refine r_iload_n C dX11_readNumber_116 (rfl : 116 + 1 = 117) rfl ?_
  refine r_icmp_lt (tgt := 126) C dX11_readNumber_117 (by decide) (rfl : 117 + 3 = 120) (fun c117 => ?_) (fun c117 => ?_)
  · have h := k_t c117 h
    refine k_mask [true, false, false, false, true, false] ?_
    exact sX11_readNumber_126 u C hr hR ec0_3 ea2 c0_4 c0_5 c0_6 v4 h
  · have h := k_f c117 h
    refine r_iload C dX11_readNumber_120 (rfl : 120 + 2 = 122) rfl ?_
    refine r_iload_n C dX11_readNumber_122 (rfl : 122 + 1 = 123) rfl ?_
    refine r_icmp_le (tgt := 135) C dX11_readNumber_123 (by decide) (rfl : 123 + 3 = 126) (fun c123 => ?_) (fun c123 => ?_)
    · have h := k_t c123 h
      refine r_iload C dX11_readNumber_135 (rfl : 135 + 2 = 137) rfl ?_
      cases h
      exact r_iret C hr dX11_readNumber_137
    · have h := k_f c123 h
      refine k_mask [true, false, false, false, true, false] ?_
      exact sX11_readNumber_126 u C hr hR ec0_3 ea2 c0_4 c0_5 c0_6 v4 h
set_option maxHeartbeats 400000 in
set_option maxRecDepth 100000 in
theorem sX11_readNumber_41 (u : Nat) {X : k_X} {ad : Nat → Nat} (C : k_C X cX11_readNumber RX11 6 ad) (hr : X.meth.sig.returnType = (some .int)) (hR : X.R.frames = 1 ∧ X.R.locals = 22) {I : Nat → Nat → Int32} {L : Nat → Nat → Int64} {Rf : Nat → Nat → Option Nat} {c0_3 : Int32} (ec0_3 : I 0 3 = c0_3) {a2 : (Nat → Int32)} (ea2 : I 2 = a2) {out : Int32 × Int32 × Int32 × Int32} : ∀ (n : Nat) (c0_4 : Int32) (c0_5 : Int32) (c0_6 : Int32) (v1 : Int32) (v2 : Int32) (v4 : Int32) (v5 : Int32), bX11_readNumber_41 u c0_3 a2 n c0_4 c0_5 c0_6 v1 v2 v4 v5 = some out → k_W X 6 0 0 (k_Q X ad (some (.int out.1)) (k_ap [(0, .inl (4, out.2.1)), (0, .inl (5, out.2.2.1)), (0, .inl (6, out.2.2.2))] (shM, I, L, Rf))) ad (k_ap [(0, .inl (4, c0_4)), (0, .inl (5, c0_5)), (0, .inl (6, c0_6))] (shM, I, L, Rf)) 41 [some (.ref 0), some (.int v1), some (.int v2), none, some (.int v4), some (.int v5)] [] := by
  intro n
  induction n with
  | zero => intro c0_4 c0_5 c0_6 v1 v2 v4 v5 h; cases h
  | succ n ih =>
    intro c0_4 c0_5 c0_6 v1 v2 v4 v5 h
    refine r_aload_n C dX11_readNumber_41 (rfl : 41 + 1 = 42) rfl ?_
    refine r_getI (v := c0_4) C dX11_readNumber_42 (rfl : 42 + 3 = 45) fl_X11_127 rfl rfl rfl ?_
    refine r_aload_n C dX11_readNumber_45 (rfl : 45 + 1 = 46) rfl ?_
    refine r_getI (v := c0_3) C dX11_readNumber_46 (rfl : 46 + 3 = 49) fl_X11_130 rfl rfl ec0_3 ?_
    refine r_icmp_ge (tgt := 114) C dX11_readNumber_49 (by decide) (rfl : 49 + 3 = 52) (fun c49 => ?_) (fun c49 => ?_)
    · have h := k_t c49 h
      refine k_mask [true, true, true, false, true, true] ?_
      exact sX11_readNumber_114 u C hr hR ec0_3 ea2 c0_4 c0_5 c0_6 v1 v2 v4 v5 h
    · have h := k_f c49 h
      refine r_aload_n C dX11_readNumber_52 (rfl : 52 + 1 = 53) rfl ?_
      refine r_getR (q := 2) C dX11_readNumber_53 (rfl : 53 + 3 = 56) fl_X11_20 rfl rfl ?_
      refine r_aload_n C dX11_readNumber_56 (rfl : 56 + 1 = 57) rfl ?_
      refine r_getI (v := c0_4) C dX11_readNumber_57 (rfl : 57 + 3 = 60) fl_X11_127 rfl rfl rfl ?_
      obtain ⟨hi60, h⟩ := k_i_of h
      refine a_i (j := (c0_4).toNatClampNeg) (f := a2) C dX11_readNumber_60 (rfl : 60 + 1 = 61) rfl ea2 hi60 rfl ?_
      obtain ⟨r61, q61, h⟩ := k_b_of h
      refine d_S (As := [.int (a2 ((c0_4).toNatClampNeg))]) (st := []) (st' := [.int r61]) (h' := k_ap [(0, .inl (4, c0_4)), (0, .inl (5, c0_5)), (0, .inl (6, c0_6))] (shM, I, L, Rf)) C hR ⟨Nat.zero_le _, Nat.zero_le _⟩ ms_X11_isDigit lk_X11_153 dX11_readNumber_61 (rfl : 61 + 3 = 64) rfl rfl (c_X11_isDigit X.l u (k_ap [(0, .inl (4, c0_4)), (0, .inl (5, c0_5)), (0, .inl (6, c0_6))] (shM, I, L, Rf)) rfl  q61) rfl rfl rfl rfl rfl ?_
      refine r_if_eq (tgt := 114) C dX11_readNumber_64 (by decide) (rfl : 64 + 3 = 67) (fun c64 => ?_) (fun c64 => ?_)
      · have h := k_t c64 h
        refine k_mask [true, true, true, false, true, true] ?_
        exact sX11_readNumber_114 u C hr hR ec0_3 ea2 c0_4 c0_5 c0_6 v1 v2 v4 v5 h
      · have h := k_f c64 h
        refine r_iload C dX11_readNumber_67 (rfl : 67 + 2 = 69) rfl ?_
        refine r_sipush (v := (9999 : Int32)) C dX11_readNumber_69 (rfl : 69 + 3 = 72) rfl ?_
        refine r_icmp_le (tgt := 81) C dX11_readNumber_72 (by decide) (rfl : 72 + 3 = 75) (fun c72 => ?_) (fun c72 => ?_)
        · have h := k_t c72 h
          refine r_bipush (v := (10 : Int32)) C dX11_readNumber_81 (rfl : 81 + 2 = 83) rfl ?_
          refine r_iload C dX11_readNumber_83 (rfl : 83 + 2 = 85) rfl ?_
          refine r_imul C dX11_readNumber_85 (rfl : 85 + 1 = 86) ?_
          refine r_aload_n C dX11_readNumber_86 (rfl : 86 + 1 = 87) rfl ?_
          refine r_getR (q := 2) C dX11_readNumber_87 (rfl : 87 + 3 = 90) fl_X11_20 rfl rfl ?_
          refine r_aload_n C dX11_readNumber_90 (rfl : 90 + 1 = 91) rfl ?_
          refine r_getI (v := c0_4) C dX11_readNumber_91 (rfl : 91 + 3 = 94) fl_X11_127 rfl rfl rfl ?_
          obtain ⟨hi94, h⟩ := k_i_of h
          refine a_i (j := (c0_4).toNatClampNeg) (f := a2) C dX11_readNumber_94 (rfl : 94 + 1 = 95) rfl ea2 hi94 rfl ?_
          refine r_iadd C dX11_readNumber_95 (rfl : 95 + 1 = 96) ?_
          refine r_bipush (v := (48 : Int32)) C dX11_readNumber_96 (rfl : 96 + 2 = 98) rfl ?_
          refine r_isub C dX11_readNumber_98 (rfl : 98 + 1 = 99) ?_
          refine k_mask [true, true, true, false, true, false] ?_
          exact sX11_readNumber_99 u C hr hR ec0_3 ea2 ih c0_4 c0_5 c0_6 v1 v2 v4 ((((10 : Int32) * v5) + (a2 ((c0_4).toNatClampNeg))) - (48 : Int32)) h
        · have h := k_f c72 h
          refine r_sipush (v := (10000 : Int32)) C dX11_readNumber_75 (rfl : 75 + 3 = 78) rfl ?_
          refine r_goto (tgt := 99) C dX11_readNumber_78 (by decide) ?_
          refine k_mask [true, true, true, false, true, false] ?_
          exact sX11_readNumber_99 u C hr hR ec0_3 ea2 ih c0_4 c0_5 c0_6 v1 v2 v4 (10000 : Int32) h
set_option maxHeartbeats 400000 in
set_option maxRecDepth 100000 in
theorem sX11_readNumber_0 (u : Nat) {X : k_X} {ad : Nat → Nat} (C : k_C X cX11_readNumber RX11 6 ad) (hr : X.meth.sig.returnType = (some .int)) (hR : X.R.frames = 1 ∧ X.R.locals = 22) {I : Nat → Nat → Int32} {L : Nat → Nat → Int64} {Rf : Nat → Nat → Option Nat} {c0_3 : Int32} (ec0_3 : I 0 3 = c0_3) {a2 : (Nat → Int32)} (ea2 : I 2 = a2) {out : Int32 × Int32 × Int32 × Int32} : ∀ (c0_4 : Int32) (c0_5 : Int32) (c0_6 : Int32) (v1 : Int32) (v2 : Int32), bX11_readNumber_0 u c0_3 a2 c0_4 c0_5 c0_6 v1 v2 = some out → k_W X 6 0 0 (k_Q X ad (some (.int out.1)) (k_ap [(0, .inl (4, out.2.1)), (0, .inl (5, out.2.2.1)), (0, .inl (6, out.2.2.2))] (shM, I, L, Rf))) ad (k_ap [(0, .inl (4, c0_4)), (0, .inl (5, c0_5)), (0, .inl (6, c0_6))] (shM, I, L, Rf)) 0 [some (.ref 0), some (.int v1), some (.int v2), none, none, none] [] := by
  intro c0_4 c0_5 c0_6 v1 v2 h
  unfold bX11_readNumber_0 at h
  refine r_aload_n C dX11_readNumber_0 (rfl : 0 + 1 = 1) rfl ?_
  obtain ⟨r1, q1, h⟩ := k_b_of h
  refine d_V (As := []) (st := []) (st' := [.int r1]) (h' := k_ap [(0, .inl (4, c0_4)), (0, .inl (5, c0_5)), (0, .inl (6, c0_6))] (shM, I, L, Rf)) C hR ⟨Nat.zero_le _, Nat.zero_le _⟩ mv_X11_fine lk_X11_149 dX11_readNumber_1 (rfl : 1 + 3 = 4) rfl rfl rfl rfl (c_X11_fine X.l u (k_ap [(0, .inl (4, c0_4)), (0, .inl (5, c0_5)), (0, .inl (6, c0_6))] (shM, I, L, Rf)) rfl rfl q1) rfl rfl rfl rfl rfl ?_
  refine r_if_ne (tgt := 9) C dX11_readNumber_4 (by decide) (rfl : 4 + 3 = 7) (fun c4 => ?_) (fun c4 => ?_)
  · have h := k_f c4 h
    refine r_aload_n C dX11_readNumber_9 (rfl : 9 + 1 = 10) rfl ?_
    obtain ⟨r10, q10, h⟩ := k_b_of h
    refine d_V (As := []) (st := []) (st' := [.int r10.1]) (h' := k_ap [(0, .inl (4, r10.2)), (0, .inl (5, c0_5)), (0, .inl (6, c0_6))] (shM, I, L, Rf)) C hR ⟨Nat.zero_le _, Nat.zero_le _⟩ mv_X11_here lk_X11_133 dX11_readNumber_10 (rfl : 10 + 3 = 13) rfl rfl rfl rfl (c_X11_here X.l u (k_ap [(0, .inl (4, c0_4)), (0, .inl (5, c0_5)), (0, .inl (6, c0_6))] (shM, I, L, Rf)) rfl ec0_3 rfl ea2 q10) rfl rfl rfl (k_jn (us' := [(0, .inl (4, r10.2)), (0, .inl (5, c0_5)), (0, .inl (6, c0_6))]) ds_X11_readNumber rfl rfl rfl) rfl ?_
    refine r_istore_n C dX11_readNumber_13 (rfl : 13 + 1 = 14) (by decide) (Nat.le_of_ble_eq_true rfl) ?_
    show k_W _ _ _ _ _ _ _ _ [some (.ref 0), some (.int v1), some (.int v2), some (.int r10.1), none, none] _
    refine r_aload_n C dX11_readNumber_14 (rfl : 14 + 1 = 15) rfl ?_
    refine r_getI (v := r10.2) C dX11_readNumber_15 (rfl : 15 + 3 = 18) fl_X11_127 rfl rfl rfl ?_
    refine r_istore C dX11_readNumber_18 (rfl : 18 + 2 = 20) (by decide) (Nat.le_of_ble_eq_true rfl) ?_
    show k_W _ _ _ _ _ _ _ _ [some (.ref 0), some (.int v1), some (.int v2), some (.int r10.1), some (.int r10.2), none] _
    refine r_iconst (v := (0 : Int32)) C dX11_readNumber_20 (rfl : 20 + 1 = 21) rfl ?_
    refine r_istore C dX11_readNumber_21 (rfl : 21 + 2 = 23) (by decide) (Nat.le_of_ble_eq_true rfl) ?_
    show k_W _ _ _ _ _ _ _ _ [some (.ref 0), some (.int v1), some (.int v2), some (.int r10.1), some (.int r10.2), some (.int (0 : Int32))] _
    refine r_iload_n C dX11_readNumber_23 (rfl : 23 + 1 = 24) rfl ?_
    obtain ⟨r24, q24, h⟩ := k_b_of h
    refine d_S (As := [.int r10.1]) (st := []) (st' := [.int r24]) (h' := k_ap [(0, .inl (4, r10.2)), (0, .inl (5, c0_5)), (0, .inl (6, c0_6))] (shM, I, L, Rf)) C hR ⟨Nat.zero_le _, Nat.zero_le _⟩ ms_X11_isDigit lk_X11_153 dX11_readNumber_24 (rfl : 24 + 3 = 27) rfl rfl (c_X11_isDigit X.l u (k_ap [(0, .inl (4, r10.2)), (0, .inl (5, c0_5)), (0, .inl (6, c0_6))] (shM, I, L, Rf)) rfl  q24) rfl rfl rfl rfl rfl ?_
    refine r_if_ne (tgt := 41) C dX11_readNumber_27 (by decide) (rfl : 27 + 3 = 30) (fun c27 => ?_) (fun c27 => ?_)
    · have h := k_f c27 h
      refine k_mask [true, true, true, false, true, true] ?_
      exact sX11_readNumber_41 u C hr hR ec0_3 ea2 u r10.2 c0_5 c0_6 v1 v2 r10.2 (0 : Int32) h
    · have h := k_t c27 h
      refine r_aload_n C dX11_readNumber_30 (rfl : 30 + 1 = 31) rfl ?_
      refine r_iconst (v := (1 : Int32)) C dX11_readNumber_31 (rfl : 31 + 1 = 32) rfl ?_
      refine r_aload_n C dX11_readNumber_32 (rfl : 32 + 1 = 33) rfl ?_
      refine r_getI (v := r10.2) C dX11_readNumber_33 (rfl : 33 + 3 = 36) fl_X11_127 rfl rfl rfl ?_
      obtain ⟨r36, q36, h⟩ := k_b_of h
      refine d_V (As := [.int (1 : Int32), .int r10.2]) (st := []) (st' := []) (h' := k_ap [(0, .inl (4, r10.2)), (0, .inl (5, r36.1)), (0, .inl (6, r36.2))] (shM, I, L, Rf)) C hR ⟨Nat.zero_le _, Nat.zero_le _⟩ mv_X11_wrong lk_X11_156 dX11_readNumber_36 (rfl : 36 + 3 = 39) rfl rfl rfl rfl (c_X11_wrong X.l u (k_ap [(0, .inl (4, r10.2)), (0, .inl (5, c0_5)), (0, .inl (6, c0_6))] (shM, I, L, Rf)) rfl rfl rfl q36) rfl rfl rfl (k_jn (us' := [(0, .inl (4, r10.2)), (0, .inl (5, r36.1)), (0, .inl (6, r36.2))]) ds_X11_readNumber rfl rfl rfl) rfl ?_
      refine r_iconst (v := (0 : Int32)) C dX11_readNumber_39 (rfl : 39 + 1 = 40) rfl ?_
      cases h
      exact r_iret C hr dX11_readNumber_40
  · have h := k_t c4 h
    refine r_iconst (v := (0 : Int32)) C dX11_readNumber_7 (rfl : 7 + 1 = 8) rfl ?_
    cases h
    exact r_iret C hr dX11_readNumber_8
set_option maxHeartbeats 400000 in
set_option maxRecDepth 100000 in
theorem c_X11_readNumber (l : Launch) (u : Nat) (h : k_H) (hsh : h.1 = shM) {c0_3 : Int32} (ec0_3 : h.2.1 0 3 = c0_3) {c0_4 : Int32} (ec0_4 : h.2.1 0 4 = c0_4) {c0_5 : Int32} (ec0_5 : h.2.1 0 5 = c0_5) {c0_6 : Int32} (ec0_6 : h.2.1 0 6 = c0_6) {a2 : (Nat → Int32)} (ea2 : h.2.1 2 = a2) {x0 : Int32} {x1 : Int32} {out : Int32 × Int32 × Int32 × Int32} (hf : f_X11_readNumber u c0_3 c0_4 c0_5 c0_6 a2 x0 x1 = some out) : k_CT l yX11_readNumber cX11_readNumber 6 (some .int) 1 22 [.ref 0, .int x0, .int x1] h (some (.int out.1)) [(0, .inl (4, out.2.1)), (0, .inl (5, out.2.2.1)), (0, .inl (6, out.2.2.2))] := by
  obtain ⟨sh, I, L, Rf⟩ := h
  try dsimp only
  obtain rfl : sh = shM := hsh
  refine k_ofW (by decide) (Nat.le_of_ble_eq_true rfl) ?_
  intro X ad hl hR0 hr C
  have hR : X.R.frames = 1 ∧ X.R.locals = 22 := by rw [hR0]; exact ⟨rfl, rfl⟩
  have h := hf
  unfold f_X11_readNumber at h
  refine k_start (us := [(0, .inl (4, c0_4)), (0, .inl (5, c0_5)), (0, .inl (6, c0_6))]) (k_ao_I ec0_4 (k_ao_I ec0_5 (k_ao_I ec0_6 k_ap_0))) ?_
  show k_W X 6 0 0 _ ad (k_ap [(0, .inl (4, c0_4)), (0, .inl (5, c0_5)), (0, .inl (6, c0_6))] (shM, I, L, Rf)) 0 [some (.ref 0), some (.int x0), some (.int x1), none, none, none] []
  refine k_mask [true, true, true, false, false, false] ?_
  exact sX11_readNumber_0 u C hr hR ec0_3 ea2 c0_4 c0_5 c0_6 x0 x1 h
/-! LullabyPitModel.sign(I)V -/
theorem ds_X11_sign : k_ds [(0, 0, 4), (0, 0, 5), (0, 0, 6)] = true := by decide +kernel
set_option maxHeartbeats 400000 in
set_option maxRecDepth 100000 in
theorem sX11_sign_24 (u : Nat) {X : k_X} {ad : Nat → Nat} (C : k_C X cX11_sign RX11 2 ad) (hr : X.meth.sig.returnType = none) (hR : X.R.frames = 1 ∧ X.R.locals = 22) {I : Nat → Nat → Int32} {L : Nat → Nat → Int64} {Rf : Nat → Nat → Option Nat} {c0_3 : Int32} (ec0_3 : I 0 3 = c0_3) {a2 : (Nat → Int32)} (ea2 : I 2 = a2) {out : Int32 × Int32 × Int32} : ∀ (c0_4 : Int32) (c0_5 : Int32) (c0_6 : Int32), bX11_sign_24 u c0_3 a2 c0_4 c0_5 c0_6 = some out → k_W X 2 0 0 (k_Q X ad none (k_ap [(0, .inl (4, out.1)), (0, .inl (5, out.2.1)), (0, .inl (6, out.2.2))] (shM, I, L, Rf))) ad (k_ap [(0, .inl (4, c0_4)), (0, .inl (5, c0_5)), (0, .inl (6, c0_6))] (shM, I, L, Rf)) 24 [some (.ref 0), none] [] := by
  intro c0_4 c0_5 c0_6 h
  unfold bX11_sign_24 at h
  refine r_aload_n C dX11_sign_24 (rfl : 24 + 1 = 25) rfl ?_
  obtain ⟨r25, q25, h⟩ := k_b_of h
  refine d_V (As := []) (st := []) (st' := [.int r25]) (h' := k_ap [(0, .inl (4, c0_4)), (0, .inl (5, c0_5)), (0, .inl (6, c0_6))] (shM, I, L, Rf)) C hR ⟨Nat.zero_le _, Nat.zero_le _⟩ mv_X11_fine lk_X11_149 dX11_sign_25 (rfl : 25 + 3 = 28) rfl rfl rfl rfl (c_X11_fine X.l u (k_ap [(0, .inl (4, c0_4)), (0, .inl (5, c0_5)), (0, .inl (6, c0_6))] (shM, I, L, Rf)) rfl rfl q25) rfl rfl rfl rfl rfl ?_
  refine r_if_eq (tgt := 41) C dX11_sign_28 (by decide) (rfl : 28 + 3 = 31) (fun c28 => ?_) (fun c28 => ?_)
  · have h := k_t c28 h
    cases h
    exact r_vret C hr dX11_sign_41
  · have h := k_f c28 h
    refine r_aload_n C dX11_sign_31 (rfl : 31 + 1 = 32) rfl ?_
    refine r_dup C dX11_sign_32 (rfl : 32 + 1 = 33) rfl ?_
    refine r_getI (v := c0_4) C dX11_sign_33 (rfl : 33 + 3 = 36) fl_X11_127 rfl rfl rfl ?_
    refine r_iconst (v := (1 : Int32)) C dX11_sign_36 (rfl : 36 + 1 = 37) rfl ?_
    refine r_iadd C dX11_sign_37 (rfl : 37 + 1 = 38) ?_
    refine p_I (us' := [(0, .inl (4, (c0_4 + (1 : Int32)))), (0, .inl (5, c0_5)), (0, .inl (6, c0_6))]) C dX11_sign_38 (rfl : 38 + 3 = 41) fp_X11_127 rfl rfl ds_X11_sign rfl rfl rfl ?_
    cases h
    exact r_vret C hr dX11_sign_41
set_option maxHeartbeats 400000 in
set_option maxRecDepth 100000 in
theorem sX11_sign_0 (u : Nat) {X : k_X} {ad : Nat → Nat} (C : k_C X cX11_sign RX11 2 ad) (hr : X.meth.sig.returnType = none) (hR : X.R.frames = 1 ∧ X.R.locals = 22) {I : Nat → Nat → Int32} {L : Nat → Nat → Int64} {Rf : Nat → Nat → Option Nat} {c0_3 : Int32} (ec0_3 : I 0 3 = c0_3) {a2 : (Nat → Int32)} (ea2 : I 2 = a2) {out : Int32 × Int32 × Int32} : ∀ (c0_4 : Int32) (c0_5 : Int32) (c0_6 : Int32) (v1 : Int32), bX11_sign_0 u c0_3 a2 c0_4 c0_5 c0_6 v1 = some out → k_W X 2 0 0 (k_Q X ad none (k_ap [(0, .inl (4, out.1)), (0, .inl (5, out.2.1)), (0, .inl (6, out.2.2))] (shM, I, L, Rf))) ad (k_ap [(0, .inl (4, c0_4)), (0, .inl (5, c0_5)), (0, .inl (6, c0_6))] (shM, I, L, Rf)) 0 [some (.ref 0), some (.int v1)] [] := by
  intro c0_4 c0_5 c0_6 v1 h
  unfold bX11_sign_0 at h
  refine r_aload_n C dX11_sign_0 (rfl : 0 + 1 = 1) rfl ?_
  obtain ⟨r1, q1, h⟩ := k_b_of h
  refine d_V (As := []) (st := []) (st' := [.int r1]) (h' := k_ap [(0, .inl (4, c0_4)), (0, .inl (5, c0_5)), (0, .inl (6, c0_6))] (shM, I, L, Rf)) C hR ⟨Nat.zero_le _, Nat.zero_le _⟩ mv_X11_fine lk_X11_149 dX11_sign_1 (rfl : 1 + 3 = 4) rfl rfl rfl rfl (c_X11_fine X.l u (k_ap [(0, .inl (4, c0_4)), (0, .inl (5, c0_5)), (0, .inl (6, c0_6))] (shM, I, L, Rf)) rfl rfl q1) rfl rfl rfl rfl rfl ?_
  refine r_if_eq (tgt := 24) C dX11_sign_4 (by decide) (rfl : 4 + 3 = 7) (fun c4 => ?_) (fun c4 => ?_)
  · have h := k_t c4 h
    refine k_mask [true, false] ?_
    exact sX11_sign_24 u C hr hR ec0_3 ea2 c0_4 c0_5 c0_6 h
  · have h := k_f c4 h
    refine r_aload_n C dX11_sign_7 (rfl : 7 + 1 = 8) rfl ?_
    obtain ⟨r8, q8, h⟩ := k_b_of h
    refine d_V (As := []) (st := []) (st' := [.int r8.1]) (h' := k_ap [(0, .inl (4, r8.2)), (0, .inl (5, c0_5)), (0, .inl (6, c0_6))] (shM, I, L, Rf)) C hR ⟨Nat.zero_le _, Nat.zero_le _⟩ mv_X11_here lk_X11_133 dX11_sign_8 (rfl : 8 + 3 = 11) rfl rfl rfl rfl (c_X11_here X.l u (k_ap [(0, .inl (4, c0_4)), (0, .inl (5, c0_5)), (0, .inl (6, c0_6))] (shM, I, L, Rf)) rfl ec0_3 rfl ea2 q8) rfl rfl rfl (k_jn (us' := [(0, .inl (4, r8.2)), (0, .inl (5, c0_5)), (0, .inl (6, c0_6))]) ds_X11_sign rfl rfl rfl) rfl ?_
    refine r_iload_n C dX11_sign_11 (rfl : 11 + 1 = 12) rfl ?_
    refine r_icmp_eq (tgt := 24) C dX11_sign_12 (by decide) (rfl : 12 + 3 = 15) (fun c12 => ?_) (fun c12 => ?_)
    · have h := k_t c12 h
      refine k_mask [true, false] ?_
      exact sX11_sign_24 u C hr hR ec0_3 ea2 r8.2 c0_5 c0_6 h
    · have h := k_f c12 h
      refine r_aload_n C dX11_sign_15 (rfl : 15 + 1 = 16) rfl ?_
      refine r_iconst (v := (1 : Int32)) C dX11_sign_16 (rfl : 16 + 1 = 17) rfl ?_
      refine r_aload_n C dX11_sign_17 (rfl : 17 + 1 = 18) rfl ?_
      refine r_getI (v := r8.2) C dX11_sign_18 (rfl : 18 + 3 = 21) fl_X11_127 rfl rfl rfl ?_
      obtain ⟨r21, q21, h⟩ := k_b_of h
      refine d_V (As := [.int (1 : Int32), .int r8.2]) (st := []) (st' := []) (h' := k_ap [(0, .inl (4, r8.2)), (0, .inl (5, r21.1)), (0, .inl (6, r21.2))] (shM, I, L, Rf)) C hR ⟨Nat.zero_le _, Nat.zero_le _⟩ mv_X11_wrong lk_X11_156 dX11_sign_21 (rfl : 21 + 3 = 24) rfl rfl rfl rfl (c_X11_wrong X.l u (k_ap [(0, .inl (4, r8.2)), (0, .inl (5, c0_5)), (0, .inl (6, c0_6))] (shM, I, L, Rf)) rfl rfl rfl q21) rfl rfl rfl (k_jn (us' := [(0, .inl (4, r8.2)), (0, .inl (5, r21.1)), (0, .inl (6, r21.2))]) ds_X11_sign rfl rfl rfl) rfl ?_
      refine k_mask [true, false] ?_
      exact sX11_sign_24 u C hr hR ec0_3 ea2 r8.2 r21.1 r21.2 h
set_option maxHeartbeats 400000 in
set_option maxRecDepth 100000 in
theorem c_X11_sign (l : Launch) (u : Nat) (h : k_H) (hsh : h.1 = shM) {c0_3 : Int32} (ec0_3 : h.2.1 0 3 = c0_3) {c0_4 : Int32} (ec0_4 : h.2.1 0 4 = c0_4) {c0_5 : Int32} (ec0_5 : h.2.1 0 5 = c0_5) {c0_6 : Int32} (ec0_6 : h.2.1 0 6 = c0_6) {a2 : (Nat → Int32)} (ea2 : h.2.1 2 = a2) {x0 : Int32} {out : Int32 × Int32 × Int32} (hf : f_X11_sign u c0_3 c0_4 c0_5 c0_6 a2 x0 = some out) : k_CT l yX11_sign cX11_sign 2 none 1 22 [.ref 0, .int x0] h none [(0, .inl (4, out.1)), (0, .inl (5, out.2.1)), (0, .inl (6, out.2.2))] := by
  obtain ⟨sh, I, L, Rf⟩ := h
  try dsimp only
  obtain rfl : sh = shM := hsh
  refine k_ofW (by decide) (Nat.le_of_ble_eq_true rfl) ?_
  intro X ad hl hR0 hr C
  have hR : X.R.frames = 1 ∧ X.R.locals = 22 := by rw [hR0]; exact ⟨rfl, rfl⟩
  have h := hf
  unfold f_X11_sign at h
  refine k_start (us := [(0, .inl (4, c0_4)), (0, .inl (5, c0_5)), (0, .inl (6, c0_6))]) (k_ao_I ec0_4 (k_ao_I ec0_5 (k_ao_I ec0_6 k_ap_0))) ?_
  show k_W X 2 0 0 _ ad (k_ap [(0, .inl (4, c0_4)), (0, .inl (5, c0_5)), (0, .inl (6, c0_6))] (shM, I, L, Rf)) 0 [some (.ref 0), some (.int x0)] []
  refine k_mask [true, true] ?_
  exact sX11_sign_0 u C hr hR ec0_3 ea2 c0_4 c0_5 c0_6 x0 h
/-! LullabyPitModel.isMore()Z -/
theorem ds_X11_isMore : k_ds [(0, 0, 4)] = true := by decide +kernel
set_option maxHeartbeats 400000 in
set_option maxRecDepth 100000 in
theorem sX11_isMore_0 (u : Nat) {X : k_X} {ad : Nat → Nat} (C : k_C X cX11_isMore RX11 1 ad) (hr : X.meth.sig.returnType = (some .boolean)) (hR : X.R.frames = 1 ∧ X.R.locals = 20) {I : Nat → Nat → Int32} {L : Nat → Nat → Int64} {Rf : Nat → Nat → Option Nat} {c0_3 : Int32} (ec0_3 : I 0 3 = c0_3) {a2 : (Nat → Int32)} (ea2 : I 2 = a2) {out : Int32 × Int32} : ∀ (c0_4 : Int32), bX11_isMore_0 u c0_3 a2 c0_4 = some out → k_W X 1 0 0 (k_Q X ad (some (.int out.1)) (k_ap [(0, .inl (4, out.2))] (shM, I, L, Rf))) ad (k_ap [(0, .inl (4, c0_4))] (shM, I, L, Rf)) 0 [some (.ref 0)] [] := by
  intro c0_4 h
  unfold bX11_isMore_0 at h
  refine r_aload_n C dX11_isMore_0 (rfl : 0 + 1 = 1) rfl ?_
  obtain ⟨r1, q1, h⟩ := k_b_of h
  refine d_V (As := []) (st := []) (st' := [.int r1.1]) (h' := k_ap [(0, .inl (4, r1.2))] (shM, I, L, Rf)) C hR ⟨Nat.zero_le _, Nat.zero_le _⟩ mv_X11_here lk_X11_133 dX11_isMore_1 (rfl : 1 + 3 = 4) rfl rfl rfl rfl (c_X11_here X.l u (k_ap [(0, .inl (4, c0_4))] (shM, I, L, Rf)) rfl ec0_3 rfl ea2 q1) rfl rfl rfl (k_jn (us' := [(0, .inl (4, r1.2))]) ds_X11_isMore rfl rfl rfl) rfl ?_
  refine r_pop C dX11_isMore_4 (rfl : 4 + 1 = 5) rfl ?_
  refine r_aload_n C dX11_isMore_5 (rfl : 5 + 1 = 6) rfl ?_
  refine r_getI (v := r1.2) C dX11_isMore_6 (rfl : 6 + 3 = 9) fl_X11_127 rfl rfl rfl ?_
  refine r_aload_n C dX11_isMore_9 (rfl : 9 + 1 = 10) rfl ?_
  refine r_getI (v := c0_3) C dX11_isMore_10 (rfl : 10 + 3 = 13) fl_X11_130 rfl rfl ec0_3 ?_
  refine r_icmp_ge (tgt := 20) C dX11_isMore_13 (by decide) (rfl : 13 + 3 = 16) (fun c13 => ?_) (fun c13 => ?_)
  · have h := k_t c13 h
    refine r_iconst (v := (0 : Int32)) C dX11_isMore_20 (rfl : 20 + 1 = 21) rfl ?_
    cases h
    exact r_zret C hr (Or.inl rfl) dX11_isMore_21
  · have h := k_f c13 h
    refine r_iconst (v := (1 : Int32)) C dX11_isMore_16 (rfl : 16 + 1 = 17) rfl ?_
    refine r_goto (tgt := 21) C dX11_isMore_17 (by decide) ?_
    cases h
    exact r_zret C hr (Or.inr rfl) dX11_isMore_21
set_option maxHeartbeats 400000 in
set_option maxRecDepth 100000 in
theorem c_X11_isMore (l : Launch) (u : Nat) (h : k_H) (hsh : h.1 = shM) {c0_3 : Int32} (ec0_3 : h.2.1 0 3 = c0_3) {c0_4 : Int32} (ec0_4 : h.2.1 0 4 = c0_4) {a2 : (Nat → Int32)} (ea2 : h.2.1 2 = a2) {out : Int32 × Int32} (hf : f_X11_isMore u c0_3 c0_4 a2 = some out) : k_CT l yX11_isMore cX11_isMore 1 (some .boolean) 1 20 [.ref 0] h (some (.int out.1)) [(0, .inl (4, out.2))] := by
  obtain ⟨sh, I, L, Rf⟩ := h
  try dsimp only
  obtain rfl : sh = shM := hsh
  refine k_ofW (by decide) (Nat.le_of_ble_eq_true rfl) ?_
  intro X ad hl hR0 hr C
  have hR : X.R.frames = 1 ∧ X.R.locals = 20 := by rw [hR0]; exact ⟨rfl, rfl⟩
  have h := hf
  unfold f_X11_isMore at h
  refine k_start (us := [(0, .inl (4, c0_4))]) (k_ao_I ec0_4 k_ap_0) ?_
  show k_W X 1 0 0 _ ad (k_ap [(0, .inl (4, c0_4))] (shM, I, L, Rf)) 0 [some (.ref 0)] []
  refine k_mask [true] ?_
  exact sX11_isMore_0 u C hr hR ec0_3 ea2 c0_4 h
/-! LullabyPitModel.begins(I)V -/
theorem ds_X11_begins : k_ds [(0, 0, 2), (0, 0, 3), (0, 0, 4), (0, 0, 5), (0, 0, 7), (0, 0, 8)] = true := by decide +kernel
set_option maxHeartbeats 400000 in
set_option maxRecDepth 100000 in
theorem sX11_begins_0 (u : Nat) {X : k_X} {ad : Nat → Nat} (C : k_C X cX11_begins RX11 2 ad) (hr : X.meth.sig.returnType = none) (hR : X.R.frames = 0 ∧ X.R.locals = 0) {I : Nat → Nat → Int32} {L : Nat → Nat → Int64} {Rf : Nat → Nat → Option Nat} {out : Int32 × Int32 × Int32 × Int32 × Int32 × Int32} : ∀ (c0_2 : Int32) (c0_3 : Int32) (c0_4 : Int32) (c0_5 : Int32) (c0_7 : Int32) (c0_8 : Int32) (v1 : Int32), bX11_begins_0 u c0_2 c0_3 c0_4 c0_5 c0_7 c0_8 v1 = some out → k_W X 2 0 0 (k_Q X ad none (k_ap [(0, .inl (2, out.1)), (0, .inl (3, out.2.1)), (0, .inl (4, out.2.2.1)), (0, .inl (5, out.2.2.2.1)), (0, .inl (7, out.2.2.2.2.1)), (0, .inl (8, out.2.2.2.2.2))] (shM, I, L, Rf))) ad (k_ap [(0, .inl (2, c0_2)), (0, .inl (3, c0_3)), (0, .inl (4, c0_4)), (0, .inl (5, c0_5)), (0, .inl (7, c0_7)), (0, .inl (8, c0_8))] (shM, I, L, Rf)) 0 [some (.ref 0), some (.int v1)] [] := by
  intro c0_2 c0_3 c0_4 c0_5 c0_7 c0_8 v1 h
  unfold bX11_begins_0 at h
  refine r_aload_n C dX11_begins_0 (rfl : 0 + 1 = 1) rfl ?_
  refine r_iconst (v := (0 : Int32)) C dX11_begins_1 (rfl : 1 + 1 = 2) rfl ?_
  refine p_I (us' := [(0, .inl (2, (0 : Int32))), (0, .inl (3, c0_3)), (0, .inl (4, c0_4)), (0, .inl (5, c0_5)), (0, .inl (7, c0_7)), (0, .inl (8, c0_8))]) C dX11_begins_2 (rfl : 2 + 3 = 5) fp_X11_118 rfl rfl ds_X11_begins rfl rfl rfl ?_
  refine r_aload_n C dX11_begins_5 (rfl : 5 + 1 = 6) rfl ?_
  refine r_iconst (v := (-1 : Int32)) C dX11_begins_6 (rfl : 6 + 1 = 7) rfl ?_
  refine p_I (us' := [(0, .inl (2, (0 : Int32))), (0, .inl (3, c0_3)), (0, .inl (4, c0_4)), (0, .inl (5, c0_5)), (0, .inl (7, c0_7)), (0, .inl (8, (-1 : Int32)))]) C dX11_begins_7 (rfl : 7 + 3 = 10) fp_X11_17 rfl rfl ds_X11_begins rfl rfl rfl ?_
  refine r_aload_n C dX11_begins_10 (rfl : 10 + 1 = 11) rfl ?_
  refine r_iload_n C dX11_begins_11 (rfl : 11 + 1 = 12) rfl ?_
  refine p_I (us' := [(0, .inl (2, (0 : Int32))), (0, .inl (3, v1)), (0, .inl (4, c0_4)), (0, .inl (5, c0_5)), (0, .inl (7, c0_7)), (0, .inl (8, (-1 : Int32)))]) C dX11_begins_12 (rfl : 12 + 3 = 15) fp_X11_130 rfl rfl ds_X11_begins rfl rfl rfl ?_
  refine r_aload_n C dX11_begins_15 (rfl : 15 + 1 = 16) rfl ?_
  refine r_iconst (v := (0 : Int32)) C dX11_begins_16 (rfl : 16 + 1 = 17) rfl ?_
  refine p_I (us' := [(0, .inl (2, (0 : Int32))), (0, .inl (3, v1)), (0, .inl (4, (0 : Int32))), (0, .inl (5, c0_5)), (0, .inl (7, c0_7)), (0, .inl (8, (-1 : Int32)))]) C dX11_begins_17 (rfl : 17 + 3 = 20) fp_X11_127 rfl rfl ds_X11_begins rfl rfl rfl ?_
  refine r_aload_n C dX11_begins_20 (rfl : 20 + 1 = 21) rfl ?_
  refine r_iconst (v := (-1 : Int32)) C dX11_begins_21 (rfl : 21 + 1 = 22) rfl ?_
  refine p_I (us' := [(0, .inl (2, (0 : Int32))), (0, .inl (3, v1)), (0, .inl (4, (0 : Int32))), (0, .inl (5, (-1 : Int32))), (0, .inl (7, c0_7)), (0, .inl (8, (-1 : Int32)))]) C dX11_begins_22 (rfl : 22 + 3 = 25) fp_X11_121 rfl rfl ds_X11_begins rfl rfl rfl ?_
  refine r_aload_n C dX11_begins_25 (rfl : 25 + 1 = 26) rfl ?_
  refine r_iconst (v := (0 : Int32)) C dX11_begins_26 (rfl : 26 + 1 = 27) rfl ?_
  refine p_I (us' := [(0, .inl (2, (0 : Int32))), (0, .inl (3, v1)), (0, .inl (4, (0 : Int32))), (0, .inl (5, (-1 : Int32))), (0, .inl (7, (0 : Int32))), (0, .inl (8, (-1 : Int32)))]) C dX11_begins_27 (rfl : 27 + 3 = 30) fp_X11_160 rfl rfl ds_X11_begins rfl rfl rfl ?_
  cases h
  exact r_vret C hr dX11_begins_30
set_option maxHeartbeats 400000 in
set_option maxRecDepth 100000 in
theorem c_X11_begins (l : Launch) (u : Nat) (h : k_H) (hsh : h.1 = shM) {c0_2 : Int32} (ec0_2 : h.2.1 0 2 = c0_2) {c0_3 : Int32} (ec0_3 : h.2.1 0 3 = c0_3) {c0_4 : Int32} (ec0_4 : h.2.1 0 4 = c0_4) {c0_5 : Int32} (ec0_5 : h.2.1 0 5 = c0_5) {c0_7 : Int32} (ec0_7 : h.2.1 0 7 = c0_7) {c0_8 : Int32} (ec0_8 : h.2.1 0 8 = c0_8) {x0 : Int32} {out : Int32 × Int32 × Int32 × Int32 × Int32 × Int32} (hf : f_X11_begins u c0_2 c0_3 c0_4 c0_5 c0_7 c0_8 x0 = some out) : k_CT l yX11_begins cX11_begins 2 none 0 0 [.ref 0, .int x0] h none [(0, .inl (2, out.1)), (0, .inl (3, out.2.1)), (0, .inl (4, out.2.2.1)), (0, .inl (5, out.2.2.2.1)), (0, .inl (7, out.2.2.2.2.1)), (0, .inl (8, out.2.2.2.2.2))] := by
  obtain ⟨sh, I, L, Rf⟩ := h
  try dsimp only
  obtain rfl : sh = shM := hsh
  refine k_ofW (by decide) (Nat.le_of_ble_eq_true rfl) ?_
  intro X ad hl hR0 hr C
  have hR : X.R.frames = 0 ∧ X.R.locals = 0 := by rw [hR0]; exact ⟨rfl, rfl⟩
  have h := hf
  unfold f_X11_begins at h
  refine k_start (us := [(0, .inl (2, c0_2)), (0, .inl (3, c0_3)), (0, .inl (4, c0_4)), (0, .inl (5, c0_5)), (0, .inl (7, c0_7)), (0, .inl (8, c0_8))]) (k_ao_I ec0_2 (k_ao_I ec0_3 (k_ao_I ec0_4 (k_ao_I ec0_5 (k_ao_I ec0_7 (k_ao_I ec0_8 k_ap_0)))))) ?_
  show k_W X 2 0 0 _ ad (k_ap [(0, .inl (2, c0_2)), (0, .inl (3, c0_3)), (0, .inl (4, c0_4)), (0, .inl (5, c0_5)), (0, .inl (7, c0_7)), (0, .inl (8, c0_8))] (shM, I, L, Rf)) 0 [some (.ref 0), some (.int x0)] []
  refine k_mask [true, true] ?_
  exact sX11_begins_0 u C hr hR c0_2 c0_3 c0_4 c0_5 c0_7 c0_8 x0 h
/-! LullabyPitModel.result(I)I -/
theorem ds_X11_result : k_ds [(0, 0, 8)] = true := by decide +kernel
set_option maxHeartbeats 400000 in
set_option maxRecDepth 100000 in
theorem sX11_result_0 (u : Nat) {X : k_X} {ad : Nat → Nat} (C : k_C X cX11_result RX11 2 ad) (hr : X.meth.sig.returnType = (some .int)) (hR : X.R.frames = 1 ∧ X.R.locals = 20) {I : Nat → Nat → Int32} {L : Nat → Nat → Int64} {Rf : Nat → Nat → Option Nat} {c0_5 : Int32} (ec0_5 : I 0 5 = c0_5) {c0_6 : Int32} (ec0_6 : I 0 6 = c0_6) {out : Int32 × Int32} : ∀ (c0_8 : Int32) (v1 : Int32), bX11_result_0 u c0_5 c0_6 c0_8 v1 = some out → k_W X 2 0 0 (k_Q X ad (some (.int out.1)) (k_ap [(0, .inl (8, out.2))] (shM, I, L, Rf))) ad (k_ap [(0, .inl (8, c0_8))] (shM, I, L, Rf)) 0 [some (.ref 0), some (.int v1)] [] := by
  intro c0_8 v1 h
  unfold bX11_result_0 at h
  refine r_aload_n C dX11_result_0 (rfl : 0 + 1 = 1) rfl ?_
  refine r_aload_n C dX11_result_1 (rfl : 1 + 1 = 2) rfl ?_
  refine r_getI (v := c0_5) C dX11_result_2 (rfl : 2 + 3 = 5) fl_X11_121 rfl rfl ec0_5 ?_
  refine p_I (us' := [(0, .inl (8, c0_5))]) C dX11_result_5 (rfl : 5 + 3 = 8) fp_X11_17 rfl rfl ds_X11_result rfl rfl rfl ?_
  refine r_aload_n C dX11_result_8 (rfl : 8 + 1 = 9) rfl ?_
  obtain ⟨r9, q9, h⟩ := k_b_of h
  refine d_V (As := []) (st := []) (st' := [.int r9]) (h' := k_ap [(0, .inl (8, c0_5))] (shM, I, L, Rf)) C hR ⟨Nat.zero_le _, Nat.zero_le _⟩ mv_X11_fine lk_X11_149 dX11_result_9 (rfl : 9 + 3 = 12) rfl rfl rfl rfl (c_X11_fine X.l u (k_ap [(0, .inl (8, c0_5))] (shM, I, L, Rf)) rfl ec0_5 q9) rfl rfl rfl rfl rfl ?_
  refine r_if_eq (tgt := 19) C dX11_result_12 (by decide) (rfl : 12 + 3 = 15) (fun c12 => ?_) (fun c12 => ?_)
  · have h := k_t c12 h
    refine r_aload_n C dX11_result_19 (rfl : 19 + 1 = 20) rfl ?_
    refine r_getI (v := c0_6) C dX11_result_20 (rfl : 20 + 3 = 23) fl_X11_124 rfl rfl ec0_6 ?_
    refine r_bipush (v := (10 : Int32)) C dX11_result_23 (rfl : 23 + 2 = 25) rfl ?_
    refine r_isub C dX11_result_25 (rfl : 25 + 1 = 26) ?_
    cases h
    exact r_iret C hr dX11_result_26
  · have h := k_f c12 h
    refine r_iload_n C dX11_result_15 (rfl : 15 + 1 = 16) rfl ?_
    refine r_goto (tgt := 26) C dX11_result_16 (by decide) ?_
    cases h
    exact r_iret C hr dX11_result_26
set_option maxHeartbeats 400000 in
set_option maxRecDepth 100000 in
theorem c_X11_result (l : Launch) (u : Nat) (h : k_H) (hsh : h.1 = shM) {c0_5 : Int32} (ec0_5 : h.2.1 0 5 = c0_5) {c0_6 : Int32} (ec0_6 : h.2.1 0 6 = c0_6) {c0_8 : Int32} (ec0_8 : h.2.1 0 8 = c0_8) {x0 : Int32} {out : Int32 × Int32} (hf : f_X11_result u c0_5 c0_6 c0_8 x0 = some out) : k_CT l yX11_result cX11_result 2 (some .int) 1 20 [.ref 0, .int x0] h (some (.int out.1)) [(0, .inl (8, out.2))] := by
  obtain ⟨sh, I, L, Rf⟩ := h
  try dsimp only
  obtain rfl : sh = shM := hsh
  refine k_ofW (by decide) (Nat.le_of_ble_eq_true rfl) ?_
  intro X ad hl hR0 hr C
  have hR : X.R.frames = 1 ∧ X.R.locals = 20 := by rw [hR0]; exact ⟨rfl, rfl⟩
  have h := hf
  unfold f_X11_result at h
  refine k_start (us := [(0, .inl (8, c0_8))]) (k_ao_I ec0_8 k_ap_0) ?_
  show k_W X 2 0 0 _ ad (k_ap [(0, .inl (8, c0_8))] (shM, I, L, Rf)) 0 [some (.ref 0), some (.int x0)] []
  refine k_mask [true, true] ?_
  exact sX11_result_0 u C hr hR ec0_5 ec0_6 c0_8 x0 h
/-! LullabyPitModel.fault()I -/
theorem ds_X11_fault : k_ds [(0, 0, 0)] = true := by decide +kernel
set_option maxHeartbeats 400000 in
set_option maxRecDepth 100000 in
theorem sX11_fault_0 (u : Nat) {X : k_X} {ad : Nat → Nat} (C : k_C X cX11_fault RX11 1 ad) (hr : X.meth.sig.returnType = (some .int)) (hR : X.R.frames = 0 ∧ X.R.locals = 0) {I : Nat → Nat → Int32} {L : Nat → Nat → Int64} {Rf : Nat → Nat → Option Nat} {c0_8 : Int32} (ec0_8 : I 0 8 = c0_8) {out : Int32 × Int32} : ∀ (c0_0 : Int32), bX11_fault_0 u c0_8 c0_0 = some out → k_W X 1 0 0 (k_Q X ad (some (.int out.1)) (k_ap [(0, .inl (0, out.2))] (shM, I, L, Rf))) ad (k_ap [(0, .inl (0, c0_0))] (shM, I, L, Rf)) 0 [some (.ref 0)] [] := by
  intro c0_0 h
  unfold bX11_fault_0 at h
  refine r_aload_n C dX11_fault_0 (rfl : 0 + 1 = 1) rfl ?_
  refine r_iconst (v := (0 : Int32)) C dX11_fault_1 (rfl : 1 + 1 = 2) rfl ?_
  refine p_I (us' := [(0, .inl (0, (0 : Int32)))]) C dX11_fault_2 (rfl : 2 + 3 = 5) fp_X11_3 rfl rfl ds_X11_fault rfl rfl rfl ?_
  refine r_aload_n C dX11_fault_5 (rfl : 5 + 1 = 6) rfl ?_
  refine r_getI (v := c0_8) C dX11_fault_6 (rfl : 6 + 3 = 9) fl_X11_17 rfl rfl ec0_8 ?_
  cases h
  exact r_iret C hr dX11_fault_9
set_option maxHeartbeats 400000 in
set_option maxRecDepth 100000 in
theorem c_X11_fault (l : Launch) (u : Nat) (h : k_H) (hsh : h.1 = shM) {c0_0 : Int32} (ec0_0 : h.2.1 0 0 = c0_0) {c0_8 : Int32} (ec0_8 : h.2.1 0 8 = c0_8) {out : Int32 × Int32} (hf : f_X11_fault u c0_0 c0_8 = some out) : k_CT l yX11_fault cX11_fault 1 (some .int) 0 0 [.ref 0] h (some (.int out.1)) [(0, .inl (0, out.2))] := by
  obtain ⟨sh, I, L, Rf⟩ := h
  try dsimp only
  obtain rfl : sh = shM := hsh
  refine k_ofW (by decide) (Nat.le_of_ble_eq_true rfl) ?_
  intro X ad hl hR0 hr C
  have hR : X.R.frames = 0 ∧ X.R.locals = 0 := by rw [hR0]; exact ⟨rfl, rfl⟩
  have h := hf
  unfold f_X11_fault at h
  refine k_start (us := [(0, .inl (0, c0_0))]) (k_ao_I ec0_0 k_ap_0) ?_
  show k_W X 1 0 0 _ ad (k_ap [(0, .inl (0, c0_0))] (shM, I, L, Rf)) 0 [some (.ref 0)] []
  refine k_mask [true] ?_
  exact sX11_fault_0 u C hr hR ec0_8 c0_0 h
/-! LullabyPitModel.clears()V -/
theorem ds_X11_clears : k_ds [(0, 0, 18), (0, 0, 19), (0, 0, 20), (0, 0, 21), (0, 0, 22), (0, 0, 23), (0, 0, 24), (3, 2, 0), (4, 2, 0), (5, 2, 0)] = true := by decide +kernel
set_option maxHeartbeats 400000 in
set_option maxRecDepth 100000 in
theorem sX11_clears_66 (u : Nat) {X : k_X} {ad : Nat → Nat} (C : k_C X cX11_clears RX11 2 ad) (hr : X.meth.sig.returnType = none) (hR : X.R.frames = 0 ∧ X.R.locals = 0) {I : Nat → Nat → Int32} {L : Nat → Nat → Int64} {Rf : Nat → Nat → Option Nat} {out : Int32 × Int32 × Int32 × Int32 × Int32 × Int32 × Int32 × (Nat → Int32) × (Nat → Int32) × (Nat → Int32)} : ∀ (n : Nat) (c0_18 : Int32) (c0_19 : Int32) (c0_20 : Int32) (c0_21 : Int32) (c0_22 : Int32) (c0_23 : Int32) (c0_24 : Int32) (a3 : (Nat → Int32)) (a4 : (Nat → Int32)) (a5 : (Nat → Int32)) (v1 : Int32), bX11_clears_66 u n c0_18 c0_19 c0_20 c0_21 c0_22 c0_23 c0_24 a3 a4 a5 v1 = some out → k_W X 2 0 0 (k_Q X ad none (k_ap [(0, .inl (18, out.1)), (0, .inl (19, out.2.1)), (0, .inl (20, out.2.2.1)), (0, .inl (21, out.2.2.2.1)), (0, .inl (22, out.2.2.2.2.1)), (0, .inl (23, out.2.2.2.2.2.1)), (0, .inl (24, out.2.2.2.2.2.2.1)), (3, .inr (.inr (.inl out.2.2.2.2.2.2.2.1))), (4, .inr (.inr (.inl out.2.2.2.2.2.2.2.2.1))), (5, .inr (.inr (.inl out.2.2.2.2.2.2.2.2.2)))] (shM, I, L, Rf))) ad (k_ap [(0, .inl (18, c0_18)), (0, .inl (19, c0_19)), (0, .inl (20, c0_20)), (0, .inl (21, c0_21)), (0, .inl (22, c0_22)), (0, .inl (23, c0_23)), (0, .inl (24, c0_24)), (3, .inr (.inr (.inl a3))), (4, .inr (.inr (.inl a4))), (5, .inr (.inr (.inl a5)))] (shM, I, L, Rf)) 66 [some (.ref 0), some (.int v1)] [] := by
  intro n
  induction n with
  | zero => intro c0_18 c0_19 c0_20 c0_21 c0_22 c0_23 c0_24 a3 a4 a5 v1 h; cases h
  | succ n ih =>
    intro c0_18 c0_19 c0_20 c0_21 c0_22 c0_23 c0_24 a3 a4 a5 v1 h
    refine r_iload_n C dX11_clears_66 (rfl : 66 + 1 = 67) rfl ?_
    refine r_iconst (v := (5 : Int32)) C dX11_clears_67 (rfl : 67 + 1 = 68) rfl ?_
    refine r_icmp_ge (tgt := 84) C dX11_clears_68 (by decide) (rfl : 68 + 3 = 71) (fun c68 => ?_) (fun c68 => ?_)
    · have h := k_t c68 h
      cases h
      exact r_vret C hr dX11_clears_84
    · have h := k_f c68 h
      refine r_aload_n C dX11_clears_71 (rfl : 71 + 1 = 72) rfl ?_
      refine r_getR (q := 5) C dX11_clears_72 (rfl : 72 + 3 = 75) fl_X11_29 rfl rfl ?_
      refine r_iload_n C dX11_clears_75 (rfl : 75 + 1 = 76) rfl ?_
      refine r_iconst (v := (1 : Int32)) C dX11_clears_76 (rfl : 76 + 1 = 77) rfl ?_
      obtain ⟨hi77, h⟩ := k_i_of h
      refine s_i (j := (v1).toNatClampNeg) (f := a5) (us' := [(0, .inl (18, c0_18)), (0, .inl (19, c0_19)), (0, .inl (20, c0_20)), (0, .inl (21, c0_21)), (0, .inl (22, c0_22)), (0, .inl (23, c0_23)), (0, .inl (24, c0_24)), (3, .inr (.inr (.inl a3))), (4, .inr (.inr (.inl a4))), (5, .inr (.inr (.inl (upd a5 ((v1).toNatClampNeg) (1 : Int32)))))]) C dX11_clears_77 (rfl : 77 + 1 = 78) rfl rfl hi77 rfl ds_X11_clears rfl rfl rfl ?_
      refine r_iinc (v := (v1 + (1 : Int32))) C dX11_clears_78 (rfl : 78 + 3 = 81) rfl rfl (by decide) ?_
      show k_W _ _ _ _ _ _ _ _ [some (.ref 0), some (.int (v1 + (1 : Int32)))] _
      refine r_goto (tgt := 66) C dX11_clears_81 (by decide) ?_
      refine k_mask [true, true] ?_
      exact ih c0_18 c0_19 c0_20 c0_21 c0_22 c0_23 c0_24 a3 a4 (upd a5 ((v1).toNatClampNeg) (1 : Int32)) (v1 + (1 : Int32)) h
set_option maxHeartbeats 400000 in
set_option maxRecDepth 100000 in
theorem sX11_clears_38 (u : Nat) {X : k_X} {ad : Nat → Nat} (C : k_C X cX11_clears RX11 2 ad) (hr : X.meth.sig.returnType = none) (hR : X.R.frames = 0 ∧ X.R.locals = 0) {I : Nat → Nat → Int32} {L : Nat → Nat → Int64} {Rf : Nat → Nat → Option Nat} {out : Int32 × Int32 × Int32 × Int32 × Int32 × Int32 × Int32 × (Nat → Int32) × (Nat → Int32) × (Nat → Int32)} : ∀ (n : Nat) (c0_18 : Int32) (c0_19 : Int32) (c0_20 : Int32) (c0_21 : Int32) (c0_22 : Int32) (c0_23 : Int32) (c0_24 : Int32) (a3 : (Nat → Int32)) (a4 : (Nat → Int32)) (a5 : (Nat → Int32)) (v1 : Int32), bX11_clears_38 u n c0_18 c0_19 c0_20 c0_21 c0_22 c0_23 c0_24 a3 a4 a5 v1 = some out → k_W X 2 0 0 (k_Q X ad none (k_ap [(0, .inl (18, out.1)), (0, .inl (19, out.2.1)), (0, .inl (20, out.2.2.1)), (0, .inl (21, out.2.2.2.1)), (0, .inl (22, out.2.2.2.2.1)), (0, .inl (23, out.2.2.2.2.2.1)), (0, .inl (24, out.2.2.2.2.2.2.1)), (3, .inr (.inr (.inl out.2.2.2.2.2.2.2.1))), (4, .inr (.inr (.inl out.2.2.2.2.2.2.2.2.1))), (5, .inr (.inr (.inl out.2.2.2.2.2.2.2.2.2)))] (shM, I, L, Rf))) ad (k_ap [(0, .inl (18, c0_18)), (0, .inl (19, c0_19)), (0, .inl (20, c0_20)), (0, .inl (21, c0_21)), (0, .inl (22, c0_22)), (0, .inl (23, c0_23)), (0, .inl (24, c0_24)), (3, .inr (.inr (.inl a3))), (4, .inr (.inr (.inl a4))), (5, .inr (.inr (.inl a5)))] (shM, I, L, Rf)) 38 [some (.ref 0), some (.int v1)] [] := by
  intro n
  induction n with
  | zero => intro c0_18 c0_19 c0_20 c0_21 c0_22 c0_23 c0_24 a3 a4 a5 v1 h; cases h
  | succ n ih =>
    intro c0_18 c0_19 c0_20 c0_21 c0_22 c0_23 c0_24 a3 a4 a5 v1 h
    refine r_iload_n C dX11_clears_38 (rfl : 38 + 1 = 39) rfl ?_
    refine r_bipush (v := (48 : Int32)) C dX11_clears_39 (rfl : 39 + 2 = 41) rfl ?_
    refine r_icmp_ge (tgt := 64) C dX11_clears_41 (by decide) (rfl : 41 + 3 = 44) (fun c41 => ?_) (fun c41 => ?_)
    · have h := k_t c41 h
      refine r_iconst (v := (0 : Int32)) C dX11_clears_64 (rfl : 64 + 1 = 65) rfl ?_
      refine r_istore_n C dX11_clears_65 (rfl : 65 + 1 = 66) (by decide) (Nat.le_of_ble_eq_true rfl) ?_
      show k_W _ _ _ _ _ _ _ _ [some (.ref 0), some (.int (0 : Int32))] _
      refine k_mask [true, true] ?_
      exact sX11_clears_66 u C hr hR u c0_18 c0_19 c0_20 c0_21 c0_22 c0_23 c0_24 a3 a4 a5 (0 : Int32) h
    · have h := k_f c41 h
      refine r_aload_n C dX11_clears_44 (rfl : 44 + 1 = 45) rfl ?_
      refine r_getR (q := 3) C dX11_clears_45 (rfl : 45 + 3 = 48) fl_X11_23 rfl rfl ?_
      refine r_iload_n C dX11_clears_48 (rfl : 48 + 1 = 49) rfl ?_
      refine r_iconst (v := (0 : Int32)) C dX11_clears_49 (rfl : 49 + 1 = 50) rfl ?_
      obtain ⟨hi50, h⟩ := k_i_of h
      refine s_i (j := (v1).toNatClampNeg) (f := a3) (us' := [(0, .inl (18, c0_18)), (0, .inl (19, c0_19)), (0, .inl (20, c0_20)), (0, .inl (21, c0_21)), (0, .inl (22, c0_22)), (0, .inl (23, c0_23)), (0, .inl (24, c0_24)), (3, .inr (.inr (.inl (upd a3 ((v1).toNatClampNeg) (0 : Int32))))), (4, .inr (.inr (.inl a4))), (5, .inr (.inr (.inl a5)))]) C dX11_clears_50 (rfl : 50 + 1 = 51) rfl rfl hi50 rfl ds_X11_clears rfl rfl rfl ?_
      refine r_aload_n C dX11_clears_51 (rfl : 51 + 1 = 52) rfl ?_
      refine r_getR (q := 4) C dX11_clears_52 (rfl : 52 + 3 = 55) fl_X11_26 rfl rfl ?_
      refine r_iload_n C dX11_clears_55 (rfl : 55 + 1 = 56) rfl ?_
      refine r_iconst (v := (0 : Int32)) C dX11_clears_56 (rfl : 56 + 1 = 57) rfl ?_
      obtain ⟨hi57, h⟩ := k_i_of h
      refine s_i (j := (v1).toNatClampNeg) (f := a4) (us' := [(0, .inl (18, c0_18)), (0, .inl (19, c0_19)), (0, .inl (20, c0_20)), (0, .inl (21, c0_21)), (0, .inl (22, c0_22)), (0, .inl (23, c0_23)), (0, .inl (24, c0_24)), (3, .inr (.inr (.inl (upd a3 ((v1).toNatClampNeg) (0 : Int32))))), (4, .inr (.inr (.inl (upd a4 ((v1).toNatClampNeg) (0 : Int32))))), (5, .inr (.inr (.inl a5)))]) C dX11_clears_57 (rfl : 57 + 1 = 58) rfl rfl hi57 rfl ds_X11_clears rfl rfl rfl ?_
      refine r_iinc (v := (v1 + (1 : Int32))) C dX11_clears_58 (rfl : 58 + 3 = 61) rfl rfl (by decide) ?_
      show k_W _ _ _ _ _ _ _ _ [some (.ref 0), some (.int (v1 + (1 : Int32)))] _
      refine r_goto (tgt := 38) C dX11_clears_61 (by decide) ?_
      refine k_mask [true, true] ?_
      exact ih c0_18 c0_19 c0_20 c0_21 c0_22 c0_23 c0_24 (upd a3 ((v1).toNatClampNeg) (0 : Int32)) (upd a4 ((v1).toNatClampNeg) (0 : Int32)) a5 (v1 + (1 : Int32)) h
set_option maxHeartbeats 400000 in
set_option maxRecDepth 100000 in
theorem sX11_clears_0 (u : Nat) {X : k_X} {ad : Nat → Nat} (C : k_C X cX11_clears RX11 2 ad) (hr : X.meth.sig.returnType = none) (hR : X.R.frames = 0 ∧ X.R.locals = 0) {I : Nat → Nat → Int32} {L : Nat → Nat → Int64} {Rf : Nat → Nat → Option Nat} {out : Int32 × Int32 × Int32 × Int32 × Int32 × Int32 × Int32 × (Nat → Int32) × (Nat → Int32) × (Nat → Int32)} : ∀ (c0_18 : Int32) (c0_19 : Int32) (c0_20 : Int32) (c0_21 : Int32) (c0_22 : Int32) (c0_23 : Int32) (c0_24 : Int32) (a3 : (Nat → Int32)) (a4 : (Nat → Int32)) (a5 : (Nat → Int32)), bX11_clears_0 u c0_18 c0_19 c0_20 c0_21 c0_22 c0_23 c0_24 a3 a4 a5 = some out → k_W X 2 0 0 (k_Q X ad none (k_ap [(0, .inl (18, out.1)), (0, .inl (19, out.2.1)), (0, .inl (20, out.2.2.1)), (0, .inl (21, out.2.2.2.1)), (0, .inl (22, out.2.2.2.2.1)), (0, .inl (23, out.2.2.2.2.2.1)), (0, .inl (24, out.2.2.2.2.2.2.1)), (3, .inr (.inr (.inl out.2.2.2.2.2.2.2.1))), (4, .inr (.inr (.inl out.2.2.2.2.2.2.2.2.1))), (5, .inr (.inr (.inl out.2.2.2.2.2.2.2.2.2)))] (shM, I, L, Rf))) ad (k_ap [(0, .inl (18, c0_18)), (0, .inl (19, c0_19)), (0, .inl (20, c0_20)), (0, .inl (21, c0_21)), (0, .inl (22, c0_22)), (0, .inl (23, c0_23)), (0, .inl (24, c0_24)), (3, .inr (.inr (.inl a3))), (4, .inr (.inr (.inl a4))), (5, .inr (.inr (.inl a5)))] (shM, I, L, Rf)) 0 [some (.ref 0), none] [] := by
  intro c0_18 c0_19 c0_20 c0_21 c0_22 c0_23 c0_24 a3 a4 a5 h
  unfold bX11_clears_0 at h
  refine r_aload_n C dX11_clears_0 (rfl : 0 + 1 = 1) rfl ?_
  refine r_bipush (v := (6 : Int32)) C dX11_clears_1 (rfl : 1 + 2 = 3) rfl ?_
  refine p_I (us' := [(0, .inl (18, (6 : Int32))), (0, .inl (19, c0_19)), (0, .inl (20, c0_20)), (0, .inl (21, c0_21)), (0, .inl (22, c0_22)), (0, .inl (23, c0_23)), (0, .inl (24, c0_24)), (3, .inr (.inr (.inl a3))), (4, .inr (.inr (.inl a4))), (5, .inr (.inr (.inl a5)))]) C dX11_clears_3 (rfl : 3 + 3 = 6) fp_X11_163 rfl rfl ds_X11_clears rfl rfl rfl ?_
  refine r_aload_n C dX11_clears_6 (rfl : 6 + 1 = 7) rfl ?_
  refine r_iconst (v := (4 : Int32)) C dX11_clears_7 (rfl : 7 + 1 = 8) rfl ?_
  refine p_I (us' := [(0, .inl (18, (6 : Int32))), (0, .inl (19, (4 : Int32))), (0, .inl (20, c0_20)), (0, .inl (21, c0_21)), (0, .inl (22, c0_22)), (0, .inl (23, c0_23)), (0, .inl (24, c0_24)), (3, .inr (.inr (.inl a3))), (4, .inr (.inr (.inl a4))), (5, .inr (.inr (.inl a5)))]) C dX11_clears_8 (rfl : 8 + 3 = 11) fp_X11_166 rfl rfl ds_X11_clears rfl rfl rfl ?_
  refine r_aload_n C dX11_clears_11 (rfl : 11 + 1 = 12) rfl ?_
  refine r_iconst (v := (0 : Int32)) C dX11_clears_12 (rfl : 12 + 1 = 13) rfl ?_
  refine p_I (us' := [(0, .inl (18, (6 : Int32))), (0, .inl (19, (4 : Int32))), (0, .inl (20, (0 : Int32))), (0, .inl (21, c0_21)), (0, .inl (22, c0_22)), (0, .inl (23, c0_23)), (0, .inl (24, c0_24)), (3, .inr (.inr (.inl a3))), (4, .inr (.inr (.inl a4))), (5, .inr (.inr (.inl a5)))]) C dX11_clears_13 (rfl : 13 + 3 = 16) fp_X11_169 rfl rfl ds_X11_clears rfl rfl rfl ?_
  refine r_aload_n C dX11_clears_16 (rfl : 16 + 1 = 17) rfl ?_
  refine r_iconst (v := (0 : Int32)) C dX11_clears_17 (rfl : 17 + 1 = 18) rfl ?_
  refine p_I (us' := [(0, .inl (18, (6 : Int32))), (0, .inl (19, (4 : Int32))), (0, .inl (20, (0 : Int32))), (0, .inl (21, (0 : Int32))), (0, .inl (22, c0_22)), (0, .inl (23, c0_23)), (0, .inl (24, c0_24)), (3, .inr (.inr (.inl a3))), (4, .inr (.inr (.inl a4))), (5, .inr (.inr (.inl a5)))]) C dX11_clears_18 (rfl : 18 + 3 = 21) fp_X11_172 rfl rfl ds_X11_clears rfl rfl rfl ?_
  refine r_aload_n C dX11_clears_21 (rfl : 21 + 1 = 22) rfl ?_
  refine r_iconst (v := (4 : Int32)) C dX11_clears_22 (rfl : 22 + 1 = 23) rfl ?_
  refine p_I (us' := [(0, .inl (18, (6 : Int32))), (0, .inl (19, (4 : Int32))), (0, .inl (20, (0 : Int32))), (0, .inl (21, (0 : Int32))), (0, .inl (22, (4 : Int32))), (0, .inl (23, c0_23)), (0, .inl (24, c0_24)), (3, .inr (.inr (.inl a3))), (4, .inr (.inr (.inl a4))), (5, .inr (.inr (.inl a5)))]) C dX11_clears_23 (rfl : 23 + 3 = 26) fp_X11_175 rfl rfl ds_X11_clears rfl rfl rfl ?_
  refine r_aload_n C dX11_clears_26 (rfl : 26 + 1 = 27) rfl ?_
  refine r_iconst (v := (5 : Int32)) C dX11_clears_27 (rfl : 27 + 1 = 28) rfl ?_
  refine p_I (us' := [(0, .inl (18, (6 : Int32))), (0, .inl (19, (4 : Int32))), (0, .inl (20, (0 : Int32))), (0, .inl (21, (0 : Int32))), (0, .inl (22, (4 : Int32))), (0, .inl (23, (5 : Int32))), (0, .inl (24, c0_24)), (3, .inr (.inr (.inl a3))), (4, .inr (.inr (.inl a4))), (5, .inr (.inr (.inl a5)))]) C dX11_clears_28 (rfl : 28 + 3 = 31) fp_X11_178 rfl rfl ds_X11_clears rfl rfl rfl ?_
  refine r_aload_n C dX11_clears_31 (rfl : 31 + 1 = 32) rfl ?_
  refine r_iconst (v := (0 : Int32)) C dX11_clears_32 (rfl : 32 + 1 = 33) rfl ?_
  refine p_I (us' := [(0, .inl (18, (6 : Int32))), (0, .inl (19, (4 : Int32))), (0, .inl (20, (0 : Int32))), (0, .inl (21, (0 : Int32))), (0, .inl (22, (4 : Int32))), (0, .inl (23, (5 : Int32))), (0, .inl (24, (0 : Int32))), (3, .inr (.inr (.inl a3))), (4, .inr (.inr (.inl a4))), (5, .inr (.inr (.inl a5)))]) C dX11_clears_33 (rfl : 33 + 3 = 36) fp_X11_181 rfl rfl ds_X11_clears rfl rfl rfl ?_
  refine r_iconst (v := (0 : Int32)) C dX11_clears_36 (rfl : 36 + 1 = 37) rfl ?_
  refine r_istore_n C dX11_clears_37 (rfl : 37 + 1 = 38) (by decide) (Nat.le_of_ble_eq_true rfl) ?_
  show k_W _ _ _ _ _ _ _ _ [some (.ref 0), some (.int (0 : Int32))] _
  refine k_mask [true, true] ?_
  exact sX11_clears_38 u C hr hR u (6 : Int32) (4 : Int32) (0 : Int32) (0 : Int32) (4 : Int32) (5 : Int32) (0 : Int32) a3 a4 a5 (0 : Int32) h
set_option maxHeartbeats 400000 in
set_option maxRecDepth 100000 in
theorem c_X11_clears (l : Launch) (u : Nat) (h : k_H) (hsh : h.1 = shM) {c0_18 : Int32} (ec0_18 : h.2.1 0 18 = c0_18) {c0_19 : Int32} (ec0_19 : h.2.1 0 19 = c0_19) {c0_20 : Int32} (ec0_20 : h.2.1 0 20 = c0_20) {c0_21 : Int32} (ec0_21 : h.2.1 0 21 = c0_21) {c0_22 : Int32} (ec0_22 : h.2.1 0 22 = c0_22) {c0_23 : Int32} (ec0_23 : h.2.1 0 23 = c0_23) {c0_24 : Int32} (ec0_24 : h.2.1 0 24 = c0_24) {a3 : (Nat → Int32)} (ea3 : h.2.1 3 = a3) {a4 : (Nat → Int32)} (ea4 : h.2.1 4 = a4) {a5 : (Nat → Int32)} (ea5 : h.2.1 5 = a5) {out : Int32 × Int32 × Int32 × Int32 × Int32 × Int32 × Int32 × (Nat → Int32) × (Nat → Int32) × (Nat → Int32)} (hf : f_X11_clears u c0_18 c0_19 c0_20 c0_21 c0_22 c0_23 c0_24 a3 a4 a5 = some out) : k_CT l yX11_clears cX11_clears 2 none 0 0 [.ref 0] h none [(0, .inl (18, out.1)), (0, .inl (19, out.2.1)), (0, .inl (20, out.2.2.1)), (0, .inl (21, out.2.2.2.1)), (0, .inl (22, out.2.2.2.2.1)), (0, .inl (23, out.2.2.2.2.2.1)), (0, .inl (24, out.2.2.2.2.2.2.1)), (3, .inr (.inr (.inl out.2.2.2.2.2.2.2.1))), (4, .inr (.inr (.inl out.2.2.2.2.2.2.2.2.1))), (5, .inr (.inr (.inl out.2.2.2.2.2.2.2.2.2)))] := by
  obtain ⟨sh, I, L, Rf⟩ := h
  try dsimp only
  obtain rfl : sh = shM := hsh
  refine k_ofW (by decide) (Nat.le_of_ble_eq_true rfl) ?_
  intro X ad hl hR0 hr C
  have hR : X.R.frames = 0 ∧ X.R.locals = 0 := by rw [hR0]; exact ⟨rfl, rfl⟩
  have h := hf
  unfold f_X11_clears at h
  refine k_start (us := [(0, .inl (18, c0_18)), (0, .inl (19, c0_19)), (0, .inl (20, c0_20)), (0, .inl (21, c0_21)), (0, .inl (22, c0_22)), (0, .inl (23, c0_23)), (0, .inl (24, c0_24)), (3, .inr (.inr (.inl a3))), (4, .inr (.inr (.inl a4))), (5, .inr (.inr (.inl a5)))]) (k_ao_I ec0_18 (k_ao_I ec0_19 (k_ao_I ec0_20 (k_ao_I ec0_21 (k_ao_I ec0_22 (k_ao_I ec0_23 (k_ao_I ec0_24 (k_ao_A ea3 (k_ao_A ea4 (k_ao_A ea5 k_ap_0)))))))))) ?_
  show k_W X 2 0 0 _ ad (k_ap [(0, .inl (18, c0_18)), (0, .inl (19, c0_19)), (0, .inl (20, c0_20)), (0, .inl (21, c0_21)), (0, .inl (22, c0_22)), (0, .inl (23, c0_23)), (0, .inl (24, c0_24)), (3, .inr (.inr (.inl a3))), (4, .inr (.inr (.inl a4))), (5, .inr (.inr (.inl a5)))] (shM, I, L, Rf)) 0 [some (.ref 0), none] []
  refine k_mask [true, false] ?_
  exact sX11_clears_0 u C hr hR c0_18 c0_19 c0_20 c0_21 c0_22 c0_23 c0_24 a3 a4 a5 h
/-! LullabyPitModel.copies([I[II)V -/
theorem ds_X11_copies_3_7 : k_ds [(7, 2, 0)] = true := by decide +kernel
set_option maxHeartbeats 400000 in
set_option maxRecDepth 100000 in
theorem sX11_copies_3_7_3 (u : Nat) {X : k_X} {ad : Nat → Nat} (C : k_C X cX11_copies RX11 5 ad) (hr : X.meth.sig.returnType = none) (hR : X.R.frames = 0 ∧ X.R.locals = 0) {I : Nat → Nat → Int32} {L : Nat → Nat → Int64} {Rf : Nat → Nat → Option Nat} {a3 : (Nat → Int32)} (ea3 : I 3 = a3) {out : (Nat → Int32)} : ∀ (n : Nat) (a7 : (Nat → Int32)) (v3 : Int32) (v4 : Int32), bX11_copies_3_7_3 u a3 n a7 v3 v4 = some out → k_W X 5 0 0 (k_Q X ad none (k_ap [(7, .inr (.inr (.inl out)))] (shM, I, L, Rf))) ad (k_ap [(7, .inr (.inr (.inl a7)))] (shM, I, L, Rf)) 3 [none, some (.ref 3), some (.ref 7), some (.int v3), some (.int v4)] [] := by
  intro n
  induction n with
  | zero => intro a7 v3 v4 h; cases h
  | succ n ih =>
    intro a7 v3 v4 h
    refine r_iload C dX11_copies_3 (rfl : 3 + 2 = 5) rfl ?_
    refine r_iload_n C dX11_copies_5 (rfl : 5 + 1 = 6) rfl ?_
    refine r_icmp_ge (tgt := 23) C dX11_copies_6 (by decide) (rfl : 6 + 3 = 9) (fun c6 => ?_) (fun c6 => ?_)
    · have h := k_t c6 h
      cases h
      exact r_vret C hr dX11_copies_23
    · have h := k_f c6 h
      refine r_aload_n C dX11_copies_9 (rfl : 9 + 1 = 10) rfl ?_
      refine r_iload C dX11_copies_10 (rfl : 10 + 2 = 12) rfl ?_
      refine r_aload_n C dX11_copies_12 (rfl : 12 + 1 = 13) rfl ?_
      refine r_iload C dX11_copies_13 (rfl : 13 + 2 = 15) rfl ?_
      obtain ⟨hi15, h⟩ := k_i_of h
      refine a_i (j := (v4).toNatClampNeg) (f := a3) C dX11_copies_15 (rfl : 15 + 1 = 16) rfl ea3 hi15 rfl ?_
      obtain ⟨hi16, h⟩ := k_i_of h
      refine s_i (j := (v4).toNatClampNeg) (f := a7) (us' := [(7, .inr (.inr (.inl (upd a7 ((v4).toNatClampNeg) (a3 ((v4).toNatClampNeg))))))]) C dX11_copies_16 (rfl : 16 + 1 = 17) rfl rfl hi16 rfl ds_X11_copies_3_7 rfl rfl rfl ?_
      refine r_iinc (v := (v4 + (1 : Int32))) C dX11_copies_17 (rfl : 17 + 3 = 20) rfl rfl (by decide) ?_
      show k_W _ _ _ _ _ _ _ _ [none, some (.ref 3), some (.ref 7), some (.int v3), some (.int (v4 + (1 : Int32)))] _
      refine r_goto (tgt := 3) C dX11_copies_20 (by decide) ?_
      refine k_mask [false, true, true, true, true] ?_
      exact ih (upd a7 ((v4).toNatClampNeg) (a3 ((v4).toNatClampNeg))) v3 (v4 + (1 : Int32)) h
set_option maxHeartbeats 400000 in
set_option maxRecDepth 100000 in
theorem sX11_copies_3_7_0 (u : Nat) {X : k_X} {ad : Nat → Nat} (C : k_C X cX11_copies RX11 5 ad) (hr : X.meth.sig.returnType = none) (hR : X.R.frames = 0 ∧ X.R.locals = 0) {I : Nat → Nat → Int32} {L : Nat → Nat → Int64} {Rf : Nat → Nat → Option Nat} {a3 : (Nat → Int32)} (ea3 : I 3 = a3) {out : (Nat → Int32)} : ∀ (a7 : (Nat → Int32)) (v3 : Int32), bX11_copies_3_7_0 u a3 a7 v3 = some out → k_W X 5 0 0 (k_Q X ad none (k_ap [(7, .inr (.inr (.inl out)))] (shM, I, L, Rf))) ad (k_ap [(7, .inr (.inr (.inl a7)))] (shM, I, L, Rf)) 0 [none, some (.ref 3), some (.ref 7), some (.int v3), none] [] := by
  intro a7 v3 h
  unfold bX11_copies_3_7_0 at h
  refine r_iconst (v := (0 : Int32)) C dX11_copies_0 (rfl : 0 + 1 = 1) rfl ?_
  refine r_istore C dX11_copies_1 (rfl : 1 + 2 = 3) (by decide) (Nat.le_of_ble_eq_true rfl) ?_
  show k_W _ _ _ _ _ _ _ _ [none, some (.ref 3), some (.ref 7), some (.int v3), some (.int (0 : Int32))] _
  refine k_mask [false, true, true, true, true] ?_
  exact sX11_copies_3_7_3 u C hr hR ea3 u a7 v3 (0 : Int32) h
set_option maxHeartbeats 400000 in
set_option maxRecDepth 100000 in
theorem c_X11_copies_3_7 (l : Launch) (u : Nat) (h : k_H) (hsh : h.1 = shM) {a3 : (Nat → Int32)} (ea3 : h.2.1 3 = a3) {a7 : (Nat → Int32)} (ea7 : h.2.1 7 = a7) {x2 : Int32} {out : (Nat → Int32)} (hf : f_X11_copies_3_7 u a3 a7 x2 = some out) : k_CT l yX11_copies cX11_copies 5 none 0 0 [.ref 0, .ref 3, .ref 7, .int x2] h none [(7, .inr (.inr (.inl out)))] := by
  obtain ⟨sh, I, L, Rf⟩ := h
  try dsimp only
  obtain rfl : sh = shM := hsh
  refine k_ofW (by decide) (Nat.le_of_ble_eq_true rfl) ?_
  intro X ad hl hR0 hr C
  have hR : X.R.frames = 0 ∧ X.R.locals = 0 := by rw [hR0]; exact ⟨rfl, rfl⟩
  have h := hf
  unfold f_X11_copies_3_7 at h
  refine k_start (us := [(7, .inr (.inr (.inl a7)))]) (k_ao_A ea7 k_ap_0) ?_
  show k_W X 5 0 0 _ ad (k_ap [(7, .inr (.inr (.inl a7)))] (shM, I, L, Rf)) 0 [some (.ref 0), some (.ref 3), some (.ref 7), some (.int x2), none] []
  refine k_mask [false, true, true, true, false] ?_
  exact sX11_copies_3_7_0 u C hr hR ea3 a7 x2 h
