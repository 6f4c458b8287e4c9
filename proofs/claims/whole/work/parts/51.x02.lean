/-! LullabyPit$Tape.number(II)I -/
theorem ds_X8_number : k_ds [(0, 0, 3), (0, 0, 4), (0, 0, 5), (0, 0, 6)] = true := by decide +kernel
set_option maxHeartbeats 400000 in
set_option maxRecDepth 100000 in
theorem sX8_number_82 (u : Nat) {X : k_X} {ad : Nat → Nat} (C : k_C X cX8_number RX8 4 ad) (hr : X.meth.sig.returnType = (some .int)) (hR : X.R.frames = 1 ∧ X.R.locals = 22) {I : Nat → Nat → Int32} {L : Nat → Nat → Int64} {Rf : Nat → Nat → Option Nat} {c0_2 : Int32} (ec0_2 : I 0 2 = c0_2) {a1 : (Nat → Int32)} (ea1 : I 1 = a1) {out : Int32 × Int32 × Int32 × Int32 × Int32} {k15 : Int32 → Int32 → Int32 → Int32 → Int32 → Int32 → Int32 → Option (Int32 × Int32 × Int32 × Int32 × Int32)} (hk15 : ∀ (c0_3 : Int32) (c0_4 : Int32) (c0_5 : Int32) (c0_6 : Int32) (v1 : Int32) (v2 : Int32) (v3 : Int32), k15 c0_3 c0_4 c0_5 c0_6 v1 v2 v3 = some out → k_W X 4 0 0 (k_Q X ad (some (.int out.1)) (k_ap [(0, .inl (3, out.2.1)), (0, .inl (4, out.2.2.1)), (0, .inl (5, out.2.2.2.1)), (0, .inl (6, out.2.2.2.2))] (shTape, I, L, Rf))) ad (k_ap [(0, .inl (3, c0_3)), (0, .inl (4, c0_4)), (0, .inl (5, c0_5)), (0, .inl (6, c0_6))] (shTape, I, L, Rf)) 15 [some (.ref 0), some (.int v1), some (.int v2), some (.int v3)] []) : ∀ (c0_3 : Int32) (c0_4 : Int32) (c0_5 : Int32) (c0_6 : Int32) (v1 : Int32) (v2 : Int32) (w0 : Int32), bX8_number_82 u c0_2 a1 k15 c0_3 c0_4 c0_5 c0_6 v1 v2 w0 = some out → k_W X 4 0 0 (k_Q X ad (some (.int out.1)) (k_ap [(0, .inl (3, out.2.1)), (0, .inl (4, out.2.2.1)), (0, .inl (5, out.2.2.2.1)), (0, .inl (6, out.2.2.2.2))] (shTape, I, L, Rf))) ad (k_ap [(0, .inl (3, c0_3)), (0, .inl (4, c0_4)), (0, .inl (5, c0_5)), (0, .inl (6, c0_6))] (shTape, I, L, Rf)) 82 [some (.ref 0), some (.int v1), some (.int v2), none] [.int w0] := by
  intro c0_3 c0_4 c0_5 c0_6 v1 v2 w0 h
  unfold bX8_number_82 at h
  refine r_istore_n C dX8_number_82 (rfl : 82 + 1 = 83) (by decide) (Nat.le_of_ble_eq_true rfl) ?_
  show k_W _ _ _ _ _ _ _ _ [some (.ref 0), some (.int v1), some (.int v2), some (.int w0)] _
  refine r_aload_n C dX8_number_83 (rfl : 83 + 1 = 84) rfl ?_
  refine r_dup C dX8_number_84 (rfl : 84 + 1 = 85) rfl ?_
  refine r_getI (v := c0_3) C dX8_number_85 (rfl : 85 + 3 = 88) fl_X8_31 rfl rfl rfl ?_
  refine r_iconst (v := (1 : Int32)) C dX8_number_88 (rfl : 88 + 1 = 89) rfl ?_
  refine r_iadd C dX8_number_89 (rfl : 89 + 1 = 90) ?_
  refine p_I (us' := [(0, .inl (3, (c0_3 + (1 : Int32)))), (0, .inl (4, c0_4)), (0, .inl (5, c0_5)), (0, .inl (6, c0_6))]) C dX8_number_90 (rfl : 90 + 3 = 93) fp_X8_31 rfl rfl ds_X8_number rfl rfl rfl ?_
  refine r_goto (tgt := 15) C dX8_number_93 (by decide) ?_
  refine k_mask [true, true, true, true] ?_
  exact hk15 (c0_3 + (1 : Int32)) c0_4 c0_5 c0_6 v1 v2 w0 h
set_option maxHeartbeats 400000 in
set_option maxRecDepth 100000 in
theorem sX8_number_138 (u : Nat) {X : k_X} {ad : Nat → Nat} (C : k_C X cX8_number RX8 4 ad) (hr : X.meth.sig.returnType = (some .int)) (hR : X.R.frames = 1 ∧ X.R.locals = 22) {I : Nat → Nat → Int32} {L : Nat → Nat → Int64} {Rf : Nat → Nat → Option Nat} {c0_2 : Int32} (ec0_2 : I 0 2 = c0_2) {a1 : (Nat → Int32)} (ea1 : I 1 = a1) {out : Int32 × Int32 × Int32 × Int32 × Int32} : ∀ (c0_3 : Int32) (c0_4 : Int32) (c0_5 : Int32) (c0_6 : Int32) (v1 : Int32) (v3 : Int32), bX8_number_138 u c0_2 a1 c0_3 c0_4 c0_5 c0_6 v1 v3 = some out → k_W X 4 0 0 (k_Q X ad (some (.int out.1)) (k_ap [(0, .inl (3, out.2.1)), (0, .inl (4, out.2.2.1)), (0, .inl (5, out.2.2.2.1)), (0, .inl (6, out.2.2.2.2))] (shTape, I, L, Rf))) ad (k_ap [(0, .inl (3, c0_3)), (0, .inl (4, c0_4)), (0, .inl (5, c0_5)), (0, .inl (6, c0_6))] (shTape, I, L, Rf)) 138 [some (.ref 0), some (.int v1), none, some (.int v3)] [] := by
  intro c0_3 c0_4 c0_5 c0_6 v1 v3 h
  unfold bX8_number_138 at h
  refine r_aload_n C dX8_number_138 (rfl : 138 + 1 = 139) rfl ?_
  refine r_getI (v := c0_5) C dX8_number_139 (rfl : 139 + 3 = 142) fl_X8_37 rfl rfl rfl ?_
  refine r_if_ne (tgt := 149) C dX8_number_142 (by decide) (rfl : 142 + 3 = 145) (fun c142 => ?_) (fun c142 => ?_)
  · have h := k_f c142 h
    refine r_iload_n C dX8_number_149 (rfl : 149 + 1 = 150) rfl ?_
    cases h
    exact r_iret C hr dX8_number_150
  · have h := k_t c142 h
    refine r_iload_n C dX8_number_145 (rfl : 145 + 1 = 146) rfl ?_
    refine r_goto (tgt := 150) C dX8_number_146 (by decide) ?_
    cases h
    exact r_iret C hr dX8_number_150
set_option maxHeartbeats 400000 in
set_option maxRecDepth 100000 in
theorem sX8_number_129 (u : Nat) {X : k_X} {ad : Nat → Nat} (C : k_C X cX8_number RX8 4 ad) (hr : X.meth.sig.returnType = (some .int)) (hR : X.R.frames = 1 ∧ X.R.locals = 22) {I : Nat → Nat → Int32} {L : Nat → Nat → Int64} {Rf : Nat → Nat → Option Nat} {c0_2 : Int32} (ec0_2 : I 0 2 = c0_2) {a1 : (Nat → Int32)} (ea1 : I 1 = a1) {out : Int32 × Int32 × Int32 × Int32 × Int32} : ∀ (c0_3 : Int32) (c0_4 : Int32) (c0_5 : Int32) (c0_6 : Int32) (v1 : Int32) (v3 : Int32), bX8_number_129 u c0_2 a1 c0_3 c0_4 c0_5 c0_6 v1 v3 = some out → k_W X 4 0 0 (k_Q X ad (some (.int out.1)) (k_ap [(0, .inl (3, out.2.1)), (0, .inl (4, out.2.2.1)), (0, .inl (5, out.2.2.2.1)), (0, .inl (6, out.2.2.2.2))] (shTape, I, L, Rf))) ad (k_ap [(0, .inl (3, c0_3)), (0, .inl (4, c0_4)), (0, .inl (5, c0_5)), (0, .inl (6, c0_6))] (shTape, I, L, Rf)) 129 [some (.ref 0), some (.int v1), none, some (.int v3)] [] := by
  intro c0_3 c0_4 c0_5 c0_6 v1 v3 h
  unfold bX8_number_129 at h
  refine r_aload_n C dX8_number_129 (rfl : 129 + 1 = 130) rfl ?_
  refine r_iconst (v := (2 : Int32)) C dX8_number_130 (rfl : 130 + 1 = 131) rfl ?_
  refine r_aload_n C dX8_number_131 (rfl : 131 + 1 = 132) rfl ?_
  refine r_getI (v := c0_4) C dX8_number_132 (rfl : 132 + 3 = 135) fl_X8_34 rfl rfl rfl ?_
  obtain ⟨r135, q135, h⟩ := k_b_of h
  refine d_V (As := [.int (2 : Int32), .int c0_4]) (st := []) (st' := []) (h' := k_ap [(0, .inl (3, c0_3)), (0, .inl (4, c0_4)), (0, .inl (5, r135.1)), (0, .inl (6, r135.2))] (shTape, I, L, Rf)) C hR ⟨Nat.zero_le _, Nat.zero_le _⟩ mv_X8_fail lk_X8_44 dX8_number_135 (rfl : 135 + 3 = 138) rfl rfl rfl rfl (c_X8_fail X.l u (k_ap [(0, .inl (3, c0_3)), (0, .inl (4, c0_4)), (0, .inl (5, c0_5)), (0, .inl (6, c0_6))] (shTape, I, L, Rf)) rfl rfl rfl q135) rfl rfl rfl (k_jn (us' := [(0, .inl (3, c0_3)), (0, .inl (4, c0_4)), (0, .inl (5, r135.1)), (0, .inl (6, r135.2))]) ds_X8_number rfl rfl rfl) rfl ?_
  refine k_mask [true, true, false, true] ?_
  exact sX8_number_138 u C hr hR ec0_2 ea1 c0_3 c0_4 r135.1 r135.2 v1 v3 h
set_option maxHeartbeats 400000 in
set_option maxRecDepth 100000 in
theorem sX8_number_96 (u : Nat) {X : k_X} {ad : Nat → Nat} (C : k_C X cX8_number RX8 4 ad) (hr : X.meth.sig.returnType = (some .int)) (hR : X.R.frames = 1 ∧ X.R.locals = 22) {I : Nat → Nat → Int32} {L : Nat → Nat → Int64} {Rf : Nat → Nat → Option Nat} {c0_2 : Int32} (ec0_2 : I 0 2 = c0_2) {a1 : (Nat → Int32)} (ea1 : I 1 = a1) {out : Int32 × Int32 × Int32 × Int32 × Int32} : ∀ (c0_3 : Int32) (c0_4 : Int32) (c0_5 : Int32) (c0_6 : Int32) (v1 : Int32) (v2 : Int32) (v3 : Int32), bX8_number_96 u c0_2 a1 c0_3 c0_4 c0_5 c0_6 v1 v2 v3 = some out → k_W X 4 0 0 (k_Q X ad (some (.int out.1)) (k_ap [(0, .inl (3, out.2.1)), (0, .inl (4, out.2.2.1)), (0, .inl (5, out.2.2.2.1)), (0, .inl (6, out.2.2.2.2))] (shTape, I, L, Rf))) ad (k_ap [(0, .inl (3, c0_3)), (0, .inl (4, c0_4)), (0, .inl (5, c0_5)), (0, .inl (6, c0_6))] (shTape, I, L, Rf)) 96 [some (.ref 0), some (.int v1), some (.int v2), some (.int v3)] [] := by
  intro c0_3 c0_4 c0_5 c0_6 v1 v2 v3 h
  unfold bX8_number_96 at h
  refine r_aload_n C dX8_number_96 (rfl : 96 + 1 = 97) rfl ?_
  refine r_getI (v := c0_3) C dX8_number_97 (rfl : 97 + 3 = 100) fl_X8_31 rfl rfl rfl ?_
  refine r_aload_n C dX8_number_100 (rfl : 100 + 1 = 101) rfl ?_
  refine r_getI (v := c0_4) C dX8_number_101 (rfl : 101 + 3 = 104) fl_X8_34 rfl rfl rfl ?_
  refine r_icmp_ne (tgt := 119) C dX8_number_104 (by decide) (rfl : 104 + 3 = 107) (fun c104 => ?_) (fun c104 => ?_)
  · have h := k_f c104 h
    refine r_iload_n C dX8_number_119 (rfl : 119 + 1 = 120) rfl ?_
    refine r_iload_n C dX8_number_120 (rfl : 120 + 1 = 121) rfl ?_
    refine r_icmp_lt (tgt := 129) C dX8_number_121 (by decide) (rfl : 121 + 3 = 124) (fun c121 => ?_) (fun c121 => ?_)
    · have h := k_t c121 h
      refine k_mask [true, true, false, true] ?_
      exact sX8_number_129 u C hr hR ec0_2 ea1 c0_3 c0_4 c0_5 c0_6 v1 v3 h
    · have h := k_f c121 h
      refine r_iload_n C dX8_number_124 (rfl : 124 + 1 = 125) rfl ?_
      refine r_iload_n C dX8_number_125 (rfl : 125 + 1 = 126) rfl ?_
      refine r_icmp_le (tgt := 138) C dX8_number_126 (by decide) (rfl : 126 + 3 = 129) (fun c126 => ?_) (fun c126 => ?_)
      · have h := k_t c126 h
        refine k_mask [true, true, false, true] ?_
        exact sX8_number_138 u C hr hR ec0_2 ea1 c0_3 c0_4 c0_5 c0_6 v1 v3 h
      · have h := k_f c126 h
        refine k_mask [true, true, false, true] ?_
        exact sX8_number_129 u C hr hR ec0_2 ea1 c0_3 c0_4 c0_5 c0_6 v1 v3 h
  · have h := k_t c104 h
    refine r_aload_n C dX8_number_107 (rfl : 107 + 1 = 108) rfl ?_
    refine r_iconst (v := (1 : Int32)) C dX8_number_108 (rfl : 108 + 1 = 109) rfl ?_
    refine r_aload_n C dX8_number_109 (rfl : 109 + 1 = 110) rfl ?_
    refine r_getI (v := c0_4) C dX8_number_110 (rfl : 110 + 3 = 113) fl_X8_34 rfl rfl rfl ?_
    obtain ⟨r113, q113, h⟩ := k_b_of h
    refine d_V (As := [.int (1 : Int32), .int c0_4]) (st := []) (st' := []) (h' := k_ap [(0, .inl (3, c0_3)), (0, .inl (4, c0_4)), (0, .inl (5, r113.1)), (0, .inl (6, r113.2))] (shTape, I, L, Rf)) C hR ⟨Nat.zero_le _, Nat.zero_le _⟩ mv_X8_fail lk_X8_44 dX8_number_113 (rfl : 113 + 3 = 116) rfl rfl rfl rfl (c_X8_fail X.l u (k_ap [(0, .inl (3, c0_3)), (0, .inl (4, c0_4)), (0, .inl (5, c0_5)), (0, .inl (6, c0_6))] (shTape, I, L, Rf)) rfl rfl rfl q113) rfl rfl rfl (k_jn (us' := [(0, .inl (3, c0_3)), (0, .inl (4, c0_4)), (0, .inl (5, r113.1)), (0, .inl (6, r113.2))]) ds_X8_number rfl rfl rfl) rfl ?_
    refine r_goto (tgt := 138) C dX8_number_116 (by decide) ?_
    refine k_mask [true, true, false, true] ?_
    exact sX8_number_138 u C hr hR ec0_2 ea1 c0_3 c0_4 r113.1 r113.2 v1 v3 h
set_option maxHeartbeats 400000 in
set_option maxRecDepth 100000 in
theorem sX8_number_15 (u : Nat) {X : k_X} {ad : Nat → Nat} (C : k_C X cX8_number RX8 4 ad) (hr : X.meth.sig.returnType = (some .int)) (hR : X.R.frames = 1 ∧ X.R.locals = 22) {I : Nat → Nat → Int32} {L : Nat → Nat → Int64} {Rf : Nat → Nat → Option Nat} {c0_2 : Int32} (ec0_2 : I 0 2 = c0_2) {a1 : (Nat → Int32)} (ea1 : I 1 = a1) {out : Int32 × Int32 × Int32 × Int32 × Int32} : ∀ (n : Nat) (c0_3 : Int32) (c0_4 : Int32) (c0_5 : Int32) (c0_6 : Int32) (v1 : Int32) (v2 : Int32) (v3 : Int32), bX8_number_15 u c0_2 a1 n c0_3 c0_4 c0_5 c0_6 v1 v2 v3 = some out → k_W X 4 0 0 (k_Q X ad (some (.int out.1)) (k_ap [(0, .inl (3, out.2.1)), (0, .inl (4, out.2.2.1)), (0, .inl (5, out.2.2.2.1)), (0, .inl (6, out.2.2.2.2))] (shTape, I, L, Rf))) ad (k_ap [(0, .inl (3, c0_3)), (0, .inl (4, c0_4)), (0, .inl (5, c0_5)), (0, .inl (6, c0_6))] (shTape, I, L, Rf)) 15 [some (.ref 0), some (.int v1), some (.int v2), some (.int v3)] [] := by
  intro n
  induction n with
  | zero => intro c0_3 c0_4 c0_5 c0_6 v1 v2 v3 h; cases h
  | succ n ih =>
    intro c0_3 c0_4 c0_5 c0_6 v1 v2 v3 h
    refine r_aload_n C dX8_number_15 (rfl : 15 + 1 = 16) rfl ?_
    refine r_getI (v := c0_3) C dX8_number_16 (rfl : 16 + 3 = 19) fl_X8_31 rfl rfl rfl ?_
    refine r_aload_n C dX8_number_19 (rfl : 19 + 1 = 20) rfl ?_
    refine r_getI (v := c0_2) C dX8_number_20 (rfl : 20 + 3 = 23) fl_X8_28 rfl rfl ec0_2 ?_
    refine r_icmp_ge (tgt := 96) C dX8_number_23 (by decide) (rfl : 23 + 3 = 26) (fun c23 => ?_) (fun c23 => ?_)
    · have h := k_t c23 h
      refine k_mask [true, true, true, true] ?_
      exact sX8_number_96 u C hr hR ec0_2 ea1 c0_3 c0_4 c0_5 c0_6 v1 v2 v3 h
    · have h := k_f c23 h
      refine r_aload_n C dX8_number_26 (rfl : 26 + 1 = 27) rfl ?_
      refine r_getR (q := 1) C dX8_number_27 (rfl : 27 + 3 = 30) fl_X8_9 rfl rfl ?_
      refine r_aload_n C dX8_number_30 (rfl : 30 + 1 = 31) rfl ?_
      refine r_getI (v := c0_3) C dX8_number_31 (rfl : 31 + 3 = 34) fl_X8_31 rfl rfl rfl ?_
      obtain ⟨hi34, h⟩ := k_i_of h
      refine a_b (j := (c0_3).toNatClampNeg) (f := a1) C dX8_number_34 (rfl : 34 + 1 = 35) rfl ea1 hi34 rfl ?_
      refine r_bipush (v := (48 : Int32)) C dX8_number_35 (rfl : 35 + 2 = 37) rfl ?_
      refine r_icmp_lt (tgt := 96) C dX8_number_37 (by decide) (rfl : 37 + 3 = 40) (fun c37 => ?_) (fun c37 => ?_)
      · have h := k_t c37 h
        refine k_mask [true, true, true, true] ?_
        exact sX8_number_96 u C hr hR ec0_2 ea1 c0_3 c0_4 c0_5 c0_6 v1 v2 v3 h
      · have h := k_f c37 h
        refine r_aload_n C dX8_number_40 (rfl : 40 + 1 = 41) rfl ?_
        refine r_getR (q := 1) C dX8_number_41 (rfl : 41 + 3 = 44) fl_X8_9 rfl rfl ?_
        refine r_aload_n C dX8_number_44 (rfl : 44 + 1 = 45) rfl ?_
        refine r_getI (v := c0_3) C dX8_number_45 (rfl : 45 + 3 = 48) fl_X8_31 rfl rfl rfl ?_
        obtain ⟨hi48, h⟩ := k_i_of h
        refine a_b (j := (c0_3).toNatClampNeg) (f := a1) C dX8_number_48 (rfl : 48 + 1 = 49) rfl ea1 hi48 rfl ?_
        refine r_bipush (v := (57 : Int32)) C dX8_number_49 (rfl : 49 + 2 = 51) rfl ?_
        refine r_icmp_gt (tgt := 96) C dX8_number_51 (by decide) (rfl : 51 + 3 = 54) (fun c51 => ?_) (fun c51 => ?_)
        · have h := k_t c51 h
          refine k_mask [true, true, true, true] ?_
          exact sX8_number_96 u C hr hR ec0_2 ea1 c0_3 c0_4 c0_5 c0_6 v1 v2 v3 h
        · have h := k_f c51 h
          refine r_iload_n C dX8_number_54 (rfl : 54 + 1 = 55) rfl ?_
          refine r_sipush (v := (10000 : Int32)) C dX8_number_55 (rfl : 55 + 3 = 58) rfl ?_
          refine r_icmp_ge (tgt := 81) C dX8_number_58 (by decide) (rfl : 58 + 3 = 61) (fun c58 => ?_) (fun c58 => ?_)
          · have h := k_t c58 h
            refine r_iload_n C dX8_number_81 (rfl : 81 + 1 = 82) rfl ?_
            refine k_mask [true, true, true, false] ?_
            exact sX8_number_82 u C hr hR ec0_2 ea1 ih c0_3 c0_4 c0_5 c0_6 v1 v2 v3 h
          · have h := k_f c58 h
            refine r_iload_n C dX8_number_61 (rfl : 61 + 1 = 62) rfl ?_
            refine r_bipush (v := (10 : Int32)) C dX8_number_62 (rfl : 62 + 2 = 64) rfl ?_
            refine r_imul C dX8_number_64 (rfl : 64 + 1 = 65) ?_
            refine r_aload_n C dX8_number_65 (rfl : 65 + 1 = 66) rfl ?_
            refine r_getR (q := 1) C dX8_number_66 (rfl : 66 + 3 = 69) fl_X8_9 rfl rfl ?_
            refine r_aload_n C dX8_number_69 (rfl : 69 + 1 = 70) rfl ?_
            refine r_getI (v := c0_3) C dX8_number_70 (rfl : 70 + 3 = 73) fl_X8_31 rfl rfl rfl ?_
            obtain ⟨hi73, h⟩ := k_i_of h
            refine a_b (j := (c0_3).toNatClampNeg) (f := a1) C dX8_number_73 (rfl : 73 + 1 = 74) rfl ea1 hi73 rfl ?_
            refine r_iadd C dX8_number_74 (rfl : 74 + 1 = 75) ?_
            refine r_bipush (v := (48 : Int32)) C dX8_number_75 (rfl : 75 + 2 = 77) rfl ?_
            refine r_isub C dX8_number_77 (rfl : 77 + 1 = 78) ?_
            refine r_goto (tgt := 82) C dX8_number_78 (by decide) ?_
            refine k_mask [true, true, true, false] ?_
            exact sX8_number_82 u C hr hR ec0_2 ea1 ih c0_3 c0_4 c0_5 c0_6 v1 v2 (((v3 * (10 : Int32)) + (a1 ((c0_3).toNatClampNeg))) - (48 : Int32)) h
set_option maxHeartbeats 400000 in
set_option maxRecDepth 100000 in
theorem sX8_number_0 (u : Nat) {X : k_X} {ad : Nat → Nat} (C : k_C X cX8_number RX8 4 ad) (hr : X.meth.sig.returnType = (some .int)) (hR : X.R.frames = 1 ∧ X.R.locals = 22) {I : Nat → Nat → Int32} {L : Nat → Nat → Int64} {Rf : Nat → Nat → Option Nat} {c0_2 : Int32} (ec0_2 : I 0 2 = c0_2) {a1 : (Nat → Int32)} (ea1 : I 1 = a1) {out : Int32 × Int32 × Int32 × Int32 × Int32} : ∀ (c0_3 : Int32) (c0_4 : Int32) (c0_5 : Int32) (c0_6 : Int32) (v1 : Int32) (v2 : Int32), bX8_number_0 u c0_2 a1 c0_3 c0_4 c0_5 c0_6 v1 v2 = some out → k_W X 4 0 0 (k_Q X ad (some (.int out.1)) (k_ap [(0, .inl (3, out.2.1)), (0, .inl (4, out.2.2.1)), (0, .inl (5, out.2.2.2.1)), (0, .inl (6, out.2.2.2.2))] (shTape, I, L, Rf))) ad (k_ap [(0, .inl (3, c0_3)), (0, .inl (4, c0_4)), (0, .inl (5, c0_5)), (0, .inl (6, c0_6))] (shTape, I, L, Rf)) 0 [some (.ref 0), some (.int v1), some (.int v2), none] [] := by
  intro c0_3 c0_4 c0_5 c0_6 v1 v2 h
  unfold bX8_number_0 at h
  refine r_aload_n C dX8_number_0 (rfl : 0 + 1 = 1) rfl ?_
  obtain ⟨r1, q1, h⟩ := k_b_of h
  refine d_V (As := []) (st := []) (st' := [.int r1.1]) (h' := k_ap [(0, .inl (3, r1.2)), (0, .inl (4, c0_4)), (0, .inl (5, c0_5)), (0, .inl (6, c0_6))] (shTape, I, L, Rf)) C hR ⟨Nat.zero_le _, Nat.zero_le _⟩ mv_X8_peek lk_X8_40 dX8_number_1 (rfl : 1 + 3 = 4) rfl rfl rfl rfl (c_X8_peek X.l u (k_ap [(0, .inl (3, c0_3)), (0, .inl (4, c0_4)), (0, .inl (5, c0_5)), (0, .inl (6, c0_6))] (shTape, I, L, Rf)) rfl ec0_2 rfl ea1 q1) rfl rfl rfl (k_jn (us' := [(0, .inl (3, r1.2)), (0, .inl (4, c0_4)), (0, .inl (5, c0_5)), (0, .inl (6, c0_6))]) ds_X8_number rfl rfl rfl) rfl ?_
  refine r_pop C dX8_number_4 (rfl : 4 + 1 = 5) rfl ?_
  refine r_aload_n C dX8_number_5 (rfl : 5 + 1 = 6) rfl ?_
  refine r_aload_n C dX8_number_6 (rfl : 6 + 1 = 7) rfl ?_
  refine r_getI (v := r1.2) C dX8_number_7 (rfl : 7 + 3 = 10) fl_X8_31 rfl rfl rfl ?_
  refine p_I (us' := [(0, .inl (3, r1.2)), (0, .inl (4, r1.2)), (0, .inl (5, c0_5)), (0, .inl (6, c0_6))]) C dX8_number_10 (rfl : 10 + 3 = 13) fp_X8_34 rfl rfl ds_X8_number rfl rfl rfl ?_
  refine r_iconst (v := (0 : Int32)) C dX8_number_13 (rfl : 13 + 1 = 14) rfl ?_
  refine r_istore_n C dX8_number_14 (rfl : 14 + 1 = 15) (by decide) (Nat.le_of_ble_eq_true rfl) ?_
  show k_W _ _ _ _ _ _ _ _ [some (.ref 0), some (.int v1), some (.int v2), some (.int (0 : Int32))] _
  refine k_mask [true, true, true, true] ?_
  exact sX8_number_15 u C hr hR ec0_2 ea1 u r1.2 r1.2 c0_5 c0_6 v1 v2 (0 : Int32) h
set_option maxHeartbeats 400000 in
set_option maxRecDepth 100000 in
theorem c_X8_number (l : Launch) (u : Nat) (h : k_H) (hsh : h.1 = shTape) {c0_2 : Int32} (ec0_2 : h.2.1 0 2 = c0_2) {c0_3 : Int32} (ec0_3 : h.2.1 0 3 = c0_3) {c0_4 : Int32} (ec0_4 : h.2.1 0 4 = c0_4) {c0_5 : Int32} (ec0_5 : h.2.1 0 5 = c0_5) {c0_6 : Int32} (ec0_6 : h.2.1 0 6 = c0_6) {a1 : (Nat → Int32)} (ea1 : h.2.1 1 = a1) {x0 : Int32} {x1 : Int32} {out : Int32 × Int32 × Int32 × Int32 × Int32} (hf : f_X8_number u c0_2 c0_3 c0_4 c0_5 c0_6 a1 x0 x1 = some out) : k_CT l yX8_number cX8_number 4 (some .int) 1 22 [.ref 0, .int x0, .int x1] h (some (.int out.1)) [(0, .inl (3, out.2.1)), (0, .inl (4, out.2.2.1)), (0, .inl (5, out.2.2.2.1)), (0, .inl (6, out.2.2.2.2))] := by
  obtain ⟨sh, I, L, Rf⟩ := h
  try dsimp only
  obtain rfl : sh = shTape := hsh
  refine k_ofW (by decide) (Nat.le_of_ble_eq_true rfl) ?_
  intro X ad hl hR0 hr C
  have hR : X.R.frames = 1 ∧ X.R.locals = 22 := by rw [hR0]; exact ⟨rfl, rfl⟩
  have h := hf
  unfold f_X8_number at h
  refine k_start (us := [(0, .inl (3, c0_3)), (0, .inl (4, c0_4)), (0, .inl (5, c0_5)), (0, .inl (6, c0_6))]) (k_ao_I ec0_3 (k_ao_I ec0_4 (k_ao_I ec0_5 (k_ao_I ec0_6 k_ap_0)))) ?_
  show k_W X 4 0 0 _ ad (k_ap [(0, .inl (3, c0_3)), (0, .inl (4, c0_4)), (0, .inl (5, c0_5)), (0, .inl (6, c0_6))] (shTape, I, L, Rf)) 0 [some (.ref 0), some (.int x0), some (.int x1), none] []
  refine k_mask [true, true, true, false] ?_
  exact sX8_number_0 u C hr hR ec0_2 ea1 c0_3 c0_4 c0_5 c0_6 x0 x1 h
/-! java/util/Arrays.fill([II)V -/
theorem ds_J7_fill_53178 : k_ds [(0, 2, 0)] = true := by decide +kernel
set_option maxHeartbeats 400000 in
set_option maxRecDepth 100000 in
theorem sJ7_fill_53178_5 (u : Nat) (ln : Nat) {X : k_X} {ad : Nat → Nat} (C : k_C X cJ7_fill_53178 RJ7 4 ad) (hr : X.meth.sig.returnType = none) (hR : X.R.frames = 0 ∧ X.R.locals = 0) {I : Nat → Nat → Int32} {L : Nat → Nat → Int64} {Rf : Nat → Nat → Option Nat} {out : (Nat → Int32)} : ∀ (n : Nat) (a0 : (Nat → Int32)) (v1 : Int32) (v2 : Int32) (v3 : Int32), bJ7_fill_53178_5 u ln n a0 v1 v2 v3 = some out → k_W X 4 0 0 (k_Q X ad none (k_ap [(0, .inr (.inr (.inl out)))] ((shArr ln), I, L, Rf))) ad (k_ap [(0, .inr (.inr (.inl a0)))] ((shArr ln), I, L, Rf)) 5 [some (.ref 0), some (.int v1), some (.int v2), some (.int v3)] [] := by
  intro n
  induction n with
  | zero => intro a0 v1 v2 v3 h; cases h
  | succ n ih =>
    intro a0 v1 v2 v3 h
    refine r_iload_n C dJ7_fill_53178_5 (rfl : 5 + 1 = 6) rfl ?_
    refine r_iload_n C dJ7_fill_53178_6 (rfl : 6 + 1 = 7) rfl ?_
    refine r_icmp_ge (tgt := 20) C dJ7_fill_53178_7 (by decide) (rfl : 7 + 3 = 10) (fun c7 => ?_) (fun c7 => ?_)
    · have h := k_t c7 h
      cases h
      exact r_vret C hr dJ7_fill_53178_20
    · have h := k_f c7 h
      refine r_aload_n C dJ7_fill_53178_10 (rfl : 10 + 1 = 11) rfl ?_
      refine r_iload_n C dJ7_fill_53178_11 (rfl : 11 + 1 = 12) rfl ?_
      refine r_iload_n C dJ7_fill_53178_12 (rfl : 12 + 1 = 13) rfl ?_
      obtain ⟨hi13, h⟩ := k_i_of h
      refine s_i (j := (v2).toNatClampNeg) (f := a0) (us' := [(0, .inr (.inr (.inl (upd a0 ((v2).toNatClampNeg) v1))))]) C dJ7_fill_53178_13 (rfl : 13 + 1 = 14) rfl rfl hi13 rfl ds_J7_fill_53178 rfl rfl rfl ?_
      refine r_iinc (v := (v2 + (1 : Int32))) C dJ7_fill_53178_14 (rfl : 14 + 3 = 17) rfl rfl (by decide) ?_
      show k_W _ _ _ _ _ _ _ _ [some (.ref 0), some (.int v1), some (.int (v2 + (1 : Int32))), some (.int v3)] _
      refine r_goto (tgt := 5) C dJ7_fill_53178_17 (by decide) ?_
      refine k_mask [true, true, true, true] ?_
      exact ih (upd a0 ((v2).toNatClampNeg) v1) v1 (v2 + (1 : Int32)) v3 h
set_option maxHeartbeats 400000 in
set_option maxRecDepth 100000 in
theorem sJ7_fill_53178_0 (u : Nat) (ln : Nat) {X : k_X} {ad : Nat → Nat} (C : k_C X cJ7_fill_53178 RJ7 4 ad) (hr : X.meth.sig.returnType = none) (hR : X.R.frames = 0 ∧ X.R.locals = 0) {I : Nat → Nat → Int32} {L : Nat → Nat → Int64} {Rf : Nat → Nat → Option Nat} {out : (Nat → Int32)} : ∀ (a0 : (Nat → Int32)) (v1 : Int32), bJ7_fill_53178_0 u ln a0 v1 = some out → k_W X 4 0 0 (k_Q X ad none (k_ap [(0, .inr (.inr (.inl out)))] ((shArr ln), I, L, Rf))) ad (k_ap [(0, .inr (.inr (.inl a0)))] ((shArr ln), I, L, Rf)) 0 [some (.ref 0), some (.int v1), none, none] [] := by
  intro a0 v1 h
  unfold bJ7_fill_53178_0 at h
  refine r_iconst (v := (0 : Int32)) C dJ7_fill_53178_0 (rfl : 0 + 1 = 1) rfl ?_
  refine r_istore_n C dJ7_fill_53178_1 (rfl : 1 + 1 = 2) (by decide) (Nat.le_of_ble_eq_true rfl) ?_
  show k_W _ _ _ _ _ _ _ _ [some (.ref 0), some (.int v1), some (.int (0 : Int32)), none] _
  refine r_aload_n C dJ7_fill_53178_2 (rfl : 2 + 1 = 3) rfl ?_
  refine r_alen (v := (Int32.ofNat ln)) C dJ7_fill_53178_3 (rfl : 3 + 1 = 4) rfl (by decide) rfl ?_
  refine r_istore_n C dJ7_fill_53178_4 (rfl : 4 + 1 = 5) (by decide) (Nat.le_of_ble_eq_true rfl) ?_
  show k_W _ _ _ _ _ _ _ _ [some (.ref 0), some (.int v1), some (.int (0 : Int32)), some (.int (Int32.ofNat ln))] _
  refine k_mask [true, true, true, true] ?_
  exact sJ7_fill_53178_5 u ln C hr hR u a0 v1 (0 : Int32) (Int32.ofNat ln) h
set_option maxHeartbeats 400000 in
set_option maxRecDepth 100000 in
theorem c_J7_fill_53178 (l : Launch) (u : Nat) (ln : Nat) (h : k_H) (hsh : h.1 = (shArr ln)) {a0 : (Nat → Int32)} (ea0 : h.2.1 0 = a0) {x1 : Int32} {out : (Nat → Int32)} (hf : f_J7_fill_53178 u ln a0 x1 = some out) : k_CT l yJ7_fill_53178 cJ7_fill_53178 4 none 0 0 [.ref 0, .int x1] h none [(0, .inr (.inr (.inl out)))] := by
  obtain ⟨sh, I, L, Rf⟩ := h
  try dsimp only
  obtain rfl : sh = (shArr ln) := hsh
  refine k_ofW (by decide) (Nat.le_of_ble_eq_true rfl) ?_
  intro X ad hl hR0 hr C
  have hR : X.R.frames = 0 ∧ X.R.locals = 0 := by rw [hR0]; exact ⟨rfl, rfl⟩
  have h := hf
  unfold f_J7_fill_53178 at h
  refine k_start (us := [(0, .inr (.inr (.inl a0)))]) (k_ao_A ea0 k_ap_0) ?_
  show k_W X 4 0 0 _ ad (k_ap [(0, .inr (.inr (.inl a0)))] ((shArr ln), I, L, Rf)) 0 [some (.ref 0), some (.int x1), none, none] []
  refine k_mask [true, true, false, false] ?_
  exact sJ7_fill_53178_0 u ln C hr hR a0 x1 h
/-! LullabyPit$Pit.clear()V -/
theorem ds_X5_clear : k_ds [(0, 0, 0), (0, 0, 1), (0, 0, 7), (0, 0, 8), (0, 0, 9), (0, 0, 10), (0, 1, 6), (1, 2, 0), (2, 2, 0), (3, 2, 0)] = true := by decide +kernel
set_option maxHeartbeats 400000 in
set_option maxRecDepth 100000 in
theorem sX5_clear_0 (u : Nat) {X : k_X} {ad : Nat → Nat} (C : k_C X cX5_clear RX5 1 ad) (hr : X.meth.sig.returnType = none) (hR : X.R.frames = 1 ∧ X.R.locals = 23) {I : Nat → Nat → Int32} {L : Nat → Nat → Int64} {Rf : Nat → Nat → Option Nat} {out : Int32 × Int32 × Int32 × Int32 × Int32 × Int32 × Int64 × (Nat → Int32) × (Nat → Int32) × (Nat → Int32)} : ∀ (c0_0 : Int32) (c0_1 : Int32) (c0_7 : Int32) (c0_8 : Int32) (c0_9 : Int32) (c0_10 : Int32) (c0_6 : Int64) (a1 : (Nat → Int32)) (a2 : (Nat → Int32)) (a3 : (Nat → Int32)), bX5_clear_0 u c0_0 c0_1 c0_7 c0_8 c0_9 c0_10 c0_6 a1 a2 a3 = some out → k_W X 1 0 0 (k_Q X ad none (k_ap [(0, .inl (0, out.1)), (0, .inl (1, out.2.1)), (0, .inl (7, out.2.2.1)), (0, .inl (8, out.2.2.2.1)), (0, .inl (9, out.2.2.2.2.1)), (0, .inl (10, out.2.2.2.2.2.1)), (0, .inr (.inl (6, out.2.2.2.2.2.2.1))), (1, .inr (.inr (.inl out.2.2.2.2.2.2.2.1))), (2, .inr (.inr (.inl out.2.2.2.2.2.2.2.2.1))), (3, .inr (.inr (.inl out.2.2.2.2.2.2.2.2.2)))] (shPit, I, L, Rf))) ad (k_ap [(0, .inl (0, c0_0)), (0, .inl (1, c0_1)), (0, .inl (7, c0_7)), (0, .inl (8, c0_8)), (0, .inl (9, c0_9)), (0, .inl (10, c0_10)), (0, .inr (.inl (6, c0_6))), (1, .inr (.inr (.inl a1))), (2, .inr (.inr (.inl a2))), (3, .inr (.inr (.inl a3)))] (shPit, I, L, Rf)) 0 [some (.ref 0)] [] := by
  intro c0_0 c0_1 c0_7 c0_8 c0_9 c0_10 c0_6 a1 a2 a3 h
  unfold bX5_clear_0 at h
  refine r_aload_n C dX5_clear_0 (rfl : 0 + 1 = 1) rfl ?_
  refine r_bipush (v := (6 : Int32)) C dX5_clear_1 (rfl : 1 + 2 = 3) rfl ?_
  refine p_I (us' := [(0, .inl (0, (6 : Int32))), (0, .inl (1, c0_1)), (0, .inl (7, c0_7)), (0, .inl (8, c0_8)), (0, .inl (9, c0_9)), (0, .inl (10, c0_10)), (0, .inr (.inl (6, c0_6))), (1, .inr (.inr (.inl a1))), (2, .inr (.inr (.inl a2))), (3, .inr (.inr (.inl a3)))]) C dX5_clear_3 (rfl : 3 + 3 = 6) fp_X5_36 rfl rfl ds_X5_clear rfl rfl rfl ?_
  refine r_aload_n C dX5_clear_6 (rfl : 6 + 1 = 7) rfl ?_
  refine r_iconst (v := (4 : Int32)) C dX5_clear_7 (rfl : 7 + 1 = 8) rfl ?_
  refine p_I (us' := [(0, .inl (0, (6 : Int32))), (0, .inl (1, (4 : Int32))), (0, .inl (7, c0_7)), (0, .inl (8, c0_8)), (0, .inl (9, c0_9)), (0, .inl (10, c0_10)), (0, .inr (.inl (6, c0_6))), (1, .inr (.inr (.inl a1))), (2, .inr (.inr (.inl a2))), (3, .inr (.inr (.inl a3)))]) C dX5_clear_8 (rfl : 8 + 3 = 11) fp_X5_40 rfl rfl ds_X5_clear rfl rfl rfl ?_
  refine r_aload_n C dX5_clear_11 (rfl : 11 + 1 = 12) rfl ?_
  refine r_getR (q := 1) C dX5_clear_12 (rfl : 12 + 3 = 15) fl_X5_9 rfl rfl ?_
  refine r_iconst (v := (0 : Int32)) C dX5_clear_15 (rfl : 15 + 1 = 16) rfl ?_
  obtain ⟨r16, q16, h⟩ := k_b_of h
  refine d_Sp (pi := [1]) (shl := (shArr 48)) (As := [.ref 1, .int (0 : Int32)]) (Al := [.ref 0, .int (0 : Int32)]) (st := []) (st' := []) (h' := k_ap [(0, .inl (0, (6 : Int32))), (0, .inl (1, (4 : Int32))), (0, .inl (7, c0_7)), (0, .inl (8, c0_8)), (0, .inl (9, c0_9)), (0, .inl (10, c0_10)), (0, .inr (.inl (6, c0_6))), (1, .inr (.inr (.inl r16))), (2, .inr (.inr (.inl a2))), (3, .inr (.inr (.inl a3)))] (shPit, I, L, Rf)) C hR ⟨Nat.zero_le _, Nat.zero_le _⟩ ms_J7_fill_53178 lk_X5_43 dX5_clear_16 (rfl : 16 + 3 = 19) rfl rfl ck_shPit_shArr_1_48 (c_J7_fill_53178 X.l u 48 (k_pl [1] (shArr 48) (k_ap [(0, .inl (0, (6 : Int32))), (0, .inl (1, (4 : Int32))), (0, .inl (7, c0_7)), (0, .inl (8, c0_8)), (0, .inl (9, c0_9)), (0, .inl (10, c0_10)), (0, .inr (.inl (6, c0_6))), (1, .inr (.inr (.inl a1))), (2, .inr (.inr (.inl a2))), (3, .inr (.inr (.inl a3)))] (shPit, I, L, Rf))) rfl rfl q16) (fun _ => rfl) rfl (fun _ => rfl) rfl rfl rfl (k_jn (us' := [(0, .inl (0, (6 : Int32))), (0, .inl (1, (4 : Int32))), (0, .inl (7, c0_7)), (0, .inl (8, c0_8)), (0, .inl (9, c0_9)), (0, .inl (10, c0_10)), (0, .inr (.inl (6, c0_6))), (1, .inr (.inr (.inl r16))), (2, .inr (.inr (.inl a2))), (3, .inr (.inr (.inl a3)))]) ds_X5_clear rfl rfl rfl) rfl ?_
  refine r_aload_n C dX5_clear_19 (rfl : 19 + 1 = 20) rfl ?_
  refine r_getR (q := 2) C dX5_clear_20 (rfl : 20 + 3 = 23) fl_X5_15 rfl rfl ?_
  refine r_iconst (v := (0 : Int32)) C dX5_clear_23 (rfl : 23 + 1 = 24) rfl ?_
  obtain ⟨r24, q24, h⟩ := k_b_of h
  refine d_Sp (pi := [2]) (shl := (shArr 48)) (As := [.ref 2, .int (0 : Int32)]) (Al := [.ref 0, .int (0 : Int32)]) (st := []) (st' := []) (h' := k_ap [(0, .inl (0, (6 : Int32))), (0, .inl (1, (4 : Int32))), (0, .inl (7, c0_7)), (0, .inl (8, c0_8)), (0, .inl (9, c0_9)), (0, .inl (10, c0_10)), (0, .inr (.inl (6, c0_6))), (1, .inr (.inr (.inl r16))), (2, .inr (.inr (.inl r24))), (3, .inr (.inr (.inl a3)))] (shPit, I, L, Rf)) C hR ⟨Nat.zero_le _, Nat.zero_le _⟩ ms_J7_fill_53178 lk_X5_43 dX5_clear_24 (rfl : 24 + 3 = 27) rfl rfl ck_shPit_shArr_2_48 (c_J7_fill_53178 X.l u 48 (k_pl [2] (shArr 48) (k_ap [(0, .inl (0, (6 : Int32))), (0, .inl (1, (4 : Int32))), (0, .inl (7, c0_7)), (0, .inl (8, c0_8)), (0, .inl (9, c0_9)), (0, .inl (10, c0_10)), (0, .inr (.inl (6, c0_6))), (1, .inr (.inr (.inl r16))), (2, .inr (.inr (.inl a2))), (3, .inr (.inr (.inl a3)))] (shPit, I, L, Rf))) rfl rfl q24) (fun _ => rfl) rfl (fun _ => rfl) rfl rfl rfl (k_jn (us' := [(0, .inl (0, (6 : Int32))), (0, .inl (1, (4 : Int32))), (0, .inl (7, c0_7)), (0, .inl (8, c0_8)), (0, .inl (9, c0_9)), (0, .inl (10, c0_10)), (0, .inr (.inl (6, c0_6))), (1, .inr (.inr (.inl r16))), (2, .inr (.inr (.inl r24))), (3, .inr (.inr (.inl a3)))]) ds_X5_clear rfl rfl rfl) rfl ?_
  refine r_aload_n C dX5_clear_27 (rfl : 27 + 1 = 28) rfl ?_
  refine r_getR (q := 3) C dX5_clear_28 (rfl : 28 + 3 = 31) fl_X5_18 rfl rfl ?_
  refine r_iconst (v := (1 : Int32)) C dX5_clear_31 (rfl : 31 + 1 = 32) rfl ?_
  obtain ⟨r32, q32, h⟩ := k_b_of h
  refine d_Sp (pi := [3]) (shl := (shArr 6)) (As := [.ref 3, .int (1 : Int32)]) (Al := [.ref 0, .int (1 : Int32)]) (st := []) (st' := []) (h' := k_ap [(0, .inl (0, (6 : Int32))), (0, .inl (1, (4 : Int32))), (0, .inl (7, c0_7)), (0, .inl (8, c0_8)), (0, .inl (9, c0_9)), (0, .inl (10, c0_10)), (0, .inr (.inl (6, c0_6))), (1, .inr (.inr (.inl r16))), (2, .inr (.inr (.inl r24))), (3, .inr (.inr (.inl r32)))] (shPit, I, L, Rf)) C hR ⟨Nat.zero_le _, Nat.zero_le _⟩ ms_J7_fill_53178 lk_X5_43 dX5_clear_32 (rfl : 32 + 3 = 35) rfl rfl ck_shPit_shArr_3_6 (c_J7_fill_53178 X.l u 6 (k_pl [3] (shArr 6) (k_ap [(0, .inl (0, (6 : Int32))), (0, .inl (1, (4 : Int32))), (0, .inl (7, c0_7)), (0, .inl (8, c0_8)), (0, .inl (9, c0_9)), (0, .inl (10, c0_10)), (0, .inr (.inl (6, c0_6))), (1, .inr (.inr (.inl r16))), (2, .inr (.inr (.inl r24))), (3, .inr (.inr (.inl a3)))] (shPit, I, L, Rf))) rfl rfl q32) (fun _ => rfl) rfl (fun _ => rfl) rfl rfl rfl (k_jn (us' := [(0, .inl (0, (6 : Int32))), (0, .inl (1, (4 : Int32))), (0, .inl (7, c0_7)), (0, .inl (8, c0_8)), (0, .inl (9, c0_9)), (0, .inl (10, c0_10)), (0, .inr (.inl (6, c0_6))), (1, .inr (.inr (.inl r16))), (2, .inr (.inr (.inl r24))), (3, .inr (.inr (.inl r32)))]) ds_X5_clear rfl rfl rfl) rfl ?_
  refine r_aload_n C dX5_clear_35 (rfl : 35 + 1 = 36) rfl ?_
  refine r_lconst (v := (0 : Int64)) C dX5_clear_36 (rfl : 36 + 1 = 37) rfl ?_
  refine p_L (us' := [(0, .inl (0, (6 : Int32))), (0, .inl (1, (4 : Int32))), (0, .inl (7, c0_7)), (0, .inl (8, c0_8)), (0, .inl (9, c0_9)), (0, .inl (10, c0_10)), (0, .inr (.inl (6, (0 : Int64)))), (1, .inr (.inr (.inl r16))), (2, .inr (.inr (.inl r24))), (3, .inr (.inr (.inl r32)))]) C dX5_clear_37 (rfl : 37 + 3 = 40) fp_X5_49 rfl rfl ds_X5_clear rfl rfl rfl ?_
  refine r_aload_n C dX5_clear_40 (rfl : 40 + 1 = 41) rfl ?_
  refine r_iconst (v := (0 : Int32)) C dX5_clear_41 (rfl : 41 + 1 = 42) rfl ?_
  refine p_I (us' := [(0, .inl (0, (6 : Int32))), (0, .inl (1, (4 : Int32))), (0, .inl (7, (0 : Int32))), (0, .inl (8, c0_8)), (0, .inl (9, c0_9)), (0, .inl (10, c0_10)), (0, .inr (.inl (6, (0 : Int64)))), (1, .inr (.inr (.inl r16))), (2, .inr (.inr (.inl r24))), (3, .inr (.inr (.inl r32)))]) C dX5_clear_42 (rfl : 42 + 3 = 45) fp_X5_53 rfl rfl ds_X5_clear rfl rfl rfl ?_
  refine r_aload_n C dX5_clear_45 (rfl : 45 + 1 = 46) rfl ?_
  refine r_iconst (v := (4 : Int32)) C dX5_clear_46 (rfl : 46 + 1 = 47) rfl ?_
  refine p_I (us' := [(0, .inl (0, (6 : Int32))), (0, .inl (1, (4 : Int32))), (0, .inl (7, (0 : Int32))), (0, .inl (8, (4 : Int32))), (0, .inl (9, c0_9)), (0, .inl (10, c0_10)), (0, .inr (.inl (6, (0 : Int64)))), (1, .inr (.inr (.inl r16))), (2, .inr (.inr (.inl r24))), (3, .inr (.inr (.inl r32)))]) C dX5_clear_47 (rfl : 47 + 3 = 50) fp_X5_56 rfl rfl ds_X5_clear rfl rfl rfl ?_
  refine r_aload_n C dX5_clear_50 (rfl : 50 + 1 = 51) rfl ?_
  refine r_iconst (v := (5 : Int32)) C dX5_clear_51 (rfl : 51 + 1 = 52) rfl ?_
  refine p_I (us' := [(0, .inl (0, (6 : Int32))), (0, .inl (1, (4 : Int32))), (0, .inl (7, (0 : Int32))), (0, .inl (8, (4 : Int32))), (0, .inl (9, (5 : Int32))), (0, .inl (10, c0_10)), (0, .inr (.inl (6, (0 : Int64)))), (1, .inr (.inr (.inl r16))), (2, .inr (.inr (.inl r24))), (3, .inr (.inr (.inl r32)))]) C dX5_clear_52 (rfl : 52 + 3 = 55) fp_X5_59 rfl rfl ds_X5_clear rfl rfl rfl ?_
  refine r_aload_n C dX5_clear_55 (rfl : 55 + 1 = 56) rfl ?_
  refine r_iconst (v := (0 : Int32)) C dX5_clear_56 (rfl : 56 + 1 = 57) rfl ?_
  refine p_I (us' := [(0, .inl (0, (6 : Int32))), (0, .inl (1, (4 : Int32))), (0, .inl (7, (0 : Int32))), (0, .inl (8, (4 : Int32))), (0, .inl (9, (5 : Int32))), (0, .inl (10, (0 : Int32))), (0, .inr (.inl (6, (0 : Int64)))), (1, .inr (.inr (.inl r16))), (2, .inr (.inr (.inl r24))), (3, .inr (.inr (.inl r32)))]) C dX5_clear_57 (rfl : 57 + 3 = 60) fp_X5_62 rfl rfl ds_X5_clear rfl rfl rfl ?_
  cases h
  exact r_vret C hr dX5_clear_60
set_option maxHeartbeats 400000 in
set_option maxRecDepth 100000 in
theorem c_X5_clear (l : Launch) (u : Nat) (h : k_H) (hsh : h.1 = shPit) {c0_0 : Int32} (ec0_0 : h.2.1 0 0 = c0_0) {c0_1 : Int32} (ec0_1 : h.2.1 0 1 = c0_1) {c0_7 : Int32} (ec0_7 : h.2.1 0 7 = c0_7) {c0_8 : Int32} (ec0_8 : h.2.1 0 8 = c0_8) {c0_9 : Int32} (ec0_9 : h.2.1 0 9 = c0_9) {c0_10 : Int32} (ec0_10 : h.2.1 0 10 = c0_10) {c0_6 : Int64} (ec0_6 : h.2.2.1 0 6 = c0_6) {a1 : (Nat → Int32)} (ea1 : h.2.1 1 = a1) {a2 : (Nat → Int32)} (ea2 : h.2.1 2 = a2) {a3 : (Nat → Int32)} (ea3 : h.2.1 3 = a3) {out : Int32 × Int32 × Int32 × Int32 × Int32 × Int32 × Int64 × (Nat → Int32) × (Nat → Int32) × (Nat → Int32)} (hf : f_X5_clear u c0_0 c0_1 c0_7 c0_8 c0_9 c0_10 c0_6 a1 a2 a3 = some out) : k_CT l yX5_clear cX5_clear 1 none 1 23 [.ref 0] h none [(0, .inl (0, out.1)), (0, .inl (1, out.2.1)), (0, .inl (7, out.2.2.1)), (0, .inl (8, out.2.2.2.1)), (0, .inl (9, out.2.2.2.2.1)), (0, .inl (10, out.2.2.2.2.2.1)), (0, .inr (.inl (6, out.2.2.2.2.2.2.1))), (1, .inr (.inr (.inl out.2.2.2.2.2.2.2.1))), (2, .inr (.inr (.inl out.2.2.2.2.2.2.2.2.1))), (3, .inr (.inr (.inl out.2.2.2.2.2.2.2.2.2)))] := by
  obtain ⟨sh, I, L, Rf⟩ := h
  try dsimp only
  obtain rfl : sh = shPit := hsh
  refine k_ofW (by decide) (Nat.le_of_ble_eq_true rfl) ?_
  intro X ad hl hR0 hr C
  have hR : X.R.frames = 1 ∧ X.R.locals = 23 := by rw [hR0]; exact ⟨rfl, rfl⟩
  have h := hf
  unfold f_X5_clear at h
  refine k_start (us := [(0, .inl (0, c0_0)), (0, .inl (1, c0_1)), (0, .inl (7, c0_7)), (0, .inl (8, c0_8)), (0, .inl (9, c0_9)), (0, .inl (10, c0_10)), (0, .inr (.inl (6, c0_6))), (1, .inr (.inr (.inl a1))), (2, .inr (.inr (.inl a2))), (3, .inr (.inr (.inl a3)))]) (k_ao_I ec0_0 (k_ao_I ec0_1 (k_ao_I ec0_7 (k_ao_I ec0_8 (k_ao_I ec0_9 (k_ao_I ec0_10 (k_ao_L ec0_6 (k_ao_A ea1 (k_ao_A ea2 (k_ao_A ea3 k_ap_0)))))))))) ?_
  show k_W X 1 0 0 _ ad (k_ap [(0, .inl (0, c0_0)), (0, .inl (1, c0_1)), (0, .inl (7, c0_7)), (0, .inl (8, c0_8)), (0, .inl (9, c0_9)), (0, .inl (10, c0_10)), (0, .inr (.inl (6, c0_6))), (1, .inr (.inr (.inl a1))), (2, .inr (.inr (.inl a2))), (3, .inr (.inr (.inl a3)))] (shPit, I, L, Rf)) 0 [some (.ref 0)] []
  refine k_mask [true] ?_
  exact sX5_clear_0 u C hr hR c0_0 c0_1 c0_7 c0_8 c0_9 c0_10 c0_6 a1 a2 a3 h
/-! LullabyPit$Pit.tellAll()V -/
theorem ds_X5_tellAll : k_ds [(0, 1, 5)] = true := by decide +kernel
set_option maxHeartbeats 400000 in
set_option maxRecDepth 100000 in
theorem sX5_tellAll_7 (u : Nat) {X : k_X} {ad : Nat → Nat} (C : k_C X cX5_tellAll RX5 2 ad) (hr : X.meth.sig.returnType = none) (hR : X.R.frames = 0 ∧ X.R.locals = 0) {I : Nat → Nat → Int32} {L : Nat → Nat → Int64} {Rf : Nat → Nat → Option Nat} {c0_0 : Int32} (ec0_0 : I 0 0 = c0_0) {c0_1 : Int32} (ec0_1 : I 0 1 = c0_1) {out : Int64} : ∀ (n : Nat) (c0_5 : Int64) (v1 : Int32), bX5_tellAll_7 u c0_0 c0_1 n c0_5 v1 = some out → k_W X 2 0 0 (k_Q X ad none (k_ap [(0, .inr (.inl (5, out)))] (shPit, I, L, Rf))) ad (k_ap [(0, .inr (.inl (5, c0_5)))] (shPit, I, L, Rf)) 7 [some (.ref 0), some (.int v1)] [] := by
  intro n
  induction n with
  | zero => intro c0_5 v1 h; cases h
  | succ n ih =>
    intro c0_5 v1 h
    refine r_iload_n C dX5_tellAll_7 (rfl : 7 + 1 = 8) rfl ?_
    refine r_aload_n C dX5_tellAll_8 (rfl : 8 + 1 = 9) rfl ?_
    refine r_getI (v := c0_1) C dX5_tellAll_9 (rfl : 9 + 3 = 12) fl_X5_40 rfl rfl ec0_1 ?_
    refine r_icmp_ge (tgt := 43) C dX5_tellAll_12 (by decide) (rfl : 12 + 3 = 15) (fun c12 => ?_) (fun c12 => ?_)
    · have h := k_t c12 h
      cases h
      exact r_vret C hr dX5_tellAll_43
    · have h := k_f c12 h
      refine r_aload_n C dX5_tellAll_15 (rfl : 15 + 1 = 16) rfl ?_
      refine r_dup C dX5_tellAll_16 (rfl : 16 + 1 = 17) rfl ?_
      refine r_getL (v := c0_5) C dX5_tellAll_17 (rfl : 17 + 3 = 20) fl_X5_65 rfl rfl rfl ?_
      refine r_lconst (v := (1 : Int64)) C dX5_tellAll_20 (rfl : 20 + 1 = 21) rfl ?_
      refine r_aload_n C dX5_tellAll_21 (rfl : 21 + 1 = 22) rfl ?_
      refine r_getI (v := c0_0) C dX5_tellAll_22 (rfl : 22 + 3 = 25) fl_X5_36 rfl rfl ec0_0 ?_
      refine r_lshl C dX5_tellAll_25 (rfl : 25 + 1 = 26) ?_
      refine r_lconst (v := (1 : Int64)) C dX5_tellAll_26 (rfl : 26 + 1 = 27) rfl ?_
      refine r_lsub C dX5_tellAll_27 (rfl : 27 + 1 = 28) ?_
      refine r_bipush (v := (8 : Int32)) C dX5_tellAll_28 (rfl : 28 + 2 = 30) rfl ?_
      refine r_iload_n C dX5_tellAll_30 (rfl : 30 + 1 = 31) rfl ?_
      refine r_imul C dX5_tellAll_31 (rfl : 31 + 1 = 32) ?_
      refine r_lshl C dX5_tellAll_32 (rfl : 32 + 1 = 33) ?_
      refine r_lor C dX5_tellAll_33 (rfl : 33 + 1 = 34) ?_
      refine p_L (us' := [(0, .inr (.inl (5, (c0_5 ||| ((((1 : Int64) <<< ((c0_0).toInt64 &&& 63)) - (1 : Int64)) <<< ((((8 : Int32) * v1)).toInt64 &&& 63))))))]) C dX5_tellAll_34 (rfl : 34 + 3 = 37) fp_X5_65 rfl rfl ds_X5_tellAll rfl rfl rfl ?_
      refine r_iinc (v := (v1 + (1 : Int32))) C dX5_tellAll_37 (rfl : 37 + 3 = 40) rfl rfl (by decide) ?_
      show k_W _ _ _ _ _ _ _ _ [some (.ref 0), some (.int (v1 + (1 : Int32)))] _
      refine r_goto (tgt := 7) C dX5_tellAll_40 (by decide) ?_
      refine k_mask [true, true] ?_
      exact ih (c0_5 ||| ((((1 : Int64) <<< ((c0_0).toInt64 &&& 63)) - (1 : Int64)) <<< ((((8 : Int32) * v1)).toInt64 &&& 63))) (v1 + (1 : Int32)) h
set_option maxHeartbeats 400000 in
set_option maxRecDepth 100000 in
theorem sX5_tellAll_0 (u : Nat) {X : k_X} {ad : Nat → Nat} (C : k_C X cX5_tellAll RX5 2 ad) (hr : X.meth.sig.returnType = none) (hR : X.R.frames = 0 ∧ X.R.locals = 0) {I : Nat → Nat → Int32} {L : Nat → Nat → Int64} {Rf : Nat → Nat → Option Nat} {c0_0 : Int32} (ec0_0 : I 0 0 = c0_0) {c0_1 : Int32} (ec0_1 : I 0 1 = c0_1) {out : Int64} : ∀ (c0_5 : Int64), bX5_tellAll_0 u c0_0 c0_1 c0_5 = some out → k_W X 2 0 0 (k_Q X ad none (k_ap [(0, .inr (.inl (5, out)))] (shPit, I, L, Rf))) ad (k_ap [(0, .inr (.inl (5, c0_5)))] (shPit, I, L, Rf)) 0 [some (.ref 0), none] [] := by
  intro c0_5 h
  unfold bX5_tellAll_0 at h
  refine r_aload_n C dX5_tellAll_0 (rfl : 0 + 1 = 1) rfl ?_
  refine r_lconst (v := (0 : Int64)) C dX5_tellAll_1 (rfl : 1 + 1 = 2) rfl ?_
  refine p_L (us' := [(0, .inr (.inl (5, (0 : Int64))))]) C dX5_tellAll_2 (rfl : 2 + 3 = 5) fp_X5_65 rfl rfl ds_X5_tellAll rfl rfl rfl ?_
  refine r_iconst (v := (0 : Int32)) C dX5_tellAll_5 (rfl : 5 + 1 = 6) rfl ?_
  refine r_istore_n C dX5_tellAll_6 (rfl : 6 + 1 = 7) (by decide) (Nat.le_of_ble_eq_true rfl) ?_
  show k_W _ _ _ _ _ _ _ _ [some (.ref 0), some (.int (0 : Int32))] _
  refine k_mask [true, true] ?_
  exact sX5_tellAll_7 u C hr hR ec0_0 ec0_1 u (0 : Int64) (0 : Int32) h
set_option maxHeartbeats 400000 in
set_option maxRecDepth 100000 in
theorem c_X5_tellAll (l : Launch) (u : Nat) (h : k_H) (hsh : h.1 = shPit) {c0_0 : Int32} (ec0_0 : h.2.1 0 0 = c0_0) {c0_1 : Int32} (ec0_1 : h.2.1 0 1 = c0_1) {c0_5 : Int64} (ec0_5 : h.2.2.1 0 5 = c0_5) {out : Int64} (hf : f_X5_tellAll u c0_0 c0_1 c0_5 = some out) : k_CT l yX5_tellAll cX5_tellAll 2 none 0 0 [.ref 0] h none [(0, .inr (.inl (5, out)))] := by
  obtain ⟨sh, I, L, Rf⟩ := h
  try dsimp only
  obtain rfl : sh = shPit := hsh
  refine k_ofW (by decide) (Nat.le_of_ble_eq_true rfl) ?_
  intro X ad hl hR0 hr C
  have hR : X.R.frames = 0 ∧ X.R.locals = 0 := by rw [hR0]; exact ⟨rfl, rfl⟩
  have h := hf
  unfold f_X5_tellAll at h
  refine k_start (us := [(0, .inr (.inl (5, c0_5)))]) (k_ao_L ec0_5 k_ap_0) ?_
  show k_W X 2 0 0 _ ad (k_ap [(0, .inr (.inl (5, c0_5)))] (shPit, I, L, Rf)) 0 [some (.ref 0), none] []
  refine k_mask [true, false] ?_
  exact sX5_tellAll_0 u C hr hR ec0_0 ec0_1 c0_5 h
/-! LullabyPit$Pit.lay(IIII)V -/
theorem ds_X5_lay : k_ds [(1, 2, 0), (2, 2, 0)] = true := by decide +kernel
set_option maxHeartbeats 400000 in
set_option maxRecDepth 100000 in
theorem sX5_lay_0 (u : Nat) {X : k_X} {ad : Nat → Nat} (C : k_C X cX5_lay RX5 6 ad) (hr : X.meth.sig.returnType = none) (hR : X.R.frames = 0 ∧ X.R.locals = 0) {I : Nat → Nat → Int32} {L : Nat → Nat → Int64} {Rf : Nat → Nat → Option Nat} {out : (Nat → Int32) × (Nat → Int32)} : ∀ (a1 : (Nat → Int32)) (a2 : (Nat → Int32)) (v1 : Int32) (v2 : Int32) (v3 : Int32) (v4 : Int32), bX5_lay_0 u a1 a2 v1 v2 v3 v4 = some out → k_W X 6 0 0 (k_Q X ad none (k_ap [(1, .inr (.inr (.inl out.1))), (2, .inr (.inr (.inl out.2)))] (shPit, I, L, Rf))) ad (k_ap [(1, .inr (.inr (.inl a1))), (2, .inr (.inr (.inl a2)))] (shPit, I, L, Rf)) 0 [some (.ref 0), some (.int v1), some (.int v2), some (.int v3), some (.int v4), none] [] := by
  intro a1 a2 v1 v2 v3 v4 h
  unfold bX5_lay_0 at h
  refine r_bipush (v := (8 : Int32)) C dX5_lay_0 (rfl : 0 + 2 = 2) rfl ?_
  refine r_iload_n C dX5_lay_2 (rfl : 2 + 1 = 3) rfl ?_
  refine r_imul C dX5_lay_3 (rfl : 3 + 1 = 4) ?_
  refine r_iload_n C dX5_lay_4 (rfl : 4 + 1 = 5) rfl ?_
  refine r_iadd C dX5_lay_5 (rfl : 5 + 1 = 6) ?_
  refine r_istore C dX5_lay_6 (rfl : 6 + 2 = 8) (by decide) (Nat.le_of_ble_eq_true rfl) ?_
  show k_W _ _ _ _ _ _ _ _ [some (.ref 0), some (.int v1), some (.int v2), some (.int v3), some (.int v4), some (.int (((8 : Int32) * v2) + v1))] _
  refine r_iload C dX5_lay_8 (rfl : 8 + 2 = 10) rfl ?_
  refine r_if_lt (tgt := 37) C dX5_lay_10 (by decide) (rfl : 10 + 3 = 13) (fun c10 => ?_) (fun c10 => ?_)
  · have h := k_t c10 h
    cases h
    exact r_vret C hr dX5_lay_37
  · have h := k_f c10 h
    refine r_iload C dX5_lay_13 (rfl : 13 + 2 = 15) rfl ?_
    refine r_bipush (v := (48 : Int32)) C dX5_lay_15 (rfl : 15 + 2 = 17) rfl ?_
    refine r_icmp_ge (tgt := 37) C dX5_lay_17 (by decide) (rfl : 17 + 3 = 20) (fun c17 => ?_) (fun c17 => ?_)
    · have h := k_t c17 h
      cases h
      exact r_vret C hr dX5_lay_37
    · have h := k_f c17 h
      refine r_aload_n C dX5_lay_20 (rfl : 20 + 1 = 21) rfl ?_
      refine r_getR (q := 1) C dX5_lay_21 (rfl : 21 + 3 = 24) fl_X5_9 rfl rfl ?_
      refine r_iload C dX5_lay_24 (rfl : 24 + 2 = 26) rfl ?_
      refine r_iload_n C dX5_lay_26 (rfl : 26 + 1 = 27) rfl ?_
      obtain ⟨hi27, h⟩ := k_i_of h
      refine s_i (j := ((((8 : Int32) * v2) + v1)).toNatClampNeg) (f := a1) (us' := [(1, .inr (.inr (.inl (upd a1 (((((8 : Int32) * v2) + v1)).toNatClampNeg) v3)))), (2, .inr (.inr (.inl a2)))]) C dX5_lay_27 (rfl : 27 + 1 = 28) rfl rfl hi27 rfl ds_X5_lay rfl rfl rfl ?_
      refine r_aload_n C dX5_lay_28 (rfl : 28 + 1 = 29) rfl ?_
      refine r_getR (q := 2) C dX5_lay_29 (rfl : 29 + 3 = 32) fl_X5_15 rfl rfl ?_
      refine r_iload C dX5_lay_32 (rfl : 32 + 2 = 34) rfl ?_
      refine r_iload C dX5_lay_34 (rfl : 34 + 2 = 36) rfl ?_
      obtain ⟨hi36, h⟩ := k_i_of h
      refine s_i (j := ((((8 : Int32) * v2) + v1)).toNatClampNeg) (f := a2) (us' := [(1, .inr (.inr (.inl (upd a1 (((((8 : Int32) * v2) + v1)).toNatClampNeg) v3)))), (2, .inr (.inr (.inl (upd a2 (((((8 : Int32) * v2) + v1)).toNatClampNeg) v4))))]) C dX5_lay_36 (rfl : 36 + 1 = 37) rfl rfl hi36 rfl ds_X5_lay rfl rfl rfl ?_
      cases h
      exact r_vret C hr dX5_lay_37
set_option maxHeartbeats 400000 in
set_option maxRecDepth 100000 in
theorem c_X5_lay (l : Launch) (u : Nat) (h : k_H) (hsh : h.1 = shPit) {a1 : (Nat → Int32)} (ea1 : h.2.1 1 = a1) {a2 : (Nat → Int32)} (ea2 : h.2.1 2 = a2) {x0 : Int32} {x1 : Int32} {x2 : Int32} {x3 : Int32} {out : (Nat → Int32) × (Nat → Int32)} (hf : f_X5_lay u a1 a2 x0 x1 x2 x3 = some out) : k_CT l yX5_lay cX5_lay 6 none 0 0 [.ref 0, .int x0, .int x1, .int x2, .int x3] h none [(1, .inr (.inr (.inl out.1))), (2, .inr (.inr (.inl out.2)))] := by
  obtain ⟨sh, I, L, Rf⟩ := h
  try dsimp only
  obtain rfl : sh = shPit := hsh
  refine k_ofW (by decide) (Nat.le_of_ble_eq_true rfl) ?_
  intro X ad hl hR0 hr C
  have hR : X.R.frames = 0 ∧ X.R.locals = 0 := by rw [hR0]; exact ⟨rfl, rfl⟩
  have h := hf
  unfold f_X5_lay at h
  refine k_start (us := [(1, .inr (.inr (.inl a1))), (2, .inr (.inr (.inl a2)))]) (k_ao_A ea1 (k_ao_A ea2 k_ap_0)) ?_
  show k_W X 6 0 0 _ ad (k_ap [(1, .inr (.inr (.inl a1))), (2, .inr (.inr (.inl a2)))] (shPit, I, L, Rf)) 0 [some (.ref 0), some (.int x0), some (.int x1), some (.int x2), some (.int x3), none] []
  refine k_mask [true, true, true, true, true, false] ?_
  exact sX5_lay_0 u C hr hR a1 a2 x0 x1 x2 x3 h
/-! LullabyPit$Pit.allBars()I -/
theorem ds_X5_allBars : k_ds [] = true := by decide +kernel
set_option maxHeartbeats 400000 in
set_option maxRecDepth 100000 in
theorem sX5_allBars_4 (u : Nat) {X : k_X} {ad : Nat → Nat} (C : k_C X cX5_allBars RX5 3 ad) (hr : X.meth.sig.returnType = (some .int)) (hR : X.R.frames = 0 ∧ X.R.locals = 0) {I : Nat → Nat → Int32} {L : Nat → Nat → Int64} {Rf : Nat → Nat → Option Nat} {a2 : (Nat → Int32)} (ea2 : I 2 = a2) {out : Int32} : ∀ (n : Nat) (v1 : Int32) (v2 : Int32), bX5_allBars_4 u a2 n v1 v2 = some out → k_W X 3 0 0 (k_Q X ad (some (.int out)) (k_ap [] (shPit, I, L, Rf))) ad (k_ap [] (shPit, I, L, Rf)) 4 [some (.ref 0), some (.int v1), some (.int v2)] [] := by
  intro n
  induction n with
  | zero => intro v1 v2 h; cases h
  | succ n ih =>
    intro v1 v2 h
    refine r_iload_n C dX5_allBars_4 (rfl : 4 + 1 = 5) rfl ?_
    refine r_bipush (v := (48 : Int32)) C dX5_allBars_5 (rfl : 5 + 2 = 7) rfl ?_
    refine r_icmp_ge (tgt := 25) C dX5_allBars_7 (by decide) (rfl : 7 + 3 = 10) (fun c7 => ?_) (fun c7 => ?_)
    · have h := k_t c7 h
      refine r_iload_n C dX5_allBars_25 (rfl : 25 + 1 = 26) rfl ?_
      cases h
      exact r_iret C hr dX5_allBars_26
    · have h := k_f c7 h
      refine r_iload_n C dX5_allBars_10 (rfl : 10 + 1 = 11) rfl ?_
      refine r_aload_n C dX5_allBars_11 (rfl : 11 + 1 = 12) rfl ?_
      refine r_getR (q := 2) C dX5_allBars_12 (rfl : 12 + 3 = 15) fl_X5_15 rfl rfl ?_
      refine r_iload_n C dX5_allBars_15 (rfl : 15 + 1 = 16) rfl ?_
      obtain ⟨hi16, h⟩ := k_i_of h
      refine a_i (j := (v2).toNatClampNeg) (f := a2) C dX5_allBars_16 (rfl : 16 + 1 = 17) rfl ea2 hi16 rfl ?_
      refine r_iadd C dX5_allBars_17 (rfl : 17 + 1 = 18) ?_
      refine r_istore_n C dX5_allBars_18 (rfl : 18 + 1 = 19) (by decide) (Nat.le_of_ble_eq_true rfl) ?_
      show k_W _ _ _ _ _ _ _ _ [some (.ref 0), some (.int (v1 + (a2 ((v2).toNatClampNeg)))), some (.int v2)] _
      refine r_iinc (v := (v2 + (1 : Int32))) C dX5_allBars_19 (rfl : 19 + 3 = 22) rfl rfl (by decide) ?_
      show k_W _ _ _ _ _ _ _ _ [some (.ref 0), some (.int (v1 + (a2 ((v2).toNatClampNeg)))), some (.int (v2 + (1 : Int32)))] _
      refine r_goto (tgt := 4) C dX5_allBars_22 (by decide) ?_
      refine k_mask [true, true, true] ?_
      exact ih (v1 + (a2 ((v2).toNatClampNeg))) (v2 + (1 : Int32)) h
set_option maxHeartbeats 400000 in
set_option maxRecDepth 100000 in
theorem sX5_allBars_0 (u : Nat) {X : k_X} {ad : Nat → Nat} (C : k_C X cX5_allBars RX5 3 ad) (hr : X.meth.sig.returnType = (some .int)) (hR : X.R.frames = 0 ∧ X.R.locals = 0) {I : Nat → Nat → Int32} {L : Nat → Nat → Int64} {Rf : Nat → Nat → Option Nat} {a2 : (Nat → Int32)} (ea2 : I 2 = a2) {out : Int32} : bX5_allBars_0 u a2 = some out → k_W X 3 0 0 (k_Q X ad (some (.int out)) (k_ap [] (shPit, I, L, Rf))) ad (k_ap [] (shPit, I, L, Rf)) 0 [some (.ref 0), none, none] [] := by
  intro h
  unfold bX5_allBars_0 at h
  refine r_iconst (v := (0 : Int32)) C dX5_allBars_0 (rfl : 0 + 1 = 1) rfl ?_
  refine r_istore_n C dX5_allBars_1 (rfl : 1 + 1 = 2) (by decide) (Nat.le_of_ble_eq_true rfl) ?_
  show k_W _ _ _ _ _ _ _ _ [some (.ref 0), some (.int (0 : Int32)), none] _
  refine r_iconst (v := (0 : Int32)) C dX5_allBars_2 (rfl : 2 + 1 = 3) rfl ?_
  refine r_istore_n C dX5_allBars_3 (rfl : 3 + 1 = 4) (by decide) (Nat.le_of_ble_eq_true rfl) ?_
  show k_W _ _ _ _ _ _ _ _ [some (.ref 0), some (.int (0 : Int32)), some (.int (0 : Int32))] _
  refine k_mask [true, true, true] ?_
  exact sX5_allBars_4 u C hr hR ea2 u (0 : Int32) (0 : Int32) h
set_option maxHeartbeats 400000 in
set_option maxRecDepth 100000 in
theorem c_X5_allBars (l : Launch) (u : Nat) (h : k_H) (hsh : h.1 = shPit) {a2 : (Nat → Int32)} (ea2 : h.2.1 2 = a2) {out : Int32} (hf : f_X5_allBars u a2 = some out) : k_CT l yX5_allBars cX5_allBars 3 (some .int) 0 0 [.ref 0] h (some (.int out)) [] := by
  obtain ⟨sh, I, L, Rf⟩ := h
  try dsimp only
  obtain rfl : sh = shPit := hsh
  refine k_ofW (by decide) (Nat.le_of_ble_eq_true rfl) ?_
  intro X ad hl hR0 hr C
  have hR : X.R.frames = 0 ∧ X.R.locals = 0 := by rw [hR0]; exact ⟨rfl, rfl⟩
  have h := hf
  unfold f_X5_allBars at h
  refine k_start (us := []) k_ap_0 ?_
  show k_W X 3 0 0 _ ad (k_ap [] (shPit, I, L, Rf)) 0 [some (.ref 0), none, none] []
  refine k_mask [true, false, false] ?_
  exact sX5_allBars_0 u C hr hR ea2 h
/-! LullabyPit$Pit.wanted(II)I -/
theorem ds_X5_wanted : k_ds [] = true := by decide +kernel
set_option maxHeartbeats 400000 in
set_option maxRecDepth 100000 in
theorem sX5_wanted_50 (u : Nat) {X : k_X} {ad : Nat → Nat} (C : k_C X cX5_wanted RX5 5 ad) (hr : X.meth.sig.returnType = (some .int)) (hR : X.R.frames = 0 ∧ X.R.locals = 0) {I : Nat → Nat → Int32} {L : Nat → Nat → Int64} {Rf : Nat → Nat → Option Nat} {c0_10 : Int32} (ec0_10 : I 0 10 = c0_10) {a5 : (Nat → Int32)} (ea5 : I 5 = a5) {a6 : (Nat → Int32)} (ea6 : I 6 = a6) {out : Int32} {k17 : Int32 → Int32 → Int32 → Int32 → Option (Int32)} (hk17 : ∀ (v1 : Int32) (v2 : Int32) (v3 : Int32) (v4 : Int32), k17 v1 v2 v3 v4 = some out → k_W X 5 0 0 (k_Q X ad (some (.int out)) (k_ap [] (shPit, I, L, Rf))) ad (k_ap [] (shPit, I, L, Rf)) 17 [some (.ref 0), some (.int v1), some (.int v2), some (.int v3), some (.int v4)] []) : ∀ (v1 : Int32) (v2 : Int32) (v4 : Int32) (w0 : Int32) (w1 : Int32), bX5_wanted_50 u c0_10 a5 a6 k17 v1 v2 v4 w0 w1 = some out → k_W X 5 0 0 (k_Q X ad (some (.int out)) (k_ap [] (shPit, I, L, Rf))) ad (k_ap [] (shPit, I, L, Rf)) 50 [some (.ref 0), some (.int v1), some (.int v2), none, some (.int v4)] [.int w0, .int w1] := by
  intro v1 v2 v4 w0 w1 h
  unfold bX5_wanted_50 at h
  refine r_iadd C dX5_wanted_50 (rfl : 50 + 1 = 51) ?_
  refine r_istore_n C dX5_wanted_51 (rfl : 51 + 1 = 52) (by decide) (Nat.le_of_ble_eq_true rfl) ?_
  show k_W _ _ _ _ _ _ _ _ [some (.ref 0), some (.int v1), some (.int v2), some (.int (w1 + w0)), some (.int v4)] _
  refine r_iinc (v := (v4 + (1 : Int32))) C dX5_wanted_52 (rfl : 52 + 3 = 55) rfl rfl (by decide) ?_
  show k_W _ _ _ _ _ _ _ _ [some (.ref 0), some (.int v1), some (.int v2), some (.int (w1 + w0)), some (.int (v4 + (1 : Int32)))] _
  refine r_goto (tgt := 17) C dX5_wanted_55 (by decide) ?_
  refine k_mask [true, true, true, true, true] ?_
  exact hk17 v1 v2 (w1 + w0) (v4 + (1 : Int32)) h
set_option maxHeartbeats 400000 in
set_option maxRecDepth 100000 in
theorem sX5_wanted_17 (u : Nat) {X : k_X} {ad : Nat → Nat} (C : k_C X cX5_wanted RX5 5 ad) (hr : X.meth.sig.returnType = (some .int)) (hR : X.R.frames = 0 ∧ X.R.locals = 0) {I : Nat → Nat → Int32} {L : Nat → Nat → Int64} {Rf : Nat → Nat → Option Nat} {c0_10 : Int32} (ec0_10 : I 0 10 = c0_10) {a5 : (Nat → Int32)} (ea5 : I 5 = a5) {a6 : (Nat → Int32)} (ea6 : I 6 = a6) {out : Int32} : ∀ (n : Nat) (v1 : Int32) (v2 : Int32) (v3 : Int32) (v4 : Int32), bX5_wanted_17 u c0_10 a5 a6 n v1 v2 v3 v4 = some out → k_W X 5 0 0 (k_Q X ad (some (.int out)) (k_ap [] (shPit, I, L, Rf))) ad (k_ap [] (shPit, I, L, Rf)) 17 [some (.ref 0), some (.int v1), some (.int v2), some (.int v3), some (.int v4)] [] := by
  intro n
  induction n with
  | zero => intro v1 v2 v3 v4 h; cases h
  | succ n ih =>
    intro v1 v2 v3 v4 h
    refine r_iload C dX5_wanted_17 (rfl : 17 + 2 = 19) rfl ?_
    refine r_aload_n C dX5_wanted_19 (rfl : 19 + 1 = 20) rfl ?_
    refine r_getR (q := 5) C dX5_wanted_20 (rfl : 20 + 3 = 23) fl_X5_24 rfl rfl ?_
    refine r_iload_n C dX5_wanted_23 (rfl : 23 + 1 = 24) rfl ?_
    obtain ⟨hi24, h⟩ := k_i_of h
    refine a_i (j := (v1).toNatClampNeg) (f := a5) C dX5_wanted_24 (rfl : 24 + 1 = 25) rfl ea5 hi24 rfl ?_
    refine r_icmp_ge (tgt := 58) C dX5_wanted_25 (by decide) (rfl : 25 + 3 = 28) (fun c25 => ?_) (fun c25 => ?_)
    · have h := k_t c25 h
      refine r_iload_n C dX5_wanted_58 (rfl : 58 + 1 = 59) rfl ?_
      cases h
      exact r_iret C hr dX5_wanted_59
    · have h := k_f c25 h
      refine r_iload_n C dX5_wanted_28 (rfl : 28 + 1 = 29) rfl ?_
      refine r_aload_n C dX5_wanted_29 (rfl : 29 + 1 = 30) rfl ?_
      refine r_getR (q := 6) C dX5_wanted_30 (rfl : 30 + 3 = 33) fl_X5_27 rfl rfl ?_
      refine r_iload_n C dX5_wanted_33 (rfl : 33 + 1 = 34) rfl ?_
      refine r_bipush (v := (8 : Int32)) C dX5_wanted_34 (rfl : 34 + 2 = 36) rfl ?_
      refine r_imul C dX5_wanted_36 (rfl : 36 + 1 = 37) ?_
      refine r_iload C dX5_wanted_37 (rfl : 37 + 2 = 39) rfl ?_
      refine r_iadd C dX5_wanted_39 (rfl : 39 + 1 = 40) ?_
      obtain ⟨hi40, h⟩ := k_i_of h
      refine a_i (j := (((v1 * (8 : Int32)) + v4)).toNatClampNeg) (f := a6) C dX5_wanted_40 (rfl : 40 + 1 = 41) rfl ea6 hi40 rfl ?_
      refine r_iload_n C dX5_wanted_41 (rfl : 41 + 1 = 42) rfl ?_
      refine r_icmp_ne (tgt := 49) C dX5_wanted_42 (by decide) (rfl : 42 + 3 = 45) (fun c42 => ?_) (fun c42 => ?_)
      · have h := k_f c42 h
        refine r_iconst (v := (0 : Int32)) C dX5_wanted_49 (rfl : 49 + 1 = 50) rfl ?_
        refine k_mask [true, true, true, false, true] ?_
        exact sX5_wanted_50 u C hr hR ec0_10 ea5 ea6 ih v1 v2 v4 (0 : Int32) v3 h
      · have h := k_t c42 h
        refine r_iconst (v := (1 : Int32)) C dX5_wanted_45 (rfl : 45 + 1 = 46) rfl ?_
        refine r_goto (tgt := 50) C dX5_wanted_46 (by decide) ?_
        refine k_mask [true, true, true, false, true] ?_
        exact sX5_wanted_50 u C hr hR ec0_10 ea5 ea6 ih v1 v2 v4 (1 : Int32) v3 h
set_option maxHeartbeats 400000 in
set_option maxRecDepth 100000 in
theorem sX5_wanted_0 (u : Nat) {X : k_X} {ad : Nat → Nat} (C : k_C X cX5_wanted RX5 5 ad) (hr : X.meth.sig.returnType = (some .int)) (hR : X.R.frames = 0 ∧ X.R.locals = 0) {I : Nat → Nat → Int32} {L : Nat → Nat → Int64} {Rf : Nat → Nat → Option Nat} {c0_10 : Int32} (ec0_10 : I 0 10 = c0_10) {a5 : (Nat → Int32)} (ea5 : I 5 = a5) {a6 : (Nat → Int32)} (ea6 : I 6 = a6) {out : Int32} : ∀ (v1 : Int32) (v2 : Int32), bX5_wanted_0 u c0_10 a5 a6 v1 v2 = some out → k_W X 5 0 0 (k_Q X ad (some (.int out)) (k_ap [] (shPit, I, L, Rf))) ad (k_ap [] (shPit, I, L, Rf)) 0 [some (.ref 0), some (.int v1), some (.int v2), none, none] [] := by
  intro v1 v2 h
  unfold bX5_wanted_0 at h
  refine r_iconst (v := (0 : Int32)) C dX5_wanted_0 (rfl : 0 + 1 = 1) rfl ?_
  refine r_istore_n C dX5_wanted_1 (rfl : 1 + 1 = 2) (by decide) (Nat.le_of_ble_eq_true rfl) ?_
  show k_W _ _ _ _ _ _ _ _ [some (.ref 0), some (.int v1), some (.int v2), some (.int (0 : Int32)), none] _
  refine r_iload_n C dX5_wanted_2 (rfl : 2 + 1 = 3) rfl ?_
  refine r_if_lt (tgt := 58) C dX5_wanted_3 (by decide) (rfl : 3 + 3 = 6) (fun c3 => ?_) (fun c3 => ?_)
  · have h := k_t c3 h
    refine r_iload_n C dX5_wanted_58 (rfl : 58 + 1 = 59) rfl ?_
    cases h
    exact r_iret C hr dX5_wanted_59
  · have h := k_f c3 h
    refine r_iload_n C dX5_wanted_6 (rfl : 6 + 1 = 7) rfl ?_
    refine r_aload_n C dX5_wanted_7 (rfl : 7 + 1 = 8) rfl ?_
    refine r_getI (v := c0_10) C dX5_wanted_8 (rfl : 8 + 3 = 11) fl_X5_62 rfl rfl ec0_10 ?_
    refine r_icmp_ge (tgt := 58) C dX5_wanted_11 (by decide) (rfl : 11 + 3 = 14) (fun c11 => ?_) (fun c11 => ?_)
    · have h := k_t c11 h
      refine r_iload_n C dX5_wanted_58 (rfl : 58 + 1 = 59) rfl ?_
      cases h
      exact r_iret C hr dX5_wanted_59
    · have h := k_f c11 h
      refine r_iconst (v := (0 : Int32)) C dX5_wanted_14 (rfl : 14 + 1 = 15) rfl ?_
      refine r_istore C dX5_wanted_15 (rfl : 15 + 2 = 17) (by decide) (Nat.le_of_ble_eq_true rfl) ?_
      show k_W _ _ _ _ _ _ _ _ [some (.ref 0), some (.int v1), some (.int v2), some (.int (0 : Int32)), some (.int (0 : Int32))] _
      refine k_mask [true, true, true, true, true] ?_
      exact sX5_wanted_17 u C hr hR ec0_10 ea5 ea6 u v1 v2 (0 : Int32) (0 : Int32) h
set_option maxHeartbeats 400000 in
set_option maxRecDepth 100000 in
theorem c_X5_wanted (l : Launch) (u : Nat) (h : k_H) (hsh : h.1 = shPit) {c0_10 : Int32} (ec0_10 : h.2.1 0 10 = c0_10) {a5 : (Nat → Int32)} (ea5 : h.2.1 5 = a5) {a6 : (Nat → Int32)} (ea6 : h.2.1 6 = a6) {x0 : Int32} {x1 : Int32} {out : Int32} (hf : f_X5_wanted u c0_10 a5 a6 x0 x1 = some out) : k_CT l yX5_wanted cX5_wanted 5 (some .int) 0 0 [.ref 0, .int x0, .int x1] h (some (.int out)) [] := by
  obtain ⟨sh, I, L, Rf⟩ := h
  try dsimp only
  obtain rfl : sh = shPit := hsh
  refine k_ofW (by decide) (Nat.le_of_ble_eq_true rfl) ?_
  intro X ad hl hR0 hr C
  have hR : X.R.frames = 0 ∧ X.R.locals = 0 := by rw [hR0]; exact ⟨rfl, rfl⟩
  have h := hf
  unfold f_X5_wanted at h
  refine k_start (us := []) k_ap_0 ?_
  show k_W X 5 0 0 _ ad (k_ap [] (shPit, I, L, Rf)) 0 [some (.ref 0), some (.int x0), some (.int x1), none, none] []
  refine k_mask [true, true, true, false, false] ?_
  exact sX5_wanted_0 u C hr hR ec0_10 ea5 ea6 x0 x1 h
