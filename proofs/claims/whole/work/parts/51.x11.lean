/-! LullabyPit$Mine.breakOpen(I)V -/
theorem ds_X3_breakOpen : k_ds [(0, 0, 11), (0, 0, 14), (0, 0, 15), (0, 0, 16), (0, 0, 17), (0, 1, 3), (0, 1, 5), (1, 2, 0), (14, 2, 0), (17, 2, 0)] = true := by decide +kernel
set_option maxHeartbeats 400000 in
set_option maxRecDepth 100000 in
theorem sX3_breakOpen_141 (u : Nat) {X : k_X} {ad : Nat → Nat} (C : k_C X cX3_breakOpen RX3 6 ad) (hr : X.meth.sig.returnType = none) (hR : X.R.frames = 4 ∧ X.R.locals = 96) {I : Nat → Nat → Int32} {L : Nat → Nat → Int64} {Rf : Nat → Nat → Option Nat} {c0_10 : Int32} (ec0_10 : I 0 10 = c0_10) {c0_4 : Int64} (ec0_4 : L 0 4 = c0_4) {a6 : (Nat → Int32)} (ea6 : I 6 = a6) {a7 : (Nat → Int32)} (ea7 : I 7 = a7) {c12_2 : Int32} (ec12_2 : I 12 2 = c12_2) {a13 : (Nat → Int32)} (ea13 : I 13 = a13) {c15_2 : Int32} (ec15_2 : I 15 2 = c15_2) {a16 : (Nat → Int32)} (ea16 : I 16 = a16) {out : Int32 × Int32 × Int32 × Int32 × Int32 × Int64 × Int64 × (Nat → Int32) × (Nat → Int32) × (Nat → Int32)} : ∀ (c0_11 : Int32) (c0_14 : Int32) (c0_15 : Int32) (c0_16 : Int32) (c0_17 : Int32) (c0_3 : Int64) (c0_5 : Int64) (a1 : (Nat → Int32)) (a14 : (Nat → Int32)) (a17 : (Nat → Int32)), bX3_breakOpen_141 u c0_10 c0_4 a6 a7 c12_2 a13 c15_2 a16 c0_11 c0_14 c0_15 c0_16 c0_17 c0_3 c0_5 a1 a14 a17 = some out → k_W X 6 0 0 (k_Q X ad none (k_ap [(0, .inl (11, out.1)), (0, .inl (14, out.2.1)), (0, .inl (15, out.2.2.1)), (0, .inl (16, out.2.2.2.1)), (0, .inl (17, out.2.2.2.2.1)), (0, .inr (.inl (3, out.2.2.2.2.2.1))), (0, .inr (.inl (5, out.2.2.2.2.2.2.1))), (1, .inr (.inr (.inl out.2.2.2.2.2.2.2.1))), (14, .inr (.inr (.inl out.2.2.2.2.2.2.2.2.1))), (17, .inr (.inr (.inl out.2.2.2.2.2.2.2.2.2)))] (shMine, I, L, Rf))) ad (k_ap [(0, .inl (11, c0_11)), (0, .inl (14, c0_14)), (0, .inl (15, c0_15)), (0, .inl (16, c0_16)), (0, .inl (17, c0_17)), (0, .inr (.inl (3, c0_3))), (0, .inr (.inl (5, c0_5))), (1, .inr (.inr (.inl a1))), (14, .inr (.inr (.inl a14))), (17, .inr (.inr (.inl a17)))] (shMine, I, L, Rf)) 141 [some (.ref 0), none, none, none, none, none] [] := by
  intro c0_11 c0_14 c0_15 c0_16 c0_17 c0_3 c0_5 a1 a14 a17 h
  unfold bX3_breakOpen_141 at h
  refine r_aload_n C dX3_breakOpen_141 (rfl : 141 + 1 = 142) rfl ?_
  obtain ⟨r142, q142, h⟩ := k_b_of h
  refine d_V (As := []) (st := []) (st' := [.long r142.1]) (h' := k_ap [(0, .inl (11, c0_11)), (0, .inl (14, c0_14)), (0, .inl (15, c0_15)), (0, .inl (16, c0_16)), (0, .inl (17, c0_17)), (0, .inr (.inl (3, c0_3))), (0, .inr (.inl (5, c0_5))), (1, .inr (.inr (.inl a1))), (14, .inr (.inr (.inl r142.2))), (17, .inr (.inr (.inl a17)))] (shMine, I, L, Rf)) C hR ⟨Nat.zero_le _, Nat.zero_le _⟩ mv_X3_doomedCells lk_X3_171 dX3_breakOpen_142 (rfl : 142 + 3 = 145) rfl rfl rfl rfl (c_X3_doomedCells X.l u (k_ap [(0, .inl (11, c0_11)), (0, .inl (14, c0_14)), (0, .inl (15, c0_15)), (0, .inl (16, c0_16)), (0, .inl (17, c0_17)), (0, .inr (.inl (3, c0_3))), (0, .inr (.inl (5, c0_5))), (1, .inr (.inr (.inl a1))), (14, .inr (.inr (.inl a14))), (17, .inr (.inr (.inl a17)))] (shMine, I, L, Rf)) rfl ec0_10 rfl ec0_4 ea6 ea7 ec12_2 ea13 rfl q142) rfl rfl rfl (k_jn (us' := [(0, .inl (11, c0_11)), (0, .inl (14, c0_14)), (0, .inl (15, c0_15)), (0, .inl (16, c0_16)), (0, .inl (17, c0_17)), (0, .inr (.inl (3, c0_3))), (0, .inr (.inl (5, c0_5))), (1, .inr (.inr (.inl a1))), (14, .inr (.inr (.inl r142.2))), (17, .inr (.inr (.inl a17)))]) ds_X3_breakOpen rfl rfl rfl) rfl ?_
  refine r_lstore C dX3_breakOpen_145 (rfl : 145 + 2 = 147) (by decide) (Nat.le_of_ble_eq_true rfl) ?_
  show k_W _ _ _ _ _ _ _ _ [some (.ref 0), none, none, none, some (.long r142.1), none] _
  refine r_aload_n C dX3_breakOpen_147 (rfl : 147 + 1 = 148) rfl ?_
  refine r_dup C dX3_breakOpen_148 (rfl : 148 + 1 = 149) rfl ?_
  refine r_getL (v := c0_3) C dX3_breakOpen_149 (rfl : 149 + 3 = 152) fl_X3_35 rfl rfl rfl ?_
  refine r_lload C dX3_breakOpen_152 (rfl : 152 + 2 = 154) rfl ?_
  refine r_ldc2 C dX3_breakOpen_154 (rfl : 154 + 3 = 157) ct_X3_115 ?_
  refine r_lxor C dX3_breakOpen_157 (rfl : 157 + 1 = 158) ?_
  refine r_land C dX3_breakOpen_158 (rfl : 158 + 1 = 159) ?_
  refine p_L (us' := [(0, .inl (11, c0_11)), (0, .inl (14, c0_14)), (0, .inl (15, c0_15)), (0, .inl (16, c0_16)), (0, .inl (17, c0_17)), (0, .inr (.inl (3, (c0_3 &&& (r142.1 ^^^ (-1 : Int64)))))), (0, .inr (.inl (5, c0_5))), (1, .inr (.inr (.inl a1))), (14, .inr (.inr (.inl r142.2))), (17, .inr (.inr (.inl a17)))]) C dX3_breakOpen_159 (rfl : 159 + 3 = 162) fp_X3_35 rfl rfl ds_X3_breakOpen rfl rfl rfl ?_
  refine r_aload_n C dX3_breakOpen_162 (rfl : 162 + 1 = 163) rfl ?_
  refine r_dup C dX3_breakOpen_163 (rfl : 163 + 1 = 164) rfl ?_
  refine r_getL (v := c0_5) C dX3_breakOpen_164 (rfl : 164 + 3 = 167) fl_X3_42 rfl rfl rfl ?_
  refine r_lload C dX3_breakOpen_167 (rfl : 167 + 2 = 169) rfl ?_
  refine r_lor C dX3_breakOpen_169 (rfl : 169 + 1 = 170) ?_
  refine p_L (us' := [(0, .inl (11, c0_11)), (0, .inl (14, c0_14)), (0, .inl (15, c0_15)), (0, .inl (16, c0_16)), (0, .inl (17, c0_17)), (0, .inr (.inl (3, (c0_3 &&& (r142.1 ^^^ (-1 : Int64)))))), (0, .inr (.inl (5, (c0_5 ||| r142.1)))), (1, .inr (.inr (.inl a1))), (14, .inr (.inr (.inl r142.2))), (17, .inr (.inr (.inl a17)))]) C dX3_breakOpen_170 (rfl : 170 + 3 = 173) fp_X3_42 rfl rfl ds_X3_breakOpen rfl rfl rfl ?_
  refine r_aload_n C dX3_breakOpen_173 (rfl : 173 + 1 = 174) rfl ?_
  refine r_dup C dX3_breakOpen_174 (rfl : 174 + 1 = 175) rfl ?_
  refine r_getI (v := c0_17) C dX3_breakOpen_175 (rfl : 175 + 3 = 178) fl_X3_81 rfl rfl rfl ?_
  refine r_lload C dX3_breakOpen_178 (rfl : 178 + 2 = 180) rfl ?_
  obtain ⟨r180, q180, h⟩ := k_b_of h
  refine d_S (As := [.long r142.1]) (st := [.int c0_17, .ref 0]) (st' := [.int r180, .int c0_17, .ref 0]) (h' := k_ap [(0, .inl (11, c0_11)), (0, .inl (14, c0_14)), (0, .inl (15, c0_15)), (0, .inl (16, c0_16)), (0, .inl (17, c0_17)), (0, .inr (.inl (3, (c0_3 &&& (r142.1 ^^^ (-1 : Int64)))))), (0, .inr (.inl (5, (c0_5 ||| r142.1)))), (1, .inr (.inr (.inl a1))), (14, .inr (.inr (.inl r142.2))), (17, .inr (.inr (.inl a17)))] (shMine, I, L, Rf)) C hR ⟨Nat.zero_le _, Nat.zero_le _⟩ ms_J13_bitCount_95d88 lk_X3_174 dX3_breakOpen_180 (rfl : 180 + 3 = 183) rfl rfl (c_J13_bitCount_95d88 X.l u (k_ap [(0, .inl (11, c0_11)), (0, .inl (14, c0_14)), (0, .inl (15, c0_15)), (0, .inl (16, c0_16)), (0, .inl (17, c0_17)), (0, .inr (.inl (3, (c0_3 &&& (r142.1 ^^^ (-1 : Int64)))))), (0, .inr (.inl (5, (c0_5 ||| r142.1)))), (1, .inr (.inr (.inl a1))), (14, .inr (.inr (.inl r142.2))), (17, .inr (.inr (.inl a17)))] (shMine, I, L, Rf))  q180) rfl rfl rfl rfl rfl ?_
  refine r_iadd C dX3_breakOpen_183 (rfl : 183 + 1 = 184) ?_
  refine p_I (us' := [(0, .inl (11, c0_11)), (0, .inl (14, c0_14)), (0, .inl (15, c0_15)), (0, .inl (16, c0_16)), (0, .inl (17, (c0_17 + r180))), (0, .inr (.inl (3, (c0_3 &&& (r142.1 ^^^ (-1 : Int64)))))), (0, .inr (.inl (5, (c0_5 ||| r142.1)))), (1, .inr (.inr (.inl a1))), (14, .inr (.inr (.inl r142.2))), (17, .inr (.inr (.inl a17)))]) C dX3_breakOpen_184 (rfl : 184 + 3 = 187) fp_X3_81 rfl rfl ds_X3_breakOpen rfl rfl rfl ?_
  cases h
  exact r_vret C hr dX3_breakOpen_187
set_option maxHeartbeats 400000 in
set_option maxRecDepth 100000 in
theorem sX3_breakOpen_109 (u : Nat) {X : k_X} {ad : Nat → Nat} (C : k_C X cX3_breakOpen RX3 6 ad) (hr : X.meth.sig.returnType = none) (hR : X.R.frames = 4 ∧ X.R.locals = 96) {I : Nat → Nat → Int32} {L : Nat → Nat → Int64} {Rf : Nat → Nat → Option Nat} {c0_10 : Int32} (ec0_10 : I 0 10 = c0_10) {c0_4 : Int64} (ec0_4 : L 0 4 = c0_4) {a6 : (Nat → Int32)} (ea6 : I 6 = a6) {a7 : (Nat → Int32)} (ea7 : I 7 = a7) {c12_2 : Int32} (ec12_2 : I 12 2 = c12_2) {a13 : (Nat → Int32)} (ea13 : I 13 = a13) {c15_2 : Int32} (ec15_2 : I 15 2 = c15_2) {a16 : (Nat → Int32)} (ea16 : I 16 = a16) {out : Int32 × Int32 × Int32 × Int32 × Int32 × Int64 × Int64 × (Nat → Int32) × (Nat → Int32) × (Nat → Int32)} : ∀ (c0_11 : Int32) (c0_14 : Int32) (c0_15 : Int32) (c0_16 : Int32) (c0_17 : Int32) (c0_3 : Int64) (c0_5 : Int64) (a1 : (Nat → Int32)) (a14 : (Nat → Int32)) (a17 : (Nat → Int32)) (v1 : Int32) (v2 : Int32), bX3_breakOpen_109 u c0_10 c0_4 a6 a7 c12_2 a13 c15_2 a16 c0_11 c0_14 c0_15 c0_16 c0_17 c0_3 c0_5 a1 a14 a17 v1 v2 = some out → k_W X 6 0 0 (k_Q X ad none (k_ap [(0, .inl (11, out.1)), (0, .inl (14, out.2.1)), (0, .inl (15, out.2.2.1)), (0, .inl (16, out.2.2.2.1)), (0, .inl (17, out.2.2.2.2.1)), (0, .inr (.inl (3, out.2.2.2.2.2.1))), (0, .inr (.inl (5, out.2.2.2.2.2.2.1))), (1, .inr (.inr (.inl out.2.2.2.2.2.2.2.1))), (14, .inr (.inr (.inl out.2.2.2.2.2.2.2.2.1))), (17, .inr (.inr (.inl out.2.2.2.2.2.2.2.2.2)))] (shMine, I, L, Rf))) ad (k_ap [(0, .inl (11, c0_11)), (0, .inl (14, c0_14)), (0, .inl (15, c0_15)), (0, .inl (16, c0_16)), (0, .inl (17, c0_17)), (0, .inr (.inl (3, c0_3))), (0, .inr (.inl (5, c0_5))), (1, .inr (.inr (.inl a1))), (14, .inr (.inr (.inl a14))), (17, .inr (.inr (.inl a17)))] (shMine, I, L, Rf)) 109 [some (.ref 0), some (.int v1), some (.int v2), none, none, none] [] := by
  intro c0_11 c0_14 c0_15 c0_16 c0_17 c0_3 c0_5 a1 a14 a17 v1 v2 h
  unfold bX3_breakOpen_109 at h
  refine r_iload_n C dX3_breakOpen_109 (rfl : 109 + 1 = 110) rfl ?_
  refine r_if_eq (tgt := 141) C dX3_breakOpen_110 (by decide) (rfl : 110 + 3 = 113) (fun c110 => ?_) (fun c110 => ?_)
  · have h := k_t c110 h
    refine k_mask [true, false, false, false, false, false] ?_
    exact sX3_breakOpen_141 u C hr hR ec0_10 ec0_4 ea6 ea7 ec12_2 ea13 ec15_2 ea16 c0_11 c0_14 c0_15 c0_16 c0_17 c0_3 c0_5 a1 a14 a17 h
  · have h := k_f c110 h
    refine r_aload_n C dX3_breakOpen_113 (rfl : 113 + 1 = 114) rfl ?_
    refine r_getR (q := 5) C dX3_breakOpen_114 (rfl : 114 + 3 = 117) fl_X3_24 rfl rfl ?_
    refine r_getR (q := 6) C dX3_breakOpen_117 (rfl : 117 + 3 = 120) fl_X3_137 rfl rfl ?_
    refine r_iload_n C dX3_breakOpen_120 (rfl : 120 + 1 = 121) rfl ?_
    obtain ⟨hi121, h⟩ := k_i_of h
    refine a_i (j := (v1).toNatClampNeg) (f := a6) C dX3_breakOpen_121 (rfl : 121 + 1 = 122) rfl ea6 hi121 rfl ?_
    refine r_iconst (v := (5 : Int32)) C dX3_breakOpen_122 (rfl : 122 + 1 = 123) rfl ?_
    refine r_icmp_ne (tgt := 141) C dX3_breakOpen_123 (by decide) (rfl : 123 + 3 = 126) (fun c123 => ?_) (fun c123 => ?_)
    · have h := k_f c123 h
      refine k_mask [true, false, false, false, false, false] ?_
      exact sX3_breakOpen_141 u C hr hR ec0_10 ec0_4 ea6 ea7 ec12_2 ea13 ec15_2 ea16 c0_11 c0_14 c0_15 c0_16 c0_17 c0_3 c0_5 a1 a14 a17 h
    · have h := k_t c123 h
      refine r_aload_n C dX3_breakOpen_126 (rfl : 126 + 1 = 127) rfl ?_
      refine r_aload_n C dX3_breakOpen_127 (rfl : 127 + 1 = 128) rfl ?_
      refine r_getI (v := c0_15) C dX3_breakOpen_128 (rfl : 128 + 3 = 131) fl_X3_75 rfl rfl rfl ?_
      refine r_iload_n C dX3_breakOpen_131 (rfl : 131 + 1 = 132) rfl ?_
      refine r_bipush (v := (8 : Int32)) C dX3_breakOpen_132 (rfl : 132 + 2 = 134) rfl ?_
      refine r_idiv C dX3_breakOpen_134 (rfl : 134 + 1 = 135) (by decide) ?_
      refine r_min C hR dX3_breakOpen_135 (rfl : 135 + 3 = 138) lm_X3_165 rfl rfl rfl ?_
      refine p_I (us' := [(0, .inl (11, c0_11)), (0, .inl (14, c0_14)), (0, .inl (15, (if (v1 / (8 : Int32)) < c0_15 then (v1 / (8 : Int32)) else c0_15))), (0, .inl (16, c0_16)), (0, .inl (17, c0_17)), (0, .inr (.inl (3, c0_3))), (0, .inr (.inl (5, c0_5))), (1, .inr (.inr (.inl a1))), (14, .inr (.inr (.inl a14))), (17, .inr (.inr (.inl a17)))]) C dX3_breakOpen_138 (rfl : 138 + 3 = 141) fp_X3_75 rfl rfl ds_X3_breakOpen rfl rfl rfl ?_
      refine k_mask [true, false, false, false, false, false] ?_
      exact sX3_breakOpen_141 u C hr hR ec0_10 ec0_4 ea6 ea7 ec12_2 ea13 ec15_2 ea16 c0_11 c0_14 (if (v1 / (8 : Int32)) < c0_15 then (v1 / (8 : Int32)) else c0_15) c0_16 c0_17 c0_3 c0_5 a1 a14 a17 h
set_option maxHeartbeats 400000 in
set_option maxRecDepth 100000 in
theorem sX3_breakOpen_0 (u : Nat) {X : k_X} {ad : Nat → Nat} (C : k_C X cX3_breakOpen RX3 6 ad) (hr : X.meth.sig.returnType = none) (hR : X.R.frames = 4 ∧ X.R.locals = 96) {I : Nat → Nat → Int32} {L : Nat → Nat → Int64} {Rf : Nat → Nat → Option Nat} {c0_10 : Int32} (ec0_10 : I 0 10 = c0_10) {c0_4 : Int64} (ec0_4 : L 0 4 = c0_4) {a6 : (Nat → Int32)} (ea6 : I 6 = a6) {a7 : (Nat → Int32)} (ea7 : I 7 = a7) {c12_2 : Int32} (ec12_2 : I 12 2 = c12_2) {a13 : (Nat → Int32)} (ea13 : I 13 = a13) {c15_2 : Int32} (ec15_2 : I 15 2 = c15_2) {a16 : (Nat → Int32)} (ea16 : I 16 = a16) {out : Int32 × Int32 × Int32 × Int32 × Int32 × Int64 × Int64 × (Nat → Int32) × (Nat → Int32) × (Nat → Int32)} : ∀ (c0_11 : Int32) (c0_14 : Int32) (c0_15 : Int32) (c0_16 : Int32) (c0_17 : Int32) (c0_3 : Int64) (c0_5 : Int64) (a1 : (Nat → Int32)) (a14 : (Nat → Int32)) (a17 : (Nat → Int32)) (v1 : Int32), bX3_breakOpen_0 u c0_10 c0_4 a6 a7 c12_2 a13 c15_2 a16 c0_11 c0_14 c0_15 c0_16 c0_17 c0_3 c0_5 a1 a14 a17 v1 = some out → k_W X 6 0 0 (k_Q X ad none (k_ap [(0, .inl (11, out.1)), (0, .inl (14, out.2.1)), (0, .inl (15, out.2.2.1)), (0, .inl (16, out.2.2.2.1)), (0, .inl (17, out.2.2.2.2.1)), (0, .inr (.inl (3, out.2.2.2.2.2.1))), (0, .inr (.inl (5, out.2.2.2.2.2.2.1))), (1, .inr (.inr (.inl out.2.2.2.2.2.2.2.1))), (14, .inr (.inr (.inl out.2.2.2.2.2.2.2.2.1))), (17, .inr (.inr (.inl out.2.2.2.2.2.2.2.2.2)))] (shMine, I, L, Rf))) ad (k_ap [(0, .inl (11, c0_11)), (0, .inl (14, c0_14)), (0, .inl (15, c0_15)), (0, .inl (16, c0_16)), (0, .inl (17, c0_17)), (0, .inr (.inl (3, c0_3))), (0, .inr (.inl (5, c0_5))), (1, .inr (.inr (.inl a1))), (14, .inr (.inr (.inl a14))), (17, .inr (.inr (.inl a17)))] (shMine, I, L, Rf)) 0 [some (.ref 0), some (.int v1), none, none, none, none] [] := by
  intro c0_11 c0_14 c0_15 c0_16 c0_17 c0_3 c0_5 a1 a14 a17 v1 h
  unfold bX3_breakOpen_0 at h
  refine r_iload_n C dX3_breakOpen_0 (rfl : 0 + 1 = 1) rfl ?_
  refine r_if_lt (tgt := 10) C dX3_breakOpen_1 (by decide) (rfl : 1 + 3 = 4) (fun c1 => ?_) (fun c1 => ?_)
  · have h := k_t c1 h
    cases h
    exact r_vret C hr dX3_breakOpen_10
  · have h := k_f c1 h
    refine r_iload_n C dX3_breakOpen_4 (rfl : 4 + 1 = 5) rfl ?_
    refine r_bipush (v := (48 : Int32)) C dX3_breakOpen_5 (rfl : 5 + 2 = 7) rfl ?_
    refine r_icmp_lt (tgt := 11) C dX3_breakOpen_7 (by decide) (rfl : 7 + 3 = 10) (fun c7 => ?_) (fun c7 => ?_)
    · have h := k_t c7 h
      refine r_aload_n C dX3_breakOpen_11 (rfl : 11 + 1 = 12) rfl ?_
      refine r_iload_n C dX3_breakOpen_12 (rfl : 12 + 1 = 13) rfl ?_
      obtain ⟨r13, q13, h⟩ := k_b_of h
      refine d_V (As := [.int v1]) (st := []) (st' := [.int r13]) (h' := k_ap [(0, .inl (11, c0_11)), (0, .inl (14, c0_14)), (0, .inl (15, c0_15)), (0, .inl (16, c0_16)), (0, .inl (17, c0_17)), (0, .inr (.inl (3, c0_3))), (0, .inr (.inl (5, c0_5))), (1, .inr (.inr (.inl a1))), (14, .inr (.inr (.inl a14))), (17, .inr (.inr (.inl a17)))] (shMine, I, L, Rf)) C hR ⟨Nat.zero_le _, Nat.zero_le _⟩ mv_X3_isWhole lk_X3_123 dX3_breakOpen_13 (rfl : 13 + 3 = 16) rfl rfl rfl rfl (c_X3_isWhole X.l u (k_ap [(0, .inl (11, c0_11)), (0, .inl (14, c0_14)), (0, .inl (15, c0_15)), (0, .inl (16, c0_16)), (0, .inl (17, c0_17)), (0, .inr (.inl (3, c0_3))), (0, .inr (.inl (5, c0_5))), (1, .inr (.inr (.inl a1))), (14, .inr (.inr (.inl a14))), (17, .inr (.inr (.inl a17)))] (shMine, I, L, Rf)) rfl rfl ec0_4 rfl q13) rfl rfl rfl rfl rfl ?_
      refine r_istore_n C dX3_breakOpen_16 (rfl : 16 + 1 = 17) (by decide) (Nat.le_of_ble_eq_true rfl) ?_
      show k_W _ _ _ _ _ _ _ _ [some (.ref 0), some (.int v1), some (.int r13), none, none, none] _
      refine r_aload_n C dX3_breakOpen_17 (rfl : 17 + 1 = 18) rfl ?_
      refine r_iload_n C dX3_breakOpen_18 (rfl : 18 + 1 = 19) rfl ?_
      obtain ⟨r19, q19, h⟩ := k_b_of h
      refine d_V (As := [.int v1]) (st := []) (st' := [.int r19]) (h' := k_ap [(0, .inl (11, c0_11)), (0, .inl (14, c0_14)), (0, .inl (15, c0_15)), (0, .inl (16, c0_16)), (0, .inl (17, c0_17)), (0, .inr (.inl (3, c0_3))), (0, .inr (.inl (5, c0_5))), (1, .inr (.inr (.inl a1))), (14, .inr (.inr (.inl a14))), (17, .inr (.inr (.inl a17)))] (shMine, I, L, Rf)) C hR ⟨Nat.zero_le _, Nat.zero_le _⟩ mv_X3_barsLeft lk_X3_130 dX3_breakOpen_19 (rfl : 19 + 3 = 22) rfl rfl rfl rfl (c_X3_barsLeft X.l u (k_ap [(0, .inl (11, c0_11)), (0, .inl (14, c0_14)), (0, .inl (15, c0_15)), (0, .inl (16, c0_16)), (0, .inl (17, c0_17)), (0, .inr (.inl (3, c0_3))), (0, .inr (.inl (5, c0_5))), (1, .inr (.inr (.inl a1))), (14, .inr (.inr (.inl a14))), (17, .inr (.inr (.inl a17)))] (shMine, I, L, Rf)) rfl rfl ec0_4 rfl ea7 q19) rfl rfl rfl rfl rfl ?_
      refine r_istore_n C dX3_breakOpen_22 (rfl : 22 + 1 = 23) (by decide) (Nat.le_of_ble_eq_true rfl) ?_
      show k_W _ _ _ _ _ _ _ _ [some (.ref 0), some (.int v1), some (.int r13), some (.int r19), none, none] _
      refine r_aload_n C dX3_breakOpen_23 (rfl : 23 + 1 = 24) rfl ?_
      refine r_dup C dX3_breakOpen_24 (rfl : 24 + 1 = 25) rfl ?_
      refine r_getL (v := c0_3) C dX3_breakOpen_25 (rfl : 25 + 3 = 28) fl_X3_35 rfl rfl rfl ?_
      refine r_lconst (v := (1 : Int64)) C dX3_breakOpen_28 (rfl : 28 + 1 = 29) rfl ?_
      refine r_iload_n C dX3_breakOpen_29 (rfl : 29 + 1 = 30) rfl ?_
      refine r_lshl C dX3_breakOpen_30 (rfl : 30 + 1 = 31) ?_
      refine r_lor C dX3_breakOpen_31 (rfl : 31 + 1 = 32) ?_
      refine p_L (us' := [(0, .inl (11, c0_11)), (0, .inl (14, c0_14)), (0, .inl (15, c0_15)), (0, .inl (16, c0_16)), (0, .inl (17, c0_17)), (0, .inr (.inl (3, (c0_3 ||| ((1 : Int64) <<< ((v1).toInt64 &&& 63)))))), (0, .inr (.inl (5, c0_5))), (1, .inr (.inr (.inl a1))), (14, .inr (.inr (.inl a14))), (17, .inr (.inr (.inl a17)))]) C dX3_breakOpen_32 (rfl : 32 + 3 = 35) fp_X3_35 rfl rfl ds_X3_breakOpen rfl rfl rfl ?_
      refine r_aload_n C dX3_breakOpen_35 (rfl : 35 + 1 = 36) rfl ?_
      refine r_dup C dX3_breakOpen_36 (rfl : 36 + 1 = 37) rfl ?_
      refine r_getL (v := c0_5) C dX3_breakOpen_37 (rfl : 37 + 3 = 40) fl_X3_42 rfl rfl rfl ?_
      refine r_lconst (v := (1 : Int64)) C dX3_breakOpen_40 (rfl : 40 + 1 = 41) rfl ?_
      refine r_iload_n C dX3_breakOpen_41 (rfl : 41 + 1 = 42) rfl ?_
      refine r_lshl C dX3_breakOpen_42 (rfl : 42 + 1 = 43) ?_
      refine r_ldc2 C dX3_breakOpen_43 (rfl : 43 + 3 = 46) ct_X3_115 ?_
      refine r_lxor C dX3_breakOpen_46 (rfl : 46 + 1 = 47) ?_
      refine r_land C dX3_breakOpen_47 (rfl : 47 + 1 = 48) ?_
      refine p_L (us' := [(0, .inl (11, c0_11)), (0, .inl (14, c0_14)), (0, .inl (15, c0_15)), (0, .inl (16, c0_16)), (0, .inl (17, c0_17)), (0, .inr (.inl (3, (c0_3 ||| ((1 : Int64) <<< ((v1).toInt64 &&& 63)))))), (0, .inr (.inl (5, (c0_5 &&& (((1 : Int64) <<< ((v1).toInt64 &&& 63)) ^^^ (-1 : Int64)))))), (1, .inr (.inr (.inl a1))), (14, .inr (.inr (.inl a14))), (17, .inr (.inr (.inl a17)))]) C dX3_breakOpen_48 (rfl : 48 + 3 = 51) fp_X3_42 rfl rfl ds_X3_breakOpen rfl rfl rfl ?_
      refine r_aload_n C dX3_breakOpen_51 (rfl : 51 + 1 = 52) rfl ?_
      refine r_dup C dX3_breakOpen_52 (rfl : 52 + 1 = 53) rfl ?_
      refine r_getI (v := c0_11) C dX3_breakOpen_53 (rfl : 53 + 3 = 56) fl_X3_55 rfl rfl rfl ?_
      refine r_iconst (v := (1 : Int32)) C dX3_breakOpen_56 (rfl : 56 + 1 = 57) rfl ?_
      refine r_iadd C dX3_breakOpen_57 (rfl : 57 + 1 = 58) ?_
      refine p_I (us' := [(0, .inl (11, (c0_11 + (1 : Int32)))), (0, .inl (14, c0_14)), (0, .inl (15, c0_15)), (0, .inl (16, c0_16)), (0, .inl (17, c0_17)), (0, .inr (.inl (3, (c0_3 ||| ((1 : Int64) <<< ((v1).toInt64 &&& 63)))))), (0, .inr (.inl (5, (c0_5 &&& (((1 : Int64) <<< ((v1).toInt64 &&& 63)) ^^^ (-1 : Int64)))))), (1, .inr (.inr (.inl a1))), (14, .inr (.inr (.inl a14))), (17, .inr (.inr (.inl a17)))]) C dX3_breakOpen_58 (rfl : 58 + 3 = 61) fp_X3_55 rfl rfl ds_X3_breakOpen rfl rfl rfl ?_
      refine r_iload_n C dX3_breakOpen_61 (rfl : 61 + 1 = 62) rfl ?_
      refine r_if_le (tgt := 109) C dX3_breakOpen_62 (by decide) (rfl : 62 + 3 = 65) (fun c62 => ?_) (fun c62 => ?_)
      · have h := k_t c62 h
        refine k_mask [true, true, true, false, false, false] ?_
        exact sX3_breakOpen_109 u C hr hR ec0_10 ec0_4 ea6 ea7 ec12_2 ea13 ec15_2 ea16 (c0_11 + (1 : Int32)) c0_14 c0_15 c0_16 c0_17 (c0_3 ||| ((1 : Int64) <<< ((v1).toInt64 &&& 63))) (c0_5 &&& (((1 : Int64) <<< ((v1).toInt64 &&& 63)) ^^^ (-1 : Int64))) a1 a14 a17 v1 r13 h
      · have h := k_f c62 h
        refine r_aload_n C dX3_breakOpen_65 (rfl : 65 + 1 = 66) rfl ?_
        refine r_getR (q := 1) C dX3_breakOpen_66 (rfl : 66 + 3 = 69) fl_X3_9 rfl rfl ?_
        refine r_aload_n C dX3_breakOpen_69 (rfl : 69 + 1 = 70) rfl ?_
        refine r_getR (q := 5) C dX3_breakOpen_70 (rfl : 70 + 3 = 73) fl_X3_24 rfl rfl ?_
        refine r_getR (q := 6) C dX3_breakOpen_73 (rfl : 73 + 3 = 76) fl_X3_137 rfl rfl ?_
        refine r_iload_n C dX3_breakOpen_76 (rfl : 76 + 1 = 77) rfl ?_
        obtain ⟨hi77, h⟩ := k_i_of h
        refine a_i (j := (v1).toNatClampNeg) (f := a6) C dX3_breakOpen_77 (rfl : 77 + 1 = 78) rfl ea6 hi77 rfl ?_
        refine r_dup2 C dX3_breakOpen_78 (rfl : 78 + 1 = 79) rfl rfl ?_
        obtain ⟨hi79, h⟩ := k_i_of h
        refine a_i (j := ((a6 ((v1).toNatClampNeg))).toNatClampNeg) (f := a1) C dX3_breakOpen_79 (rfl : 79 + 1 = 80) rfl rfl hi79 rfl ?_
        refine r_iload_n C dX3_breakOpen_80 (rfl : 80 + 1 = 81) rfl ?_
        refine r_iadd C dX3_breakOpen_81 (rfl : 81 + 1 = 82) ?_
        obtain ⟨hi82, h⟩ := k_i_of h
        refine s_i (j := ((a6 ((v1).toNatClampNeg))).toNatClampNeg) (f := a1) (us' := [(0, .inl (11, (c0_11 + (1 : Int32)))), (0, .inl (14, c0_14)), (0, .inl (15, c0_15)), (0, .inl (16, c0_16)), (0, .inl (17, c0_17)), (0, .inr (.inl (3, (c0_3 ||| ((1 : Int64) <<< ((v1).toInt64 &&& 63)))))), (0, .inr (.inl (5, (c0_5 &&& (((1 : Int64) <<< ((v1).toInt64 &&& 63)) ^^^ (-1 : Int64)))))), (1, .inr (.inr (.inl (upd a1 (((a6 ((v1).toNatClampNeg))).toNatClampNeg) ((a1 (((a6 ((v1).toNatClampNeg))).toNatClampNeg)) + r19))))), (14, .inr (.inr (.inl a14))), (17, .inr (.inr (.inl a17)))]) C dX3_breakOpen_82 (rfl : 82 + 1 = 83) rfl rfl hi82 rfl ds_X3_breakOpen rfl rfl rfl ?_
        refine r_aload_n C dX3_breakOpen_83 (rfl : 83 + 1 = 84) rfl ?_
        refine r_dup C dX3_breakOpen_84 (rfl : 84 + 1 = 85) rfl ?_
        refine r_getI (v := c0_16) C dX3_breakOpen_85 (rfl : 85 + 3 = 88) fl_X3_78 rfl rfl rfl ?_
        refine r_iload_n C dX3_breakOpen_88 (rfl : 88 + 1 = 89) rfl ?_
        refine r_iadd C dX3_breakOpen_89 (rfl : 89 + 1 = 90) ?_
        refine p_I (us' := [(0, .inl (11, (c0_11 + (1 : Int32)))), (0, .inl (14, c0_14)), (0, .inl (15, c0_15)), (0, .inl (16, (c0_16 + r19))), (0, .inl (17, c0_17)), (0, .inr (.inl (3, (c0_3 ||| ((1 : Int64) <<< ((v1).toInt64 &&& 63)))))), (0, .inr (.inl (5, (c0_5 &&& (((1 : Int64) <<< ((v1).toInt64 &&& 63)) ^^^ (-1 : Int64)))))), (1, .inr (.inr (.inl (upd a1 (((a6 ((v1).toNatClampNeg))).toNatClampNeg) ((a1 (((a6 ((v1).toNatClampNeg))).toNatClampNeg)) + r19))))), (14, .inr (.inr (.inl a14))), (17, .inr (.inr (.inl a17)))]) C dX3_breakOpen_90 (rfl : 90 + 3 = 93) fp_X3_78 rfl rfl ds_X3_breakOpen rfl rfl rfl ?_
        refine r_aload_n C dX3_breakOpen_93 (rfl : 93 + 1 = 94) rfl ?_
        refine r_dup C dX3_breakOpen_94 (rfl : 94 + 1 = 95) rfl ?_
        refine r_getI (v := c0_14) C dX3_breakOpen_95 (rfl : 95 + 3 = 98) fl_X3_69 rfl rfl rfl ?_
        refine r_iload_n C dX3_breakOpen_98 (rfl : 98 + 1 = 99) rfl ?_
        refine r_aload_n C dX3_breakOpen_99 (rfl : 99 + 1 = 100) rfl ?_
        refine r_iload_n C dX3_breakOpen_100 (rfl : 100 + 1 = 101) rfl ?_
        obtain ⟨r101, q101, h⟩ := k_b_of h
        refine d_V (As := [.int v1]) (st := [.int r19, .int c0_14, .ref 0]) (st' := [.int r101.1, .int r19, .int c0_14, .ref 0]) (h' := k_ap [(0, .inl (11, (c0_11 + (1 : Int32)))), (0, .inl (14, c0_14)), (0, .inl (15, c0_15)), (0, .inl (16, (c0_16 + r19))), (0, .inl (17, c0_17)), (0, .inr (.inl (3, (c0_3 ||| ((1 : Int64) <<< ((v1).toInt64 &&& 63)))))), (0, .inr (.inl (5, (c0_5 &&& (((1 : Int64) <<< ((v1).toInt64 &&& 63)) ^^^ (-1 : Int64)))))), (1, .inr (.inr (.inl (upd a1 (((a6 ((v1).toNatClampNeg))).toNatClampNeg) ((a1 (((a6 ((v1).toNatClampNeg))).toNatClampNeg)) + r19))))), (14, .inr (.inr (.inl a14))), (17, .inr (.inr (.inl r101.2)))] (shMine, I, L, Rf)) C hR ⟨Nat.zero_le _, Nat.zero_le _⟩ mv_X3_harmOf lk_X3_162 dX3_breakOpen_101 (rfl : 101 + 3 = 104) rfl rfl rfl rfl (c_X3_harmOf X.l u (k_ap [(0, .inl (11, (c0_11 + (1 : Int32)))), (0, .inl (14, c0_14)), (0, .inl (15, c0_15)), (0, .inl (16, (c0_16 + r19))), (0, .inl (17, c0_17)), (0, .inr (.inl (3, (c0_3 ||| ((1 : Int64) <<< ((v1).toInt64 &&& 63)))))), (0, .inr (.inl (5, (c0_5 &&& (((1 : Int64) <<< ((v1).toInt64 &&& 63)) ^^^ (-1 : Int64)))))), (1, .inr (.inr (.inl (upd a1 (((a6 ((v1).toNatClampNeg))).toNatClampNeg) ((a1 (((a6 ((v1).toNatClampNeg))).toNatClampNeg)) + r19))))), (14, .inr (.inr (.inl a14))), (17, .inr (.inr (.inl a17)))] (shMine, I, L, Rf)) rfl ec0_10 rfl ec0_4 ea6 ea7 ec15_2 ea16 rfl q101) rfl rfl rfl (k_jn (us' := [(0, .inl (11, (c0_11 + (1 : Int32)))), (0, .inl (14, c0_14)), (0, .inl (15, c0_15)), (0, .inl (16, (c0_16 + r19))), (0, .inl (17, c0_17)), (0, .inr (.inl (3, (c0_3 ||| ((1 : Int64) <<< ((v1).toInt64 &&& 63)))))), (0, .inr (.inl (5, (c0_5 &&& (((1 : Int64) <<< ((v1).toInt64 &&& 63)) ^^^ (-1 : Int64)))))), (1, .inr (.inr (.inl (upd a1 (((a6 ((v1).toNatClampNeg))).toNatClampNeg) ((a1 (((a6 ((v1).toNatClampNeg))).toNatClampNeg)) + r19))))), (14, .inr (.inr (.inl a14))), (17, .inr (.inr (.inl r101.2)))]) ds_X3_breakOpen rfl rfl rfl) rfl ?_
        refine r_imul C dX3_breakOpen_104 (rfl : 104 + 1 = 105) ?_
        refine r_iadd C dX3_breakOpen_105 (rfl : 105 + 1 = 106) ?_
        refine p_I (us' := [(0, .inl (11, (c0_11 + (1 : Int32)))), (0, .inl (14, (c0_14 + (r19 * r101.1)))), (0, .inl (15, c0_15)), (0, .inl (16, (c0_16 + r19))), (0, .inl (17, c0_17)), (0, .inr (.inl (3, (c0_3 ||| ((1 : Int64) <<< ((v1).toInt64 &&& 63)))))), (0, .inr (.inl (5, (c0_5 &&& (((1 : Int64) <<< ((v1).toInt64 &&& 63)) ^^^ (-1 : Int64)))))), (1, .inr (.inr (.inl (upd a1 (((a6 ((v1).toNatClampNeg))).toNatClampNeg) ((a1 (((a6 ((v1).toNatClampNeg))).toNatClampNeg)) + r19))))), (14, .inr (.inr (.inl a14))), (17, .inr (.inr (.inl r101.2)))]) C dX3_breakOpen_106 (rfl : 106 + 3 = 109) fp_X3_69 rfl rfl ds_X3_breakOpen rfl rfl rfl ?_
        refine k_mask [true, true, true, false, false, false] ?_
        exact sX3_breakOpen_109 u C hr hR ec0_10 ec0_4 ea6 ea7 ec12_2 ea13 ec15_2 ea16 (c0_11 + (1 : Int32)) (c0_14 + (r19 * r101.1)) c0_15 (c0_16 + r19) c0_17 (c0_3 ||| ((1 : Int64) <<< ((v1).toInt64 &&& 63))) (c0_5 &&& (((1 : Int64) <<< ((v1).toInt64 &&& 63)) ^^^ (-1 : Int64))) (upd a1 (((a6 ((v1).toNatClampNeg))).toNatClampNeg) ((a1 (((a6 ((v1).toNatClampNeg))).toNatClampNeg)) + r19)) a14 r101.2 v1 r13 h
    · have h := k_f c7 h
      cases h
      exact r_vret C hr dX3_breakOpen_10
set_option maxHeartbeats 400000 in
set_option maxRecDepth 100000 in
theorem c_X3_breakOpen (l : Launch) (u : Nat) (h : k_H) (hsh : h.1 = shMine) {c0_10 : Int32} (ec0_10 : h.2.1 0 10 = c0_10) {c0_11 : Int32} (ec0_11 : h.2.1 0 11 = c0_11) {c0_14 : Int32} (ec0_14 : h.2.1 0 14 = c0_14) {c0_15 : Int32} (ec0_15 : h.2.1 0 15 = c0_15) {c0_16 : Int32} (ec0_16 : h.2.1 0 16 = c0_16) {c0_17 : Int32} (ec0_17 : h.2.1 0 17 = c0_17) {c0_3 : Int64} (ec0_3 : h.2.2.1 0 3 = c0_3) {c0_4 : Int64} (ec0_4 : h.2.2.1 0 4 = c0_4) {c0_5 : Int64} (ec0_5 : h.2.2.1 0 5 = c0_5) {a1 : (Nat → Int32)} (ea1 : h.2.1 1 = a1) {a6 : (Nat → Int32)} (ea6 : h.2.1 6 = a6) {a7 : (Nat → Int32)} (ea7 : h.2.1 7 = a7) {c12_2 : Int32} (ec12_2 : h.2.1 12 2 = c12_2) {a13 : (Nat → Int32)} (ea13 : h.2.1 13 = a13) {a14 : (Nat → Int32)} (ea14 : h.2.1 14 = a14) {c15_2 : Int32} (ec15_2 : h.2.1 15 2 = c15_2) {a16 : (Nat → Int32)} (ea16 : h.2.1 16 = a16) {a17 : (Nat → Int32)} (ea17 : h.2.1 17 = a17) {x0 : Int32} {out : Int32 × Int32 × Int32 × Int32 × Int32 × Int64 × Int64 × (Nat → Int32) × (Nat → Int32) × (Nat → Int32)} (hf : f_X3_breakOpen u c0_10 c0_11 c0_14 c0_15 c0_16 c0_17 c0_3 c0_4 c0_5 a1 a6 a7 c12_2 a13 a14 c15_2 a16 a17 x0 = some out) : k_CT l yX3_breakOpen cX3_breakOpen 6 none 4 96 [.ref 0, .int x0] h none [(0, .inl (11, out.1)), (0, .inl (14, out.2.1)), (0, .inl (15, out.2.2.1)), (0, .inl (16, out.2.2.2.1)), (0, .inl (17, out.2.2.2.2.1)), (0, .inr (.inl (3, out.2.2.2.2.2.1))), (0, .inr (.inl (5, out.2.2.2.2.2.2.1))), (1, .inr (.inr (.inl out.2.2.2.2.2.2.2.1))), (14, .inr (.inr (.inl out.2.2.2.2.2.2.2.2.1))), (17, .inr (.inr (.inl out.2.2.2.2.2.2.2.2.2)))] := by
  obtain ⟨sh, I, L, Rf⟩ := h
  try dsimp only
  obtain rfl : sh = shMine := hsh
  refine k_ofW (by decide) (Nat.le_of_ble_eq_true rfl) ?_
  intro X ad hl hR0 hr C
  have hR : X.R.frames = 4 ∧ X.R.locals = 96 := by rw [hR0]; exact ⟨rfl, rfl⟩
  have h := hf
  unfold f_X3_breakOpen at h
  refine k_start (us := [(0, .inl (11, c0_11)), (0, .inl (14, c0_14)), (0, .inl (15, c0_15)), (0, .inl (16, c0_16)), (0, .inl (17, c0_17)), (0, .inr (.inl (3, c0_3))), (0, .inr (.inl (5, c0_5))), (1, .inr (.inr (.inl a1))), (14, .inr (.inr (.inl a14))), (17, .inr (.inr (.inl a17)))]) (k_ao_I ec0_11 (k_ao_I ec0_14 (k_ao_I ec0_15 (k_ao_I ec0_16 (k_ao_I ec0_17 (k_ao_L ec0_3 (k_ao_L ec0_5 (k_ao_A ea1 (k_ao_A ea14 (k_ao_A ea17 k_ap_0)))))))))) ?_
  show k_W X 6 0 0 _ ad (k_ap [(0, .inl (11, c0_11)), (0, .inl (14, c0_14)), (0, .inl (15, c0_15)), (0, .inl (16, c0_16)), (0, .inl (17, c0_17)), (0, .inr (.inl (3, c0_3))), (0, .inr (.inl (5, c0_5))), (1, .inr (.inr (.inl a1))), (14, .inr (.inr (.inl a14))), (17, .inr (.inr (.inl a17)))] (shMine, I, L, Rf)) 0 [some (.ref 0), some (.int x0), none, none, none, none] []
  refine k_mask [true, true, false, false, false, false] ?_
  exact sX3_breakOpen_0 u C hr hR ec0_10 ec0_4 ea6 ea7 ec12_2 ea13 ec15_2 ea16 c0_11 c0_14 c0_15 c0_16 c0_17 c0_3 c0_5 a1 a14 a17 x0 h
/-! LullabyPit$Mine.propUp(I)Z -/
theorem ds_X3_propUp : k_ds [(0, 0, 12), (0, 1, 3), (0, 1, 4)] = true := by decide +kernel
set_option maxHeartbeats 400000 in
set_option maxRecDepth 100000 in
theorem sX3_propUp_0 (u : Nat) {X : k_X} {ad : Nat → Nat} (C : k_C X cX3_propUp RX3 4 ad) (hr : X.meth.sig.returnType = (some .boolean)) (hR : X.R.frames = 1 ∧ X.R.locals = 20) {I : Nat → Nat → Int32} {L : Nat → Nat → Int64} {Rf : Nat → Nat → Option Nat} {c0_15 : Int32} (ec0_15 : I 0 15 = c0_15) {c5_5 : Int64} (ec5_5 : L 5 5 = c5_5) {out : Int32 × Int32 × Int64 × Int64} : ∀ (c0_12 : Int32) (c0_3 : Int64) (c0_4 : Int64) (v1 : Int32), bX3_propUp_0 u c0_15 c5_5 c0_12 c0_3 c0_4 v1 = some out → k_W X 4 0 0 (k_Q X ad (some (.int out.1)) (k_ap [(0, .inl (12, out.2.1)), (0, .inr (.inl (3, out.2.2.1))), (0, .inr (.inl (4, out.2.2.2)))] (shMine, I, L, Rf))) ad (k_ap [(0, .inl (12, c0_12)), (0, .inr (.inl (3, c0_3))), (0, .inr (.inl (4, c0_4)))] (shMine, I, L, Rf)) 0 [some (.ref 0), some (.int v1), none, none] [] := by
  intro c0_12 c0_3 c0_4 v1 h
  unfold bX3_propUp_0 at h
  refine r_lconst (v := (1 : Int64)) C dX3_propUp_0 (rfl : 0 + 1 = 1) rfl ?_
  refine r_iload_n C dX3_propUp_1 (rfl : 1 + 1 = 2) rfl ?_
  refine r_lshl C dX3_propUp_2 (rfl : 2 + 1 = 3) ?_
  refine r_lstore_n C dX3_propUp_3 (rfl : 3 + 1 = 4) (by decide) (Nat.le_of_ble_eq_true rfl) ?_
  show k_W _ _ _ _ _ _ _ _ [some (.ref 0), some (.int v1), some (.long ((1 : Int64) <<< ((v1).toInt64 &&& 63))), none] _
  refine r_aload_n C dX3_propUp_4 (rfl : 4 + 1 = 5) rfl ?_
  refine r_getL (v := c0_3) C dX3_propUp_5 (rfl : 5 + 3 = 8) fl_X3_35 rfl rfl rfl ?_
  refine r_aload_n C dX3_propUp_8 (rfl : 8 + 1 = 9) rfl ?_
  obtain ⟨r9, q9, h⟩ := k_b_of h
  refine d_V (As := []) (st := [.long c0_3]) (st' := [.long r9, .long c0_3]) (h' := k_ap [(0, .inl (12, c0_12)), (0, .inr (.inl (3, c0_3))), (0, .inr (.inl (4, c0_4)))] (shMine, I, L, Rf)) C hR ⟨Nat.zero_le _, Nat.zero_le _⟩ mv_X3_wetCells lk_X3_120 dX3_propUp_9 (rfl : 9 + 3 = 12) rfl rfl rfl rfl (c_X3_wetCells X.l u (k_ap [(0, .inl (12, c0_12)), (0, .inr (.inl (3, c0_3))), (0, .inr (.inl (4, c0_4)))] (shMine, I, L, Rf)) rfl ec0_15 ec5_5 q9) rfl rfl rfl rfl rfl ?_
  refine r_ldc2 C dX3_propUp_12 (rfl : 12 + 3 = 15) ct_X3_115 ?_
  refine r_lxor C dX3_propUp_15 (rfl : 15 + 1 = 16) ?_
  refine r_land C dX3_propUp_16 (rfl : 16 + 1 = 17) ?_
  refine r_lload_n C dX3_propUp_17 (rfl : 17 + 1 = 18) rfl ?_
  refine r_land C dX3_propUp_18 (rfl : 18 + 1 = 19) ?_
  refine r_lconst (v := (0 : Int64)) C dX3_propUp_19 (rfl : 19 + 1 = 20) rfl ?_
  refine r_lcmp C dX3_propUp_20 (rfl : 20 + 1 = 21) ?_
  refine r_if_eq (tgt := 31) C dX3_propUp_21 (by decide) (rfl : 21 + 3 = 24) (fun c21 => ?_) (fun c21 => ?_)
  · have h := k_t c21 h
    refine r_iconst (v := (0 : Int32)) C dX3_propUp_31 (rfl : 31 + 1 = 32) rfl ?_
    cases h
    exact r_zret C hr (Or.inl rfl) dX3_propUp_32
  · have h := k_f c21 h
    refine r_aload_n C dX3_propUp_24 (rfl : 24 + 1 = 25) rfl ?_
    refine r_getI (v := c0_12) C dX3_propUp_25 (rfl : 25 + 3 = 28) fl_X3_63 rfl rfl rfl ?_
    refine r_if_gt (tgt := 33) C dX3_propUp_28 (by decide) (rfl : 28 + 3 = 31) (fun c28 => ?_) (fun c28 => ?_)
    · have h := k_t c28 h
      refine r_aload_n C dX3_propUp_33 (rfl : 33 + 1 = 34) rfl ?_
      refine r_dup C dX3_propUp_34 (rfl : 34 + 1 = 35) rfl ?_
      refine r_getL (v := c0_3) C dX3_propUp_35 (rfl : 35 + 3 = 38) fl_X3_35 rfl rfl rfl ?_
      refine r_lload_n C dX3_propUp_38 (rfl : 38 + 1 = 39) rfl ?_
      refine r_ldc2 C dX3_propUp_39 (rfl : 39 + 3 = 42) ct_X3_115 ?_
      refine r_lxor C dX3_propUp_42 (rfl : 42 + 1 = 43) ?_
      refine r_land C dX3_propUp_43 (rfl : 43 + 1 = 44) ?_
      refine p_L (us' := [(0, .inl (12, c0_12)), (0, .inr (.inl (3, (c0_3 &&& (((1 : Int64) <<< ((v1).toInt64 &&& 63)) ^^^ (-1 : Int64)))))), (0, .inr (.inl (4, c0_4)))]) C dX3_propUp_44 (rfl : 44 + 3 = 47) fp_X3_35 rfl rfl ds_X3_propUp rfl rfl rfl ?_
      refine r_aload_n C dX3_propUp_47 (rfl : 47 + 1 = 48) rfl ?_
      refine r_dup C dX3_propUp_48 (rfl : 48 + 1 = 49) rfl ?_
      refine r_getL (v := c0_4) C dX3_propUp_49 (rfl : 49 + 3 = 52) fl_X3_39 rfl rfl rfl ?_
      refine r_lload_n C dX3_propUp_52 (rfl : 52 + 1 = 53) rfl ?_
      refine r_lor C dX3_propUp_53 (rfl : 53 + 1 = 54) ?_
      refine p_L (us' := [(0, .inl (12, c0_12)), (0, .inr (.inl (3, (c0_3 &&& (((1 : Int64) <<< ((v1).toInt64 &&& 63)) ^^^ (-1 : Int64)))))), (0, .inr (.inl (4, (c0_4 ||| ((1 : Int64) <<< ((v1).toInt64 &&& 63))))))]) C dX3_propUp_54 (rfl : 54 + 3 = 57) fp_X3_39 rfl rfl ds_X3_propUp rfl rfl rfl ?_
      refine r_aload_n C dX3_propUp_57 (rfl : 57 + 1 = 58) rfl ?_
      refine r_dup C dX3_propUp_58 (rfl : 58 + 1 = 59) rfl ?_
      refine r_getI (v := c0_12) C dX3_propUp_59 (rfl : 59 + 3 = 62) fl_X3_63 rfl rfl rfl ?_
      refine r_iconst (v := (1 : Int32)) C dX3_propUp_62 (rfl : 62 + 1 = 63) rfl ?_
      refine r_isub C dX3_propUp_63 (rfl : 63 + 1 = 64) ?_
      refine p_I (us' := [(0, .inl (12, (c0_12 - (1 : Int32)))), (0, .inr (.inl (3, (c0_3 &&& (((1 : Int64) <<< ((v1).toInt64 &&& 63)) ^^^ (-1 : Int64)))))), (0, .inr (.inl (4, (c0_4 ||| ((1 : Int64) <<< ((v1).toInt64 &&& 63))))))]) C dX3_propUp_64 (rfl : 64 + 3 = 67) fp_X3_63 rfl rfl ds_X3_propUp rfl rfl rfl ?_
      refine r_iconst (v := (1 : Int32)) C dX3_propUp_67 (rfl : 67 + 1 = 68) rfl ?_
      cases h
      exact r_zret C hr (Or.inr rfl) dX3_propUp_68
    · have h := k_f c28 h
      refine r_iconst (v := (0 : Int32)) C dX3_propUp_31 (rfl : 31 + 1 = 32) rfl ?_
      cases h
      exact r_zret C hr (Or.inl rfl) dX3_propUp_32
set_option maxHeartbeats 400000 in
set_option maxRecDepth 100000 in
theorem c_X3_propUp (l : Launch) (u : Nat) (h : k_H) (hsh : h.1 = shMine) {c0_12 : Int32} (ec0_12 : h.2.1 0 12 = c0_12) {c0_15 : Int32} (ec0_15 : h.2.1 0 15 = c0_15) {c0_3 : Int64} (ec0_3 : h.2.2.1 0 3 = c0_3) {c0_4 : Int64} (ec0_4 : h.2.2.1 0 4 = c0_4) {c5_5 : Int64} (ec5_5 : h.2.2.1 5 5 = c5_5) {x0 : Int32} {out : Int32 × Int32 × Int64 × Int64} (hf : f_X3_propUp u c0_12 c0_15 c0_3 c0_4 c5_5 x0 = some out) : k_CT l yX3_propUp cX3_propUp 4 (some .boolean) 1 20 [.ref 0, .int x0] h (some (.int out.1)) [(0, .inl (12, out.2.1)), (0, .inr (.inl (3, out.2.2.1))), (0, .inr (.inl (4, out.2.2.2)))] := by
  obtain ⟨sh, I, L, Rf⟩ := h
  try dsimp only
  obtain rfl : sh = shMine := hsh
  refine k_ofW (by decide) (Nat.le_of_ble_eq_true rfl) ?_
  intro X ad hl hR0 hr C
  have hR : X.R.frames = 1 ∧ X.R.locals = 20 := by rw [hR0]; exact ⟨rfl, rfl⟩
  have h := hf
  unfold f_X3_propUp at h
  refine k_start (us := [(0, .inl (12, c0_12)), (0, .inr (.inl (3, c0_3))), (0, .inr (.inl (4, c0_4)))]) (k_ao_I ec0_12 (k_ao_L ec0_3 (k_ao_L ec0_4 k_ap_0))) ?_
  show k_W X 4 0 0 _ ad (k_ap [(0, .inl (12, c0_12)), (0, .inr (.inl (3, c0_3))), (0, .inr (.inl (4, c0_4)))] (shMine, I, L, Rf)) 0 [some (.ref 0), some (.int x0), none, none] []
  refine k_mask [true, true, false, false] ?_
  exact sX3_propUp_0 u C hr hR ec0_15 ec5_5 c0_12 c0_3 c0_4 x0 h
/-! LullabyPit$Mine.pumpDry()Z -/
theorem ds_X3_pumpDry : k_ds [(0, 0, 11), (0, 0, 15)] = true := by decide +kernel
set_option maxHeartbeats 400000 in
set_option maxRecDepth 100000 in
theorem sX3_pumpDry_0 (u : Nat) {X : k_X} {ad : Nat → Nat} (C : k_C X cX3_pumpDry RX3 1 ad) (hr : X.meth.sig.returnType = (some .boolean)) (hR : X.R.frames = 1 ∧ X.R.locals = 20) {I : Nat → Nat → Int32} {L : Nat → Nat → Int64} {Rf : Nat → Nat → Option Nat} {c5_1 : Int32} (ec5_1 : I 5 1 = c5_1) {c5_8 : Int32} (ec5_8 : I 5 8 = c5_8) {out : Int32 × Int32 × Int32} : ∀ (c0_11 : Int32) (c0_15 : Int32), bX3_pumpDry_0 u c5_1 c5_8 c0_11 c0_15 = some out → k_W X 1 0 0 (k_Q X ad (some (.int out.1)) (k_ap [(0, .inl (11, out.2.1)), (0, .inl (15, out.2.2))] (shMine, I, L, Rf))) ad (k_ap [(0, .inl (11, c0_11)), (0, .inl (15, c0_15))] (shMine, I, L, Rf)) 0 [some (.ref 0)] [] := by
  intro c0_11 c0_15 h
  unfold bX3_pumpDry_0 at h
  refine r_aload_n C dX3_pumpDry_0 (rfl : 0 + 1 = 1) rfl ?_
  refine r_getI (v := c0_15) C dX3_pumpDry_1 (rfl : 1 + 3 = 4) fl_X3_75 rfl rfl rfl ?_
  refine r_aload_n C dX3_pumpDry_4 (rfl : 4 + 1 = 5) rfl ?_
  refine r_getR (q := 5) C dX3_pumpDry_5 (rfl : 5 + 3 = 8) fl_X3_24 rfl rfl ?_
  refine r_getI (v := c5_1) C dX3_pumpDry_8 (rfl : 8 + 3 = 11) fl_X3_72 rfl rfl ec5_1 ?_
  refine r_icmp_ge (tgt := 21) C dX3_pumpDry_11 (by decide) (rfl : 11 + 3 = 14) (fun c11 => ?_) (fun c11 => ?_)
  · have h := k_t c11 h
    refine r_iconst (v := (0 : Int32)) C dX3_pumpDry_21 (rfl : 21 + 1 = 22) rfl ?_
    cases h
    exact r_zret C hr (Or.inl rfl) dX3_pumpDry_22
  · have h := k_f c11 h
    refine r_aload_n C dX3_pumpDry_14 (rfl : 14 + 1 = 15) rfl ?_
    obtain ⟨r15, q15, h⟩ := k_b_of h
    refine d_V (As := []) (st := []) (st' := [.int r15]) (h' := k_ap [(0, .inl (11, c0_11)), (0, .inl (15, c0_15))] (shMine, I, L, Rf)) C hR ⟨Nat.zero_le _, Nat.zero_le _⟩ mv_X3_crewIsDone lk_X3_155 dX3_pumpDry_15 (rfl : 15 + 3 = 18) rfl rfl rfl rfl (c_X3_crewIsDone X.l u (k_ap [(0, .inl (11, c0_11)), (0, .inl (15, c0_15))] (shMine, I, L, Rf)) rfl rfl ec5_8 q15) rfl rfl rfl rfl rfl ?_
    refine r_if_eq (tgt := 23) C dX3_pumpDry_18 (by decide) (rfl : 18 + 3 = 21) (fun c18 => ?_) (fun c18 => ?_)
    · have h := k_t c18 h
      refine r_aload_n C dX3_pumpDry_23 (rfl : 23 + 1 = 24) rfl ?_
      refine r_aload_n C dX3_pumpDry_24 (rfl : 24 + 1 = 25) rfl ?_
      refine r_getR (q := 5) C dX3_pumpDry_25 (rfl : 25 + 3 = 28) fl_X3_24 rfl rfl ?_
      refine r_getI (v := c5_1) C dX3_pumpDry_28 (rfl : 28 + 3 = 31) fl_X3_72 rfl rfl ec5_1 ?_
      refine p_I (us' := [(0, .inl (11, c0_11)), (0, .inl (15, c5_1))]) C dX3_pumpDry_31 (rfl : 31 + 3 = 34) fp_X3_75 rfl rfl ds_X3_pumpDry rfl rfl rfl ?_
      refine r_aload_n C dX3_pumpDry_34 (rfl : 34 + 1 = 35) rfl ?_
      refine r_dup C dX3_pumpDry_35 (rfl : 35 + 1 = 36) rfl ?_
      refine r_getI (v := c0_11) C dX3_pumpDry_36 (rfl : 36 + 3 = 39) fl_X3_55 rfl rfl rfl ?_
      refine r_iconst (v := (1 : Int32)) C dX3_pumpDry_39 (rfl : 39 + 1 = 40) rfl ?_
      refine r_iadd C dX3_pumpDry_40 (rfl : 40 + 1 = 41) ?_
      refine p_I (us' := [(0, .inl (11, (c0_11 + (1 : Int32)))), (0, .inl (15, c5_1))]) C dX3_pumpDry_41 (rfl : 41 + 3 = 44) fp_X3_55 rfl rfl ds_X3_pumpDry rfl rfl rfl ?_
      refine r_iconst (v := (1 : Int32)) C dX3_pumpDry_44 (rfl : 44 + 1 = 45) rfl ?_
      cases h
      exact r_zret C hr (Or.inr rfl) dX3_pumpDry_45
    · have h := k_f c18 h
      refine r_iconst (v := (0 : Int32)) C dX3_pumpDry_21 (rfl : 21 + 1 = 22) rfl ?_
      cases h
      exact r_zret C hr (Or.inl rfl) dX3_pumpDry_22
set_option maxHeartbeats 400000 in
set_option maxRecDepth 100000 in
theorem c_X3_pumpDry (l : Launch) (u : Nat) (h : k_H) (hsh : h.1 = shMine) {c0_11 : Int32} (ec0_11 : h.2.1 0 11 = c0_11) {c0_15 : Int32} (ec0_15 : h.2.1 0 15 = c0_15) {c5_1 : Int32} (ec5_1 : h.2.1 5 1 = c5_1) {c5_8 : Int32} (ec5_8 : h.2.1 5 8 = c5_8) {out : Int32 × Int32 × Int32} (hf : f_X3_pumpDry u c0_11 c0_15 c5_1 c5_8 = some out) : k_CT l yX3_pumpDry cX3_pumpDry 1 (some .boolean) 1 20 [.ref 0] h (some (.int out.1)) [(0, .inl (11, out.2.1)), (0, .inl (15, out.2.2))] := by
  obtain ⟨sh, I, L, Rf⟩ := h
  try dsimp only
  obtain rfl : sh = shMine := hsh
  refine k_ofW (by decide) (Nat.le_of_ble_eq_true rfl) ?_
  intro X ad hl hR0 hr C
  have hR : X.R.frames = 1 ∧ X.R.locals = 20 := by rw [hR0]; exact ⟨rfl, rfl⟩
  have h := hf
  unfold f_X3_pumpDry at h
  refine k_start (us := [(0, .inl (11, c0_11)), (0, .inl (15, c0_15))]) (k_ao_I ec0_11 (k_ao_I ec0_15 k_ap_0)) ?_
  show k_W X 1 0 0 _ ad (k_ap [(0, .inl (11, c0_11)), (0, .inl (15, c0_15))] (shMine, I, L, Rf)) 0 [some (.ref 0)] []
  refine k_mask [true] ?_
  exact sX3_pumpDry_0 u C hr hR ec5_1 ec5_8 c0_11 c0_15 h
/-! LullabyPit.isMusic(I)Z -/
theorem ds_X10_isMusic : k_ds [] = true := by decide +kernel
set_option maxHeartbeats 400000 in
set_option maxRecDepth 100000 in
theorem sX10_isMusic_0 (u : Nat) {X : k_X} {ad : Nat → Nat} {sh : List k_Sh} (C : k_C X cX10_isMusic RX10 1 ad) (hr : X.meth.sig.returnType = (some .boolean)) (hR : X.R.frames = 0 ∧ X.R.locals = 0) {I : Nat → Nat → Int32} {L : Nat → Nat → Int64} {Rf : Nat → Nat → Option Nat} {out : Int32} : ∀ (v0 : Int32), bX10_isMusic_0 u v0 = some out → k_W X 1 0 0 (k_Q X ad (some (.int out)) (k_ap [] (sh, I, L, Rf))) ad (k_ap [] (sh, I, L, Rf)) 0 [some (.int v0)] [] := by
  intro v0 h
  unfold bX10_isMusic_0 at h
  refine r_iload_n C dX10_isMusic_0 (rfl : 0 + 1 = 1) rfl ?_
  refine r_iconst (v := (1 : Int32)) C dX10_isMusic_1 (rfl : 1 + 1 = 2) rfl ?_
  refine r_icmp_lt (tgt := 14) C dX10_isMusic_2 (by decide) (rfl : 2 + 3 = 5) (fun c2 => ?_) (fun c2 => ?_)
  · have h := k_t c2 h
    refine r_iconst (v := (0 : Int32)) C dX10_isMusic_14 (rfl : 14 + 1 = 15) rfl ?_
    cases h
    exact r_zret C hr (Or.inl rfl) dX10_isMusic_15
  · have h := k_f c2 h
    refine r_iload_n C dX10_isMusic_5 (rfl : 5 + 1 = 6) rfl ?_
    refine r_iconst (v := (4 : Int32)) C dX10_isMusic_6 (rfl : 6 + 1 = 7) rfl ?_
    refine r_icmp_gt (tgt := 14) C dX10_isMusic_7 (by decide) (rfl : 7 + 3 = 10) (fun c7 => ?_) (fun c7 => ?_)
    · have h := k_t c7 h
      refine r_iconst (v := (0 : Int32)) C dX10_isMusic_14 (rfl : 14 + 1 = 15) rfl ?_
      cases h
      exact r_zret C hr (Or.inl rfl) dX10_isMusic_15
    · have h := k_f c7 h
      refine r_iconst (v := (1 : Int32)) C dX10_isMusic_10 (rfl : 10 + 1 = 11) rfl ?_
      refine r_goto (tgt := 15) C dX10_isMusic_11 (by decide) ?_
      cases h
      exact r_zret C hr (Or.inr rfl) dX10_isMusic_15
set_option maxHeartbeats 400000 in
set_option maxRecDepth 100000 in
theorem c_X10_isMusic (l : Launch) (u : Nat) (h : k_H)  {x0 : Int32} {out : Int32} (hf : f_X10_isMusic u x0 = some out) : k_CT l yX10_isMusic cX10_isMusic 1 (some .boolean) 0 0 [.int x0] h (some (.int out)) [] := by
  obtain ⟨sh, I, L, Rf⟩ := h
  try dsimp only
  refine k_ofW (by decide) (Nat.le_of_ble_eq_true rfl) ?_
  intro X ad hl hR0 hr C
  have hR : X.R.frames = 0 ∧ X.R.locals = 0 := by rw [hR0]; exact ⟨rfl, rfl⟩
  have h := hf
  unfold f_X10_isMusic at h
  refine k_start (us := []) k_ap_0 ?_
  show k_W X 1 0 0 _ ad (k_ap [] (sh, I, L, Rf)) 0 [some (.int x0)] []
  refine k_mask [true] ?_
  exact sX10_isMusic_0 u C hr hR x0 h
/-! LullabyPit$Mine.sellBars(II)Z -/
theorem ds_X3_sellBars : k_ds [(0, 0, 13), (1, 2, 0), (2, 2, 0)] = true := by decide +kernel
set_option maxHeartbeats 400000 in
set_option maxRecDepth 100000 in
theorem sX3_sellBars_0 (u : Nat) {X : k_X} {ad : Nat → Nat} (C : k_C X cX3_sellBars RX3 3 ad) (hr : X.meth.sig.returnType = (some .boolean)) (hR : X.R.frames = 1 ∧ X.R.locals = 20) {I : Nat → Nat → Int32} {L : Nat → Nat → Int64} {Rf : Nat → Nat → Option Nat} {a8 : (Nat → Int32)} (ea8 : I 8 = a8) {out : Int32 × Int32 × (Nat → Int32) × (Nat → Int32)} : ∀ (c0_13 : Int32) (a1 : (Nat → Int32)) (a2 : (Nat → Int32)) (v1 : Int32) (v2 : Int32), bX3_sellBars_0 u a8 c0_13 a1 a2 v1 v2 = some out → k_W X 3 0 0 (k_Q X ad (some (.int out.1)) (k_ap [(0, .inl (13, out.2.1)), (1, .inr (.inr (.inl out.2.2.1))), (2, .inr (.inr (.inl out.2.2.2)))] (shMine, I, L, Rf))) ad (k_ap [(0, .inl (13, c0_13)), (1, .inr (.inr (.inl a1))), (2, .inr (.inr (.inl a2)))] (shMine, I, L, Rf)) 0 [some (.ref 0), some (.int v1), some (.int v2)] [] := by
  intro c0_13 a1 a2 v1 v2 h
  unfold bX3_sellBars_0 at h
  refine r_iload_n C dX3_sellBars_0 (rfl : 0 + 1 = 1) rfl ?_
  obtain ⟨r1, q1, h⟩ := k_b_of h
  refine d_S (As := [.int v1]) (st := []) (st' := [.int r1]) (h' := k_ap [(0, .inl (13, c0_13)), (1, .inr (.inr (.inl a1))), (2, .inr (.inr (.inl a2)))] (shMine, I, L, Rf)) C hR ⟨Nat.zero_le _, Nat.zero_le _⟩ ms_X10_isMusic lk_X3_180 dX3_sellBars_1 (rfl : 1 + 3 = 4) rfl rfl (c_X10_isMusic X.l u (k_ap [(0, .inl (13, c0_13)), (1, .inr (.inr (.inl a1))), (2, .inr (.inr (.inl a2)))] (shMine, I, L, Rf))  q1) rfl rfl rfl rfl rfl ?_
  refine r_if_eq (tgt := 17) C dX3_sellBars_4 (by decide) (rfl : 4 + 3 = 7) (fun c4 => ?_) (fun c4 => ?_)
  · have h := k_t c4 h
    refine r_iconst (v := (0 : Int32)) C dX3_sellBars_17 (rfl : 17 + 1 = 18) rfl ?_
    cases h
    exact r_zret C hr (Or.inl rfl) dX3_sellBars_18
  · have h := k_f c4 h
    refine r_aload_n C dX3_sellBars_7 (rfl : 7 + 1 = 8) rfl ?_
    refine r_getR (q := 1) C dX3_sellBars_8 (rfl : 8 + 3 = 11) fl_X3_9 rfl rfl ?_
    refine r_iload_n C dX3_sellBars_11 (rfl : 11 + 1 = 12) rfl ?_
    obtain ⟨hi12, h⟩ := k_i_of h
    refine a_i (j := (v1).toNatClampNeg) (f := a1) C dX3_sellBars_12 (rfl : 12 + 1 = 13) rfl rfl hi12 rfl ?_
    refine r_iload_n C dX3_sellBars_13 (rfl : 13 + 1 = 14) rfl ?_
    refine r_icmp_ge (tgt := 19) C dX3_sellBars_14 (by decide) (rfl : 14 + 3 = 17) (fun c14 => ?_) (fun c14 => ?_)
    · have h := k_t c14 h
      refine r_aload_n C dX3_sellBars_19 (rfl : 19 + 1 = 20) rfl ?_
      refine r_getR (q := 1) C dX3_sellBars_20 (rfl : 20 + 3 = 23) fl_X3_9 rfl rfl ?_
      refine r_iload_n C dX3_sellBars_23 (rfl : 23 + 1 = 24) rfl ?_
      refine r_dup2 C dX3_sellBars_24 (rfl : 24 + 1 = 25) rfl rfl ?_
      obtain ⟨hi25, h⟩ := k_i_of h
      refine a_i (j := (v1).toNatClampNeg) (f := a1) C dX3_sellBars_25 (rfl : 25 + 1 = 26) rfl rfl hi25 rfl ?_
      refine r_iload_n C dX3_sellBars_26 (rfl : 26 + 1 = 27) rfl ?_
      refine r_isub C dX3_sellBars_27 (rfl : 27 + 1 = 28) ?_
      obtain ⟨hi28, h⟩ := k_i_of h
      refine s_i (j := (v1).toNatClampNeg) (f := a1) (us' := [(0, .inl (13, c0_13)), (1, .inr (.inr (.inl (upd a1 ((v1).toNatClampNeg) ((a1 ((v1).toNatClampNeg)) - v2))))), (2, .inr (.inr (.inl a2)))]) C dX3_sellBars_28 (rfl : 28 + 1 = 29) rfl rfl hi28 rfl ds_X3_sellBars rfl rfl rfl ?_
      refine r_aload_n C dX3_sellBars_29 (rfl : 29 + 1 = 30) rfl ?_
      refine r_getR (q := 2) C dX3_sellBars_30 (rfl : 30 + 3 = 33) fl_X3_15 rfl rfl ?_
      refine r_iload_n C dX3_sellBars_33 (rfl : 33 + 1 = 34) rfl ?_
      refine r_dup2 C dX3_sellBars_34 (rfl : 34 + 1 = 35) rfl rfl ?_
      obtain ⟨hi35, h⟩ := k_i_of h
      refine a_i (j := (v1).toNatClampNeg) (f := a2) C dX3_sellBars_35 (rfl : 35 + 1 = 36) rfl rfl hi35 rfl ?_
      refine r_iload_n C dX3_sellBars_36 (rfl : 36 + 1 = 37) rfl ?_
      refine r_iadd C dX3_sellBars_37 (rfl : 37 + 1 = 38) ?_
      obtain ⟨hi38, h⟩ := k_i_of h
      refine s_i (j := (v1).toNatClampNeg) (f := a2) (us' := [(0, .inl (13, c0_13)), (1, .inr (.inr (.inl (upd a1 ((v1).toNatClampNeg) ((a1 ((v1).toNatClampNeg)) - v2))))), (2, .inr (.inr (.inl (upd a2 ((v1).toNatClampNeg) ((a2 ((v1).toNatClampNeg)) + v2)))))]) C dX3_sellBars_38 (rfl : 38 + 1 = 39) rfl rfl hi38 rfl ds_X3_sellBars rfl rfl rfl ?_
      refine r_aload_n C dX3_sellBars_39 (rfl : 39 + 1 = 40) rfl ?_
      refine r_dup C dX3_sellBars_40 (rfl : 40 + 1 = 41) rfl ?_
      refine r_getI (v := c0_13) C dX3_sellBars_41 (rfl : 41 + 3 = 44) fl_X3_66 rfl rfl rfl ?_
      refine r_iload_n C dX3_sellBars_44 (rfl : 44 + 1 = 45) rfl ?_
      refine r_aload_n C dX3_sellBars_45 (rfl : 45 + 1 = 46) rfl ?_
      refine r_getR (q := 5) C dX3_sellBars_46 (rfl : 46 + 3 = 49) fl_X3_24 rfl rfl ?_
      refine r_getR (q := 8) C dX3_sellBars_49 (rfl : 49 + 3 = 52) fl_X3_134 rfl rfl ?_
      refine r_iload_n C dX3_sellBars_52 (rfl : 52 + 1 = 53) rfl ?_
      obtain ⟨hi53, h⟩ := k_i_of h
      refine a_i (j := (v1).toNatClampNeg) (f := a8) C dX3_sellBars_53 (rfl : 53 + 1 = 54) rfl ea8 hi53 rfl ?_
      refine r_imul C dX3_sellBars_54 (rfl : 54 + 1 = 55) ?_
      refine r_iadd C dX3_sellBars_55 (rfl : 55 + 1 = 56) ?_
      refine p_I (us' := [(0, .inl (13, (c0_13 + (v2 * (a8 ((v1).toNatClampNeg)))))), (1, .inr (.inr (.inl (upd a1 ((v1).toNatClampNeg) ((a1 ((v1).toNatClampNeg)) - v2))))), (2, .inr (.inr (.inl (upd a2 ((v1).toNatClampNeg) ((a2 ((v1).toNatClampNeg)) + v2)))))]) C dX3_sellBars_56 (rfl : 56 + 3 = 59) fp_X3_66 rfl rfl ds_X3_sellBars rfl rfl rfl ?_
      refine r_iconst (v := (1 : Int32)) C dX3_sellBars_59 (rfl : 59 + 1 = 60) rfl ?_
      cases h
      exact r_zret C hr (Or.inr rfl) dX3_sellBars_60
    · have h := k_f c14 h
      refine r_iconst (v := (0 : Int32)) C dX3_sellBars_17 (rfl : 17 + 1 = 18) rfl ?_
      cases h
      exact r_zret C hr (Or.inl rfl) dX3_sellBars_18
set_option maxHeartbeats 400000 in
set_option maxRecDepth 100000 in
theorem c_X3_sellBars (l : Launch) (u : Nat) (h : k_H) (hsh : h.1 = shMine) {c0_13 : Int32} (ec0_13 : h.2.1 0 13 = c0_13) {a1 : (Nat → Int32)} (ea1 : h.2.1 1 = a1) {a2 : (Nat → Int32)} (ea2 : h.2.1 2 = a2) {a8 : (Nat → Int32)} (ea8 : h.2.1 8 = a8) {x0 : Int32} {x1 : Int32} {out : Int32 × Int32 × (Nat → Int32) × (Nat → Int32)} (hf : f_X3_sellBars u c0_13 a1 a2 a8 x0 x1 = some out) : k_CT l yX3_sellBars cX3_sellBars 3 (some .boolean) 1 20 [.ref 0, .int x0, .int x1] h (some (.int out.1)) [(0, .inl (13, out.2.1)), (1, .inr (.inr (.inl out.2.2.1))), (2, .inr (.inr (.inl out.2.2.2)))] := by
  obtain ⟨sh, I, L, Rf⟩ := h
  try dsimp only
  obtain rfl : sh = shMine := hsh
  refine k_ofW (by decide) (Nat.le_of_ble_eq_true rfl) ?_
  intro X ad hl hR0 hr C
  have hR : X.R.frames = 1 ∧ X.R.locals = 20 := by rw [hR0]; exact ⟨rfl, rfl⟩
  have h := hf
  unfold f_X3_sellBars at h
  refine k_start (us := [(0, .inl (13, c0_13)), (1, .inr (.inr (.inl a1))), (2, .inr (.inr (.inl a2)))]) (k_ao_I ec0_13 (k_ao_A ea1 (k_ao_A ea2 k_ap_0))) ?_
  show k_W X 3 0 0 _ ad (k_ap [(0, .inl (13, c0_13)), (1, .inr (.inr (.inl a1))), (2, .inr (.inr (.inl a2)))] (shMine, I, L, Rf)) 0 [some (.ref 0), some (.int x0), some (.int x1)] []
  refine k_mask [true, true, true] ?_
  exact sX3_sellBars_0 u C hr hR ea8 c0_13 a1 a2 x0 x1 h
/-! LullabyPit$Mine.lacking(I)I -/
theorem ds_X3_lacking : k_ds [] = true := by decide +kernel
set_option maxHeartbeats 400000 in
set_option maxRecDepth 100000 in
theorem sX3_lacking_4 (u : Nat) {X : k_X} {ad : Nat → Nat} (C : k_C X cX3_lacking RX3 4 ad) (hr : X.meth.sig.returnType = (some .int)) (hR : X.R.frames = 1 ∧ X.R.locals = 24) {I : Nat → Nat → Int32} {L : Nat → Nat → Int64} {Rf : Nat → Nat → Option Nat} {a1 : (Nat → Int32)} (ea1 : I 1 = a1) {c5_10 : Int32} (ec5_10 : I 5 10 = c5_10) {a10 : (Nat → Int32)} (ea10 : I 10 = a10) {a11 : (Nat → Int32)} (ea11 : I 11 = a11) {out : Int32} : ∀ (n : Nat) (v1 : Int32) (v2 : Int32) (v3 : Int32), bX3_lacking_4 u a1 c5_10 a10 a11 n v1 v2 v3 = some out → k_W X 4 0 0 (k_Q X ad (some (.int out)) (k_ap [] (shMine, I, L, Rf))) ad (k_ap [] (shMine, I, L, Rf)) 4 [some (.ref 0), some (.int v1), some (.int v2), some (.int v3)] [] := by
  intro n
  induction n with
  | zero => intro v1 v2 v3 h; cases h
  | succ n ih =>
    intro v1 v2 v3 h
    refine r_iload_n C dX3_lacking_4 (rfl : 4 + 1 = 5) rfl ?_
    refine r_iconst (v := (4 : Int32)) C dX3_lacking_5 (rfl : 5 + 1 = 6) rfl ?_
    refine r_icmp_gt (tgt := 38) C dX3_lacking_6 (by decide) (rfl : 6 + 3 = 9) (fun c6 => ?_) (fun c6 => ?_)
    · have h := k_t c6 h
      refine r_iload_n C dX3_lacking_38 (rfl : 38 + 1 = 39) rfl ?_
      cases h
      exact r_iret C hr dX3_lacking_39
    · have h := k_f c6 h
      refine r_iload_n C dX3_lacking_9 (rfl : 9 + 1 = 10) rfl ?_
      refine r_iconst (v := (0 : Int32)) C dX3_lacking_10 (rfl : 10 + 1 = 11) rfl ?_
      refine r_aload_n C dX3_lacking_11 (rfl : 11 + 1 = 12) rfl ?_
      refine r_getR (q := 5) C dX3_lacking_12 (rfl : 12 + 3 = 15) fl_X3_24 rfl rfl ?_
      refine r_iload_n C dX3_lacking_15 (rfl : 15 + 1 = 16) rfl ?_
      refine r_iload_n C dX3_lacking_16 (rfl : 16 + 1 = 17) rfl ?_
      obtain ⟨r17, q17, h⟩ := k_b_of h
      refine d_Vp (pi := [5, 6, 7, 8, 9, 10, 11]) (shl := shPit) (bl := 0) (As := [.int v1, .int v3]) (Al := [.int v1, .int v3]) (st := [.int (0 : Int32), .int v2]) (st' := [.int r17, .int (0 : Int32), .int v2]) (h' := k_ap [] (shMine, I, L, Rf)) C hR ⟨Nat.zero_le _, Nat.zero_le _⟩ mv_X5_wanted lk_X3_196 dX3_lacking_17 (rfl : 17 + 3 = 20) rfl rfl ck_shMine_shPit_5_10 rfl rfl (c_X5_wanted X.l u (k_pl [5, 6, 7, 8, 9, 10, 11] shPit (k_ap [] (shMine, I, L, Rf))) rfl ec5_10 ea10 ea11 q17) rfl (fun _ => rfl) rfl (fun _ => rfl) rfl rfl rfl rfl rfl ?_
      refine r_aload_n C dX3_lacking_20 (rfl : 20 + 1 = 21) rfl ?_
      refine r_getR (q := 1) C dX3_lacking_21 (rfl : 21 + 3 = 24) fl_X3_9 rfl rfl ?_
      refine r_iload_n C dX3_lacking_24 (rfl : 24 + 1 = 25) rfl ?_
      obtain ⟨hi25, h⟩ := k_i_of h
      refine a_i (j := (v3).toNatClampNeg) (f := a1) C dX3_lacking_25 (rfl : 25 + 1 = 26) rfl ea1 hi25 rfl ?_
      refine r_isub C dX3_lacking_26 (rfl : 26 + 1 = 27) ?_
      refine r_max C hR dX3_lacking_27 (rfl : 27 + 3 = 30) lm_X3_199 rfl rfl rfl ?_
      refine r_iadd C dX3_lacking_30 (rfl : 30 + 1 = 31) ?_
      refine r_istore_n C dX3_lacking_31 (rfl : 31 + 1 = 32) (by decide) (Nat.le_of_ble_eq_true rfl) ?_
      show k_W _ _ _ _ _ _ _ _ [some (.ref 0), some (.int v1), some (.int (v2 + (if (0 : Int32) < (r17 - (a1 ((v3).toNatClampNeg))) then (r17 - (a1 ((v3).toNatClampNeg))) else (0 : Int32)))), some (.int v3)] _
      refine r_iinc (v := (v3 + (1 : Int32))) C dX3_lacking_32 (rfl : 32 + 3 = 35) rfl rfl (by decide) ?_
      show k_W _ _ _ _ _ _ _ _ [some (.ref 0), some (.int v1), some (.int (v2 + (if (0 : Int32) < (r17 - (a1 ((v3).toNatClampNeg))) then (r17 - (a1 ((v3).toNatClampNeg))) else (0 : Int32)))), some (.int (v3 + (1 : Int32)))] _
      refine r_goto (tgt := 4) C dX3_lacking_35 (by decide) ?_
      refine k_mask [true, true, true, true] ?_
      exact ih v1 (v2 + (if (0 : Int32) < (r17 - (a1 ((v3).toNatClampNeg))) then (r17 - (a1 ((v3).toNatClampNeg))) else (0 : Int32))) (v3 + (1 : Int32)) h
set_option maxHeartbeats 400000 in
set_option maxRecDepth 100000 in
theorem sX3_lacking_0 (u : Nat) {X : k_X} {ad : Nat → Nat} (C : k_C X cX3_lacking RX3 4 ad) (hr : X.meth.sig.returnType = (some .int)) (hR : X.R.frames = 1 ∧ X.R.locals = 24) {I : Nat → Nat → Int32} {L : Nat → Nat → Int64} {Rf : Nat → Nat → Option Nat} {a1 : (Nat → Int32)} (ea1 : I 1 = a1) {c5_10 : Int32} (ec5_10 : I 5 10 = c5_10) {a10 : (Nat → Int32)} (ea10 : I 10 = a10) {a11 : (Nat → Int32)} (ea11 : I 11 = a11) {out : Int32} : ∀ (v1 : Int32), bX3_lacking_0 u a1 c5_10 a10 a11 v1 = some out → k_W X 4 0 0 (k_Q X ad (some (.int out)) (k_ap [] (shMine, I, L, Rf))) ad (k_ap [] (shMine, I, L, Rf)) 0 [some (.ref 0), some (.int v1), none, none] [] := by
  intro v1 h
  unfold bX3_lacking_0 at h
  refine r_iconst (v := (0 : Int32)) C dX3_lacking_0 (rfl : 0 + 1 = 1) rfl ?_
  refine r_istore_n C dX3_lacking_1 (rfl : 1 + 1 = 2) (by decide) (Nat.le_of_ble_eq_true rfl) ?_
  show k_W _ _ _ _ _ _ _ _ [some (.ref 0), some (.int v1), some (.int (0 : Int32)), none] _
  refine r_iconst (v := (1 : Int32)) C dX3_lacking_2 (rfl : 2 + 1 = 3) rfl ?_
  refine r_istore_n C dX3_lacking_3 (rfl : 3 + 1 = 4) (by decide) (Nat.le_of_ble_eq_true rfl) ?_
  show k_W _ _ _ _ _ _ _ _ [some (.ref 0), some (.int v1), some (.int (0 : Int32)), some (.int (1 : Int32))] _
  refine k_mask [true, true, true, true] ?_
  exact sX3_lacking_4 u C hr hR ea1 ec5_10 ea10 ea11 u v1 (0 : Int32) (1 : Int32) h
set_option maxHeartbeats 400000 in
set_option maxRecDepth 100000 in
theorem c_X3_lacking (l : Launch) (u : Nat) (h : k_H) (hsh : h.1 = shMine) {a1 : (Nat → Int32)} (ea1 : h.2.1 1 = a1) {c5_10 : Int32} (ec5_10 : h.2.1 5 10 = c5_10) {a10 : (Nat → Int32)} (ea10 : h.2.1 10 = a10) {a11 : (Nat → Int32)} (ea11 : h.2.1 11 = a11) {x0 : Int32} {out : Int32} (hf : f_X3_lacking u a1 c5_10 a10 a11 x0 = some out) : k_CT l yX3_lacking cX3_lacking 4 (some .int) 1 24 [.ref 0, .int x0] h (some (.int out)) [] := by
  obtain ⟨sh, I, L, Rf⟩ := h
  try dsimp only
  obtain rfl : sh = shMine := hsh
  refine k_ofW (by decide) (Nat.le_of_ble_eq_true rfl) ?_
  intro X ad hl hR0 hr C
  have hR : X.R.frames = 1 ∧ X.R.locals = 24 := by rw [hR0]; exact ⟨rfl, rfl⟩
  have h := hf
  unfold f_X3_lacking at h
  refine k_start (us := []) k_ap_0 ?_
  show k_W X 4 0 0 _ ad (k_ap [] (shMine, I, L, Rf)) 0 [some (.ref 0), some (.int x0), none, none] []
  refine k_mask [true, true, false, false] ?_
  exact sX3_lacking_0 u C hr hR ea1 ec5_10 ea10 ea11 x0 h
