theorem c_X6_run_r (l : Launch) (u : Nat) : ∀ d : Nat, H_X6_run l (f_X6_run_r u d) (6 * d) (144 * d)
  | 0 => by
    intro h hsh
    intros
    rename_i hf
    cases hf
  | d + 1 => by
    intro h hsh
    intros
    rename_i hf
    exact c_X6_run l u (f_X6_run_r u d) (c_X6_run_r l u d) h hsh (by assumption) (by assumption) (by assumption) (by assumption) (by assumption) (by assumption) (by assumption) (by assumption) (by assumption) (by assumption) (by assumption) (by assumption) (by assumption) (by assumption) (by assumption) (by assumption) (by assumption) (by assumption) (by assumption) (by assumption) (by assumption) (by assumption) (by assumption) (by assumption) (by assumption) (by assumption) (by assumption) (by assumption) (by assumption) (by assumption) (by assumption) (by assumption) (by assumption) (by assumption) (by assumption) (by assumption) (by assumption) (by assumption) hf
/-! LullabyPitModel.law(II)I -/
theorem ds_X11_law : k_ds [(0, 0, 0), (0, 0, 2), (0, 0, 3), (0, 0, 4), (0, 0, 5), (0, 0, 6), (0, 0, 7), (0, 0, 8), (0, 0, 37), (1, 2, 0), (11, 2, 0), (12, 2, 0), (13, 2, 0), (14, 2, 0), (15, 2, 0)] = true := by decide +kernel
set_option maxHeartbeats 400000 in
set_option maxRecDepth 100000 in
theorem sX11_law_115 (u : Nat) {X : k_X} {ad : Nat → Nat} (C : k_C X cX11_law RX11 5 ad) (hr : X.meth.sig.returnType = (some .int)) (hR : X.R.frames = 73 ∧ X.R.locals = 1551) {I : Nat → Nat → Int32} {L : Nat → Nat → Int64} {Rf : Nat → Nat → Option Nat} {a2 : (Nat → Int32)} (ea2 : I 2 = a2) {out : Int32 × Int32 × Int32 × Int32 × Int32 × Int32 × Int32 × Int32 × Int32 × Int32 × (Nat → Int32) × (Nat → Int32) × (Nat → Int32) × (Nat → Int32) × (Nat → Int32) × (Nat → Int32)} : ∀ (n : Nat) (c0_0 : Int32) (c0_2 : Int32) (c0_3 : Int32) (c0_4 : Int32) (c0_5 : Int32) (c0_6 : Int32) (c0_7 : Int32) (c0_8 : Int32) (c0_37 : Int32) (a1 : (Nat → Int32)) (a11 : (Nat → Int32)) (a12 : (Nat → Int32)) (a13 : (Nat → Int32)) (a14 : (Nat → Int32)) (a15 : (Nat → Int32)) (v1 : Int32) (v3 : Int32) (v4 : Int32), bX11_law_115 u a2 n c0_0 c0_2 c0_3 c0_4 c0_5 c0_6 c0_7 c0_8 c0_37 a1 a11 a12 a13 a14 a15 v1 v3 v4 = some out → k_W X 5 0 0 (k_Q X ad (some (.int out.1)) (k_ap [(0, .inl (0, out.2.1)), (0, .inl (2, out.2.2.1)), (0, .inl (3, out.2.2.2.1)), (0, .inl (4, out.2.2.2.2.1)), (0, .inl (5, out.2.2.2.2.2.1)), (0, .inl (6, out.2.2.2.2.2.2.1)), (0, .inl (7, out.2.2.2.2.2.2.2.1)), (0, .inl (8, out.2.2.2.2.2.2.2.2.1)), (0, .inl (37, out.2.2.2.2.2.2.2.2.2.1)), (1, .inr (.inr (.inl out.2.2.2.2.2.2.2.2.2.2.1))), (11, .inr (.inr (.inl out.2.2.2.2.2.2.2.2.2.2.2.1))), (12, .inr (.inr (.inl out.2.2.2.2.2.2.2.2.2.2.2.2.1))), (13, .inr (.inr (.inl out.2.2.2.2.2.2.2.2.2.2.2.2.2.1))), (14, .inr (.inr (.inl out.2.2.2.2.2.2.2.2.2.2.2.2.2.2.1))), (15, .inr (.inr (.inl out.2.2.2.2.2.2.2.2.2.2.2.2.2.2.2)))] (shM, I, L, Rf))) ad (k_ap [(0, .inl (0, c0_0)), (0, .inl (2, c0_2)), (0, .inl (3, c0_3)), (0, .inl (4, c0_4)), (0, .inl (5, c0_5)), (0, .inl (6, c0_6)), (0, .inl (7, c0_7)), (0, .inl (8, c0_8)), (0, .inl (37, c0_37)), (1, .inr (.inr (.inl a1))), (11, .inr (.inr (.inl a11))), (12, .inr (.inr (.inl a12))), (13, .inr (.inr (.inl a13))), (14, .inr (.inr (.inl a14))), (15, .inr (.inr (.inl a15)))] (shM, I, L, Rf)) 115 [some (.ref 0), some (.int v1), none, some (.int v3), some (.int v4)] [] := by
  intro n
  induction n with
  | zero => intro c0_0 c0_2 c0_3 c0_4 c0_5 c0_6 c0_7 c0_8 c0_37 a1 a11 a12 a13 a14 a15 v1 v3 v4 h; cases h
  | succ n ih =>
    intro c0_0 c0_2 c0_3 c0_4 c0_5 c0_6 c0_7 c0_8 c0_37 a1 a11 a12 a13 a14 a15 v1 v3 v4 h
    refine r_iload C dX11_law_115 (rfl : 115 + 2 = 117) rfl ?_
    refine r_aload_n C dX11_law_117 (rfl : 117 + 1 = 118) rfl ?_
    refine r_getI (v := c0_37) C dX11_law_118 (rfl : 118 + 3 = 121) fl_X11_276 (k_gS rfl) rfl (k_gI ds_X11_law rfl 8 rfl) ?_
    refine r_icmp_ge (tgt := 170) C dX11_law_121 (by decide) (rfl : 121 + 3 = 124) (fun c121 => ?_) (fun c121 => ?_)
    · have h := k_t c121 h
      refine r_iload_n C dX11_law_170 (rfl : 170 + 1 = 171) rfl ?_
      cases h
      exact r_iret C hr dX11_law_171
    · have h := k_f c121 h
      refine r_aload_n C dX11_law_124 (rfl : 124 + 1 = 125) rfl ?_
      refine r_getR (q := 13) C dX11_law_125 (rfl : 125 + 3 = 128) fl_X11_53 (k_gS rfl) rfl ?_
      refine r_sipush (v := (150 : Int32)) C dX11_law_128 (rfl : 128 + 3 = 131) rfl ?_
      refine r_iload_n C dX11_law_131 (rfl : 131 + 1 = 132) rfl ?_
      refine r_imul C dX11_law_132 (rfl : 132 + 1 = 133) ?_
      refine r_iload C dX11_law_133 (rfl : 133 + 2 = 135) rfl ?_
      refine r_iadd C dX11_law_135 (rfl : 135 + 1 = 136) ?_
      refine r_aload_n C dX11_law_136 (rfl : 136 + 1 = 137) rfl ?_
      refine r_getR (q := 11) C dX11_law_137 (rfl : 137 + 3 = 140) fl_X11_47 (k_gS rfl) rfl ?_
      refine r_iload C dX11_law_140 (rfl : 140 + 2 = 142) rfl ?_
      obtain ⟨hi142, h⟩ := k_i_of h
      refine a_i (j := (v4).toNatClampNeg) (f := a11) C dX11_law_142 (rfl : 142 + 1 = 143) (k_gS rfl) (k_gA ds_X11_law rfl 10 rfl) hi142 rfl ?_
      obtain ⟨hi143, h⟩ := k_i_of h
      refine s_i (j := ((((150 : Int32) * v1) + v4)).toNatClampNeg) (f := a13) (us' := [(0, .inl (0, c0_0)), (0, .inl (2, c0_2)), (0, .inl (3, c0_3)), (0, .inl (4, c0_4)), (0, .inl (5, c0_5)), (0, .inl (6, c0_6)), (0, .inl (7, c0_7)), (0, .inl (8, c0_8)), (0, .inl (37, c0_37)), (1, .inr (.inr (.inl a1))), (11, .inr (.inr (.inl a11))), (12, .inr (.inr (.inl a12))), (13, .inr (.inr (.inl (upd a13 (((((150 : Int32) * v1) + v4)).toNatClampNeg) (a11 ((v4).toNatClampNeg)))))), (14, .inr (.inr (.inl a14))), (15, .inr (.inr (.inl a15)))]) C dX11_law_143 (rfl : 143 + 1 = 144) rfl (k_gA ds_X11_law rfl 12 rfl) hi143 rfl ds_X11_law rfl rfl rfl ?_
      refine r_aload_n C dX11_law_144 (rfl : 144 + 1 = 145) rfl ?_
      refine r_getR (q := 14) C dX11_law_145 (rfl : 145 + 3 = 148) fl_X11_56 (k_gS rfl) rfl ?_
      refine r_sipush (v := (150 : Int32)) C dX11_law_148 (rfl : 148 + 3 = 151) rfl ?_
      refine r_iload_n C dX11_law_151 (rfl : 151 + 1 = 152) rfl ?_
      refine r_imul C dX11_law_152 (rfl : 152 + 1 = 153) ?_
      refine r_iload C dX11_law_153 (rfl : 153 + 2 = 155) rfl ?_
      refine r_iadd C dX11_law_155 (rfl : 155 + 1 = 156) ?_
      refine r_aload_n C dX11_law_156 (rfl : 156 + 1 = 157) rfl ?_
      refine r_getR (q := 12) C dX11_law_157 (rfl : 157 + 3 = 160) fl_X11_50 (k_gS rfl) rfl ?_
      refine r_iload C dX11_law_160 (rfl : 160 + 2 = 162) rfl ?_
      obtain ⟨hi162, h⟩ := k_i_of h
      refine a_i (j := (v4).toNatClampNeg) (f := a12) C dX11_law_162 (rfl : 162 + 1 = 163) (k_gS rfl) (k_gA ds_X11_law rfl 11 rfl) hi162 rfl ?_
      obtain ⟨hi163, h⟩ := k_i_of h
      refine s_i (j := ((((150 : Int32) * v1) + v4)).toNatClampNeg) (f := a14) (us' := [(0, .inl (0, c0_0)), (0, .inl (2, c0_2)), (0, .inl (3, c0_3)), (0, .inl (4, c0_4)), (0, .inl (5, c0_5)), (0, .inl (6, c0_6)), (0, .inl (7, c0_7)), (0, .inl (8, c0_8)), (0, .inl (37, c0_37)), (1, .inr (.inr (.inl a1))), (11, .inr (.inr (.inl a11))), (12, .inr (.inr (.inl a12))), (13, .inr (.inr (.inl (upd a13 (((((150 : Int32) * v1) + v4)).toNatClampNeg) (a11 ((v4).toNatClampNeg)))))), (14, .inr (.inr (.inl (upd a14 (((((150 : Int32) * v1) + v4)).toNatClampNeg) (a12 ((v4).toNatClampNeg)))))), (15, .inr (.inr (.inl a15)))]) C dX11_law_163 (rfl : 163 + 1 = 164) rfl (k_gA ds_X11_law rfl 13 rfl) hi163 rfl ds_X11_law rfl rfl rfl ?_
      refine r_iinc (v := (v4 + (1 : Int32))) C dX11_law_164 (rfl : 164 + 3 = 167) rfl rfl (by decide) ?_
      show k_W _ _ _ _ _ _ _ _ [some (.ref 0), some (.int v1), none, some (.int v3), some (.int (v4 + (1 : Int32)))] _
      refine r_goto (tgt := 115) C dX11_law_167 (by decide) ?_
      refine k_mask [true, true, false, true, true] ?_
      exact ih c0_0 c0_2 c0_3 c0_4 c0_5 c0_6 c0_7 c0_8 c0_37 a1 a11 a12 (upd a13 (((((150 : Int32) * v1) + v4)).toNatClampNeg) (a11 ((v4).toNatClampNeg))) (upd a14 (((((150 : Int32) * v1) + v4)).toNatClampNeg) (a12 ((v4).toNatClampNeg))) a15 v1 v3 (v4 + (1 : Int32)) h
set_option maxHeartbeats 400000 in
set_option maxRecDepth 100000 in
theorem sX11_law_86 (u : Nat) {X : k_X} {ad : Nat → Nat} (C : k_C X cX11_law RX11 5 ad) (hr : X.meth.sig.returnType = (some .int)) (hR : X.R.frames = 73 ∧ X.R.locals = 1551) {I : Nat → Nat → Int32} {L : Nat → Nat → Int64} {Rf : Nat → Nat → Option Nat} {a2 : (Nat → Int32)} (ea2 : I 2 = a2) {out : Int32 × Int32 × Int32 × Int32 × Int32 × Int32 × Int32 × Int32 × Int32 × Int32 × (Nat → Int32) × (Nat → Int32) × (Nat → Int32) × (Nat → Int32) × (Nat → Int32) × (Nat → Int32)} : ∀ (c0_0 : Int32) (c0_2 : Int32) (c0_3 : Int32) (c0_4 : Int32) (c0_5 : Int32) (c0_6 : Int32) (c0_7 : Int32) (c0_8 : Int32) (c0_37 : Int32) (a1 : (Nat → Int32)) (a11 : (Nat → Int32)) (a12 : (Nat → Int32)) (a13 : (Nat → Int32)) (a14 : (Nat → Int32)) (a15 : (Nat → Int32)) (v1 : Int32), bX11_law_86 u a2 c0_0 c0_2 c0_3 c0_4 c0_5 c0_6 c0_7 c0_8 c0_37 a1 a11 a12 a13 a14 a15 v1 = some out → k_W X 5 0 0 (k_Q X ad (some (.int out.1)) (k_ap [(0, .inl (0, out.2.1)), (0, .inl (2, out.2.2.1)), (0, .inl (3, out.2.2.2.1)), (0, .inl (4, out.2.2.2.2.1)), (0, .inl (5, out.2.2.2.2.2.1)), (0, .inl (6, out.2.2.2.2.2.2.1)), (0, .inl (7, out.2.2.2.2.2.2.2.1)), (0, .inl (8, out.2.2.2.2.2.2.2.2.1)), (0, .inl (37, out.2.2.2.2.2.2.2.2.2.1)), (1, .inr (.inr (.inl out.2.2.2.2.2.2.2.2.2.2.1))), (11, .inr (.inr (.inl out.2.2.2.2.2.2.2.2.2.2.2.1))), (12, .inr (.inr (.inl out.2.2.2.2.2.2.2.2.2.2.2.2.1))), (13, .inr (.inr (.inl out.2.2.2.2.2.2.2.2.2.2.2.2.2.1))), (14, .inr (.inr (.inl out.2.2.2.2.2.2.2.2.2.2.2.2.2.2.1))), (15, .inr (.inr (.inl out.2.2.2.2.2.2.2.2.2.2.2.2.2.2.2)))] (shM, I, L, Rf))) ad (k_ap [(0, .inl (0, c0_0)), (0, .inl (2, c0_2)), (0, .inl (3, c0_3)), (0, .inl (4, c0_4)), (0, .inl (5, c0_5)), (0, .inl (6, c0_6)), (0, .inl (7, c0_7)), (0, .inl (8, c0_8)), (0, .inl (37, c0_37)), (1, .inr (.inr (.inl a1))), (11, .inr (.inr (.inl a11))), (12, .inr (.inr (.inl a12))), (13, .inr (.inr (.inl a13))), (14, .inr (.inr (.inl a14))), (15, .inr (.inr (.inl a15)))] (shM, I, L, Rf)) 86 [some (.ref 0), some (.int v1), none, none, none] [] := by
  intro c0_0 c0_2 c0_3 c0_4 c0_5 c0_6 c0_7 c0_8 c0_37 a1 a11 a12 a13 a14 a15 v1 h
  unfold bX11_law_86 at h
  refine r_aload_n C dX11_law_86 (rfl : 86 + 1 = 87) rfl ?_
  refine r_iconst (v := (1 : Int32)) C dX11_law_87 (rfl : 87 + 1 = 88) rfl ?_
  obtain ⟨r88, q88, h⟩ := k_b_of h
  refine d_V (As := [.int (1 : Int32)]) (st := []) (st' := [.int r88.1]) (h' := k_ap [(0, .inl (0, c0_0)), (0, .inl (2, c0_2)), (0, .inl (3, c0_3)), (0, .inl (4, c0_4)), (0, .inl (5, c0_5)), (0, .inl (6, c0_6)), (0, .inl (7, c0_7)), (0, .inl (8, r88.2)), (0, .inl (37, c0_37)), (1, .inr (.inr (.inl a1))), (11, .inr (.inr (.inl a11))), (12, .inr (.inr (.inl a12))), (13, .inr (.inr (.inl a13))), (14, .inr (.inr (.inl a14))), (15, .inr (.inr (.inl a15)))] (shM, I, L, Rf)) C hR ⟨Nat.zero_le _, Nat.zero_le _⟩ mv_X11_result lk_X11_272 dX11_law_88 (rfl : 88 + 3 = 91) rfl rfl (k_gS rfl) rfl (c_X11_result X.l u (k_ap [(0, .inl (0, c0_0)), (0, .inl (2, c0_2)), (0, .inl (3, c0_3)), (0, .inl (4, c0_4)), (0, .inl (5, c0_5)), (0, .inl (6, c0_6)), (0, .inl (7, c0_7)), (0, .inl (8, c0_8)), (0, .inl (37, c0_37)), (1, .inr (.inr (.inl a1))), (11, .inr (.inr (.inl a11))), (12, .inr (.inr (.inl a12))), (13, .inr (.inr (.inl a13))), (14, .inr (.inr (.inl a14))), (15, .inr (.inr (.inl a15)))] (shM, I, L, Rf)) (k_gH rfl) (k_gI ds_X11_law rfl 4 rfl) (k_gI ds_X11_law rfl 5 rfl) (k_gI ds_X11_law rfl 7 rfl) q88) rfl rfl rfl (k_jn2 (us' := [(0, .inl (0, c0_0)), (0, .inl (2, c0_2)), (0, .inl (3, c0_3)), (0, .inl (4, c0_4)), (0, .inl (5, c0_5)), (0, .inl (6, c0_6)), (0, .inl (7, c0_7)), (0, .inl (8, r88.2)), (0, .inl (37, c0_37)), (1, .inr (.inr (.inl a1))), (11, .inr (.inr (.inl a11))), (12, .inr (.inr (.inl a12))), (13, .inr (.inr (.inl a13))), (14, .inr (.inr (.inl a14))), (15, .inr (.inr (.inl a15)))]) (vks := [(0, 0, 8)]) (js := [7]) ds_X11_law rfl rfl (by decide +kernel) rfl) rfl ?_
  refine r_istore_n C dX11_law_91 (rfl : 91 + 1 = 92) (by decide) (Nat.le_of_ble_eq_true rfl) ?_
  show k_W _ _ _ _ _ _ _ _ [some (.ref 0), some (.int v1), none, some (.int r88.1), none] _
  refine r_aload_n C dX11_law_92 (rfl : 92 + 1 = 93) rfl ?_
  refine r_getI (v := c0_5) C dX11_law_93 (rfl : 93 + 3 = 96) fl_X11_121 (k_gS rfl) rfl (k_gI ds_X11_law rfl 4 rfl) ?_
  refine r_iconst (v := (-1 : Int32)) C dX11_law_96 (rfl : 96 + 1 = 97) rfl ?_
  refine r_icmp_eq (tgt := 102) C dX11_law_97 (by decide) (rfl : 97 + 3 = 100) (fun c97 => ?_) (fun c97 => ?_)
  · have h := k_t c97 h
    refine r_aload_n C dX11_law_102 (rfl : 102 + 1 = 103) rfl ?_
    refine r_getR (q := 15) C dX11_law_103 (rfl : 103 + 3 = 106) fl_X11_59 (k_gS rfl) rfl ?_
    refine r_iload_n C dX11_law_106 (rfl : 106 + 1 = 107) rfl ?_
    refine r_aload_n C dX11_law_107 (rfl : 107 + 1 = 108) rfl ?_
    refine r_getI (v := c0_37) C dX11_law_108 (rfl : 108 + 3 = 111) fl_X11_276 (k_gS rfl) rfl (k_gI ds_X11_law rfl 8 rfl) ?_
    obtain ⟨hi111, h⟩ := k_i_of h
    refine s_i (j := (v1).toNatClampNeg) (f := a15) (us' := [(0, .inl (0, c0_0)), (0, .inl (2, c0_2)), (0, .inl (3, c0_3)), (0, .inl (4, c0_4)), (0, .inl (5, c0_5)), (0, .inl (6, c0_6)), (0, .inl (7, c0_7)), (0, .inl (8, r88.2)), (0, .inl (37, c0_37)), (1, .inr (.inr (.inl a1))), (11, .inr (.inr (.inl a11))), (12, .inr (.inr (.inl a12))), (13, .inr (.inr (.inl a13))), (14, .inr (.inr (.inl a14))), (15, .inr (.inr (.inl (upd a15 ((v1).toNatClampNeg) c0_37))))]) C dX11_law_111 (rfl : 111 + 1 = 112) rfl (k_gA ds_X11_law rfl 14 rfl) hi111 rfl ds_X11_law rfl rfl rfl ?_
    refine r_iconst (v := (0 : Int32)) C dX11_law_112 (rfl : 112 + 1 = 113) rfl ?_
    refine r_istore C dX11_law_113 (rfl : 113 + 2 = 115) (by decide) (Nat.le_of_ble_eq_true rfl) ?_
    show k_W _ _ _ _ _ _ _ _ [some (.ref 0), some (.int v1), none, some (.int r88.1), some (.int (0 : Int32))] _
    refine k_mask [true, true, false, true, true] ?_
    exact sX11_law_115 u C hr hR ea2 u c0_0 c0_2 c0_3 c0_4 c0_5 c0_6 c0_7 r88.2 c0_37 a1 a11 a12 a13 a14 (upd a15 ((v1).toNatClampNeg) c0_37) v1 r88.1 (0 : Int32) h
  · have h := k_f c97 h
    refine r_iload_n C dX11_law_100 (rfl : 100 + 1 = 101) rfl ?_
    cases h
    exact r_iret C hr dX11_law_101
set_option maxHeartbeats 400000 in
set_option maxRecDepth 100000 in
theorem sX11_law_39 (u : Nat) {X : k_X} {ad : Nat → Nat} (C : k_C X cX11_law RX11 5 ad) (hr : X.meth.sig.returnType = (some .int)) (hR : X.R.frames = 73 ∧ X.R.locals = 1551) {I : Nat → Nat → Int32} {L : Nat → Nat → Int64} {Rf : Nat → Nat → Option Nat} {a2 : (Nat → Int32)} (ea2 : I 2 = a2) {out : Int32 × Int32 × Int32 × Int32 × Int32 × Int32 × Int32 × Int32 × Int32 × Int32 × (Nat → Int32) × (Nat → Int32) × (Nat → Int32) × (Nat → Int32) × (Nat → Int32) × (Nat → Int32)} : ∀ (c0_0 : Int32) (c0_2 : Int32) (c0_3 : Int32) (c0_4 : Int32) (c0_5 : Int32) (c0_6 : Int32) (c0_7 : Int32) (c0_8 : Int32) (c0_37 : Int32) (a1 : (Nat → Int32)) (a11 : (Nat → Int32)) (a12 : (Nat → Int32)) (a13 : (Nat → Int32)) (a14 : (Nat → Int32)) (a15 : (Nat → Int32)) (v1 : Int32) (v2 : Int32) (w0 : Int32), bX11_law_39 u a2 c0_0 c0_2 c0_3 c0_4 c0_5 c0_6 c0_7 c0_8 c0_37 a1 a11 a12 a13 a14 a15 v1 v2 w0 = some out → k_W X 5 0 0 (k_Q X ad (some (.int out.1)) (k_ap [(0, .inl (0, out.2.1)), (0, .inl (2, out.2.2.1)), (0, .inl (3, out.2.2.2.1)), (0, .inl (4, out.2.2.2.2.1)), (0, .inl (5, out.2.2.2.2.2.1)), (0, .inl (6, out.2.2.2.2.2.2.1)), (0, .inl (7, out.2.2.2.2.2.2.2.1)), (0, .inl (8, out.2.2.2.2.2.2.2.2.1)), (0, .inl (37, out.2.2.2.2.2.2.2.2.2.1)), (1, .inr (.inr (.inl out.2.2.2.2.2.2.2.2.2.2.1))), (11, .inr (.inr (.inl out.2.2.2.2.2.2.2.2.2.2.2.1))), (12, .inr (.inr (.inl out.2.2.2.2.2.2.2.2.2.2.2.2.1))), (13, .inr (.inr (.inl out.2.2.2.2.2.2.2.2.2.2.2.2.2.1))), (14, .inr (.inr (.inl out.2.2.2.2.2.2.2.2.2.2.2.2.2.2.1))), (15, .inr (.inr (.inl out.2.2.2.2.2.2.2.2.2.2.2.2.2.2.2)))] (shM, I, L, Rf))) ad (k_ap [(0, .inl (0, c0_0)), (0, .inl (2, c0_2)), (0, .inl (3, c0_3)), (0, .inl (4, c0_4)), (0, .inl (5, c0_5)), (0, .inl (6, c0_6)), (0, .inl (7, c0_7)), (0, .inl (8, c0_8)), (0, .inl (37, c0_37)), (1, .inr (.inr (.inl a1))), (11, .inr (.inr (.inl a11))), (12, .inr (.inr (.inl a12))), (13, .inr (.inr (.inl a13))), (14, .inr (.inr (.inl a14))), (15, .inr (.inr (.inl a15)))] (shM, I, L, Rf)) 39 [some (.ref 0), some (.int v1), some (.int v2), none, none] [.int w0, .ref 0] := by
  intro c0_0 c0_2 c0_3 c0_4 c0_5 c0_6 c0_7 c0_8 c0_37 a1 a11 a12 a13 a14 a15 v1 v2 w0 h
  unfold bX11_law_39 at h
  refine r_iconst (v := (1 : Int32)) C dX11_law_39 (rfl : 39 + 1 = 40) rfl ?_
  refine r_iconst (v := (2 : Int32)) C dX11_law_40 (rfl : 40 + 1 = 41) rfl ?_
  obtain ⟨r41, q41, h⟩ := k_b_of h
  refine d_V (As := [.int w0, .int (1 : Int32), .int (2 : Int32)]) (st := []) (st' := [.int r41.1]) (h' := k_ap [(0, .inl (0, r41.2.1)), (0, .inl (2, c0_2)), (0, .inl (3, c0_3)), (0, .inl (4, c0_4)), (0, .inl (5, c0_5)), (0, .inl (6, c0_6)), (0, .inl (7, c0_7)), (0, .inl (8, c0_8)), (0, .inl (37, c0_37)), (1, .inr (.inr (.inl r41.2.2))), (11, .inr (.inr (.inl a11))), (12, .inr (.inr (.inl a12))), (13, .inr (.inr (.inl a13))), (14, .inr (.inr (.inl a14))), (15, .inr (.inr (.inl a15)))] (shM, I, L, Rf)) C hR ⟨Nat.zero_le _, Nat.zero_le _⟩ mv_X11_may lk_X11_252 dX11_law_41 (rfl : 41 + 3 = 44) rfl rfl (k_gS rfl) rfl (c_X11_may X.l u (k_ap [(0, .inl (0, c0_0)), (0, .inl (2, c0_2)), (0, .inl (3, c0_3)), (0, .inl (4, c0_4)), (0, .inl (5, c0_5)), (0, .inl (6, c0_6)), (0, .inl (7, c0_7)), (0, .inl (8, c0_8)), (0, .inl (37, c0_37)), (1, .inr (.inr (.inl a1))), (11, .inr (.inr (.inl a11))), (12, .inr (.inr (.inl a12))), (13, .inr (.inr (.inl a13))), (14, .inr (.inr (.inl a14))), (15, .inr (.inr (.inl a15)))] (shM, I, L, Rf)) (k_gH rfl) (k_gI ds_X11_law rfl 0 rfl) (k_gA ds_X11_law rfl 9 rfl) q41) rfl rfl rfl (k_jn2 (us' := [(0, .inl (0, r41.2.1)), (0, .inl (2, c0_2)), (0, .inl (3, c0_3)), (0, .inl (4, c0_4)), (0, .inl (5, c0_5)), (0, .inl (6, c0_6)), (0, .inl (7, c0_7)), (0, .inl (8, c0_8)), (0, .inl (37, c0_37)), (1, .inr (.inr (.inl r41.2.2))), (11, .inr (.inr (.inl a11))), (12, .inr (.inr (.inl a12))), (13, .inr (.inr (.inl a13))), (14, .inr (.inr (.inl a14))), (15, .inr (.inr (.inl a15)))]) (vks := [(0, 0, 0), (1, 2, 0)]) (js := [0, 9]) ds_X11_law rfl rfl (by decide +kernel) rfl) rfl ?_
  refine r_if_ne (tgt := 49) C dX11_law_44 (by decide) (rfl : 44 + 3 = 47) (fun c44 => ?_) (fun c44 => ?_)
  · have h := k_f c44 h
    refine r_aload_n C dX11_law_49 (rfl : 49 + 1 = 50) rfl ?_
    refine r_iload_n C dX11_law_50 (rfl : 50 + 1 = 51) rfl ?_
    obtain ⟨r51, q51, h⟩ := k_b_of h
    refine d_V (As := [.int v2]) (st := []) (st' := []) (h' := k_ap [(0, .inl (0, r41.2.1)), (0, .inl (2, r51.1)), (0, .inl (3, r51.2.1)), (0, .inl (4, r51.2.2.1)), (0, .inl (5, r51.2.2.2.1)), (0, .inl (6, c0_6)), (0, .inl (7, r51.2.2.2.2.1)), (0, .inl (8, r51.2.2.2.2.2)), (0, .inl (37, c0_37)), (1, .inr (.inr (.inl r41.2.2))), (11, .inr (.inr (.inl a11))), (12, .inr (.inr (.inl a12))), (13, .inr (.inr (.inl a13))), (14, .inr (.inr (.inl a14))), (15, .inr (.inr (.inl a15)))] (shM, I, L, Rf)) C hR ⟨Nat.zero_le _, Nat.zero_le _⟩ mv_X11_begins lk_X11_256 dX11_law_51 (rfl : 51 + 3 = 54) rfl rfl (k_gS rfl) rfl (c_X11_begins X.l u (k_ap [(0, .inl (0, r41.2.1)), (0, .inl (2, c0_2)), (0, .inl (3, c0_3)), (0, .inl (4, c0_4)), (0, .inl (5, c0_5)), (0, .inl (6, c0_6)), (0, .inl (7, c0_7)), (0, .inl (8, c0_8)), (0, .inl (37, c0_37)), (1, .inr (.inr (.inl r41.2.2))), (11, .inr (.inr (.inl a11))), (12, .inr (.inr (.inl a12))), (13, .inr (.inr (.inl a13))), (14, .inr (.inr (.inl a14))), (15, .inr (.inr (.inl a15)))] (shM, I, L, Rf)) (k_gH rfl) (k_gI ds_X11_law rfl 1 rfl) (k_gI ds_X11_law rfl 2 rfl) (k_gI ds_X11_law rfl 3 rfl) (k_gI ds_X11_law rfl 4 rfl) (k_gI ds_X11_law rfl 6 rfl) (k_gI ds_X11_law rfl 7 rfl) q51) rfl rfl rfl (k_jn2 (us' := [(0, .inl (0, r41.2.1)), (0, .inl (2, r51.1)), (0, .inl (3, r51.2.1)), (0, .inl (4, r51.2.2.1)), (0, .inl (5, r51.2.2.2.1)), (0, .inl (6, c0_6)), (0, .inl (7, r51.2.2.2.2.1)), (0, .inl (8, r51.2.2.2.2.2)), (0, .inl (37, c0_37)), (1, .inr (.inr (.inl r41.2.2))), (11, .inr (.inr (.inl a11))), (12, .inr (.inr (.inl a12))), (13, .inr (.inr (.inl a13))), (14, .inr (.inr (.inl a14))), (15, .inr (.inr (.inl a15)))]) (vks := [(0, 0, 2), (0, 0, 3), (0, 0, 4), (0, 0, 5), (0, 0, 7), (0, 0, 8)]) (js := [1, 2, 3, 4, 6, 7]) ds_X11_law rfl rfl (by decide +kernel) rfl) rfl ?_
    refine r_aload_n C dX11_law_54 (rfl : 54 + 1 = 55) rfl ?_
    refine r_iconst (v := (0 : Int32)) C dX11_law_55 (rfl : 55 + 1 = 56) rfl ?_
    refine p_I (us' := [(0, .inl (0, r41.2.1)), (0, .inl (2, r51.1)), (0, .inl (3, r51.2.1)), (0, .inl (4, r51.2.2.1)), (0, .inl (5, r51.2.2.2.1)), (0, .inl (6, c0_6)), (0, .inl (7, r51.2.2.2.2.1)), (0, .inl (8, r51.2.2.2.2.2)), (0, .inl (37, (0 : Int32))), (1, .inr (.inr (.inl r41.2.2))), (11, .inr (.inr (.inl a11))), (12, .inr (.inr (.inl a12))), (13, .inr (.inr (.inl a13))), (14, .inr (.inr (.inl a14))), (15, .inr (.inr (.inl a15)))]) C dX11_law_56 (rfl : 56 + 3 = 59) fp_X11_276 rfl rfl ds_X11_law rfl rfl rfl ?_
    refine r_aload_n C dX11_law_59 (rfl : 59 + 1 = 60) rfl ?_
    obtain ⟨r60, q60, h⟩ := k_b_of h
    refine d_V (As := []) (st := []) (st' := []) (h' := k_ap [(0, .inl (0, r41.2.1)), (0, .inl (2, r51.1)), (0, .inl (3, r51.2.1)), (0, .inl (4, r60.1)), (0, .inl (5, r60.2.1)), (0, .inl (6, r60.2.2.1)), (0, .inl (7, r60.2.2.2.1)), (0, .inl (8, r51.2.2.2.2.2)), (0, .inl (37, r60.2.2.2.2.1)), (1, .inr (.inr (.inl r41.2.2))), (11, .inr (.inr (.inl r60.2.2.2.2.2.1))), (12, .inr (.inr (.inl r60.2.2.2.2.2.2))), (13, .inr (.inr (.inl a13))), (14, .inr (.inr (.inl a14))), (15, .inr (.inr (.inl a15)))] (shM, I, L, Rf)) C hR ⟨Nat.zero_le _, Nat.zero_le _⟩ mv_X11_readSum lk_X11_291 dX11_law_60 (rfl : 60 + 3 = 63) rfl rfl (k_gS rfl) rfl (c_X11_readSum_r X.l u 9 (k_ap [(0, .inl (0, r41.2.1)), (0, .inl (2, r51.1)), (0, .inl (3, r51.2.1)), (0, .inl (4, r51.2.2.1)), (0, .inl (5, r51.2.2.2.1)), (0, .inl (6, c0_6)), (0, .inl (7, r51.2.2.2.2.1)), (0, .inl (8, r51.2.2.2.2.2)), (0, .inl (37, (0 : Int32))), (1, .inr (.inr (.inl r41.2.2))), (11, .inr (.inr (.inl a11))), (12, .inr (.inr (.inl a12))), (13, .inr (.inr (.inl a13))), (14, .inr (.inr (.inl a14))), (15, .inr (.inr (.inl a15)))] (shM, I, L, Rf)) (k_gH rfl) (k_gI ds_X11_law rfl 2 rfl) (k_gI ds_X11_law rfl 3 rfl) (k_gI ds_X11_law rfl 4 rfl) (k_gI ds_X11_law rfl 5 rfl) (k_gI ds_X11_law rfl 6 rfl) (k_gI ds_X11_law rfl 8 rfl) (k_gOA (ks := [(0, 0, 0), (0, 0, 2), (0, 0, 3), (0, 0, 4), (0, 0, 5), (0, 0, 6), (0, 0, 7), (0, 0, 8), (0, 0, 37), (1, 2, 0), (11, 2, 0), (12, 2, 0), (13, 2, 0), (14, 2, 0), (15, 2, 0)]) rfl (by decide +kernel) ea2) (k_gA ds_X11_law rfl 10 rfl) (k_gA ds_X11_law rfl 11 rfl) q60) rfl rfl rfl (k_jn2 (us' := [(0, .inl (0, r41.2.1)), (0, .inl (2, r51.1)), (0, .inl (3, r51.2.1)), (0, .inl (4, r60.1)), (0, .inl (5, r60.2.1)), (0, .inl (6, r60.2.2.1)), (0, .inl (7, r60.2.2.2.1)), (0, .inl (8, r51.2.2.2.2.2)), (0, .inl (37, r60.2.2.2.2.1)), (1, .inr (.inr (.inl r41.2.2))), (11, .inr (.inr (.inl r60.2.2.2.2.2.1))), (12, .inr (.inr (.inl r60.2.2.2.2.2.2))), (13, .inr (.inr (.inl a13))), (14, .inr (.inr (.inl a14))), (15, .inr (.inr (.inl a15)))]) (vks := [(0, 0, 4), (0, 0, 5), (0, 0, 6), (0, 0, 7), (0, 0, 37), (11, 2, 0), (12, 2, 0)]) (js := [3, 4, 5, 6, 8, 10, 11]) ds_X11_law rfl rfl (by decide +kernel) rfl) rfl ?_
    refine r_aload_n C dX11_law_63 (rfl : 63 + 1 = 64) rfl ?_
    obtain ⟨r64, q64, h⟩ := k_b_of h
    refine d_V (As := []) (st := []) (st' := [.int r64]) (h' := k_ap [(0, .inl (0, r41.2.1)), (0, .inl (2, r51.1)), (0, .inl (3, r51.2.1)), (0, .inl (4, r60.1)), (0, .inl (5, r60.2.1)), (0, .inl (6, r60.2.2.1)), (0, .inl (7, r60.2.2.2.1)), (0, .inl (8, r51.2.2.2.2.2)), (0, .inl (37, r60.2.2.2.2.1)), (1, .inr (.inr (.inl r41.2.2))), (11, .inr (.inr (.inl r60.2.2.2.2.2.1))), (12, .inr (.inr (.inl r60.2.2.2.2.2.2))), (13, .inr (.inr (.inl a13))), (14, .inr (.inr (.inl a14))), (15, .inr (.inr (.inl a15)))] (shM, I, L, Rf)) C hR ⟨Nat.zero_le _, Nat.zero_le _⟩ mv_X11_fine lk_X11_149 dX11_law_64 (rfl : 64 + 3 = 67) rfl rfl (k_gS rfl) rfl (c_X11_fine X.l u (k_ap [(0, .inl (0, r41.2.1)), (0, .inl (2, r51.1)), (0, .inl (3, r51.2.1)), (0, .inl (4, r60.1)), (0, .inl (5, r60.2.1)), (0, .inl (6, r60.2.2.1)), (0, .inl (7, r60.2.2.2.1)), (0, .inl (8, r51.2.2.2.2.2)), (0, .inl (37, r60.2.2.2.2.1)), (1, .inr (.inr (.inl r41.2.2))), (11, .inr (.inr (.inl r60.2.2.2.2.2.1))), (12, .inr (.inr (.inl r60.2.2.2.2.2.2))), (13, .inr (.inr (.inl a13))), (14, .inr (.inr (.inl a14))), (15, .inr (.inr (.inl a15)))] (shM, I, L, Rf)) (k_gH rfl) (k_gI ds_X11_law rfl 4 rfl) q64) rfl rfl rfl rfl rfl ?_
    refine r_if_eq (tgt := 86) C dX11_law_67 (by decide) (rfl : 67 + 3 = 70) (fun c67 => ?_) (fun c67 => ?_)
    · have h := k_t c67 h
      refine k_mask [true, true, false, false, false] ?_
      exact sX11_law_86 u C hr hR ea2 r41.2.1 r51.1 r51.2.1 r60.1 r60.2.1 r60.2.2.1 r60.2.2.2.1 r51.2.2.2.2.2 r60.2.2.2.2.1 r41.2.2 r60.2.2.2.2.2.1 r60.2.2.2.2.2.2 a13 a14 a15 v1 h
    · have h := k_f c67 h
      refine r_aload_n C dX11_law_70 (rfl : 70 + 1 = 71) rfl ?_
      obtain ⟨r71, q71, h⟩ := k_b_of h
      refine d_V (As := []) (st := []) (st' := [.int r71.1]) (h' := k_ap [(0, .inl (0, r41.2.1)), (0, .inl (2, r51.1)), (0, .inl (3, r51.2.1)), (0, .inl (4, r71.2)), (0, .inl (5, r60.2.1)), (0, .inl (6, r60.2.2.1)), (0, .inl (7, r60.2.2.2.1)), (0, .inl (8, r51.2.2.2.2.2)), (0, .inl (37, r60.2.2.2.2.1)), (1, .inr (.inr (.inl r41.2.2))), (11, .inr (.inr (.inl r60.2.2.2.2.2.1))), (12, .inr (.inr (.inl r60.2.2.2.2.2.2))), (13, .inr (.inr (.inl a13))), (14, .inr (.inr (.inl a14))), (15, .inr (.inr (.inl a15)))] (shM, I, L, Rf)) C hR ⟨Nat.zero_le _, Nat.zero_le _⟩ mv_X11_isMore lk_X11_260 dX11_law_71 (rfl : 71 + 3 = 74) rfl rfl (k_gS rfl) rfl (c_X11_isMore X.l u (k_ap [(0, .inl (0, r41.2.1)), (0, .inl (2, r51.1)), (0, .inl (3, r51.2.1)), (0, .inl (4, r60.1)), (0, .inl (5, r60.2.1)), (0, .inl (6, r60.2.2.1)), (0, .inl (7, r60.2.2.2.1)), (0, .inl (8, r51.2.2.2.2.2)), (0, .inl (37, r60.2.2.2.2.1)), (1, .inr (.inr (.inl r41.2.2))), (11, .inr (.inr (.inl r60.2.2.2.2.2.1))), (12, .inr (.inr (.inl r60.2.2.2.2.2.2))), (13, .inr (.inr (.inl a13))), (14, .inr (.inr (.inl a14))), (15, .inr (.inr (.inl a15)))] (shM, I, L, Rf)) (k_gH rfl) (k_gI ds_X11_law rfl 2 rfl) (k_gI ds_X11_law rfl 3 rfl) (k_gOA (ks := [(0, 0, 0), (0, 0, 2), (0, 0, 3), (0, 0, 4), (0, 0, 5), (0, 0, 6), (0, 0, 7), (0, 0, 8), (0, 0, 37), (1, 2, 0), (11, 2, 0), (12, 2, 0), (13, 2, 0), (14, 2, 0), (15, 2, 0)]) rfl (by decide +kernel) ea2) q71) rfl rfl rfl (k_jn2 (us' := [(0, .inl (0, r41.2.1)), (0, .inl (2, r51.1)), (0, .inl (3, r51.2.1)), (0, .inl (4, r71.2)), (0, .inl (5, r60.2.1)), (0, .inl (6, r60.2.2.1)), (0, .inl (7, r60.2.2.2.1)), (0, .inl (8, r51.2.2.2.2.2)), (0, .inl (37, r60.2.2.2.2.1)), (1, .inr (.inr (.inl r41.2.2))), (11, .inr (.inr (.inl r60.2.2.2.2.2.1))), (12, .inr (.inr (.inl r60.2.2.2.2.2.2))), (13, .inr (.inr (.inl a13))), (14, .inr (.inr (.inl a14))), (15, .inr (.inr (.inl a15)))]) (vks := [(0, 0, 4)]) (js := [3]) ds_X11_law rfl rfl (by decide +kernel) rfl) rfl ?_
      refine r_if_eq (tgt := 86) C dX11_law_74 (by decide) (rfl : 74 + 3 = 77) (fun c74 => ?_) (fun c74 => ?_)
      · have h := k_t c74 h
        refine k_mask [true, true, false, false, false] ?_
        exact sX11_law_86 u C hr hR ea2 r41.2.1 r51.1 r51.2.1 r71.2 r60.2.1 r60.2.2.1 r60.2.2.2.1 r51.2.2.2.2.2 r60.2.2.2.2.1 r41.2.2 r60.2.2.2.2.2.1 r60.2.2.2.2.2.2 a13 a14 a15 v1 h
      · have h := k_f c74 h
        refine r_aload_n C dX11_law_77 (rfl : 77 + 1 = 78) rfl ?_
        refine r_iconst (v := (1 : Int32)) C dX11_law_78 (rfl : 78 + 1 = 79) rfl ?_
        refine r_aload_n C dX11_law_79 (rfl : 79 + 1 = 80) rfl ?_
        refine r_getI (v := r71.2) C dX11_law_80 (rfl : 80 + 3 = 83) fl_X11_127 (k_gS rfl) rfl (k_gI ds_X11_law rfl 3 rfl) ?_
        obtain ⟨r83, q83, h⟩ := k_b_of h
        refine d_V (As := [.int (1 : Int32), .int r71.2]) (st := []) (st' := []) (h' := k_ap [(0, .inl (0, r41.2.1)), (0, .inl (2, r51.1)), (0, .inl (3, r51.2.1)), (0, .inl (4, r71.2)), (0, .inl (5, r83.1)), (0, .inl (6, r83.2)), (0, .inl (7, r60.2.2.2.1)), (0, .inl (8, r51.2.2.2.2.2)), (0, .inl (37, r60.2.2.2.2.1)), (1, .inr (.inr (.inl r41.2.2))), (11, .inr (.inr (.inl r60.2.2.2.2.2.1))), (12, .inr (.inr (.inl r60.2.2.2.2.2.2))), (13, .inr (.inr (.inl a13))), (14, .inr (.inr (.inl a14))), (15, .inr (.inr (.inl a15)))] (shM, I, L, Rf)) C hR ⟨Nat.zero_le _, Nat.zero_le _⟩ mv_X11_wrong lk_X11_156 dX11_law_83 (rfl : 83 + 3 = 86) rfl rfl (k_gS rfl) rfl (c_X11_wrong X.l u (k_ap [(0, .inl (0, r41.2.1)), (0, .inl (2, r51.1)), (0, .inl (3, r51.2.1)), (0, .inl (4, r71.2)), (0, .inl (5, r60.2.1)), (0, .inl (6, r60.2.2.1)), (0, .inl (7, r60.2.2.2.1)), (0, .inl (8, r51.2.2.2.2.2)), (0, .inl (37, r60.2.2.2.2.1)), (1, .inr (.inr (.inl r41.2.2))), (11, .inr (.inr (.inl r60.2.2.2.2.2.1))), (12, .inr (.inr (.inl r60.2.2.2.2.2.2))), (13, .inr (.inr (.inl a13))), (14, .inr (.inr (.inl a14))), (15, .inr (.inr (.inl a15)))] (shM, I, L, Rf)) (k_gH rfl) (k_gI ds_X11_law rfl 4 rfl) (k_gI ds_X11_law rfl 5 rfl) q83) rfl rfl rfl (k_jn2 (us' := [(0, .inl (0, r41.2.1)), (0, .inl (2, r51.1)), (0, .inl (3, r51.2.1)), (0, .inl (4, r71.2)), (0, .inl (5, r83.1)), (0, .inl (6, r83.2)), (0, .inl (7, r60.2.2.2.1)), (0, .inl (8, r51.2.2.2.2.2)), (0, .inl (37, r60.2.2.2.2.1)), (1, .inr (.inr (.inl r41.2.2))), (11, .inr (.inr (.inl r60.2.2.2.2.2.1))), (12, .inr (.inr (.inl r60.2.2.2.2.2.2))), (13, .inr (.inr (.inl a13))), (14, .inr (.inr (.inl a14))), (15, .inr (.inr (.inl a15)))]) (vks := [(0, 0, 5), (0, 0, 6)]) (js := [4, 5]) ds_X11_law rfl rfl (by decide +kernel) rfl) rfl ?_
        refine k_mask [true, true, false, false, false] ?_
        exact sX11_law_86 u C hr hR ea2 r41.2.1 r51.1 r51.2.1 r71.2 r83.1 r83.2 r60.2.2.2.1 r51.2.2.2.2.2 r60.2.2.2.2.1 r41.2.2 r60.2.2.2.2.2.1 r60.2.2.2.2.2.2 a13 a14 a15 v1 h
  · have h := k_t c44 h
    refine r_iconst (v := (0 : Int32)) C dX11_law_47 (rfl : 47 + 1 = 48) rfl ?_
    cases h
    exact r_iret C hr dX11_law_48
set_option maxHeartbeats 400000 in
set_option maxRecDepth 100000 in
theorem sX11_law_38 (u : Nat) {X : k_X} {ad : Nat → Nat} (C : k_C X cX11_law RX11 5 ad) (hr : X.meth.sig.returnType = (some .int)) (hR : X.R.frames = 73 ∧ X.R.locals = 1551) {I : Nat → Nat → Int32} {L : Nat → Nat → Int64} {Rf : Nat → Nat → Option Nat} {a2 : (Nat → Int32)} (ea2 : I 2 = a2) {out : Int32 × Int32 × Int32 × Int32 × Int32 × Int32 × Int32 × Int32 × Int32 × Int32 × (Nat → Int32) × (Nat → Int32) × (Nat → Int32) × (Nat → Int32) × (Nat → Int32) × (Nat → Int32)} : ∀ (c0_0 : Int32) (c0_2 : Int32) (c0_3 : Int32) (c0_4 : Int32) (c0_5 : Int32) (c0_6 : Int32) (c0_7 : Int32) (c0_8 : Int32) (c0_37 : Int32) (a1 : (Nat → Int32)) (a11 : (Nat → Int32)) (a12 : (Nat → Int32)) (a13 : (Nat → Int32)) (a14 : (Nat → Int32)) (a15 : (Nat → Int32)) (v1 : Int32) (v2 : Int32), bX11_law_38 u a2 c0_0 c0_2 c0_3 c0_4 c0_5 c0_6 c0_7 c0_8 c0_37 a1 a11 a12 a13 a14 a15 v1 v2 = some out → k_W X 5 0 0 (k_Q X ad (some (.int out.1)) (k_ap [(0, .inl (0, out.2.1)), (0, .inl (2, out.2.2.1)), (0, .inl (3, out.2.2.2.1)), (0, .inl (4, out.2.2.2.2.1)), (0, .inl (5, out.2.2.2.2.2.1)), (0, .inl (6, out.2.2.2.2.2.2.1)), (0, .inl (7, out.2.2.2.2.2.2.2.1)), (0, .inl (8, out.2.2.2.2.2.2.2.2.1)), (0, .inl (37, out.2.2.2.2.2.2.2.2.2.1)), (1, .inr (.inr (.inl out.2.2.2.2.2.2.2.2.2.2.1))), (11, .inr (.inr (.inl out.2.2.2.2.2.2.2.2.2.2.2.1))), (12, .inr (.inr (.inl out.2.2.2.2.2.2.2.2.2.2.2.2.1))), (13, .inr (.inr (.inl out.2.2.2.2.2.2.2.2.2.2.2.2.2.1))), (14, .inr (.inr (.inl out.2.2.2.2.2.2.2.2.2.2.2.2.2.2.1))), (15, .inr (.inr (.inl out.2.2.2.2.2.2.2.2.2.2.2.2.2.2.2)))] (shM, I, L, Rf))) ad (k_ap [(0, .inl (0, c0_0)), (0, .inl (2, c0_2)), (0, .inl (3, c0_3)), (0, .inl (4, c0_4)), (0, .inl (5, c0_5)), (0, .inl (6, c0_6)), (0, .inl (7, c0_7)), (0, .inl (8, c0_8)), (0, .inl (37, c0_37)), (1, .inr (.inr (.inl a1))), (11, .inr (.inr (.inl a11))), (12, .inr (.inr (.inl a12))), (13, .inr (.inr (.inl a13))), (14, .inr (.inr (.inl a14))), (15, .inr (.inr (.inl a15)))] (shM, I, L, Rf)) 38 [some (.ref 0), some (.int v1), some (.int v2), none, none] [.ref 0] := by
  intro c0_0 c0_2 c0_3 c0_4 c0_5 c0_6 c0_7 c0_8 c0_37 a1 a11 a12 a13 a14 a15 v1 v2 h
  unfold bX11_law_38 at h
  refine r_iconst (v := (0 : Int32)) C dX11_law_38 (rfl : 38 + 1 = 39) rfl ?_
  refine k_mask [true, true, true, false, false] ?_
  exact sX11_law_39 u C hr hR ea2 c0_0 c0_2 c0_3 c0_4 c0_5 c0_6 c0_7 c0_8 c0_37 a1 a11 a12 a13 a14 a15 v1 v2 (0 : Int32) h
set_option maxHeartbeats 400000 in
set_option maxRecDepth 100000 in
theorem sX11_law_0 (u : Nat) {X : k_X} {ad : Nat → Nat} (C : k_C X cX11_law RX11 5 ad) (hr : X.meth.sig.returnType = (some .int)) (hR : X.R.frames = 73 ∧ X.R.locals = 1551) {I : Nat → Nat → Int32} {L : Nat → Nat → Int64} {Rf : Nat → Nat → Option Nat} {a2 : (Nat → Int32)} (ea2 : I 2 = a2) {out : Int32 × Int32 × Int32 × Int32 × Int32 × Int32 × Int32 × Int32 × Int32 × Int32 × (Nat → Int32) × (Nat → Int32) × (Nat → Int32) × (Nat → Int32) × (Nat → Int32) × (Nat → Int32)} : ∀ (c0_0 : Int32) (c0_2 : Int32) (c0_3 : Int32) (c0_4 : Int32) (c0_5 : Int32) (c0_6 : Int32) (c0_7 : Int32) (c0_8 : Int32) (c0_37 : Int32) (a1 : (Nat → Int32)) (a11 : (Nat → Int32)) (a12 : (Nat → Int32)) (a13 : (Nat → Int32)) (a14 : (Nat → Int32)) (a15 : (Nat → Int32)) (v1 : Int32) (v2 : Int32), bX11_law_0 u a2 c0_0 c0_2 c0_3 c0_4 c0_5 c0_6 c0_7 c0_8 c0_37 a1 a11 a12 a13 a14 a15 v1 v2 = some out → k_W X 5 0 0 (k_Q X ad (some (.int out.1)) (k_ap [(0, .inl (0, out.2.1)), (0, .inl (2, out.2.2.1)), (0, .inl (3, out.2.2.2.1)), (0, .inl (4, out.2.2.2.2.1)), (0, .inl (5, out.2.2.2.2.2.1)), (0, .inl (6, out.2.2.2.2.2.2.1)), (0, .inl (7, out.2.2.2.2.2.2.2.1)), (0, .inl (8, out.2.2.2.2.2.2.2.2.1)), (0, .inl (37, out.2.2.2.2.2.2.2.2.2.1)), (1, .inr (.inr (.inl out.2.2.2.2.2.2.2.2.2.2.1))), (11, .inr (.inr (.inl out.2.2.2.2.2.2.2.2.2.2.2.1))), (12, .inr (.inr (.inl out.2.2.2.2.2.2.2.2.2.2.2.2.1))), (13, .inr (.inr (.inl out.2.2.2.2.2.2.2.2.2.2.2.2.2.1))), (14, .inr (.inr (.inl out.2.2.2.2.2.2.2.2.2.2.2.2.2.2.1))), (15, .inr (.inr (.inl out.2.2.2.2.2.2.2.2.2.2.2.2.2.2.2)))] (shM, I, L, Rf))) ad (k_ap [(0, .inl (0, c0_0)), (0, .inl (2, c0_2)), (0, .inl (3, c0_3)), (0, .inl (4, c0_4)), (0, .inl (5, c0_5)), (0, .inl (6, c0_6)), (0, .inl (7, c0_7)), (0, .inl (8, c0_8)), (0, .inl (37, c0_37)), (1, .inr (.inr (.inl a1))), (11, .inr (.inr (.inl a11))), (12, .inr (.inr (.inl a12))), (13, .inr (.inr (.inl a13))), (14, .inr (.inr (.inl a14))), (15, .inr (.inr (.inl a15)))] (shM, I, L, Rf)) 0 [some (.ref 0), some (.int v1), some (.int v2), none, none] [] := by
  intro c0_0 c0_2 c0_3 c0_4 c0_5 c0_6 c0_7 c0_8 c0_37 a1 a11 a12 a13 a14 a15 v1 v2 h
  unfold bX11_law_0 at h
  refine r_aload_n C dX11_law_0 (rfl : 0 + 1 = 1) rfl ?_
  refine r_iconst (v := (0 : Int32)) C dX11_law_1 (rfl : 1 + 1 = 2) rfl ?_
  refine p_I (us' := [(0, .inl (0, (0 : Int32))), (0, .inl (2, c0_2)), (0, .inl (3, c0_3)), (0, .inl (4, c0_4)), (0, .inl (5, c0_5)), (0, .inl (6, c0_6)), (0, .inl (7, c0_7)), (0, .inl (8, c0_8)), (0, .inl (37, c0_37)), (1, .inr (.inr (.inl a1))), (11, .inr (.inr (.inl a11))), (12, .inr (.inr (.inl a12))), (13, .inr (.inr (.inl a13))), (14, .inr (.inr (.inl a14))), (15, .inr (.inr (.inl a15)))]) C dX11_law_2 (rfl : 2 + 3 = 5) fp_X11_3 rfl rfl ds_X11_law rfl rfl rfl ?_
  refine r_aload_n C dX11_law_5 (rfl : 5 + 1 = 6) rfl ?_
  refine r_iload_n C dX11_law_6 (rfl : 6 + 1 = 7) rfl ?_
  refine r_iconst (v := (0 : Int32)) C dX11_law_7 (rfl : 7 + 1 = 8) rfl ?_
  refine r_iconst (v := (1 : Int32)) C dX11_law_8 (rfl : 8 + 1 = 9) rfl ?_
  obtain ⟨r9, q9, h⟩ := k_b_of h
  refine d_S (As := [.int v1, .int (0 : Int32), .int (1 : Int32)]) (st := [.ref 0]) (st' := [.int r9, .ref 0]) (h' := k_ap [(0, .inl (0, (0 : Int32))), (0, .inl (2, c0_2)), (0, .inl (3, c0_3)), (0, .inl (4, c0_4)), (0, .inl (5, c0_5)), (0, .inl (6, c0_6)), (0, .inl (7, c0_7)), (0, .inl (8, c0_8)), (0, .inl (37, c0_37)), (1, .inr (.inr (.inl a1))), (11, .inr (.inr (.inl a11))), (12, .inr (.inr (.inl a12))), (13, .inr (.inr (.inl a13))), (14, .inr (.inr (.inl a14))), (15, .inr (.inr (.inl a15)))] (shM, I, L, Rf)) C hR ⟨Nat.zero_le _, Nat.zero_le _⟩ ms_X11_within lk_X11_317 dX11_law_9 (rfl : 9 + 3 = 12) rfl rfl (c_X11_within X.l u (k_ap [(0, .inl (0, (0 : Int32))), (0, .inl (2, c0_2)), (0, .inl (3, c0_3)), (0, .inl (4, c0_4)), (0, .inl (5, c0_5)), (0, .inl (6, c0_6)), (0, .inl (7, c0_7)), (0, .inl (8, c0_8)), (0, .inl (37, c0_37)), (1, .inr (.inr (.inl a1))), (11, .inr (.inr (.inl a11))), (12, .inr (.inr (.inl a12))), (13, .inr (.inr (.inl a13))), (14, .inr (.inr (.inl a14))), (15, .inr (.inr (.inl a15)))] (shM, I, L, Rf)) (k_gH rfl)  q9) rfl rfl rfl rfl rfl ?_
  refine r_if_eq (tgt := 38) C dX11_law_12 (by decide) (rfl : 12 + 3 = 15) (fun c12 => ?_) (fun c12 => ?_)
  · have h := k_t c12 h
    refine k_mask [true, true, true, false, false] ?_
    exact sX11_law_38 u C hr hR ea2 (0 : Int32) c0_2 c0_3 c0_4 c0_5 c0_6 c0_7 c0_8 c0_37 a1 a11 a12 a13 a14 a15 v1 v2 h
  · have h := k_f c12 h
    refine r_iload_n C dX11_law_15 (rfl : 15 + 1 = 16) rfl ?_
    refine r_if_lt (tgt := 38) C dX11_law_16 (by decide) (rfl : 16 + 3 = 19) (fun c16 => ?_) (fun c16 => ?_)
    · have h := k_t c16 h
      refine k_mask [true, true, true, false, false] ?_
      exact sX11_law_38 u C hr hR ea2 (0 : Int32) c0_2 c0_3 c0_4 c0_5 c0_6 c0_7 c0_8 c0_37 a1 a11 a12 a13 a14 a15 v1 v2 h
    · have h := k_f c16 h
      refine r_iload_n C dX11_law_19 (rfl : 19 + 1 = 20) rfl ?_
      refine r_aload_n C dX11_law_20 (rfl : 20 + 1 = 21) rfl ?_
      refine r_getI (v := c0_2) C dX11_law_21 (rfl : 21 + 3 = 24) fl_X11_118 (k_gS rfl) rfl (k_gI ds_X11_law rfl 1 rfl) ?_
      refine r_icmp_gt (tgt := 38) C dX11_law_24 (by decide) (rfl : 24 + 3 = 27) (fun c24 => ?_) (fun c24 => ?_)
      · have h := k_t c24 h
        refine k_mask [true, true, true, false, false] ?_
        exact sX11_law_38 u C hr hR ea2 (0 : Int32) c0_2 c0_3 c0_4 c0_5 c0_6 c0_7 c0_8 c0_37 a1 a11 a12 a13 a14 a15 v1 v2 h
      · have h := k_f c24 h
        refine r_iload_n C dX11_law_27 (rfl : 27 + 1 = 28) rfl ?_
        refine r_sipush (v := (150 : Int32)) C dX11_law_28 (rfl : 28 + 3 = 31) rfl ?_
        refine r_icmp_gt (tgt := 38) C dX11_law_31 (by decide) (rfl : 31 + 3 = 34) (fun c31 => ?_) (fun c31 => ?_)
        · have h := k_t c31 h
          refine k_mask [true, true, true, false, false] ?_
          exact sX11_law_38 u C hr hR ea2 (0 : Int32) c0_2 c0_3 c0_4 c0_5 c0_6 c0_7 c0_8 c0_37 a1 a11 a12 a13 a14 a15 v1 v2 h
        · have h := k_f c31 h
          refine r_iconst (v := (1 : Int32)) C dX11_law_34 (rfl : 34 + 1 = 35) rfl ?_
          refine r_goto (tgt := 39) C dX11_law_35 (by decide) ?_
          refine k_mask [true, true, true, false, false] ?_
          exact sX11_law_39 u C hr hR ea2 (0 : Int32) c0_2 c0_3 c0_4 c0_5 c0_6 c0_7 c0_8 c0_37 a1 a11 a12 a13 a14 a15 v1 v2 (1 : Int32) h
set_option maxHeartbeats 400000 in
set_option maxRecDepth 100000 in
theorem c_X11_law (l : Launch) (u : Nat) (h : k_H) (hsh : h.1 = shM) {c0_0 : Int32} (ec0_0 : h.2.1 0 0 = c0_0) {c0_2 : Int32} (ec0_2 : h.2.1 0 2 = c0_2) {c0_3 : Int32} (ec0_3 : h.2.1 0 3 = c0_3) {c0_4 : Int32} (ec0_4 : h.2.1 0 4 = c0_4) {c0_5 : Int32} (ec0_5 : h.2.1 0 5 = c0_5) {c0_6 : Int32} (ec0_6 : h.2.1 0 6 = c0_6) {c0_7 : Int32} (ec0_7 : h.2.1 0 7 = c0_7) {c0_8 : Int32} (ec0_8 : h.2.1 0 8 = c0_8) {c0_37 : Int32} (ec0_37 : h.2.1 0 37 = c0_37) {a1 : (Nat → Int32)} (ea1 : h.2.1 1 = a1) {a2 : (Nat → Int32)} (ea2 : h.2.1 2 = a2) {a11 : (Nat → Int32)} (ea11 : h.2.1 11 = a11) {a12 : (Nat → Int32)} (ea12 : h.2.1 12 = a12) {a13 : (Nat → Int32)} (ea13 : h.2.1 13 = a13) {a14 : (Nat → Int32)} (ea14 : h.2.1 14 = a14) {a15 : (Nat → Int32)} (ea15 : h.2.1 15 = a15) {x0 : Int32} {x1 : Int32} {out : Int32 × Int32 × Int32 × Int32 × Int32 × Int32 × Int32 × Int32 × Int32 × Int32 × (Nat → Int32) × (Nat → Int32) × (Nat → Int32) × (Nat → Int32) × (Nat → Int32) × (Nat → Int32)} (hf : f_X11_law u c0_0 c0_2 c0_3 c0_4 c0_5 c0_6 c0_7 c0_8 c0_37 a1 a2 a11 a12 a13 a14 a15 x0 x1 = some out) : k_CT l yX11_law cX11_law 5 (some .int) 73 1551 [.ref 0, .int x0, .int x1] h (some (.int out.1)) [(0, .inl (0, out.2.1)), (0, .inl (2, out.2.2.1)), (0, .inl (3, out.2.2.2.1)), (0, .inl (4, out.2.2.2.2.1)), (0, .inl (5, out.2.2.2.2.2.1)), (0, .inl (6, out.2.2.2.2.2.2.1)), (0, .inl (7, out.2.2.2.2.2.2.2.1)), (0, .inl (8, out.2.2.2.2.2.2.2.2.1)), (0, .inl (37, out.2.2.2.2.2.2.2.2.2.1)), (1, .inr (.inr (.inl out.2.2.2.2.2.2.2.2.2.2.1))), (11, .inr (.inr (.inl out.2.2.2.2.2.2.2.2.2.2.2.1))), (12, .inr (.inr (.inl out.2.2.2.2.2.2.2.2.2.2.2.2.1))), (13, .inr (.inr (.inl out.2.2.2.2.2.2.2.2.2.2.2.2.2.1))), (14, .inr (.inr (.inl out.2.2.2.2.2.2.2.2.2.2.2.2.2.2.1))), (15, .inr (.inr (.inl out.2.2.2.2.2.2.2.2.2.2.2.2.2.2.2)))] := by
  obtain ⟨sh, I, L, Rf⟩ := h
  try dsimp only
  obtain rfl : sh = shM := hsh
  refine k_ofW (by decide) (Nat.le_of_ble_eq_true rfl) ?_
  intro X ad hl hR0 hr C
  have hR : X.R.frames = 73 ∧ X.R.locals = 1551 := by rw [hR0]; exact ⟨rfl, rfl⟩
  have h := hf
  unfold f_X11_law at h
  refine k_start (us := [(0, .inl (0, c0_0)), (0, .inl (2, c0_2)), (0, .inl (3, c0_3)), (0, .inl (4, c0_4)), (0, .inl (5, c0_5)), (0, .inl (6, c0_6)), (0, .inl (7, c0_7)), (0, .inl (8, c0_8)), (0, .inl (37, c0_37)), (1, .inr (.inr (.inl a1))), (11, .inr (.inr (.inl a11))), (12, .inr (.inr (.inl a12))), (13, .inr (.inr (.inl a13))), (14, .inr (.inr (.inl a14))), (15, .inr (.inr (.inl a15)))]) (k_ao_I ec0_0 (k_ao_I ec0_2 (k_ao_I ec0_3 (k_ao_I ec0_4 (k_ao_I ec0_5 (k_ao_I ec0_6 (k_ao_I ec0_7 (k_ao_I ec0_8 (k_ao_I ec0_37 (k_ao_A ea1 (k_ao_A ea11 (k_ao_A ea12 (k_ao_A ea13 (k_ao_A ea14 (k_ao_A ea15 k_ap_0))))))))))))))) ?_
  show k_W X 5 0 0 _ ad (k_ap [(0, .inl (0, c0_0)), (0, .inl (2, c0_2)), (0, .inl (3, c0_3)), (0, .inl (4, c0_4)), (0, .inl (5, c0_5)), (0, .inl (6, c0_6)), (0, .inl (7, c0_7)), (0, .inl (8, c0_8)), (0, .inl (37, c0_37)), (1, .inr (.inr (.inl a1))), (11, .inr (.inr (.inl a11))), (12, .inr (.inr (.inl a12))), (13, .inr (.inr (.inl a13))), (14, .inr (.inr (.inl a14))), (15, .inr (.inr (.inl a15)))] (shM, I, L, Rf)) 0 [some (.ref 0), some (.int x0), some (.int x1), none, none] []
  refine k_mask [true, true, true, false, false] ?_
  exact sX11_law_0 u C hr hR ea2 c0_0 c0_2 c0_3 c0_4 c0_5 c0_6 c0_7 c0_8 c0_37 a1 a11 a12 a13 a14 a15 x0 x1 h
/-! LullabyPitModel.copies([I[II)V -/
theorem ds_X11_copies_18_19 : k_ds [(19, 2, 0)] = true := by decide +kernel
set_option maxHeartbeats 400000 in
set_option maxRecDepth 100000 in
theorem sX11_copies_18_19_3 (u : Nat) {X : k_X} {ad : Nat → Nat} (C : k_C X cX11_copies RX11 5 ad) (hr : X.meth.sig.returnType = none) (hR : X.R.frames = 0 ∧ X.R.locals = 0) {I : Nat → Nat → Int32} {L : Nat → Nat → Int64} {Rf : Nat → Nat → Option Nat} {a18 : (Nat → Int32)} (ea18 : I 18 = a18) {out : (Nat → Int32)} : ∀ (n : Nat) (a19 : (Nat → Int32)) (v3 : Int32) (v4 : Int32), bX11_copies_18_19_3 u a18 n a19 v3 v4 = some out → k_W X 5 0 0 (k_Q X ad none (k_ap [(19, .inr (.inr (.inl out)))] (shM, I, L, Rf))) ad (k_ap [(19, .inr (.inr (.inl a19)))] (shM, I, L, Rf)) 3 [none, some (.ref 18), some (.ref 19), some (.int v3), some (.int v4)] [] := by
  intro n
  induction n with
  | zero => intro a19 v3 v4 h; cases h
  | succ n ih =>
    intro a19 v3 v4 h
    refine r_iload C dX11_copies_3 (rfl : 3 + 2 = 5) rfl ?_
    refine r_iload_n C dX11_copies_5 (rfl : 5 + 1 = 6) rfl ?_
    refine r_icmp_ge (tgt := 23) C dX11_copies_6 (by decide) (rfl : 6 + 3 = 9) (fun c6 => ?_) (fun c6 => ?_)
    · have h := k_t c6 h
      cases h
      exact r_vret C hr dX11_copies_23
    · have h := k_f c6 h
      refine r_aload_n C dX11_copies_9 (rfl : 9 + 1 = 10) rfl ?_
      refine r_iload C dX11_copies_10 (rfl : 10 + 2 = 12) rfl ?_
      refine r_aload_n C dX11_copies_12 (rfl : 12 + 1 = 13) rfl ?_
      refine r_iload C dX11_copies_13 (rfl : 13 + 2 = 15) rfl ?_
      obtain ⟨hi15, h⟩ := k_i_of h
      refine a_i (j := (v4).toNatClampNeg) (f := a18) C dX11_copies_15 (rfl : 15 + 1 = 16) rfl ea18 hi15 rfl ?_
      obtain ⟨hi16, h⟩ := k_i_of h
      refine s_i (j := (v4).toNatClampNeg) (f := a19) (us' := [(19, .inr (.inr (.inl (upd a19 ((v4).toNatClampNeg) (a18 ((v4).toNatClampNeg))))))]) C dX11_copies_16 (rfl : 16 + 1 = 17) rfl rfl hi16 rfl ds_X11_copies_18_19 rfl rfl rfl ?_
      refine r_iinc (v := (v4 + (1 : Int32))) C dX11_copies_17 (rfl : 17 + 3 = 20) rfl rfl (by decide) ?_
      show k_W _ _ _ _ _ _ _ _ [none, some (.ref 18), some (.ref 19), some (.int v3), some (.int (v4 + (1 : Int32)))] _
      refine r_goto (tgt := 3) C dX11_copies_20 (by decide) ?_
      refine k_mask [false, true, true, true, true] ?_
      exact ih (upd a19 ((v4).toNatClampNeg) (a18 ((v4).toNatClampNeg))) v3 (v4 + (1 : Int32)) h
set_option maxHeartbeats 400000 in
set_option maxRecDepth 100000 in
theorem sX11_copies_18_19_0 (u : Nat) {X : k_X} {ad : Nat → Nat} (C : k_C X cX11_copies RX11 5 ad) (hr : X.meth.sig.returnType = none) (hR : X.R.frames = 0 ∧ X.R.locals = 0) {I : Nat → Nat → Int32} {L : Nat → Nat → Int64} {Rf : Nat → Nat → Option Nat} {a18 : (Nat → Int32)} (ea18 : I 18 = a18) {out : (Nat → Int32)} : ∀ (a19 : (Nat → Int32)) (v3 : Int32), bX11_copies_18_19_0 u a18 a19 v3 = some out → k_W X 5 0 0 (k_Q X ad none (k_ap [(19, .inr (.inr (.inl out)))] (shM, I, L, Rf))) ad (k_ap [(19, .inr (.inr (.inl a19)))] (shM, I, L, Rf)) 0 [none, some (.ref 18), some (.ref 19), some (.int v3), none] [] := by
  intro a19 v3 h
  unfold bX11_copies_18_19_0 at h
  refine r_iconst (v := (0 : Int32)) C dX11_copies_0 (rfl : 0 + 1 = 1) rfl ?_
  refine r_istore C dX11_copies_1 (rfl : 1 + 2 = 3) (by decide) (Nat.le_of_ble_eq_true rfl) ?_
  show k_W _ _ _ _ _ _ _ _ [none, some (.ref 18), some (.ref 19), some (.int v3), some (.int (0 : Int32))] _
  refine k_mask [false, true, true, true, true] ?_
  exact sX11_copies_18_19_3 u C hr hR ea18 u a19 v3 (0 : Int32) h
set_option maxHeartbeats 400000 in
set_option maxRecDepth 100000 in
theorem c_X11_copies_18_19 (l : Launch) (u : Nat) (h : k_H) (hsh : h.1 = shM) {a18 : (Nat → Int32)} (ea18 : h.2.1 18 = a18) {a19 : (Nat → Int32)} (ea19 : h.2.1 19 = a19) {x2 : Int32} {out : (Nat → Int32)} (hf : f_X11_copies_18_19 u a18 a19 x2 = some out) : k_CT l yX11_copies cX11_copies 5 none 0 0 [.ref 0, .ref 18, .ref 19, .int x2] h none [(19, .inr (.inr (.inl out)))] := by
  obtain ⟨sh, I, L, Rf⟩ := h
  try dsimp only
  obtain rfl : sh = shM := hsh
  refine k_ofW (by decide) (Nat.le_of_ble_eq_true rfl) ?_
  intro X ad hl hR0 hr C
  have hR : X.R.frames = 0 ∧ X.R.locals = 0 := by rw [hR0]; exact ⟨rfl, rfl⟩
  have h := hf
  unfold f_X11_copies_18_19 at h
  refine k_start (us := [(19, .inr (.inr (.inl a19)))]) (k_ao_A ea19 k_ap_0) ?_
  show k_W X 5 0 0 _ ad (k_ap [(19, .inr (.inr (.inl a19)))] (shM, I, L, Rf)) 0 [some (.ref 0), some (.ref 18), some (.ref 19), some (.int x2), none] []
  refine k_mask [false, true, true, true, false] ?_
  exact sX11_copies_18_19_0 u C hr hR ea18 a19 x2 h
/-! LullabyPitModel.copies([I[II)V -/
theorem ds_X11_copies_21_20 : k_ds [(20, 2, 0)] = true := by decide +kernel
set_option maxHeartbeats 400000 in
set_option maxRecDepth 100000 in
theorem sX11_copies_21_20_3 (u : Nat) {X : k_X} {ad : Nat → Nat} (C : k_C X cX11_copies RX11 5 ad) (hr : X.meth.sig.returnType = none) (hR : X.R.frames = 0 ∧ X.R.locals = 0) {I : Nat → Nat → Int32} {L : Nat → Nat → Int64} {Rf : Nat → Nat → Option Nat} {a21 : (Nat → Int32)} (ea21 : I 21 = a21) {out : (Nat → Int32)} : ∀ (n : Nat) (a20 : (Nat → Int32)) (v3 : Int32) (v4 : Int32), bX11_copies_21_20_3 u a21 n a20 v3 v4 = some out → k_W X 5 0 0 (k_Q X ad none (k_ap [(20, .inr (.inr (.inl out)))] (shM, I, L, Rf))) ad (k_ap [(20, .inr (.inr (.inl a20)))] (shM, I, L, Rf)) 3 [none, some (.ref 21), some (.ref 20), some (.int v3), some (.int v4)] [] := by
  intro n
  induction n with
  | zero => intro a20 v3 v4 h; cases h
  | succ n ih =>
    intro a20 v3 v4 h
    refine r_iload C dX11_copies_3 (rfl : 3 + 2 = 5) rfl ?_
    refine r_iload_n C dX11_copies_5 (rfl : 5 + 1 = 6) rfl ?_
    refine r_icmp_ge (tgt := 23) C dX11_copies_6 (by decide) (rfl : 6 + 3 = 9) (fun c6 => ?_) (fun c6 => ?_)
    · have h := k_t c6 h
      cases h
      exact r_vret C hr dX11_copies_23
    · have h := k_f c6 h
      refine r_aload_n C dX11_copies_9 (rfl : 9 + 1 = 10) rfl ?_
      refine r_iload C dX11_copies_10 (rfl : 10 + 2 = 12) rfl ?_
      refine r_aload_n C dX11_copies_12 (rfl : 12 + 1 = 13) rfl ?_
      refine r_iload C dX11_copies_13 (rfl : 13 + 2 = 15) rfl ?_
      obtain ⟨hi15, h⟩ := k_i_of h
      refine a_i (j := (v4).toNatClampNeg) (f := a21) C dX11_copies_15 (rfl : 15 + 1 = 16) rfl ea21 hi15 rfl ?_
      obtain ⟨hi16, h⟩ := k_i_of h
      refine s_i (j := (v4).toNatClampNeg) (f := a20) (us' := [(20, .inr (.inr (.inl (upd a20 ((v4).toNatClampNeg) (a21 ((v4).toNatClampNeg))))))]) C dX11_copies_16 (rfl : 16 + 1 = 17) rfl rfl hi16 rfl ds_X11_copies_21_20 rfl rfl rfl ?_
      refine r_iinc (v := (v4 + (1 : Int32))) C dX11_copies_17 (rfl : 17 + 3 = 20) rfl rfl (by decide) ?_
      show k_W _ _ _ _ _ _ _ _ [none, some (.ref 21), some (.ref 20), some (.int v3), some (.int (v4 + (1 : Int32)))] _
      refine r_goto (tgt := 3) C dX11_copies_20 (by decide) ?_
      refine k_mask [false, true, true, true, true] ?_
      exact ih (upd a20 ((v4).toNatClampNeg) (a21 ((v4).toNatClampNeg))) v3 (v4 + (1 : Int32)) h
set_option maxHeartbeats 400000 in
set_option maxRecDepth 100000 in
theorem sX11_copies_21_20_0 (u : Nat) {X : k_X} {ad : Nat → Nat} (C : k_C X cX11_copies RX11 5 ad) (hr : X.meth.sig.returnType = none) (hR : X.R.frames = 0 ∧ X.R.locals = 0) {I : Nat → Nat → Int32} {L : Nat → Nat → Int64} {Rf : Nat → Nat → Option Nat} {a21 : (Nat → Int32)} (ea21 : I 21 = a21) {out : (Nat → Int32)} : ∀ (a20 : (Nat → Int32)) (v3 : Int32), bX11_copies_21_20_0 u a21 a20 v3 = some out → k_W X 5 0 0 (k_Q X ad none (k_ap [(20, .inr (.inr (.inl out)))] (shM, I, L, Rf))) ad (k_ap [(20, .inr (.inr (.inl a20)))] (shM, I, L, Rf)) 0 [none, some (.ref 21), some (.ref 20), some (.int v3), none] [] := by
  intro a20 v3 h
  unfold bX11_copies_21_20_0 at h
  refine r_iconst (v := (0 : Int32)) C dX11_copies_0 (rfl : 0 + 1 = 1) rfl ?_
  refine r_istore C dX11_copies_1 (rfl : 1 + 2 = 3) (by decide) (Nat.le_of_ble_eq_true rfl) ?_
  show k_W _ _ _ _ _ _ _ _ [none, some (.ref 21), some (.ref 20), some (.int v3), some (.int (0 : Int32))] _
  refine k_mask [false, true, true, true, true] ?_
  exact sX11_copies_21_20_3 u C hr hR ea21 u a20 v3 (0 : Int32) h
set_option maxHeartbeats 400000 in
set_option maxRecDepth 100000 in
theorem c_X11_copies_21_20 (l : Launch) (u : Nat) (h : k_H) (hsh : h.1 = shM) {a20 : (Nat → Int32)} (ea20 : h.2.1 20 = a20) {a21 : (Nat → Int32)} (ea21 : h.2.1 21 = a21) {x2 : Int32} {out : (Nat → Int32)} (hf : f_X11_copies_21_20 u a20 a21 x2 = some out) : k_CT l yX11_copies cX11_copies 5 none 0 0 [.ref 0, .ref 21, .ref 20, .int x2] h none [(20, .inr (.inr (.inl out)))] := by
  obtain ⟨sh, I, L, Rf⟩ := h
  try dsimp only
  obtain rfl : sh = shM := hsh
  refine k_ofW (by decide) (Nat.le_of_ble_eq_true rfl) ?_
  intro X ad hl hR0 hr C
  have hR : X.R.frames = 0 ∧ X.R.locals = 0 := by rw [hR0]; exact ⟨rfl, rfl⟩
  have h := hf
  unfold f_X11_copies_21_20 at h
  refine k_start (us := [(20, .inr (.inr (.inl a20)))]) (k_ao_A ea20 k_ap_0) ?_
  show k_W X 5 0 0 _ ad (k_ap [(20, .inr (.inr (.inl a20)))] (shM, I, L, Rf)) 0 [some (.ref 0), some (.ref 21), some (.ref 20), some (.int x2), none] []
  refine k_mask [false, true, true, true, false] ?_
  exact sX11_copies_21_20_0 u C hr hR ea21 a20 x2 h
