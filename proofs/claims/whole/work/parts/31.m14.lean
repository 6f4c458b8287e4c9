/-! LullabyPitModel.told(I)I -/
theorem ds_X11_told : k_ds [(0, 0, 0), (1, 2, 0)] = true := by decide +kernel
set_option maxHeartbeats 400000 in
set_option maxRecDepth 100000 in
theorem sX11_told_0 (u : Nat) {X : k_X} {ad : Nat → Nat} (C : k_C X cX11_told RX11 2 ad) (hr : X.meth.sig.returnType = (some .int)) (hR : X.R.frames = 1 ∧ X.R.locals = 23) {I : Nat → Nat → Int32} {L : Nat → Nat → Int64} {Rf : Nat → Nat → Option Nat} {c0_25 : Int32} (ec0_25 : I 0 25 = c0_25) {c0_26 : Int32} (ec0_26 : I 0 26 = c0_26) {c0_28 : Int32} (ec0_28 : I 0 28 = c0_28) {c0_30 : Int32} (ec0_30 : I 0 30 = c0_30) {c0_43 : Int32} (ec0_43 : I 0 43 = c0_43) {c0_54 : Int32} (ec0_54 : I 0 54 = c0_54) {a20 : (Nat → Int32)} (ea20 : I 20 = a20) {out : Int32 × Int32 × (Nat → Int32)} : ∀ (c0_0 : Int32) (a1 : (Nat → Int32)) (v1 : Int32), bX11_told_0 u c0_25 c0_26 c0_28 c0_30 c0_43 c0_54 a20 c0_0 a1 v1 = some out → k_W X 2 0 0 (k_Q X ad (some (.int out.1)) (k_ap [(0, .inl (0, out.2.1)), (1, .inr (.inr (.inl out.2.2)))] (shM, I, L, Rf))) ad (k_ap [(0, .inl (0, c0_0)), (1, .inr (.inr (.inl a1)))] (shM, I, L, Rf)) 0 [some (.ref 0), some (.int v1)] [] := by
  intro c0_0 a1 v1 h
  unfold bX11_told_0 at h
  refine r_aload_n C dX11_told_0 (rfl : 0 + 1 = 1) rfl ?_
  refine r_iconst (v := (0 : Int32)) C dX11_told_1 (rfl : 1 + 1 = 2) rfl ?_
  refine p_I (us' := [(0, .inl (0, (0 : Int32))), (1, .inr (.inr (.inl a1)))]) C dX11_told_2 (rfl : 2 + 3 = 5) fp_X11_3 rfl rfl ds_X11_told rfl rfl rfl ?_
  refine r_aload_n C dX11_told_5 (rfl : 5 + 1 = 6) rfl ?_
  refine r_iload_n C dX11_told_6 (rfl : 6 + 1 = 7) rfl ?_
  refine r_iconst (v := (0 : Int32)) C dX11_told_7 (rfl : 7 + 1 = 8) rfl ?_
  refine r_bipush (v := (10 : Int32)) C dX11_told_8 (rfl : 8 + 2 = 10) rfl ?_
  obtain ⟨r10, q10, h⟩ := k_b_of h
  refine d_S (As := [.int v1, .int (0 : Int32), .int (10 : Int32)]) (st := [.ref 0]) (st' := [.int r10, .ref 0]) (h' := k_ap [(0, .inl (0, (0 : Int32))), (1, .inr (.inr (.inl a1)))] (shM, I, L, Rf)) C hR ⟨Nat.zero_le _, Nat.zero_le _⟩ ms_X11_within lk_X11_317 dX11_told_10 (rfl : 10 + 3 = 13) rfl rfl (c_X11_within X.l u (k_ap [(0, .inl (0, (0 : Int32))), (1, .inr (.inr (.inl a1)))] (shM, I, L, Rf)) rfl  q10) rfl rfl rfl rfl rfl ?_
  refine r_iconst (v := (1 : Int32)) C dX11_told_13 (rfl : 13 + 1 = 14) rfl ?_
  refine r_iconst (v := (2 : Int32)) C dX11_told_14 (rfl : 14 + 1 = 15) rfl ?_
  obtain ⟨r15, q15, h⟩ := k_b_of h
  refine d_V (As := [.int r10, .int (1 : Int32), .int (2 : Int32)]) (st := []) (st' := [.int r15.1]) (h' := k_ap [(0, .inl (0, r15.2.1)), (1, .inr (.inr (.inl r15.2.2)))] (shM, I, L, Rf)) C hR ⟨Nat.zero_le _, Nat.zero_le _⟩ mv_X11_may lk_X11_252 dX11_told_15 (rfl : 15 + 3 = 18) rfl rfl rfl rfl (c_X11_may X.l u (k_ap [(0, .inl (0, (0 : Int32))), (1, .inr (.inr (.inl a1)))] (shM, I, L, Rf)) rfl rfl rfl q15) rfl rfl rfl (k_jn (us' := [(0, .inl (0, r15.2.1)), (1, .inr (.inr (.inl r15.2.2)))]) ds_X11_told rfl rfl rfl) rfl ?_
  refine r_if_ne (tgt := 23) C dX11_told_18 (by decide) (rfl : 18 + 3 = 21) (fun c18 => ?_) (fun c18 => ?_)
  · have h := k_f c18 h
    refine r_iload_n C dX11_told_23 (rfl : 23 + 1 = 24) rfl ?_
    refine r_iconst (v := (3 : Int32)) C dX11_told_24 (rfl : 24 + 1 = 25) rfl ?_
    refine r_icmp_ge (tgt := 56) C dX11_told_25 (by decide) (rfl : 25 + 3 = 28) (fun c25 => ?_) (fun c25 => ?_)
    · have h := k_t c25 h
      refine r_iload_n C dX11_told_56 (rfl : 56 + 1 = 57) rfl ?_
      refine r_bipush (v := (6 : Int32)) C dX11_told_57 (rfl : 57 + 2 = 59) rfl ?_
      refine r_icmp_ge (tgt := 105) C dX11_told_59 (by decide) (rfl : 59 + 3 = 62) (fun c59 => ?_) (fun c59 => ?_)
      · have h := k_t c59 h
        refine r_iload_n C dX11_told_105 (rfl : 105 + 1 = 106) rfl ?_
        refine r_bipush (v := (9 : Int32)) C dX11_told_106 (rfl : 106 + 2 = 108) rfl ?_
        refine r_icmp_ge (tgt := 151) C dX11_told_108 (by decide) (rfl : 108 + 3 = 111) (fun c108 => ?_) (fun c108 => ?_)
        · have h := k_t c108 h
          refine r_iload_n C dX11_told_151 (rfl : 151 + 1 = 152) rfl ?_
          refine r_bipush (v := (9 : Int32)) C dX11_told_152 (rfl : 152 + 2 = 154) rfl ?_
          refine r_icmp_ne (tgt := 164) C dX11_told_154 (by decide) (rfl : 154 + 3 = 157) (fun c154 => ?_) (fun c154 => ?_)
          · have h := k_f c154 h
            refine r_aload_n C dX11_told_164 (rfl : 164 + 1 = 165) rfl ?_
            refine r_getI (v := c0_54) C dX11_told_165 (rfl : 165 + 3 = 168) fl_X11_206 rfl rfl ec0_54 ?_
            cases h
            exact r_iret C hr dX11_told_168
          · have h := k_t c154 h
            refine r_aload_n C dX11_told_157 (rfl : 157 + 1 = 158) rfl ?_
            refine r_getI (v := c0_43) C dX11_told_158 (rfl : 158 + 3 = 161) fl_X11_215 rfl rfl ec0_43 ?_
            refine r_goto (tgt := 168) C dX11_told_161 (by decide) ?_
            cases h
            exact r_iret C hr dX11_told_168
        · have h := k_f c108 h
          refine r_iload_n C dX11_told_111 (rfl : 111 + 1 = 112) rfl ?_
          refine r_bipush (v := (6 : Int32)) C dX11_told_112 (rfl : 112 + 2 = 114) rfl ?_
          refine r_icmp_ne (tgt := 127) C dX11_told_114 (by decide) (rfl : 114 + 3 = 117) (fun c114 => ?_) (fun c114 => ?_)
          · have h := k_f c114 h
            refine r_iload_n C dX11_told_127 (rfl : 127 + 1 = 128) rfl ?_
            refine r_bipush (v := (7 : Int32)) C dX11_told_128 (rfl : 128 + 2 = 130) rfl ?_
            refine r_icmp_ne (tgt := 143) C dX11_told_130 (by decide) (rfl : 130 + 3 = 133) (fun c130 => ?_) (fun c130 => ?_)
            · have h := k_f c130 h
              refine r_aload_n C dX11_told_143 (rfl : 143 + 1 = 144) rfl ?_
              refine r_getR (q := 20) C dX11_told_144 (rfl : 144 + 3 = 147) fl_X11_74 rfl rfl ?_
              refine r_bipush (v := (74 : Int32)) C dX11_told_147 (rfl : 147 + 2 = 149) rfl ?_
              refine a_i (j := 74) (f := a20) C dX11_told_149 (rfl : 149 + 1 = 150) rfl ea20 (show ¬ ((74 : Int32) < 0 ∨ 77 ≤ ((74 : Int32)).toNatClampNeg) by decide) rfl ?_
              cases h
              exact r_iret C hr dX11_told_150
            · have h := k_t c130 h
              refine r_aload_n C dX11_told_133 (rfl : 133 + 1 = 134) rfl ?_
              refine r_getR (q := 20) C dX11_told_134 (rfl : 134 + 3 = 137) fl_X11_74 rfl rfl ?_
              refine r_bipush (v := (73 : Int32)) C dX11_told_137 (rfl : 137 + 2 = 139) rfl ?_
              refine a_i (j := 73) (f := a20) C dX11_told_139 (rfl : 139 + 1 = 140) rfl ea20 (show ¬ ((73 : Int32) < 0 ∨ 77 ≤ ((73 : Int32)).toNatClampNeg) by decide) rfl ?_
              refine r_goto (tgt := 150) C dX11_told_140 (by decide) ?_
              cases h
              exact r_iret C hr dX11_told_150
          · have h := k_t c114 h
            refine r_aload_n C dX11_told_117 (rfl : 117 + 1 = 118) rfl ?_
            refine r_getR (q := 20) C dX11_told_118 (rfl : 118 + 3 = 121) fl_X11_74 rfl rfl ?_
            refine r_bipush (v := (72 : Int32)) C dX11_told_121 (rfl : 121 + 2 = 123) rfl ?_
            refine a_i (j := 72) (f := a20) C dX11_told_123 (rfl : 123 + 1 = 124) rfl ea20 (show ¬ ((72 : Int32) < 0 ∨ 77 ≤ ((72 : Int32)).toNatClampNeg) by decide) rfl ?_
            refine r_goto (tgt := 150) C dX11_told_124 (by decide) ?_
            cases h
            exact r_iret C hr dX11_told_150
      · have h := k_f c59 h
        refine r_iload_n C dX11_told_62 (rfl : 62 + 1 = 63) rfl ?_
        refine r_iconst (v := (3 : Int32)) C dX11_told_63 (rfl : 63 + 1 = 64) rfl ?_
        refine r_icmp_ne (tgt := 77) C dX11_told_64 (by decide) (rfl : 64 + 3 = 67) (fun c64 => ?_) (fun c64 => ?_)
        · have h := k_f c64 h
          refine r_iload_n C dX11_told_77 (rfl : 77 + 1 = 78) rfl ?_
          refine r_iconst (v := (4 : Int32)) C dX11_told_78 (rfl : 78 + 1 = 79) rfl ?_
          refine r_icmp_ne (tgt := 97) C dX11_told_79 (by decide) (rfl : 79 + 3 = 82) (fun c79 => ?_) (fun c79 => ?_)
          · have h := k_f c79 h
            refine r_aload_n C dX11_told_97 (rfl : 97 + 1 = 98) rfl ?_
            refine r_getR (q := 20) C dX11_told_98 (rfl : 98 + 3 = 101) fl_X11_74 rfl rfl ?_
            refine r_bipush (v := (71 : Int32)) C dX11_told_101 (rfl : 101 + 2 = 103) rfl ?_
            refine a_i (j := 71) (f := a20) C dX11_told_103 (rfl : 103 + 1 = 104) rfl ea20 (show ¬ ((71 : Int32) < 0 ∨ 77 ≤ ((71 : Int32)).toNatClampNeg) by decide) rfl ?_
            cases h
            exact r_iret C hr dX11_told_104
          · have h := k_t c79 h
            refine r_aload_n C dX11_told_82 (rfl : 82 + 1 = 83) rfl ?_
            refine r_getI (v := c0_28) C dX11_told_83 (rfl : 83 + 3 = 86) fl_X11_193 rfl rfl ec0_28 ?_
            refine r_aload_n C dX11_told_86 (rfl : 86 + 1 = 87) rfl ?_
            refine r_getR (q := 20) C dX11_told_87 (rfl : 87 + 3 = 90) fl_X11_74 rfl rfl ?_
            refine r_bipush (v := (70 : Int32)) C dX11_told_90 (rfl : 90 + 2 = 92) rfl ?_
            refine a_i (j := 70) (f := a20) C dX11_told_92 (rfl : 92 + 1 = 93) rfl ea20 (show ¬ ((70 : Int32) < 0 ∨ 77 ≤ ((70 : Int32)).toNatClampNeg) by decide) rfl ?_
            refine r_isub C dX11_told_93 (rfl : 93 + 1 = 94) ?_
            refine r_goto (tgt := 104) C dX11_told_94 (by decide) ?_
            cases h
            exact r_iret C hr dX11_told_104
        · have h := k_t c64 h
          refine r_aload_n C dX11_told_67 (rfl : 67 + 1 = 68) rfl ?_
          refine r_getR (q := 20) C dX11_told_68 (rfl : 68 + 3 = 71) fl_X11_74 rfl rfl ?_
          refine r_bipush (v := (69 : Int32)) C dX11_told_71 (rfl : 71 + 2 = 73) rfl ?_
          refine a_i (j := 69) (f := a20) C dX11_told_73 (rfl : 73 + 1 = 74) rfl ea20 (show ¬ ((69 : Int32) < 0 ∨ 77 ≤ ((69 : Int32)).toNatClampNeg) by decide) rfl ?_
          refine r_goto (tgt := 104) C dX11_told_74 (by decide) ?_
          cases h
          exact r_iret C hr dX11_told_104
    · have h := k_f c25 h
      refine r_iload_n C dX11_told_28 (rfl : 28 + 1 = 29) rfl ?_
      refine r_if_ne (tgt := 39) C dX11_told_29 (by decide) (rfl : 29 + 3 = 32) (fun c29 => ?_) (fun c29 => ?_)
      · have h := k_f c29 h
        refine r_iload_n C dX11_told_39 (rfl : 39 + 1 = 40) rfl ?_
        refine r_iconst (v := (1 : Int32)) C dX11_told_40 (rfl : 40 + 1 = 41) rfl ?_
        refine r_icmp_ne (tgt := 51) C dX11_told_41 (by decide) (rfl : 41 + 3 = 44) (fun c41 => ?_) (fun c41 => ?_)
        · have h := k_f c41 h
          refine r_aload_n C dX11_told_51 (rfl : 51 + 1 = 52) rfl ?_
          refine r_getI (v := c0_30) C dX11_told_52 (rfl : 52 + 3 = 55) fl_X11_199 rfl rfl ec0_30 ?_
          cases h
          exact r_iret C hr dX11_told_55
        · have h := k_t c41 h
          refine r_aload_n C dX11_told_44 (rfl : 44 + 1 = 45) rfl ?_
          refine r_getI (v := c0_26) C dX11_told_45 (rfl : 45 + 3 = 48) fl_X11_187 rfl rfl ec0_26 ?_
          refine r_goto (tgt := 55) C dX11_told_48 (by decide) ?_
          cases h
          exact r_iret C hr dX11_told_55
      · have h := k_t c29 h
        refine r_aload_n C dX11_told_32 (rfl : 32 + 1 = 33) rfl ?_
        refine r_getI (v := c0_25) C dX11_told_33 (rfl : 33 + 3 = 36) fl_X11_184 rfl rfl ec0_25 ?_
        refine r_goto (tgt := 55) C dX11_told_36 (by decide) ?_
        cases h
        exact r_iret C hr dX11_told_55
  · have h := k_t c18 h
    refine r_iconst (v := (0 : Int32)) C dX11_told_21 (rfl : 21 + 1 = 22) rfl ?_
    cases h
    exact r_iret C hr dX11_told_22
set_option maxHeartbeats 400000 in
set_option maxRecDepth 100000 in
theorem c_X11_told (l : Launch) (u : Nat) (h : k_H) (hsh : h.1 = shM) {c0_0 : Int32} (ec0_0 : h.2.1 0 0 = c0_0) {c0_25 : Int32} (ec0_25 : h.2.1 0 25 = c0_25) {c0_26 : Int32} (ec0_26 : h.2.1 0 26 = c0_26) {c0_28 : Int32} (ec0_28 : h.2.1 0 28 = c0_28) {c0_30 : Int32} (ec0_30 : h.2.1 0 30 = c0_30) {c0_43 : Int32} (ec0_43 : h.2.1 0 43 = c0_43) {c0_54 : Int32} (ec0_54 : h.2.1 0 54 = c0_54) {a1 : (Nat → Int32)} (ea1 : h.2.1 1 = a1) {a20 : (Nat → Int32)} (ea20 : h.2.1 20 = a20) {x0 : Int32} {out : Int32 × Int32 × (Nat → Int32)} (hf : f_X11_told u c0_0 c0_25 c0_26 c0_28 c0_30 c0_43 c0_54 a1 a20 x0 = some out) : k_CT l yX11_told cX11_told 2 (some .int) 1 23 [.ref 0, .int x0] h (some (.int out.1)) [(0, .inl (0, out.2.1)), (1, .inr (.inr (.inl out.2.2)))] := by
  obtain ⟨sh, I, L, Rf⟩ := h
  try dsimp only
  obtain rfl : sh = shM := hsh
  refine k_ofW (by decide) (Nat.le_of_ble_eq_true rfl) ?_
  intro X ad hl hR0 hr C
  have hR : X.R.frames = 1 ∧ X.R.locals = 23 := by rw [hR0]; exact ⟨rfl, rfl⟩
  have h := hf
  unfold f_X11_told at h
  refine k_start (us := [(0, .inl (0, c0_0)), (1, .inr (.inr (.inl a1)))]) (k_ao_I ec0_0 (k_ao_A ea1 k_ap_0)) ?_
  show k_W X 2 0 0 _ ad (k_ap [(0, .inl (0, c0_0)), (1, .inr (.inr (.inl a1)))] (shM, I, L, Rf)) 0 [some (.ref 0), some (.int x0)] []
  refine k_mask [true, true] ?_
  exact sX11_told_0 u C hr hR ec0_25 ec0_26 ec0_28 ec0_30 ec0_43 ec0_54 ea20 c0_0 a1 x0 h
/-! LullabyPitModel.isCell(III)Z -/
theorem ds_X11_isCell : k_ds [(0, 0, 0), (1, 2, 0)] = true := by decide +kernel
set_option maxHeartbeats 400000 in
set_option maxRecDepth 100000 in
theorem sX11_isCell_0 (u : Nat) {X : k_X} {ad : Nat → Nat} (C : k_C X cX11_isCell RX11 4 ad) (hr : X.meth.sig.returnType = (some .boolean)) (hR : X.R.frames = 1 ∧ X.R.locals = 23) {I : Nat → Nat → Int32} {L : Nat → Nat → Int64} {Rf : Nat → Nat → Option Nat} {c0_25 : Int32} (ec0_25 : I 0 25 = c0_25) {c0_26 : Int32} (ec0_26 : I 0 26 = c0_26) {out : Int32 × Int32 × (Nat → Int32)} : ∀ (c0_0 : Int32) (a1 : (Nat → Int32)) (v1 : Int32) (v2 : Int32) (v3 : Int32), bX11_isCell_0 u c0_25 c0_26 c0_0 a1 v1 v2 v3 = some out → k_W X 4 0 0 (k_Q X ad (some (.int out.1)) (k_ap [(0, .inl (0, out.2.1)), (1, .inr (.inr (.inl out.2.2)))] (shM, I, L, Rf))) ad (k_ap [(0, .inl (0, c0_0)), (1, .inr (.inr (.inl a1)))] (shM, I, L, Rf)) 0 [some (.ref 0), some (.int v1), some (.int v2), some (.int v3)] [] := by
  intro c0_0 a1 v1 v2 v3 h
  unfold bX11_isCell_0 at h
  refine r_aload_n C dX11_isCell_0 (rfl : 0 + 1 = 1) rfl ?_
  refine r_aload_n C dX11_isCell_1 (rfl : 1 + 1 = 2) rfl ?_
  refine r_iload_n C dX11_isCell_2 (rfl : 2 + 1 = 3) rfl ?_
  refine r_iload_n C dX11_isCell_3 (rfl : 3 + 1 = 4) rfl ?_
  obtain ⟨r4, q4, h⟩ := k_b_of h
  refine d_V (As := [.int v1, .int v2]) (st := [.ref 0]) (st' := [.int r4, .ref 0]) (h' := k_ap [(0, .inl (0, c0_0)), (1, .inr (.inr (.inl a1)))] (shM, I, L, Rf)) C hR ⟨Nat.zero_le _, Nat.zero_le _⟩ mv_X11_isIn lk_X11_363 dX11_isCell_4 (rfl : 4 + 3 = 7) rfl rfl rfl rfl (c_X11_isIn X.l u (k_ap [(0, .inl (0, c0_0)), (1, .inr (.inr (.inl a1)))] (shM, I, L, Rf)) rfl ec0_25 ec0_26 q4) rfl rfl rfl rfl rfl ?_
  refine r_iload_n C dX11_isCell_7 (rfl : 7 + 1 = 8) rfl ?_
  refine r_iconst (v := (0 : Int32)) C dX11_isCell_8 (rfl : 8 + 1 = 9) rfl ?_
  obtain ⟨r9, q9, h⟩ := k_b_of h
  refine d_V (As := [.int r4, .int v3, .int (0 : Int32)]) (st := []) (st' := [.int r9.1]) (h' := k_ap [(0, .inl (0, r9.2.1)), (1, .inr (.inr (.inl r9.2.2)))] (shM, I, L, Rf)) C hR ⟨Nat.zero_le _, Nat.zero_le _⟩ mv_X11_may lk_X11_252 dX11_isCell_9 (rfl : 9 + 3 = 12) rfl rfl rfl rfl (c_X11_may X.l u (k_ap [(0, .inl (0, c0_0)), (1, .inr (.inr (.inl a1)))] (shM, I, L, Rf)) rfl rfl rfl q9) rfl rfl rfl (k_jn (us' := [(0, .inl (0, r9.2.1)), (1, .inr (.inr (.inl r9.2.2)))]) ds_X11_isCell rfl rfl rfl) rfl ?_
  obtain ⟨hz, h⟩ := k_z_of h
  cases h
  exact r_zret C hr hz dX11_isCell_12
set_option maxHeartbeats 400000 in
set_option maxRecDepth 100000 in
theorem c_X11_isCell (l : Launch) (u : Nat) (h : k_H) (hsh : h.1 = shM) {c0_0 : Int32} (ec0_0 : h.2.1 0 0 = c0_0) {c0_25 : Int32} (ec0_25 : h.2.1 0 25 = c0_25) {c0_26 : Int32} (ec0_26 : h.2.1 0 26 = c0_26) {a1 : (Nat → Int32)} (ea1 : h.2.1 1 = a1) {x0 : Int32} {x1 : Int32} {x2 : Int32} {out : Int32 × Int32 × (Nat → Int32)} (hf : f_X11_isCell u c0_0 c0_25 c0_26 a1 x0 x1 x2 = some out) : k_CT l yX11_isCell cX11_isCell 4 (some .boolean) 1 23 [.ref 0, .int x0, .int x1, .int x2] h (some (.int out.1)) [(0, .inl (0, out.2.1)), (1, .inr (.inr (.inl out.2.2)))] := by
  obtain ⟨sh, I, L, Rf⟩ := h
  try dsimp only
  obtain rfl : sh = shM := hsh
  refine k_ofW (by decide) (Nat.le_of_ble_eq_true rfl) ?_
  intro X ad hl hR0 hr C
  have hR : X.R.frames = 1 ∧ X.R.locals = 23 := by rw [hR0]; exact ⟨rfl, rfl⟩
  have h := hf
  unfold f_X11_isCell at h
  refine k_start (us := [(0, .inl (0, c0_0)), (1, .inr (.inr (.inl a1)))]) (k_ao_I ec0_0 (k_ao_A ea1 k_ap_0)) ?_
  show k_W X 4 0 0 _ ad (k_ap [(0, .inl (0, c0_0)), (1, .inr (.inr (.inl a1)))] (shM, I, L, Rf)) 0 [some (.ref 0), some (.int x0), some (.int x1), some (.int x2)] []
  refine k_mask [true, true, true, true] ?_
  exact sX11_isCell_0 u C hr hR ec0_25 ec0_26 c0_0 a1 x0 x1 x2 h
/-! LullabyPitModel.cell(III)I -/
theorem ds_X11_cell : k_ds [(0, 0, 0), (1, 2, 0), (21, 2, 0)] = true := by decide +kernel
set_option maxHeartbeats 400000 in
set_option maxRecDepth 100000 in
theorem sX11_cell_0 (u : Nat) {X : k_X} {ad : Nat → Nat} (C : k_C X cX11_cell RX11 5 ad) (hr : X.meth.sig.returnType = (some .int)) (hR : X.R.frames = 2 ∧ X.R.locals = 46) {I : Nat → Nat → Int32} {L : Nat → Nat → Int64} {Rf : Nat → Nat → Option Nat} {c0_25 : Int32} (ec0_25 : I 0 25 = c0_25) {c0_26 : Int32} (ec0_26 : I 0 26 = c0_26) {a7 : (Nat → Int32)} (ea7 : I 7 = a7) {a8 : (Nat → Int32)} (ea8 : I 8 = a8) {a20 : (Nat → Int32)} (ea20 : I 20 = a20) {out : Int32 × Int32 × (Nat → Int32) × (Nat → Int32)} : ∀ (c0_0 : Int32) (a1 : (Nat → Int32)) (a21 : (Nat → Int32)) (v1 : Int32) (v2 : Int32) (v3 : Int32), bX11_cell_0 u c0_25 c0_26 a7 a8 a20 c0_0 a1 a21 v1 v2 v3 = some out → k_W X 5 0 0 (k_Q X ad (some (.int out.1)) (k_ap [(0, .inl (0, out.2.1)), (1, .inr (.inr (.inl out.2.2.1))), (21, .inr (.inr (.inl out.2.2.2)))] (shM, I, L, Rf))) ad (k_ap [(0, .inl (0, c0_0)), (1, .inr (.inr (.inl a1))), (21, .inr (.inr (.inl a21)))] (shM, I, L, Rf)) 0 [some (.ref 0), some (.int v1), some (.int v2), some (.int v3), none] [] := by
  intro c0_0 a1 a21 v1 v2 v3 h
  unfold bX11_cell_0 at h
  refine r_aload_n C dX11_cell_0 (rfl : 0 + 1 = 1) rfl ?_
  refine r_iconst (v := (0 : Int32)) C dX11_cell_1 (rfl : 1 + 1 = 2) rfl ?_
  refine p_I (us' := [(0, .inl (0, (0 : Int32))), (1, .inr (.inr (.inl a1))), (21, .inr (.inr (.inl a21)))]) C dX11_cell_2 (rfl : 2 + 3 = 5) fp_X11_3 rfl rfl ds_X11_cell rfl rfl rfl ?_
  refine r_aload_n C dX11_cell_5 (rfl : 5 + 1 = 6) rfl ?_
  refine r_iload_n C dX11_cell_6 (rfl : 6 + 1 = 7) rfl ?_
  refine r_iload_n C dX11_cell_7 (rfl : 7 + 1 = 8) rfl ?_
  refine r_iconst (v := (1 : Int32)) C dX11_cell_8 (rfl : 8 + 1 = 9) rfl ?_
  obtain ⟨r9, q9, h⟩ := k_b_of h
  refine d_V (As := [.int v1, .int v2, .int (1 : Int32)]) (st := []) (st' := [.int r9.1]) (h' := k_ap [(0, .inl (0, r9.2.1)), (1, .inr (.inr (.inl r9.2.2))), (21, .inr (.inr (.inl a21)))] (shM, I, L, Rf)) C hR ⟨Nat.zero_le _, Nat.zero_le _⟩ mv_X11_isCell lk_X11_415 dX11_cell_9 (rfl : 9 + 3 = 12) rfl rfl rfl rfl (c_X11_isCell X.l u (k_ap [(0, .inl (0, (0 : Int32))), (1, .inr (.inr (.inl a1))), (21, .inr (.inr (.inl a21)))] (shM, I, L, Rf)) rfl rfl ec0_25 ec0_26 rfl q9) rfl rfl rfl (k_jn (us' := [(0, .inl (0, r9.2.1)), (1, .inr (.inr (.inl r9.2.2))), (21, .inr (.inr (.inl a21)))]) ds_X11_cell rfl rfl rfl) rfl ?_
  refine r_if_eq (tgt := 30) C dX11_cell_12 (by decide) (rfl : 12 + 3 = 15) (fun c12 => ?_) (fun c12 => ?_)
  · have h := k_t c12 h
    refine r_iconst (v := (0 : Int32)) C dX11_cell_30 (rfl : 30 + 1 = 31) rfl ?_
    cases h
    exact r_iret C hr dX11_cell_31
  · have h := k_f c12 h
    refine r_aload_n C dX11_cell_15 (rfl : 15 + 1 = 16) rfl ?_
    refine r_iload_n C dX11_cell_16 (rfl : 16 + 1 = 17) rfl ?_
    refine r_iconst (v := (0 : Int32)) C dX11_cell_17 (rfl : 17 + 1 = 18) rfl ?_
    refine r_iconst (v := (3 : Int32)) C dX11_cell_18 (rfl : 18 + 1 = 19) rfl ?_
    obtain ⟨r19, q19, h⟩ := k_b_of h
    refine d_S (As := [.int v3, .int (0 : Int32), .int (3 : Int32)]) (st := [.ref 0]) (st' := [.int r19, .ref 0]) (h' := k_ap [(0, .inl (0, r9.2.1)), (1, .inr (.inr (.inl r9.2.2))), (21, .inr (.inr (.inl a21)))] (shM, I, L, Rf)) C hR ⟨Nat.zero_le _, Nat.zero_le _⟩ ms_X11_within lk_X11_317 dX11_cell_19 (rfl : 19 + 3 = 22) rfl rfl (c_X11_within X.l u (k_ap [(0, .inl (0, r9.2.1)), (1, .inr (.inr (.inl r9.2.2))), (21, .inr (.inr (.inl a21)))] (shM, I, L, Rf)) rfl  q19) rfl rfl rfl rfl rfl ?_
    refine r_iconst (v := (2 : Int32)) C dX11_cell_22 (rfl : 22 + 1 = 23) rfl ?_
    refine r_iconst (v := (2 : Int32)) C dX11_cell_23 (rfl : 23 + 1 = 24) rfl ?_
    obtain ⟨r24, q24, h⟩ := k_b_of h
    refine d_V (As := [.int r19, .int (2 : Int32), .int (2 : Int32)]) (st := []) (st' := [.int r24.1]) (h' := k_ap [(0, .inl (0, r24.2.1)), (1, .inr (.inr (.inl r24.2.2))), (21, .inr (.inr (.inl a21)))] (shM, I, L, Rf)) C hR ⟨Nat.zero_le _, Nat.zero_le _⟩ mv_X11_may lk_X11_252 dX11_cell_24 (rfl : 24 + 3 = 27) rfl rfl rfl rfl (c_X11_may X.l u (k_ap [(0, .inl (0, r9.2.1)), (1, .inr (.inr (.inl r9.2.2))), (21, .inr (.inr (.inl a21)))] (shM, I, L, Rf)) rfl rfl rfl q24) rfl rfl rfl (k_jn (us' := [(0, .inl (0, r24.2.1)), (1, .inr (.inr (.inl r24.2.2))), (21, .inr (.inr (.inl a21)))]) ds_X11_cell rfl rfl rfl) rfl ?_
    refine r_if_ne (tgt := 32) C dX11_cell_27 (by decide) (rfl : 27 + 3 = 30) (fun c27 => ?_) (fun c27 => ?_)
    · have h := k_f c27 h
      refine r_aload_n C dX11_cell_32 (rfl : 32 + 1 = 33) rfl ?_
      obtain ⟨r33, q33, h⟩ := k_b_of h
      refine d_V (As := []) (st := []) (st' := []) (h' := k_ap [(0, .inl (0, r24.2.1)), (1, .inr (.inr (.inl r24.2.2))), (21, .inr (.inr (.inl r33)))] (shM, I, L, Rf)) C hR ⟨Nat.zero_le _, Nat.zero_le _⟩ mv_X11_take lk_X11_345 dX11_cell_33 (rfl : 33 + 3 = 36) rfl rfl rfl rfl (c_X11_take X.l u (k_ap [(0, .inl (0, r24.2.1)), (1, .inr (.inr (.inl r24.2.2))), (21, .inr (.inr (.inl a21)))] (shM, I, L, Rf)) rfl ea20 rfl q33) rfl rfl rfl (k_jn (us' := [(0, .inl (0, r24.2.1)), (1, .inr (.inr (.inl r24.2.2))), (21, .inr (.inr (.inl r33)))]) ds_X11_cell rfl rfl rfl) rfl ?_
      refine r_bipush (v := (8 : Int32)) C dX11_cell_36 (rfl : 36 + 2 = 38) rfl ?_
      refine r_iload_n C dX11_cell_38 (rfl : 38 + 1 = 39) rfl ?_
      refine r_imul C dX11_cell_39 (rfl : 39 + 1 = 40) ?_
      refine r_iload_n C dX11_cell_40 (rfl : 40 + 1 = 41) rfl ?_
      refine r_iadd C dX11_cell_41 (rfl : 41 + 1 = 42) ?_
      refine r_istore C dX11_cell_42 (rfl : 42 + 2 = 44) (by decide) (Nat.le_of_ble_eq_true rfl) ?_
      show k_W _ _ _ _ _ _ _ _ [some (.ref 0), some (.int v1), some (.int v2), some (.int v3), some (.int (((8 : Int32) * v2) + v1))] _
      refine r_iload_n C dX11_cell_44 (rfl : 44 + 1 = 45) rfl ?_
      refine r_iconst (v := (2 : Int32)) C dX11_cell_45 (rfl : 45 + 1 = 46) rfl ?_
      refine r_icmp_ge (tgt := 71) C dX11_cell_46 (by decide) (rfl : 46 + 3 = 49) (fun c46 => ?_) (fun c46 => ?_)
      · have h := k_t c46 h
        refine r_iload_n C dX11_cell_71 (rfl : 71 + 1 = 72) rfl ?_
        refine r_iconst (v := (2 : Int32)) C dX11_cell_72 (rfl : 72 + 1 = 73) rfl ?_
        refine r_icmp_ne (tgt := 86) C dX11_cell_73 (by decide) (rfl : 73 + 3 = 76) (fun c73 => ?_) (fun c73 => ?_)
        · have h := k_f c73 h
          refine r_aload_n C dX11_cell_86 (rfl : 86 + 1 = 87) rfl ?_
          refine r_getR (q := 21) C dX11_cell_87 (rfl : 87 + 3 = 90) fl_X11_77 rfl rfl ?_
          refine r_iload C dX11_cell_90 (rfl : 90 + 2 = 92) rfl ?_
          obtain ⟨hi92, h⟩ := k_i_of h
          refine a_i (j := ((((8 : Int32) * v2) + v1)).toNatClampNeg) (f := r33) C dX11_cell_92 (rfl : 92 + 1 = 93) rfl rfl hi92 rfl ?_
          refine r_iconst (v := (1 : Int32)) C dX11_cell_93 (rfl : 93 + 1 = 94) rfl ?_
          refine r_icmp_ne (tgt := 106) C dX11_cell_94 (by decide) (rfl : 94 + 3 = 97) (fun c94 => ?_) (fun c94 => ?_)
          · have h := k_f c94 h
            refine r_iconst (v := (0 : Int32)) C dX11_cell_106 (rfl : 106 + 1 = 107) rfl ?_
            cases h
            exact r_iret C hr dX11_cell_107
          · have h := k_t c94 h
            refine r_aload_n C dX11_cell_97 (rfl : 97 + 1 = 98) rfl ?_
            refine r_iload C dX11_cell_98 (rfl : 98 + 2 = 100) rfl ?_
            obtain ⟨r100, q100, h⟩ := k_b_of h
            refine d_V (As := [.int (((8 : Int32) * v2) + v1)]) (st := []) (st' := [.int r100]) (h' := k_ap [(0, .inl (0, r24.2.1)), (1, .inr (.inr (.inl r24.2.2))), (21, .inr (.inr (.inl r33)))] (shM, I, L, Rf)) C hR ⟨Nat.zero_le _, Nat.zero_le _⟩ mv_X11_wideAt lk_X11_373 dX11_cell_100 (rfl : 100 + 3 = 103) rfl rfl rfl rfl (c_X11_wideAt X.l u (k_ap [(0, .inl (0, r24.2.1)), (1, .inr (.inr (.inl r24.2.2))), (21, .inr (.inr (.inl r33)))] (shM, I, L, Rf)) rfl ec0_25 rfl q100) rfl rfl rfl rfl rfl ?_
            refine r_goto (tgt := 107) C dX11_cell_103 (by decide) ?_
            cases h
            exact r_iret C hr dX11_cell_107
        · have h := k_t c73 h
          refine r_aload_n C dX11_cell_76 (rfl : 76 + 1 = 77) rfl ?_
          refine r_getR (q := 21) C dX11_cell_77 (rfl : 77 + 3 = 80) fl_X11_77 rfl rfl ?_
          refine r_iload C dX11_cell_80 (rfl : 80 + 2 = 82) rfl ?_
          obtain ⟨hi82, h⟩ := k_i_of h
          refine a_i (j := ((((8 : Int32) * v2) + v1)).toNatClampNeg) (f := r33) C dX11_cell_82 (rfl : 82 + 1 = 83) rfl rfl hi82 rfl ?_
          refine r_goto (tgt := 107) C dX11_cell_83 (by decide) ?_
          cases h
          exact r_iret C hr dX11_cell_107
      · have h := k_f c46 h
        refine r_iload_n C dX11_cell_49 (rfl : 49 + 1 = 50) rfl ?_
        refine r_if_ne (tgt := 63) C dX11_cell_50 (by decide) (rfl : 50 + 3 = 53) (fun c50 => ?_) (fun c50 => ?_)
        · have h := k_f c50 h
          refine r_aload_n C dX11_cell_63 (rfl : 63 + 1 = 64) rfl ?_
          refine r_getR (q := 8) C dX11_cell_64 (rfl : 64 + 3 = 67) fl_X11_38 rfl rfl ?_
          refine r_iload C dX11_cell_67 (rfl : 67 + 2 = 69) rfl ?_
          obtain ⟨hi69, h⟩ := k_i_of h
          refine a_i (j := ((((8 : Int32) * v2) + v1)).toNatClampNeg) (f := a8) C dX11_cell_69 (rfl : 69 + 1 = 70) rfl ea8 hi69 rfl ?_
          cases h
          exact r_iret C hr dX11_cell_70
        · have h := k_t c50 h
          refine r_aload_n C dX11_cell_53 (rfl : 53 + 1 = 54) rfl ?_
          refine r_getR (q := 7) C dX11_cell_54 (rfl : 54 + 3 = 57) fl_X11_35 rfl rfl ?_
          refine r_iload C dX11_cell_57 (rfl : 57 + 2 = 59) rfl ?_
          obtain ⟨hi59, h⟩ := k_i_of h
          refine a_i (j := ((((8 : Int32) * v2) + v1)).toNatClampNeg) (f := a7) C dX11_cell_59 (rfl : 59 + 1 = 60) rfl ea7 hi59 rfl ?_
          refine r_goto (tgt := 70) C dX11_cell_60 (by decide) ?_
          cases h
          exact r_iret C hr dX11_cell_70
    · have h := k_t c27 h
      refine r_iconst (v := (0 : Int32)) C dX11_cell_30 (rfl : 30 + 1 = 31) rfl ?_
      cases h
      exact r_iret C hr dX11_cell_31
set_option maxHeartbeats 400000 in
set_option maxRecDepth 100000 in
theorem c_X11_cell (l : Launch) (u : Nat) (h : k_H) (hsh : h.1 = shM) {c0_0 : Int32} (ec0_0 : h.2.1 0 0 = c0_0) {c0_25 : Int32} (ec0_25 : h.2.1 0 25 = c0_25) {c0_26 : Int32} (ec0_26 : h.2.1 0 26 = c0_26) {a1 : (Nat → Int32)} (ea1 : h.2.1 1 = a1) {a7 : (Nat → Int32)} (ea7 : h.2.1 7 = a7) {a8 : (Nat → Int32)} (ea8 : h.2.1 8 = a8) {a20 : (Nat → Int32)} (ea20 : h.2.1 20 = a20) {a21 : (Nat → Int32)} (ea21 : h.2.1 21 = a21) {x0 : Int32} {x1 : Int32} {x2 : Int32} {out : Int32 × Int32 × (Nat → Int32) × (Nat → Int32)} (hf : f_X11_cell u c0_0 c0_25 c0_26 a1 a7 a8 a20 a21 x0 x1 x2 = some out) : k_CT l yX11_cell cX11_cell 5 (some .int) 2 46 [.ref 0, .int x0, .int x1, .int x2] h (some (.int out.1)) [(0, .inl (0, out.2.1)), (1, .inr (.inr (.inl out.2.2.1))), (21, .inr (.inr (.inl out.2.2.2)))] := by
  obtain ⟨sh, I, L, Rf⟩ := h
  try dsimp only
  obtain rfl : sh = shM := hsh
  refine k_ofW (by decide) (Nat.le_of_ble_eq_true rfl) ?_
  intro X ad hl hR0 hr C
  have hR : X.R.frames = 2 ∧ X.R.locals = 46 := by rw [hR0]; exact ⟨rfl, rfl⟩
  have h := hf
  unfold f_X11_cell at h
  refine k_start (us := [(0, .inl (0, c0_0)), (1, .inr (.inr (.inl a1))), (21, .inr (.inr (.inl a21)))]) (k_ao_I ec0_0 (k_ao_A ea1 (k_ao_A ea21 k_ap_0))) ?_
  show k_W X 5 0 0 _ ad (k_ap [(0, .inl (0, c0_0)), (1, .inr (.inr (.inl a1))), (21, .inr (.inr (.inl a21)))] (shM, I, L, Rf)) 0 [some (.ref 0), some (.int x0), some (.int x1), some (.int x2), none] []
  refine k_mask [true, true, true, true, false] ?_
  exact sX11_cell_0 u C hr hR ec0_25 ec0_26 ea7 ea8 ea20 c0_0 a1 a21 x0 x1 x2 h
/-! LullabyPitModel.kind(II)I -/
theorem ds_X11_kind : k_ds [(0, 0, 0), (1, 2, 0)] = true := by decide +kernel
set_option maxHeartbeats 400000 in
set_option maxRecDepth 100000 in
theorem sX11_kind_146 (u : Nat) {X : k_X} {ad : Nat → Nat} (C : k_C X cX11_kind RX11 5 ad) (hr : X.meth.sig.returnType = (some .int)) (hR : X.R.frames = 1 ∧ X.R.locals = 23) {I : Nat → Nat → Int32} {L : Nat → Nat → Int64} {Rf : Nat → Nat → Option Nat} {a7 : (Nat → Int32)} (ea7 : I 7 = a7) {a8 : (Nat → Int32)} (ea8 : I 8 = a8) {a9 : (Nat → Int32)} (ea9 : I 9 = a9) {a20 : (Nat → Int32)} (ea20 : I 20 = a20) {out : Int32 × Int32 × (Nat → Int32)} {k106 : Int32 → (Nat → Int32) → Int32 → Int32 → Int32 → Option (Int32 × Int32 × (Nat → Int32))} (hk106 : ∀ (c0_0 : Int32) (a1 : (Nat → Int32)) (v1 : Int32) (v3 : Int32) (v4 : Int32), k106 c0_0 a1 v1 v3 v4 = some out → k_W X 5 0 0 (k_Q X ad (some (.int out.1)) (k_ap [(0, .inl (0, out.2.1)), (1, .inr (.inr (.inl out.2.2)))] (shM, I, L, Rf))) ad (k_ap [(0, .inl (0, c0_0)), (1, .inr (.inr (.inl a1)))] (shM, I, L, Rf)) 106 [some (.ref 0), some (.int v1), none, some (.int v3), some (.int v4)] []) : ∀ (c0_0 : Int32) (a1 : (Nat → Int32)) (v1 : Int32) (v4 : Int32) (w0 : Int32) (w1 : Int32), bX11_kind_146 u a7 a8 a9 a20 k106 c0_0 a1 v1 v4 w0 w1 = some out → k_W X 5 0 0 (k_Q X ad (some (.int out.1)) (k_ap [(0, .inl (0, out.2.1)), (1, .inr (.inr (.inl out.2.2)))] (shM, I, L, Rf))) ad (k_ap [(0, .inl (0, c0_0)), (1, .inr (.inr (.inl a1)))] (shM, I, L, Rf)) 146 [some (.ref 0), some (.int v1), none, none, some (.int v4)] [.int w0, .int w1] := by
  intro c0_0 a1 v1 v4 w0 w1 h
  unfold bX11_kind_146 at h
  refine r_iadd C dX11_kind_146 (rfl : 146 + 1 = 147) ?_
  refine r_istore_n C dX11_kind_147 (rfl : 147 + 1 = 148) (by decide) (Nat.le_of_ble_eq_true rfl) ?_
  show k_W _ _ _ _ _ _ _ _ [some (.ref 0), some (.int v1), none, some (.int (w1 + w0)), some (.int v4)] _
  refine r_iinc (v := (v4 + (1 : Int32))) C dX11_kind_148 (rfl : 148 + 3 = 151) rfl rfl (by decide) ?_
  show k_W _ _ _ _ _ _ _ _ [some (.ref 0), some (.int v1), none, some (.int (w1 + w0)), some (.int (v4 + (1 : Int32)))] _
  refine r_goto (tgt := 106) C dX11_kind_151 (by decide) ?_
  refine k_mask [true, true, false, true, true] ?_
  exact hk106 c0_0 a1 v1 (w1 + w0) (v4 + (1 : Int32)) h
set_option maxHeartbeats 400000 in
set_option maxRecDepth 100000 in
theorem sX11_kind_145 (u : Nat) {X : k_X} {ad : Nat → Nat} (C : k_C X cX11_kind RX11 5 ad) (hr : X.meth.sig.returnType = (some .int)) (hR : X.R.frames = 1 ∧ X.R.locals = 23) {I : Nat → Nat → Int32} {L : Nat → Nat → Int64} {Rf : Nat → Nat → Option Nat} {a7 : (Nat → Int32)} (ea7 : I 7 = a7) {a8 : (Nat → Int32)} (ea8 : I 8 = a8) {a9 : (Nat → Int32)} (ea9 : I 9 = a9) {a20 : (Nat → Int32)} (ea20 : I 20 = a20) {out : Int32 × Int32 × (Nat → Int32)} {k106 : Int32 → (Nat → Int32) → Int32 → Int32 → Int32 → Option (Int32 × Int32 × (Nat → Int32))} (hk106 : ∀ (c0_0 : Int32) (a1 : (Nat → Int32)) (v1 : Int32) (v3 : Int32) (v4 : Int32), k106 c0_0 a1 v1 v3 v4 = some out → k_W X 5 0 0 (k_Q X ad (some (.int out.1)) (k_ap [(0, .inl (0, out.2.1)), (1, .inr (.inr (.inl out.2.2)))] (shM, I, L, Rf))) ad (k_ap [(0, .inl (0, c0_0)), (1, .inr (.inr (.inl a1)))] (shM, I, L, Rf)) 106 [some (.ref 0), some (.int v1), none, some (.int v3), some (.int v4)] []) : ∀ (c0_0 : Int32) (a1 : (Nat → Int32)) (v1 : Int32) (v4 : Int32) (w0 : Int32), bX11_kind_145 u a7 a8 a9 a20 k106 c0_0 a1 v1 v4 w0 = some out → k_W X 5 0 0 (k_Q X ad (some (.int out.1)) (k_ap [(0, .inl (0, out.2.1)), (1, .inr (.inr (.inl out.2.2)))] (shM, I, L, Rf))) ad (k_ap [(0, .inl (0, c0_0)), (1, .inr (.inr (.inl a1)))] (shM, I, L, Rf)) 145 [some (.ref 0), some (.int v1), none, none, some (.int v4)] [.int w0] := by
  intro c0_0 a1 v1 v4 w0 h
  unfold bX11_kind_145 at h
  refine r_iconst (v := (0 : Int32)) C dX11_kind_145 (rfl : 145 + 1 = 146) rfl ?_
  refine k_mask [true, true, false, false, true] ?_
  exact sX11_kind_146 u C hr hR ea7 ea8 ea9 ea20 hk106 c0_0 a1 v1 v4 (0 : Int32) w0 h
set_option maxHeartbeats 400000 in
set_option maxRecDepth 100000 in
theorem sX11_kind_106 (u : Nat) {X : k_X} {ad : Nat → Nat} (C : k_C X cX11_kind RX11 5 ad) (hr : X.meth.sig.returnType = (some .int)) (hR : X.R.frames = 1 ∧ X.R.locals = 23) {I : Nat → Nat → Int32} {L : Nat → Nat → Int64} {Rf : Nat → Nat → Option Nat} {a7 : (Nat → Int32)} (ea7 : I 7 = a7) {a8 : (Nat → Int32)} (ea8 : I 8 = a8) {a9 : (Nat → Int32)} (ea9 : I 9 = a9) {a20 : (Nat → Int32)} (ea20 : I 20 = a20) {out : Int32 × Int32 × (Nat → Int32)} : ∀ (n : Nat) (c0_0 : Int32) (a1 : (Nat → Int32)) (v1 : Int32) (v3 : Int32) (v4 : Int32), bX11_kind_106 u a7 a8 a9 a20 n c0_0 a1 v1 v3 v4 = some out → k_W X 5 0 0 (k_Q X ad (some (.int out.1)) (k_ap [(0, .inl (0, out.2.1)), (1, .inr (.inr (.inl out.2.2)))] (shM, I, L, Rf))) ad (k_ap [(0, .inl (0, c0_0)), (1, .inr (.inr (.inl a1)))] (shM, I, L, Rf)) 106 [some (.ref 0), some (.int v1), none, some (.int v3), some (.int v4)] [] := by
  intro n
  induction n with
  | zero => intro c0_0 a1 v1 v3 v4 h; cases h
  | succ n ih =>
    intro c0_0 a1 v1 v3 v4 h
    refine r_iload C dX11_kind_106 (rfl : 106 + 2 = 108) rfl ?_
    refine r_bipush (v := (48 : Int32)) C dX11_kind_108 (rfl : 108 + 2 = 110) rfl ?_
    refine r_icmp_ge (tgt := 154) C dX11_kind_110 (by decide) (rfl : 110 + 3 = 113) (fun c110 => ?_) (fun c110 => ?_)
    · have h := k_t c110 h
      refine r_iload_n C dX11_kind_154 (rfl : 154 + 1 = 155) rfl ?_
      cases h
      exact r_iret C hr dX11_kind_155
    · have h := k_f c110 h
      refine r_iload_n C dX11_kind_113 (rfl : 113 + 1 = 114) rfl ?_
      refine r_aload_n C dX11_kind_114 (rfl : 114 + 1 = 115) rfl ?_
      refine r_getR (q := 7) C dX11_kind_115 (rfl : 115 + 3 = 118) fl_X11_35 rfl rfl ?_
      refine r_iload C dX11_kind_118 (rfl : 118 + 2 = 120) rfl ?_
      obtain ⟨hi120, h⟩ := k_i_of h
      refine a_i (j := (v4).toNatClampNeg) (f := a7) C dX11_kind_120 (rfl : 120 + 1 = 121) rfl ea7 hi120 rfl ?_
      refine r_iload_n C dX11_kind_121 (rfl : 121 + 1 = 122) rfl ?_
      refine r_icmp_ne (tgt := 145) C dX11_kind_122 (by decide) (rfl : 122 + 3 = 125) (fun c122 => ?_) (fun c122 => ?_)
      · have h := k_f c122 h
        refine k_mask [true, true, false, false, true] ?_
        exact sX11_kind_145 u C hr hR ea7 ea8 ea9 ea20 ih c0_0 a1 v1 v4 v3 h
      · have h := k_t c122 h
        refine r_aload_n C dX11_kind_125 (rfl : 125 + 1 = 126) rfl ?_
        refine r_getR (q := 20) C dX11_kind_126 (rfl : 126 + 3 = 129) fl_X11_74 rfl rfl ?_
        refine r_iload C dX11_kind_129 (rfl : 129 + 2 = 131) rfl ?_
        obtain ⟨hi131, h⟩ := k_i_of h
        refine a_i (j := (v4).toNatClampNeg) (f := a20) C dX11_kind_131 (rfl : 131 + 1 = 132) rfl ea20 hi131 rfl ?_
        refine r_if_ne (tgt := 145) C dX11_kind_132 (by decide) (rfl : 132 + 3 = 135) (fun c132 => ?_) (fun c132 => ?_)
        · have h := k_f c132 h
          refine k_mask [true, true, false, false, true] ?_
          exact sX11_kind_145 u C hr hR ea7 ea8 ea9 ea20 ih c0_0 a1 v1 v4 v3 h
        · have h := k_t c132 h
          refine r_aload_n C dX11_kind_135 (rfl : 135 + 1 = 136) rfl ?_
          refine r_getR (q := 8) C dX11_kind_136 (rfl : 136 + 3 = 139) fl_X11_38 rfl rfl ?_
          refine r_iload C dX11_kind_139 (rfl : 139 + 2 = 141) rfl ?_
          obtain ⟨hi141, h⟩ := k_i_of h
          refine a_i (j := (v4).toNatClampNeg) (f := a8) C dX11_kind_141 (rfl : 141 + 1 = 142) rfl ea8 hi141 rfl ?_
          refine r_goto (tgt := 146) C dX11_kind_142 (by decide) ?_
          refine k_mask [true, true, false, false, true] ?_
          exact sX11_kind_146 u C hr hR ea7 ea8 ea9 ea20 ih c0_0 a1 v1 v4 (a8 ((v4).toNatClampNeg)) v3 h
set_option maxHeartbeats 400000 in
set_option maxRecDepth 100000 in
theorem sX11_kind_29 (u : Nat) {X : k_X} {ad : Nat → Nat} (C : k_C X cX11_kind RX11 5 ad) (hr : X.meth.sig.returnType = (some .int)) (hR : X.R.frames = 1 ∧ X.R.locals = 23) {I : Nat → Nat → Int32} {L : Nat → Nat → Int64} {Rf : Nat → Nat → Option Nat} {a7 : (Nat → Int32)} (ea7 : I 7 = a7) {a8 : (Nat → Int32)} (ea8 : I 8 = a8) {a9 : (Nat → Int32)} (ea9 : I 9 = a9) {a20 : (Nat → Int32)} (ea20 : I 20 = a20) {out : Int32 × Int32 × (Nat → Int32)} : ∀ (c0_0 : Int32) (a1 : (Nat → Int32)) (v1 : Int32) (v2 : Int32) (w0 : Int32), bX11_kind_29 u a7 a8 a9 a20 c0_0 a1 v1 v2 w0 = some out → k_W X 5 0 0 (k_Q X ad (some (.int out.1)) (k_ap [(0, .inl (0, out.2.1)), (1, .inr (.inr (.inl out.2.2)))] (shM, I, L, Rf))) ad (k_ap [(0, .inl (0, c0_0)), (1, .inr (.inr (.inl a1)))] (shM, I, L, Rf)) 29 [some (.ref 0), some (.int v1), some (.int v2), none, none] [.int w0, .ref 0] := by
  intro c0_0 a1 v1 v2 w0 h
  unfold bX11_kind_29 at h
  refine r_iconst (v := (1 : Int32)) C dX11_kind_29 (rfl : 29 + 1 = 30) rfl ?_
  refine r_iconst (v := (2 : Int32)) C dX11_kind_30 (rfl : 30 + 1 = 31) rfl ?_
  obtain ⟨r31, q31, h⟩ := k_b_of h
  refine d_V (As := [.int w0, .int (1 : Int32), .int (2 : Int32)]) (st := []) (st' := [.int r31.1]) (h' := k_ap [(0, .inl (0, r31.2.1)), (1, .inr (.inr (.inl r31.2.2)))] (shM, I, L, Rf)) C hR ⟨Nat.zero_le _, Nat.zero_le _⟩ mv_X11_may lk_X11_252 dX11_kind_31 (rfl : 31 + 3 = 34) rfl rfl rfl rfl (c_X11_may X.l u (k_ap [(0, .inl (0, c0_0)), (1, .inr (.inr (.inl a1)))] (shM, I, L, Rf)) rfl rfl rfl q31) rfl rfl rfl (k_jn (us' := [(0, .inl (0, r31.2.1)), (1, .inr (.inr (.inl r31.2.2)))]) ds_X11_kind rfl rfl rfl) rfl ?_
  refine r_if_ne (tgt := 39) C dX11_kind_34 (by decide) (rfl : 34 + 3 = 37) (fun c34 => ?_) (fun c34 => ?_)
  · have h := k_f c34 h
    refine r_iload_n C dX11_kind_39 (rfl : 39 + 1 = 40) rfl ?_
    refine r_if_le (tgt := 101) C dX11_kind_40 (by decide) (rfl : 40 + 3 = 43) (fun c40 => ?_) (fun c40 => ?_)
    · have h := k_t c40 h
      refine r_iconst (v := (0 : Int32)) C dX11_kind_101 (rfl : 101 + 1 = 102) rfl ?_
      refine r_istore_n C dX11_kind_102 (rfl : 102 + 1 = 103) (by decide) (Nat.le_of_ble_eq_true rfl) ?_
      show k_W _ _ _ _ _ _ _ _ [some (.ref 0), some (.int v1), some (.int v2), some (.int (0 : Int32)), none] _
      refine r_iconst (v := (0 : Int32)) C dX11_kind_103 (rfl : 103 + 1 = 104) rfl ?_
      refine r_istore C dX11_kind_104 (rfl : 104 + 2 = 106) (by decide) (Nat.le_of_ble_eq_true rfl) ?_
      show k_W _ _ _ _ _ _ _ _ [some (.ref 0), some (.int v1), some (.int v2), some (.int (0 : Int32)), some (.int (0 : Int32))] _
      refine k_mask [true, true, false, true, true] ?_
      exact sX11_kind_106 u C hr hR ea7 ea8 ea9 ea20 u r31.2.1 r31.2.2 v1 (0 : Int32) (0 : Int32) h
    · have h := k_f c40 h
      refine r_iload_n C dX11_kind_43 (rfl : 43 + 1 = 44) rfl ?_
      refine r_iconst (v := (1 : Int32)) C dX11_kind_44 (rfl : 44 + 1 = 45) rfl ?_
      refine r_icmp_ne (tgt := 60) C dX11_kind_45 (by decide) (rfl : 45 + 3 = 48) (fun c45 => ?_) (fun c45 => ?_)
      · have h := k_f c45 h
        refine r_iload_n C dX11_kind_60 (rfl : 60 + 1 = 61) rfl ?_
        refine r_iconst (v := (2 : Int32)) C dX11_kind_61 (rfl : 61 + 1 = 62) rfl ?_
        refine r_icmp_ne (tgt := 77) C dX11_kind_62 (by decide) (rfl : 62 + 3 = 65) (fun c62 => ?_) (fun c62 => ?_)
        · have h := k_f c62 h
          refine r_iload_n C dX11_kind_77 (rfl : 77 + 1 = 78) rfl ?_
          refine r_iconst (v := (3 : Int32)) C dX11_kind_78 (rfl : 78 + 1 = 79) rfl ?_
          refine r_icmp_ne (tgt := 94) C dX11_kind_79 (by decide) (rfl : 79 + 3 = 82) (fun c79 => ?_) (fun c79 => ?_)
          · have h := k_f c79 h
            refine r_aload_n C dX11_kind_94 (rfl : 94 + 1 = 95) rfl ?_
            refine r_getR (q := 9) C dX11_kind_95 (rfl : 95 + 3 = 98) fl_X11_41 rfl rfl ?_
            refine r_iload_n C dX11_kind_98 (rfl : 98 + 1 = 99) rfl ?_
            obtain ⟨hi99, h⟩ := k_i_of h
            refine a_i (j := (v1).toNatClampNeg) (f := a9) C dX11_kind_99 (rfl : 99 + 1 = 100) rfl ea9 hi99 rfl ?_
            cases h
            exact r_iret C hr dX11_kind_100
          · have h := k_t c79 h
            refine r_aload_n C dX11_kind_82 (rfl : 82 + 1 = 83) rfl ?_
            refine r_getR (q := 20) C dX11_kind_83 (rfl : 83 + 3 = 86) fl_X11_74 rfl rfl ?_
            refine r_bipush (v := (58 : Int32)) C dX11_kind_86 (rfl : 86 + 2 = 88) rfl ?_
            refine r_iload_n C dX11_kind_88 (rfl : 88 + 1 = 89) rfl ?_
            refine r_iadd C dX11_kind_89 (rfl : 89 + 1 = 90) ?_
            obtain ⟨hi90, h⟩ := k_i_of h
            refine a_i (j := (((58 : Int32) + v1)).toNatClampNeg) (f := a20) C dX11_kind_90 (rfl : 90 + 1 = 91) rfl ea20 hi90 rfl ?_
            refine r_goto (tgt := 100) C dX11_kind_91 (by decide) ?_
            cases h
            exact r_iret C hr dX11_kind_100
        · have h := k_t c62 h
          refine r_aload_n C dX11_kind_65 (rfl : 65 + 1 = 66) rfl ?_
          refine r_getR (q := 20) C dX11_kind_66 (rfl : 66 + 3 = 69) fl_X11_74 rfl rfl ?_
          refine r_bipush (v := (53 : Int32)) C dX11_kind_69 (rfl : 69 + 2 = 71) rfl ?_
          refine r_iload_n C dX11_kind_71 (rfl : 71 + 1 = 72) rfl ?_
          refine r_iadd C dX11_kind_72 (rfl : 72 + 1 = 73) ?_
          obtain ⟨hi73, h⟩ := k_i_of h
          refine a_i (j := (((53 : Int32) + v1)).toNatClampNeg) (f := a20) C dX11_kind_73 (rfl : 73 + 1 = 74) rfl ea20 hi73 rfl ?_
          refine r_goto (tgt := 100) C dX11_kind_74 (by decide) ?_
          cases h
          exact r_iret C hr dX11_kind_100
      · have h := k_t c45 h
        refine r_aload_n C dX11_kind_48 (rfl : 48 + 1 = 49) rfl ?_
        refine r_getR (q := 20) C dX11_kind_49 (rfl : 49 + 3 = 52) fl_X11_74 rfl rfl ?_
        refine r_bipush (v := (48 : Int32)) C dX11_kind_52 (rfl : 52 + 2 = 54) rfl ?_
        refine r_iload_n C dX11_kind_54 (rfl : 54 + 1 = 55) rfl ?_
        refine r_iadd C dX11_kind_55 (rfl : 55 + 1 = 56) ?_
        obtain ⟨hi56, h⟩ := k_i_of h
        refine a_i (j := (((48 : Int32) + v1)).toNatClampNeg) (f := a20) C dX11_kind_56 (rfl : 56 + 1 = 57) rfl ea20 hi56 rfl ?_
        refine r_goto (tgt := 100) C dX11_kind_57 (by decide) ?_
        cases h
        exact r_iret C hr dX11_kind_100
  · have h := k_t c34 h
    refine r_iconst (v := (0 : Int32)) C dX11_kind_37 (rfl : 37 + 1 = 38) rfl ?_
    cases h
    exact r_iret C hr dX11_kind_38
set_option maxHeartbeats 400000 in
set_option maxRecDepth 100000 in
theorem sX11_kind_28 (u : Nat) {X : k_X} {ad : Nat → Nat} (C : k_C X cX11_kind RX11 5 ad) (hr : X.meth.sig.returnType = (some .int)) (hR : X.R.frames = 1 ∧ X.R.locals = 23) {I : Nat → Nat → Int32} {L : Nat → Nat → Int64} {Rf : Nat → Nat → Option Nat} {a7 : (Nat → Int32)} (ea7 : I 7 = a7) {a8 : (Nat → Int32)} (ea8 : I 8 = a8) {a9 : (Nat → Int32)} (ea9 : I 9 = a9) {a20 : (Nat → Int32)} (ea20 : I 20 = a20) {out : Int32 × Int32 × (Nat → Int32)} : ∀ (c0_0 : Int32) (a1 : (Nat → Int32)) (v1 : Int32) (v2 : Int32), bX11_kind_28 u a7 a8 a9 a20 c0_0 a1 v1 v2 = some out → k_W X 5 0 0 (k_Q X ad (some (.int out.1)) (k_ap [(0, .inl (0, out.2.1)), (1, .inr (.inr (.inl out.2.2)))] (shM, I, L, Rf))) ad (k_ap [(0, .inl (0, c0_0)), (1, .inr (.inr (.inl a1)))] (shM, I, L, Rf)) 28 [some (.ref 0), some (.int v1), some (.int v2), none, none] [.ref 0] := by
  intro c0_0 a1 v1 v2 h
  unfold bX11_kind_28 at h
  refine r_iconst (v := (0 : Int32)) C dX11_kind_28 (rfl : 28 + 1 = 29) rfl ?_
  refine k_mask [true, true, true, false, false] ?_
  exact sX11_kind_29 u C hr hR ea7 ea8 ea9 ea20 c0_0 a1 v1 v2 (0 : Int32) h
set_option maxHeartbeats 400000 in
set_option maxRecDepth 100000 in
theorem sX11_kind_0 (u : Nat) {X : k_X} {ad : Nat → Nat} (C : k_C X cX11_kind RX11 5 ad) (hr : X.meth.sig.returnType = (some .int)) (hR : X.R.frames = 1 ∧ X.R.locals = 23) {I : Nat → Nat → Int32} {L : Nat → Nat → Int64} {Rf : Nat → Nat → Option Nat} {a7 : (Nat → Int32)} (ea7 : I 7 = a7) {a8 : (Nat → Int32)} (ea8 : I 8 = a8) {a9 : (Nat → Int32)} (ea9 : I 9 = a9) {a20 : (Nat → Int32)} (ea20 : I 20 = a20) {out : Int32 × Int32 × (Nat → Int32)} : ∀ (c0_0 : Int32) (a1 : (Nat → Int32)) (v1 : Int32) (v2 : Int32), bX11_kind_0 u a7 a8 a9 a20 c0_0 a1 v1 v2 = some out → k_W X 5 0 0 (k_Q X ad (some (.int out.1)) (k_ap [(0, .inl (0, out.2.1)), (1, .inr (.inr (.inl out.2.2)))] (shM, I, L, Rf))) ad (k_ap [(0, .inl (0, c0_0)), (1, .inr (.inr (.inl a1)))] (shM, I, L, Rf)) 0 [some (.ref 0), some (.int v1), some (.int v2), none, none] [] := by
  intro c0_0 a1 v1 v2 h
  unfold bX11_kind_0 at h
  refine r_aload_n C dX11_kind_0 (rfl : 0 + 1 = 1) rfl ?_
  refine r_iconst (v := (0 : Int32)) C dX11_kind_1 (rfl : 1 + 1 = 2) rfl ?_
  refine p_I (us' := [(0, .inl (0, (0 : Int32))), (1, .inr (.inr (.inl a1)))]) C dX11_kind_2 (rfl : 2 + 3 = 5) fp_X11_3 rfl rfl ds_X11_kind rfl rfl rfl ?_
  refine r_aload_n C dX11_kind_5 (rfl : 5 + 1 = 6) rfl ?_
  refine r_iload_n C dX11_kind_6 (rfl : 6 + 1 = 7) rfl ?_
  refine r_iconst (v := (1 : Int32)) C dX11_kind_7 (rfl : 7 + 1 = 8) rfl ?_
  refine r_iconst (v := (4 : Int32)) C dX11_kind_8 (rfl : 8 + 1 = 9) rfl ?_
  obtain ⟨r9, q9, h⟩ := k_b_of h
  refine d_S (As := [.int v1, .int (1 : Int32), .int (4 : Int32)]) (st := [.ref 0]) (st' := [.int r9, .ref 0]) (h' := k_ap [(0, .inl (0, (0 : Int32))), (1, .inr (.inr (.inl a1)))] (shM, I, L, Rf)) C hR ⟨Nat.zero_le _, Nat.zero_le _⟩ ms_X11_within lk_X11_317 dX11_kind_9 (rfl : 9 + 3 = 12) rfl rfl (c_X11_within X.l u (k_ap [(0, .inl (0, (0 : Int32))), (1, .inr (.inr (.inl a1)))] (shM, I, L, Rf)) rfl  q9) rfl rfl rfl rfl rfl ?_
  refine r_if_eq (tgt := 28) C dX11_kind_12 (by decide) (rfl : 12 + 3 = 15) (fun c12 => ?_) (fun c12 => ?_)
  · have h := k_t c12 h
    refine k_mask [true, true, true, false, false] ?_
    exact sX11_kind_28 u C hr hR ea7 ea8 ea9 ea20 (0 : Int32) a1 v1 v2 h
  · have h := k_f c12 h
    refine r_iload_n C dX11_kind_15 (rfl : 15 + 1 = 16) rfl ?_
    refine r_iconst (v := (0 : Int32)) C dX11_kind_16 (rfl : 16 + 1 = 17) rfl ?_
    refine r_iconst (v := (4 : Int32)) C dX11_kind_17 (rfl : 17 + 1 = 18) rfl ?_
    obtain ⟨r18, q18, h⟩ := k_b_of h
    refine d_S (As := [.int v2, .int (0 : Int32), .int (4 : Int32)]) (st := [.ref 0]) (st' := [.int r18, .ref 0]) (h' := k_ap [(0, .inl (0, (0 : Int32))), (1, .inr (.inr (.inl a1)))] (shM, I, L, Rf)) C hR ⟨Nat.zero_le _, Nat.zero_le _⟩ ms_X11_within lk_X11_317 dX11_kind_18 (rfl : 18 + 3 = 21) rfl rfl (c_X11_within X.l u (k_ap [(0, .inl (0, (0 : Int32))), (1, .inr (.inr (.inl a1)))] (shM, I, L, Rf)) rfl  q18) rfl rfl rfl rfl rfl ?_
    refine r_if_eq (tgt := 28) C dX11_kind_21 (by decide) (rfl : 21 + 3 = 24) (fun c21 => ?_) (fun c21 => ?_)
    · have h := k_t c21 h
      refine k_mask [true, true, true, false, false] ?_
      exact sX11_kind_28 u C hr hR ea7 ea8 ea9 ea20 (0 : Int32) a1 v1 v2 h
    · have h := k_f c21 h
      refine r_iconst (v := (1 : Int32)) C dX11_kind_24 (rfl : 24 + 1 = 25) rfl ?_
      refine r_goto (tgt := 29) C dX11_kind_25 (by decide) ?_
      refine k_mask [true, true, true, false, false] ?_
      exact sX11_kind_29 u C hr hR ea7 ea8 ea9 ea20 (0 : Int32) a1 v1 v2 (1 : Int32) h
set_option maxHeartbeats 400000 in
set_option maxRecDepth 100000 in
theorem c_X11_kind (l : Launch) (u : Nat) (h : k_H) (hsh : h.1 = shM) {c0_0 : Int32} (ec0_0 : h.2.1 0 0 = c0_0) {a1 : (Nat → Int32)} (ea1 : h.2.1 1 = a1) {a7 : (Nat → Int32)} (ea7 : h.2.1 7 = a7) {a8 : (Nat → Int32)} (ea8 : h.2.1 8 = a8) {a9 : (Nat → Int32)} (ea9 : h.2.1 9 = a9) {a20 : (Nat → Int32)} (ea20 : h.2.1 20 = a20) {x0 : Int32} {x1 : Int32} {out : Int32 × Int32 × (Nat → Int32)} (hf : f_X11_kind u c0_0 a1 a7 a8 a9 a20 x0 x1 = some out) : k_CT l yX11_kind cX11_kind 5 (some .int) 1 23 [.ref 0, .int x0, .int x1] h (some (.int out.1)) [(0, .inl (0, out.2.1)), (1, .inr (.inr (.inl out.2.2)))] := by
  obtain ⟨sh, I, L, Rf⟩ := h
  try dsimp only
  obtain rfl : sh = shM := hsh
  refine k_ofW (by decide) (Nat.le_of_ble_eq_true rfl) ?_
  intro X ad hl hR0 hr C
  have hR : X.R.frames = 1 ∧ X.R.locals = 23 := by rw [hR0]; exact ⟨rfl, rfl⟩
  have h := hf
  unfold f_X11_kind at h
  refine k_start (us := [(0, .inl (0, c0_0)), (1, .inr (.inr (.inl a1)))]) (k_ao_I ec0_0 (k_ao_A ea1 k_ap_0)) ?_
  show k_W X 5 0 0 _ ad (k_ap [(0, .inl (0, c0_0)), (1, .inr (.inr (.inl a1)))] (shM, I, L, Rf)) 0 [some (.ref 0), some (.int x0), some (.int x1), none, none] []
  refine k_mask [true, true, true, false, false] ?_
  exact sX11_kind_0 u C hr hR ea7 ea8 ea9 ea20 c0_0 a1 x0 x1 h
/-! LullabyPitModel.isOrder(II)Z -/
theorem ds_X11_isOrder : k_ds [(0, 0, 0), (1, 2, 0)] = true := by decide +kernel
set_option maxHeartbeats 400000 in
set_option maxRecDepth 100000 in
theorem sX11_isOrder_0 (u : Nat) {X : k_X} {ad : Nat → Nat} (C : k_C X cX11_isOrder RX11 3 ad) (hr : X.meth.sig.returnType = (some .boolean)) (hR : X.R.frames = 1 ∧ X.R.locals = 23) {I : Nat → Nat → Int32} {L : Nat → Nat → Int64} {Rf : Nat → Nat → Option Nat} {c0_30 : Int32} (ec0_30 : I 0 30 = c0_30) {out : Int32 × Int32 × (Nat → Int32)} : ∀ (c0_0 : Int32) (a1 : (Nat → Int32)) (v1 : Int32) (v2 : Int32), bX11_isOrder_0 u c0_30 c0_0 a1 v1 v2 = some out → k_W X 3 0 0 (k_Q X ad (some (.int out.1)) (k_ap [(0, .inl (0, out.2.1)), (1, .inr (.inr (.inl out.2.2)))] (shM, I, L, Rf))) ad (k_ap [(0, .inl (0, c0_0)), (1, .inr (.inr (.inl a1)))] (shM, I, L, Rf)) 0 [some (.ref 0), some (.int v1), some (.int v2)] [] := by
  intro c0_0 a1 v1 v2 h
  unfold bX11_isOrder_0 at h
  refine r_aload_n C dX11_isOrder_0 (rfl : 0 + 1 = 1) rfl ?_
  refine r_iload_n C dX11_isOrder_1 (rfl : 1 + 1 = 2) rfl ?_
  refine r_iconst (v := (0 : Int32)) C dX11_isOrder_2 (rfl : 2 + 1 = 3) rfl ?_
  refine r_aload_n C dX11_isOrder_3 (rfl : 3 + 1 = 4) rfl ?_
  refine r_getI (v := c0_30) C dX11_isOrder_4 (rfl : 4 + 3 = 7) fl_X11_199 rfl rfl ec0_30 ?_
  refine r_iconst (v := (1 : Int32)) C dX11_isOrder_7 (rfl : 7 + 1 = 8) rfl ?_
  refine r_isub C dX11_isOrder_8 (rfl : 8 + 1 = 9) ?_
  obtain ⟨r9, q9, h⟩ := k_b_of h
  refine d_S (As := [.int v1, .int (0 : Int32), .int (c0_30 - (1 : Int32))]) (st := [.ref 0]) (st' := [.int r9, .ref 0]) (h' := k_ap [(0, .inl (0, c0_0)), (1, .inr (.inr (.inl a1)))] (shM, I, L, Rf)) C hR ⟨Nat.zero_le _, Nat.zero_le _⟩ ms_X11_within lk_X11_317 dX11_isOrder_9 (rfl : 9 + 3 = 12) rfl rfl (c_X11_within X.l u (k_ap [(0, .inl (0, c0_0)), (1, .inr (.inr (.inl a1)))] (shM, I, L, Rf)) rfl  q9) rfl rfl rfl rfl rfl ?_
  refine r_iload_n C dX11_isOrder_12 (rfl : 12 + 1 = 13) rfl ?_
  refine r_iconst (v := (1 : Int32)) C dX11_isOrder_13 (rfl : 13 + 1 = 14) rfl ?_
  obtain ⟨r14, q14, h⟩ := k_b_of h
  refine d_V (As := [.int r9, .int v2, .int (1 : Int32)]) (st := []) (st' := [.int r14.1]) (h' := k_ap [(0, .inl (0, r14.2.1)), (1, .inr (.inr (.inl r14.2.2)))] (shM, I, L, Rf)) C hR ⟨Nat.zero_le _, Nat.zero_le _⟩ mv_X11_may lk_X11_252 dX11_isOrder_14 (rfl : 14 + 3 = 17) rfl rfl rfl rfl (c_X11_may X.l u (k_ap [(0, .inl (0, c0_0)), (1, .inr (.inr (.inl a1)))] (shM, I, L, Rf)) rfl rfl rfl q14) rfl rfl rfl (k_jn (us' := [(0, .inl (0, r14.2.1)), (1, .inr (.inr (.inl r14.2.2)))]) ds_X11_isOrder rfl rfl rfl) rfl ?_
  obtain ⟨hz, h⟩ := k_z_of h
  cases h
  exact r_zret C hr hz dX11_isOrder_17
set_option maxHeartbeats 400000 in
set_option maxRecDepth 100000 in
theorem c_X11_isOrder (l : Launch) (u : Nat) (h : k_H) (hsh : h.1 = shM) {c0_0 : Int32} (ec0_0 : h.2.1 0 0 = c0_0) {c0_30 : Int32} (ec0_30 : h.2.1 0 30 = c0_30) {a1 : (Nat → Int32)} (ea1 : h.2.1 1 = a1) {x0 : Int32} {x1 : Int32} {out : Int32 × Int32 × (Nat → Int32)} (hf : f_X11_isOrder u c0_0 c0_30 a1 x0 x1 = some out) : k_CT l yX11_isOrder cX11_isOrder 3 (some .boolean) 1 23 [.ref 0, .int x0, .int x1] h (some (.int out.1)) [(0, .inl (0, out.2.1)), (1, .inr (.inr (.inl out.2.2)))] := by
  obtain ⟨sh, I, L, Rf⟩ := h
  try dsimp only
  obtain rfl : sh = shM := hsh
  refine k_ofW (by decide) (Nat.le_of_ble_eq_true rfl) ?_
  intro X ad hl hR0 hr C
  have hR : X.R.frames = 1 ∧ X.R.locals = 23 := by rw [hR0]; exact ⟨rfl, rfl⟩
  have h := hf
  unfold f_X11_isOrder at h
  refine k_start (us := [(0, .inl (0, c0_0)), (1, .inr (.inr (.inl a1)))]) (k_ao_I ec0_0 (k_ao_A ea1 k_ap_0)) ?_
  show k_W X 3 0 0 _ ad (k_ap [(0, .inl (0, c0_0)), (1, .inr (.inr (.inl a1)))] (shM, I, L, Rf)) 0 [some (.ref 0), some (.int x0), some (.int x1)] []
  refine k_mask [true, true, true] ?_
  exact sX11_isOrder_0 u C hr hR ec0_30 c0_0 a1 x0 x1 h
/-! LullabyPitModel.order(II)I -/
theorem ds_X11_order : k_ds [(0, 0, 0), (1, 2, 0)] = true := by decide +kernel
set_option maxHeartbeats 400000 in
set_option maxRecDepth 100000 in
theorem sX11_order_0 (u : Nat) {X : k_X} {ad : Nat → Nat} (C : k_C X cX11_order RX11 3 ad) (hr : X.meth.sig.returnType = (some .int)) (hR : X.R.frames = 2 ∧ X.R.locals = 45) {I : Nat → Nat → Int32} {L : Nat → Nat → Int64} {Rf : Nat → Nat → Option Nat} {c0_30 : Int32} (ec0_30 : I 0 30 = c0_30) {a9 : (Nat → Int32)} (ea9 : I 9 = a9) {a10 : (Nat → Int32)} (ea10 : I 10 = a10) {a20 : (Nat → Int32)} (ea20 : I 20 = a20) {out : Int32 × Int32 × (Nat → Int32)} : ∀ (c0_0 : Int32) (a1 : (Nat → Int32)) (v1 : Int32) (v2 : Int32), bX11_order_0 u c0_30 a9 a10 a20 c0_0 a1 v1 v2 = some out → k_W X 3 0 0 (k_Q X ad (some (.int out.1)) (k_ap [(0, .inl (0, out.2.1)), (1, .inr (.inr (.inl out.2.2)))] (shM, I, L, Rf))) ad (k_ap [(0, .inl (0, c0_0)), (1, .inr (.inr (.inl a1)))] (shM, I, L, Rf)) 0 [some (.ref 0), some (.int v1), some (.int v2)] [] := by
  intro c0_0 a1 v1 v2 h
  unfold bX11_order_0 at h
  refine r_aload_n C dX11_order_0 (rfl : 0 + 1 = 1) rfl ?_
  refine r_iconst (v := (0 : Int32)) C dX11_order_1 (rfl : 1 + 1 = 2) rfl ?_
  refine p_I (us' := [(0, .inl (0, (0 : Int32))), (1, .inr (.inr (.inl a1)))]) C dX11_order_2 (rfl : 2 + 3 = 5) fp_X11_3 rfl rfl ds_X11_order rfl rfl rfl ?_
  refine r_aload_n C dX11_order_5 (rfl : 5 + 1 = 6) rfl ?_
  refine r_iload_n C dX11_order_6 (rfl : 6 + 1 = 7) rfl ?_
  refine r_iconst (v := (1 : Int32)) C dX11_order_7 (rfl : 7 + 1 = 8) rfl ?_
  obtain ⟨r8, q8, h⟩ := k_b_of h
  refine d_V (As := [.int v1, .int (1 : Int32)]) (st := []) (st' := [.int r8.1]) (h' := k_ap [(0, .inl (0, r8.2.1)), (1, .inr (.inr (.inl r8.2.2)))] (shM, I, L, Rf)) C hR ⟨Nat.zero_le _, Nat.zero_le _⟩ mv_X11_isOrder lk_X11_418 dX11_order_8 (rfl : 8 + 3 = 11) rfl rfl rfl rfl (c_X11_isOrder X.l u (k_ap [(0, .inl (0, (0 : Int32))), (1, .inr (.inr (.inl a1)))] (shM, I, L, Rf)) rfl rfl ec0_30 rfl q8) rfl rfl rfl (k_jn (us' := [(0, .inl (0, r8.2.1)), (1, .inr (.inr (.inl r8.2.2)))]) ds_X11_order rfl rfl rfl) rfl ?_
  refine r_if_eq (tgt := 29) C dX11_order_11 (by decide) (rfl : 11 + 3 = 14) (fun c11 => ?_) (fun c11 => ?_)
  · have h := k_t c11 h
    refine r_iconst (v := (0 : Int32)) C dX11_order_29 (rfl : 29 + 1 = 30) rfl ?_
    cases h
    exact r_iret C hr dX11_order_30
  · have h := k_f c11 h
    refine r_aload_n C dX11_order_14 (rfl : 14 + 1 = 15) rfl ?_
    refine r_iload_n C dX11_order_15 (rfl : 15 + 1 = 16) rfl ?_
    refine r_iconst (v := (0 : Int32)) C dX11_order_16 (rfl : 16 + 1 = 17) rfl ?_
    refine r_iconst (v := (3 : Int32)) C dX11_order_17 (rfl : 17 + 1 = 18) rfl ?_
    obtain ⟨r18, q18, h⟩ := k_b_of h
    refine d_S (As := [.int v2, .int (0 : Int32), .int (3 : Int32)]) (st := [.ref 0]) (st' := [.int r18, .ref 0]) (h' := k_ap [(0, .inl (0, r8.2.1)), (1, .inr (.inr (.inl r8.2.2)))] (shM, I, L, Rf)) C hR ⟨Nat.zero_le _, Nat.zero_le _⟩ ms_X11_within lk_X11_317 dX11_order_18 (rfl : 18 + 3 = 21) rfl rfl (c_X11_within X.l u (k_ap [(0, .inl (0, r8.2.1)), (1, .inr (.inr (.inl r8.2.2)))] (shM, I, L, Rf)) rfl  q18) rfl rfl rfl rfl rfl ?_
    refine r_iconst (v := (2 : Int32)) C dX11_order_21 (rfl : 21 + 1 = 22) rfl ?_
    refine r_iconst (v := (2 : Int32)) C dX11_order_22 (rfl : 22 + 1 = 23) rfl ?_
    obtain ⟨r23, q23, h⟩ := k_b_of h
    refine d_V (As := [.int r18, .int (2 : Int32), .int (2 : Int32)]) (st := []) (st' := [.int r23.1]) (h' := k_ap [(0, .inl (0, r23.2.1)), (1, .inr (.inr (.inl r23.2.2)))] (shM, I, L, Rf)) C hR ⟨Nat.zero_le _, Nat.zero_le _⟩ mv_X11_may lk_X11_252 dX11_order_23 (rfl : 23 + 3 = 26) rfl rfl rfl rfl (c_X11_may X.l u (k_ap [(0, .inl (0, r8.2.1)), (1, .inr (.inr (.inl r8.2.2)))] (shM, I, L, Rf)) rfl rfl rfl q23) rfl rfl rfl (k_jn (us' := [(0, .inl (0, r23.2.1)), (1, .inr (.inr (.inl r23.2.2)))]) ds_X11_order rfl rfl rfl) rfl ?_
    refine r_if_ne (tgt := 31) C dX11_order_26 (by decide) (rfl : 26 + 3 = 29) (fun c26 => ?_) (fun c26 => ?_)
    · have h := k_f c26 h
      refine r_iload_n C dX11_order_31 (rfl : 31 + 1 = 32) rfl ?_
      refine r_iconst (v := (2 : Int32)) C dX11_order_32 (rfl : 32 + 1 = 33) rfl ?_
      refine r_icmp_ge (tgt := 50) C dX11_order_33 (by decide) (rfl : 33 + 3 = 36) (fun c33 => ?_) (fun c33 => ?_)
      · have h := k_t c33 h
        refine r_iload_n C dX11_order_50 (rfl : 50 + 1 = 51) rfl ?_
        refine r_iconst (v := (2 : Int32)) C dX11_order_51 (rfl : 51 + 1 = 52) rfl ?_
        refine r_icmp_ne (tgt := 63) C dX11_order_52 (by decide) (rfl : 52 + 3 = 55) (fun c52 => ?_) (fun c52 => ?_)
        · have h := k_f c52 h
          refine r_aload_n C dX11_order_63 (rfl : 63 + 1 = 64) rfl ?_
          refine r_getR (q := 20) C dX11_order_64 (rfl : 64 + 3 = 67) fl_X11_74 rfl rfl ?_
          refine r_bipush (v := (63 : Int32)) C dX11_order_67 (rfl : 67 + 2 = 69) rfl ?_
          refine r_iload_n C dX11_order_69 (rfl : 69 + 1 = 70) rfl ?_
          refine r_iadd C dX11_order_70 (rfl : 70 + 1 = 71) ?_
          obtain ⟨hi71, h⟩ := k_i_of h
          refine a_i (j := (((63 : Int32) + v1)).toNatClampNeg) (f := a20) C dX11_order_71 (rfl : 71 + 1 = 72) rfl ea20 hi71 rfl ?_
          cases h
          exact r_iret C hr dX11_order_72
        · have h := k_t c52 h
          refine r_aload_n C dX11_order_55 (rfl : 55 + 1 = 56) rfl ?_
          refine r_iload_n C dX11_order_56 (rfl : 56 + 1 = 57) rfl ?_
          obtain ⟨r57, q57, h⟩ := k_b_of h
          refine d_V (As := [.int v1]) (st := []) (st' := [.int r57]) (h' := k_ap [(0, .inl (0, r23.2.1)), (1, .inr (.inr (.inl r23.2.2)))] (shM, I, L, Rf)) C hR ⟨Nat.zero_le _, Nat.zero_le _⟩ mv_X11_worthOf lk_X11_403 dX11_order_57 (rfl : 57 + 3 = 60) rfl rfl rfl rfl (c_X11_worthOf X.l u (k_ap [(0, .inl (0, r23.2.1)), (1, .inr (.inr (.inl r23.2.2)))] (shM, I, L, Rf)) rfl ea9 ea10 q57) rfl rfl rfl rfl rfl ?_
          refine r_goto (tgt := 72) C dX11_order_60 (by decide) ?_
          cases h
          exact r_iret C hr dX11_order_72
      · have h := k_f c33 h
        refine r_aload_n C dX11_order_36 (rfl : 36 + 1 = 37) rfl ?_
        refine r_getR (q := 10) C dX11_order_37 (rfl : 37 + 3 = 40) fl_X11_44 rfl rfl ?_
        refine r_bipush (v := (10 : Int32)) C dX11_order_40 (rfl : 40 + 2 = 42) rfl ?_
        refine r_iload_n C dX11_order_42 (rfl : 42 + 1 = 43) rfl ?_
        refine r_imul C dX11_order_43 (rfl : 43 + 1 = 44) ?_
        refine r_iload_n C dX11_order_44 (rfl : 44 + 1 = 45) rfl ?_
        refine r_iadd C dX11_order_45 (rfl : 45 + 1 = 46) ?_
        obtain ⟨hi46, h⟩ := k_i_of h
        refine a_i (j := ((((10 : Int32) * v1) + v2)).toNatClampNeg) (f := a10) C dX11_order_46 (rfl : 46 + 1 = 47) rfl ea10 hi46 rfl ?_
        refine r_goto (tgt := 72) C dX11_order_47 (by decide) ?_
        cases h
        exact r_iret C hr dX11_order_72
    · have h := k_t c26 h
      refine r_iconst (v := (0 : Int32)) C dX11_order_29 (rfl : 29 + 1 = 30) rfl ?_
      cases h
      exact r_iret C hr dX11_order_30
set_option maxHeartbeats 400000 in
set_option maxRecDepth 100000 in
theorem c_X11_order (l : Launch) (u : Nat) (h : k_H) (hsh : h.1 = shM) {c0_0 : Int32} (ec0_0 : h.2.1 0 0 = c0_0) {c0_30 : Int32} (ec0_30 : h.2.1 0 30 = c0_30) {a1 : (Nat → Int32)} (ea1 : h.2.1 1 = a1) {a9 : (Nat → Int32)} (ea9 : h.2.1 9 = a9) {a10 : (Nat → Int32)} (ea10 : h.2.1 10 = a10) {a20 : (Nat → Int32)} (ea20 : h.2.1 20 = a20) {x0 : Int32} {x1 : Int32} {out : Int32 × Int32 × (Nat → Int32)} (hf : f_X11_order u c0_0 c0_30 a1 a9 a10 a20 x0 x1 = some out) : k_CT l yX11_order cX11_order 3 (some .int) 2 45 [.ref 0, .int x0, .int x1] h (some (.int out.1)) [(0, .inl (0, out.2.1)), (1, .inr (.inr (.inl out.2.2)))] := by
  obtain ⟨sh, I, L, Rf⟩ := h
  try dsimp only
  obtain rfl : sh = shM := hsh
  refine k_ofW (by decide) (Nat.le_of_ble_eq_true rfl) ?_
  intro X ad hl hR0 hr C
  have hR : X.R.frames = 2 ∧ X.R.locals = 45 := by rw [hR0]; exact ⟨rfl, rfl⟩
  have h := hf
  unfold f_X11_order at h
  refine k_start (us := [(0, .inl (0, c0_0)), (1, .inr (.inr (.inl a1)))]) (k_ao_I ec0_0 (k_ao_A ea1 k_ap_0)) ?_
  show k_W X 3 0 0 _ ad (k_ap [(0, .inl (0, c0_0)), (1, .inr (.inr (.inl a1)))] (shM, I, L, Rf)) 0 [some (.ref 0), some (.int x0), some (.int x1)] []
  refine k_mask [true, true, true] ?_
  exact sX11_order_0 u C hr hR ec0_30 ea9 ea10 ea20 c0_0 a1 x0 x1 h
