/-! LullabyPitModel.goes(III)Z -/
theorem ds_X11_goes : k_ds [(16, 2, 0), (17, 2, 0), (21, 2, 0), (23, 2, 0), (24, 2, 0)] = true := by decide +kernel
set_option maxHeartbeats 400000 in
set_option maxRecDepth 100000 in
theorem sX11_goes_0 (u : Nat) {X : k_X} {ad : Nat → Nat} (C : k_C X cX11_goes RX11 4 ad) (hr : X.meth.sig.returnType = (some .boolean)) (hR : X.R.frames = 6 ∧ X.R.locals = 133) {I : Nat → Nat → Int32} {L : Nat → Nat → Int64} {Rf : Nat → Nat → Option Nat} {c0_25 : Int32} (ec0_25 : I 0 25 = c0_25) {c0_26 : Int32} (ec0_26 : I 0 26 = c0_26) {c0_27 : Int32} (ec0_27 : I 0 27 = c0_27) {c0_28 : Int32} (ec0_28 : I 0 28 = c0_28) {c0_30 : Int32} (ec0_30 : I 0 30 = c0_30) {a7 : (Nat → Int32)} (ea7 : I 7 = a7) {a8 : (Nat → Int32)} (ea8 : I 8 = a8) {a9 : (Nat → Int32)} (ea9 : I 9 = a9) {a10 : (Nat → Int32)} (ea10 : I 10 = a10) {a13 : (Nat → Int32)} (ea13 : I 13 = a13) {a14 : (Nat → Int32)} (ea14 : I 14 = a14) {a15 : (Nat → Int32)} (ea15 : I 15 = a15) {out : Int32 × (Nat → Int32) × (Nat → Int32) × (Nat → Int32) × (Nat → Int32) × (Nat → Int32)} : ∀ (a16 : (Nat → Int32)) (a17 : (Nat → Int32)) (a21 : (Nat → Int32)) (a23 : (Nat → Int32)) (a24 : (Nat → Int32)) (v1 : Int32) (v2 : Int32) (v3 : Int32), bX11_goes_0 u c0_25 c0_26 c0_27 c0_28 c0_30 a7 a8 a9 a10 a13 a14 a15 a16 a17 a21 a23 a24 v1 v2 v3 = some out → k_W X 4 0 0 (k_Q X ad (some (.int out.1)) (k_ap [(16, .inr (.inr (.inl out.2.1))), (17, .inr (.inr (.inl out.2.2.1))), (21, .inr (.inr (.inl out.2.2.2.1))), (23, .inr (.inr (.inl out.2.2.2.2.1))), (24, .inr (.inr (.inl out.2.2.2.2.2)))] (shM, I, L, Rf))) ad (k_ap [(16, .inr (.inr (.inl a16))), (17, .inr (.inr (.inl a17))), (21, .inr (.inr (.inl a21))), (23, .inr (.inr (.inl a23))), (24, .inr (.inr (.inl a24)))] (shM, I, L, Rf)) 0 [some (.ref 0), some (.int v1), some (.int v2), some (.int v3)] [] := by
  intro a16 a17 a21 a23 a24 v1 v2 v3 h
  unfold bX11_goes_0 at h
  refine r_iload_n C dX11_goes_0 (rfl : 0 + 1 = 1) rfl ?_
  refine r_iconst (v := (3 : Int32)) C dX11_goes_1 (rfl : 1 + 1 = 2) rfl ?_
  refine r_icmp_ne (tgt := 10) C dX11_goes_2 (by decide) (rfl : 2 + 3 = 5) (fun c2 => ?_) (fun c2 => ?_)
  · have h := k_f c2 h
    refine r_iload_n C dX11_goes_10 (rfl : 10 + 1 = 11) rfl ?_
    refine r_if_ne (tgt := 56) C dX11_goes_11 (by decide) (rfl : 11 + 3 = 14) (fun c11 => ?_) (fun c11 => ?_)
    · have h := k_f c11 h
      refine r_iload_n C dX11_goes_56 (rfl : 56 + 1 = 57) rfl ?_
      refine r_iconst (v := (1 : Int32)) C dX11_goes_57 (rfl : 57 + 1 = 58) rfl ?_
      refine r_icmp_ne (tgt := 117) C dX11_goes_58 (by decide) (rfl : 58 + 3 = 61) (fun c58 => ?_) (fun c58 => ?_)
      · have h := k_f c58 h
        refine r_iload_n C dX11_goes_117 (rfl : 117 + 1 = 118) rfl ?_
        refine r_iconst (v := (2 : Int32)) C dX11_goes_118 (rfl : 118 + 1 = 119) rfl ?_
        refine r_icmp_ne (tgt := 176) C dX11_goes_119 (by decide) (rfl : 119 + 3 = 122) (fun c119 => ?_) (fun c119 => ?_)
        · have h := k_f c119 h
          refine r_aload_n C dX11_goes_176 (rfl : 176 + 1 = 177) rfl ?_
          refine r_getR (q := 21) C dX11_goes_177 (rfl : 177 + 3 = 180) fl_X11_77 rfl rfl ?_
          refine r_bipush (v := (48 : Int32)) C dX11_goes_180 (rfl : 180 + 2 = 182) rfl ?_
          refine r_iload_n C dX11_goes_182 (rfl : 182 + 1 = 183) rfl ?_
          refine r_iadd C dX11_goes_183 (rfl : 183 + 1 = 184) ?_
          obtain ⟨hi184, h⟩ := k_i_of h
          refine a_i (j := (((48 : Int32) + v2)).toNatClampNeg) (f := a21) C dX11_goes_184 (rfl : 184 + 1 = 185) rfl rfl hi184 rfl ?_
          refine r_iload_n C dX11_goes_185 (rfl : 185 + 1 = 186) rfl ?_
          refine r_icmp_ge (tgt := 191) C dX11_goes_186 (by decide) (rfl : 186 + 3 = 189) (fun c186 => ?_) (fun c186 => ?_)
          · have h := k_t c186 h
            refine r_aload_n C dX11_goes_191 (rfl : 191 + 1 = 192) rfl ?_
            refine r_getR (q := 21) C dX11_goes_192 (rfl : 192 + 3 = 195) fl_X11_77 rfl rfl ?_
            refine r_bipush (v := (48 : Int32)) C dX11_goes_195 (rfl : 195 + 2 = 197) rfl ?_
            refine r_iload_n C dX11_goes_197 (rfl : 197 + 1 = 198) rfl ?_
            refine r_iadd C dX11_goes_198 (rfl : 198 + 1 = 199) ?_
            refine r_dup2 C dX11_goes_199 (rfl : 199 + 1 = 200) rfl rfl ?_
            obtain ⟨hi200, h⟩ := k_i_of h
            refine a_i (j := (((48 : Int32) + v2)).toNatClampNeg) (f := a21) C dX11_goes_200 (rfl : 200 + 1 = 201) rfl rfl hi200 rfl ?_
            refine r_iload_n C dX11_goes_201 (rfl : 201 + 1 = 202) rfl ?_
            refine r_isub C dX11_goes_202 (rfl : 202 + 1 = 203) ?_
            obtain ⟨hi203, h⟩ := k_i_of h
            refine s_i (j := (((48 : Int32) + v2)).toNatClampNeg) (f := a21) (us' := [(16, .inr (.inr (.inl a16))), (17, .inr (.inr (.inl a17))), (21, .inr (.inr (.inl (upd a21 ((((48 : Int32) + v2)).toNatClampNeg) ((a21 ((((48 : Int32) + v2)).toNatClampNeg)) - v3))))), (23, .inr (.inr (.inl a23))), (24, .inr (.inr (.inl a24)))]) C dX11_goes_203 (rfl : 203 + 1 = 204) rfl rfl hi203 rfl ds_X11_goes rfl rfl rfl ?_
            refine r_aload_n C dX11_goes_204 (rfl : 204 + 1 = 205) rfl ?_
            refine r_getR (q := 21) C dX11_goes_205 (rfl : 205 + 3 = 208) fl_X11_77 rfl rfl ?_
            refine r_bipush (v := (53 : Int32)) C dX11_goes_208 (rfl : 208 + 2 = 210) rfl ?_
            refine r_iload_n C dX11_goes_210 (rfl : 210 + 1 = 211) rfl ?_
            refine r_iadd C dX11_goes_211 (rfl : 211 + 1 = 212) ?_
            refine r_dup2 C dX11_goes_212 (rfl : 212 + 1 = 213) rfl rfl ?_
            obtain ⟨hi213, h⟩ := k_i_of h
            refine a_i (j := (((53 : Int32) + v2)).toNatClampNeg) (f := (upd a21 ((((48 : Int32) + v2)).toNatClampNeg) ((a21 ((((48 : Int32) + v2)).toNatClampNeg)) - v3))) C dX11_goes_213 (rfl : 213 + 1 = 214) rfl rfl hi213 rfl ?_
            refine r_iload_n C dX11_goes_214 (rfl : 214 + 1 = 215) rfl ?_
            refine r_iadd C dX11_goes_215 (rfl : 215 + 1 = 216) ?_
            obtain ⟨hi216, h⟩ := k_i_of h
            refine s_i (j := (((53 : Int32) + v2)).toNatClampNeg) (f := (upd a21 ((((48 : Int32) + v2)).toNatClampNeg) ((a21 ((((48 : Int32) + v2)).toNatClampNeg)) - v3))) (us' := [(16, .inr (.inr (.inl a16))), (17, .inr (.inr (.inl a17))), (21, .inr (.inr (.inl (upd (upd a21 ((((48 : Int32) + v2)).toNatClampNeg) ((a21 ((((48 : Int32) + v2)).toNatClampNeg)) - v3)) ((((53 : Int32) + v2)).toNatClampNeg) (((upd a21 ((((48 : Int32) + v2)).toNatClampNeg) ((a21 ((((48 : Int32) + v2)).toNatClampNeg)) - v3)) ((((53 : Int32) + v2)).toNatClampNeg)) + v3))))), (23, .inr (.inr (.inl a23))), (24, .inr (.inr (.inl a24)))]) C dX11_goes_216 (rfl : 216 + 1 = 217) rfl rfl hi216 rfl ds_X11_goes rfl rfl rfl ?_
            refine r_aload_n C dX11_goes_217 (rfl : 217 + 1 = 218) rfl ?_
            refine r_getR (q := 21) C dX11_goes_218 (rfl : 218 + 3 = 221) fl_X11_77 rfl rfl ?_
            refine r_bipush (v := (72 : Int32)) C dX11_goes_221 (rfl : 221 + 2 = 223) rfl ?_
            refine r_dup2 C dX11_goes_223 (rfl : 223 + 1 = 224) rfl rfl ?_
            refine a_i (j := 72) (f := (upd (upd a21 ((((48 : Int32) + v2)).toNatClampNeg) ((a21 ((((48 : Int32) + v2)).toNatClampNeg)) - v3)) ((((53 : Int32) + v2)).toNatClampNeg) (((upd a21 ((((48 : Int32) + v2)).toNatClampNeg) ((a21 ((((48 : Int32) + v2)).toNatClampNeg)) - v3)) ((((53 : Int32) + v2)).toNatClampNeg)) + v3))) C dX11_goes_224 (rfl : 224 + 1 = 225) rfl rfl (show ¬ ((72 : Int32) < 0 ∨ 77 ≤ ((72 : Int32)).toNatClampNeg) by decide) rfl ?_
            refine r_iload_n C dX11_goes_225 (rfl : 225 + 1 = 226) rfl ?_
            refine r_aload_n C dX11_goes_226 (rfl : 226 + 1 = 227) rfl ?_
            refine r_getR (q := 9) C dX11_goes_227 (rfl : 227 + 3 = 230) fl_X11_41 rfl rfl ?_
            refine r_iload_n C dX11_goes_230 (rfl : 230 + 1 = 231) rfl ?_
            obtain ⟨hi231, h⟩ := k_i_of h
            refine a_i (j := (v2).toNatClampNeg) (f := a9) C dX11_goes_231 (rfl : 231 + 1 = 232) rfl ea9 hi231 rfl ?_
            refine r_imul C dX11_goes_232 (rfl : 232 + 1 = 233) ?_
            refine r_iadd C dX11_goes_233 (rfl : 233 + 1 = 234) ?_
            refine s_i (j := 72) (f := (upd (upd a21 ((((48 : Int32) + v2)).toNatClampNeg) ((a21 ((((48 : Int32) + v2)).toNatClampNeg)) - v3)) ((((53 : Int32) + v2)).toNatClampNeg) (((upd a21 ((((48 : Int32) + v2)).toNatClampNeg) ((a21 ((((48 : Int32) + v2)).toNatClampNeg)) - v3)) ((((53 : Int32) + v2)).toNatClampNeg)) + v3))) (us' := [(16, .inr (.inr (.inl a16))), (17, .inr (.inr (.inl a17))), (21, .inr (.inr (.inl (upd (upd (upd a21 ((((48 : Int32) + v2)).toNatClampNeg) ((a21 ((((48 : Int32) + v2)).toNatClampNeg)) - v3)) ((((53 : Int32) + v2)).toNatClampNeg) (((upd a21 ((((48 : Int32) + v2)).toNatClampNeg) ((a21 ((((48 : Int32) + v2)).toNatClampNeg)) - v3)) ((((53 : Int32) + v2)).toNatClampNeg)) + v3)) 72 (((upd (upd a21 ((((48 : Int32) + v2)).toNatClampNeg) ((a21 ((((48 : Int32) + v2)).toNatClampNeg)) - v3)) ((((53 : Int32) + v2)).toNatClampNeg) (((upd a21 ((((48 : Int32) + v2)).toNatClampNeg) ((a21 ((((48 : Int32) + v2)).toNatClampNeg)) - v3)) ((((53 : Int32) + v2)).toNatClampNeg)) + v3)) 72) + (v3 * (a9 ((v2).toNatClampNeg)))))))), (23, .inr (.inr (.inl a23))), (24, .inr (.inr (.inl a24)))]) C dX11_goes_234 (rfl : 234 + 1 = 235) rfl rfl (show ¬ ((72 : Int32) < 0 ∨ 77 ≤ ((72 : Int32)).toNatClampNeg) by decide) rfl ds_X11_goes rfl rfl rfl ?_
            refine r_iconst (v := (1 : Int32)) C dX11_goes_235 (rfl : 235 + 1 = 236) rfl ?_
            cases h
            exact r_zret C hr (Or.inr rfl) dX11_goes_236
          · have h := k_f c186 h
            refine r_iconst (v := (0 : Int32)) C dX11_goes_189 (rfl : 189 + 1 = 190) rfl ?_
            cases h
            exact r_zret C hr (Or.inl rfl) dX11_goes_190
        · have h := k_t c119 h
          refine r_aload_n C dX11_goes_122 (rfl : 122 + 1 = 123) rfl ?_
          refine r_getR (q := 21) C dX11_goes_123 (rfl : 123 + 3 = 126) fl_X11_77 rfl rfl ?_
          refine r_bipush (v := (74 : Int32)) C dX11_goes_126 (rfl : 126 + 2 = 128) rfl ?_
          refine a_i (j := 74) (f := a21) C dX11_goes_128 (rfl : 128 + 1 = 129) rfl rfl (show ¬ ((74 : Int32) < 0 ∨ 77 ≤ ((74 : Int32)).toNatClampNeg) by decide) rfl ?_
          refine r_aload_n C dX11_goes_129 (rfl : 129 + 1 = 130) rfl ?_
          refine r_getI (v := c0_26) C dX11_goes_130 (rfl : 130 + 3 = 133) fl_X11_187 rfl rfl ec0_26 ?_
          refine r_icmp_eq (tgt := 150) C dX11_goes_133 (by decide) (rfl : 133 + 3 = 136) (fun c133 => ?_) (fun c133 => ?_)
          · have h := k_t c133 h
            refine r_iconst (v := (0 : Int32)) C dX11_goes_150 (rfl : 150 + 1 = 151) rfl ?_
            cases h
            exact r_zret C hr (Or.inl rfl) dX11_goes_151
          · have h := k_f c133 h
            refine r_aload_n C dX11_goes_136 (rfl : 136 + 1 = 137) rfl ?_
            refine r_getR (q := 21) C dX11_goes_137 (rfl : 137 + 3 = 140) fl_X11_77 rfl rfl ?_
            refine r_bipush (v := (70 : Int32)) C dX11_goes_140 (rfl : 140 + 2 = 142) rfl ?_
            refine a_i (j := 70) (f := a21) C dX11_goes_142 (rfl : 142 + 1 = 143) rfl rfl (show ¬ ((70 : Int32) < 0 ∨ 77 ≤ ((70 : Int32)).toNatClampNeg) by decide) rfl ?_
            refine r_aload_n C dX11_goes_143 (rfl : 143 + 1 = 144) rfl ?_
            refine r_getI (v := c0_28) C dX11_goes_144 (rfl : 144 + 3 = 147) fl_X11_193 rfl rfl ec0_28 ?_
            refine r_icmp_ne (tgt := 152) C dX11_goes_147 (by decide) (rfl : 147 + 3 = 150) (fun c147 => ?_) (fun c147 => ?_)
            · have h := k_f c147 h
              refine r_aload_n C dX11_goes_152 (rfl : 152 + 1 = 153) rfl ?_
              refine r_getR (q := 21) C dX11_goes_153 (rfl : 153 + 3 = 156) fl_X11_77 rfl rfl ?_
              refine r_bipush (v := (74 : Int32)) C dX11_goes_156 (rfl : 156 + 2 = 158) rfl ?_
              refine r_aload_n C dX11_goes_158 (rfl : 158 + 1 = 159) rfl ?_
              refine r_getI (v := c0_26) C dX11_goes_159 (rfl : 159 + 3 = 162) fl_X11_187 rfl rfl ec0_26 ?_
              refine s_i (j := 74) (f := a21) (us' := [(16, .inr (.inr (.inl a16))), (17, .inr (.inr (.inl a17))), (21, .inr (.inr (.inl (upd a21 74 c0_26)))), (23, .inr (.inr (.inl a23))), (24, .inr (.inr (.inl a24)))]) C dX11_goes_162 (rfl : 162 + 1 = 163) rfl rfl (show ¬ ((74 : Int32) < 0 ∨ 77 ≤ ((74 : Int32)).toNatClampNeg) by decide) rfl ds_X11_goes rfl rfl rfl ?_
              refine r_aload_n C dX11_goes_163 (rfl : 163 + 1 = 164) rfl ?_
              refine r_getR (q := 21) C dX11_goes_164 (rfl : 164 + 3 = 167) fl_X11_77 rfl rfl ?_
              refine r_bipush (v := (70 : Int32)) C dX11_goes_167 (rfl : 167 + 2 = 169) rfl ?_
              refine r_dup2 C dX11_goes_169 (rfl : 169 + 1 = 170) rfl rfl ?_
              refine a_i (j := 70) (f := (upd a21 74 c0_26)) C dX11_goes_170 (rfl : 170 + 1 = 171) rfl rfl (show ¬ ((70 : Int32) < 0 ∨ 77 ≤ ((70 : Int32)).toNatClampNeg) by decide) rfl ?_
              refine r_iconst (v := (1 : Int32)) C dX11_goes_171 (rfl : 171 + 1 = 172) rfl ?_
              refine r_iadd C dX11_goes_172 (rfl : 172 + 1 = 173) ?_
              refine s_i (j := 70) (f := (upd a21 74 c0_26)) (us' := [(16, .inr (.inr (.inl a16))), (17, .inr (.inr (.inl a17))), (21, .inr (.inr (.inl (upd (upd a21 74 c0_26) 70 (((upd a21 74 c0_26) 70) + (1 : Int32)))))), (23, .inr (.inr (.inl a23))), (24, .inr (.inr (.inl a24)))]) C dX11_goes_173 (rfl : 173 + 1 = 174) rfl rfl (show ¬ ((70 : Int32) < 0 ∨ 77 ≤ ((70 : Int32)).toNatClampNeg) by decide) rfl ds_X11_goes rfl rfl rfl ?_
              refine r_iconst (v := (1 : Int32)) C dX11_goes_174 (rfl : 174 + 1 = 175) rfl ?_
              cases h
              exact r_zret C hr (Or.inr rfl) dX11_goes_175
            · have h := k_t c147 h
              refine r_iconst (v := (0 : Int32)) C dX11_goes_150 (rfl : 150 + 1 = 151) rfl ?_
              cases h
              exact r_zret C hr (Or.inl rfl) dX11_goes_151
      · have h := k_t c58 h
        refine r_aload_n C dX11_goes_61 (rfl : 61 + 1 = 62) rfl ?_
        refine r_getR (q := 21) C dX11_goes_62 (rfl : 62 + 3 = 65) fl_X11_77 rfl rfl ?_
        refine r_iload_n C dX11_goes_65 (rfl : 65 + 1 = 66) rfl ?_
        obtain ⟨hi66, h⟩ := k_i_of h
        refine a_i (j := (v2).toNatClampNeg) (f := a21) C dX11_goes_66 (rfl : 66 + 1 = 67) rfl rfl hi66 rfl ?_
        refine r_iconst (v := (1 : Int32)) C dX11_goes_67 (rfl : 67 + 1 = 68) rfl ?_
        refine r_icmp_ne (tgt := 95) C dX11_goes_68 (by decide) (rfl : 68 + 3 = 71) (fun c68 => ?_) (fun c68 => ?_)
        · have h := k_f c68 h
          refine r_iconst (v := (0 : Int32)) C dX11_goes_95 (rfl : 95 + 1 = 96) rfl ?_
          cases h
          exact r_zret C hr (Or.inl rfl) dX11_goes_96
        · have h := k_t c68 h
          refine r_iload_n C dX11_goes_71 (rfl : 71 + 1 = 72) rfl ?_
          refine r_bipush (v := (8 : Int32)) C dX11_goes_72 (rfl : 72 + 2 = 74) rfl ?_
          refine r_idiv C dX11_goes_74 (rfl : 74 + 1 = 75) (by decide) ?_
          refine r_aload_n C dX11_goes_75 (rfl : 75 + 1 = 76) rfl ?_
          refine r_getR (q := 21) C dX11_goes_76 (rfl : 76 + 3 = 79) fl_X11_77 rfl rfl ?_
          refine r_bipush (v := (74 : Int32)) C dX11_goes_79 (rfl : 79 + 2 = 81) rfl ?_
          refine a_i (j := 74) (f := a21) C dX11_goes_81 (rfl : 81 + 1 = 82) rfl rfl (show ¬ ((74 : Int32) < 0 ∨ 77 ≤ ((74 : Int32)).toNatClampNeg) by decide) rfl ?_
          refine r_icmp_ge (tgt := 95) C dX11_goes_82 (by decide) (rfl : 82 + 3 = 85) (fun c82 => ?_) (fun c82 => ?_)
          · have h := k_t c82 h
            refine r_iconst (v := (0 : Int32)) C dX11_goes_95 (rfl : 95 + 1 = 96) rfl ?_
            cases h
            exact r_zret C hr (Or.inl rfl) dX11_goes_96
          · have h := k_f c82 h
            refine r_aload_n C dX11_goes_85 (rfl : 85 + 1 = 86) rfl ?_
            refine r_getR (q := 21) C dX11_goes_86 (rfl : 86 + 3 = 89) fl_X11_77 rfl rfl ?_
            refine r_bipush (v := (71 : Int32)) C dX11_goes_89 (rfl : 89 + 2 = 91) rfl ?_
            refine a_i (j := 71) (f := a21) C dX11_goes_91 (rfl : 91 + 1 = 92) rfl rfl (show ¬ ((71 : Int32) < 0 ∨ 77 ≤ ((71 : Int32)).toNatClampNeg) by decide) rfl ?_
            refine r_if_ne (tgt := 97) C dX11_goes_92 (by decide) (rfl : 92 + 3 = 95) (fun c92 => ?_) (fun c92 => ?_)
            · have h := k_f c92 h
              refine r_aload_n C dX11_goes_97 (rfl : 97 + 1 = 98) rfl ?_
              refine r_getR (q := 21) C dX11_goes_98 (rfl : 98 + 3 = 101) fl_X11_77 rfl rfl ?_
              refine r_iload_n C dX11_goes_101 (rfl : 101 + 1 = 102) rfl ?_
              refine r_iconst (v := (2 : Int32)) C dX11_goes_102 (rfl : 102 + 1 = 103) rfl ?_
              obtain ⟨hi103, h⟩ := k_i_of h
              refine s_i (j := (v2).toNatClampNeg) (f := a21) (us' := [(16, .inr (.inr (.inl a16))), (17, .inr (.inr (.inl a17))), (21, .inr (.inr (.inl (upd a21 ((v2).toNatClampNeg) (2 : Int32))))), (23, .inr (.inr (.inl a23))), (24, .inr (.inr (.inl a24)))]) C dX11_goes_103 (rfl : 103 + 1 = 104) rfl rfl hi103 rfl ds_X11_goes rfl rfl rfl ?_
              refine r_aload_n C dX11_goes_104 (rfl : 104 + 1 = 105) rfl ?_
              refine r_getR (q := 21) C dX11_goes_105 (rfl : 105 + 3 = 108) fl_X11_77 rfl rfl ?_
              refine r_bipush (v := (71 : Int32)) C dX11_goes_108 (rfl : 108 + 2 = 110) rfl ?_
              refine r_dup2 C dX11_goes_110 (rfl : 110 + 1 = 111) rfl rfl ?_
              refine a_i (j := 71) (f := (upd a21 ((v2).toNatClampNeg) (2 : Int32))) C dX11_goes_111 (rfl : 111 + 1 = 112) rfl rfl (show ¬ ((71 : Int32) < 0 ∨ 77 ≤ ((71 : Int32)).toNatClampNeg) by decide) rfl ?_
              refine r_iconst (v := (1 : Int32)) C dX11_goes_112 (rfl : 112 + 1 = 113) rfl ?_
              refine r_isub C dX11_goes_113 (rfl : 113 + 1 = 114) ?_
              refine s_i (j := 71) (f := (upd a21 ((v2).toNatClampNeg) (2 : Int32))) (us' := [(16, .inr (.inr (.inl a16))), (17, .inr (.inr (.inl a17))), (21, .inr (.inr (.inl (upd (upd a21 ((v2).toNatClampNeg) (2 : Int32)) 71 (((upd a21 ((v2).toNatClampNeg) (2 : Int32)) 71) - (1 : Int32)))))), (23, .inr (.inr (.inl a23))), (24, .inr (.inr (.inl a24)))]) C dX11_goes_114 (rfl : 114 + 1 = 115) rfl rfl (show ¬ ((71 : Int32) < 0 ∨ 77 ≤ ((71 : Int32)).toNatClampNeg) by decide) rfl ds_X11_goes rfl rfl rfl ?_
              refine r_iconst (v := (1 : Int32)) C dX11_goes_115 (rfl : 115 + 1 = 116) rfl ?_
              cases h
              exact r_zret C hr (Or.inr rfl) dX11_goes_116
            · have h := k_t c92 h
              refine r_iconst (v := (0 : Int32)) C dX11_goes_95 (rfl : 95 + 1 = 96) rfl ?_
              cases h
              exact r_zret C hr (Or.inl rfl) dX11_goes_96
    · have h := k_t c11 h
      refine r_aload_n C dX11_goes_14 (rfl : 14 + 1 = 15) rfl ?_
      refine r_iload_n C dX11_goes_15 (rfl : 15 + 1 = 16) rfl ?_
      obtain ⟨r16, q16, h⟩ := k_b_of h
      refine d_V (As := [.int v2]) (st := []) (st' := [.int r16]) (h' := k_ap [(16, .inr (.inr (.inl a16))), (17, .inr (.inr (.inl a17))), (21, .inr (.inr (.inl a21))), (23, .inr (.inr (.inl a23))), (24, .inr (.inr (.inl a24)))] (shM, I, L, Rf)) C hR ⟨Nat.zero_le _, Nat.zero_le _⟩ mv_X11_whyNot lk_X11_409 dX11_goes_16 (rfl : 16 + 3 = 19) rfl rfl rfl rfl (c_X11_whyNot X.l u (k_ap [(16, .inr (.inr (.inl a16))), (17, .inr (.inr (.inl a17))), (21, .inr (.inr (.inl a21))), (23, .inr (.inr (.inl a23))), (24, .inr (.inr (.inl a24)))] (shM, I, L, Rf)) rfl ec0_25 ec0_26 ec0_27 rfl q16) rfl rfl rfl rfl rfl ?_
      refine r_if_ne (tgt := 36) C dX11_goes_19 (by decide) (rfl : 19 + 3 = 22) (fun c19 => ?_) (fun c19 => ?_)
      · have h := k_f c19 h
        refine r_iconst (v := (0 : Int32)) C dX11_goes_36 (rfl : 36 + 1 = 37) rfl ?_
        cases h
        exact r_zret C hr (Or.inl rfl) dX11_goes_37
      · have h := k_t c19 h
        refine r_aload_n C dX11_goes_22 (rfl : 22 + 1 = 23) rfl ?_
        refine r_getR (q := 21) C dX11_goes_23 (rfl : 23 + 3 = 26) fl_X11_77 rfl rfl ?_
        refine r_bipush (v := (70 : Int32)) C dX11_goes_26 (rfl : 26 + 2 = 28) rfl ?_
        refine a_i (j := 70) (f := a21) C dX11_goes_28 (rfl : 28 + 1 = 29) rfl rfl (show ¬ ((70 : Int32) < 0 ∨ 77 ≤ ((70 : Int32)).toNatClampNeg) by decide) rfl ?_
        refine r_aload_n C dX11_goes_29 (rfl : 29 + 1 = 30) rfl ?_
        refine r_getI (v := c0_28) C dX11_goes_30 (rfl : 30 + 3 = 33) fl_X11_193 rfl rfl ec0_28 ?_
        refine r_icmp_ne (tgt := 38) C dX11_goes_33 (by decide) (rfl : 33 + 3 = 36) (fun c33 => ?_) (fun c33 => ?_)
        · have h := k_f c33 h
          refine r_aload_n C dX11_goes_38 (rfl : 38 + 1 = 39) rfl ?_
          refine r_getR (q := 21) C dX11_goes_39 (rfl : 39 + 3 = 42) fl_X11_77 rfl rfl ?_
          refine r_bipush (v := (70 : Int32)) C dX11_goes_42 (rfl : 42 + 2 = 44) rfl ?_
          refine r_dup2 C dX11_goes_44 (rfl : 44 + 1 = 45) rfl rfl ?_
          refine a_i (j := 70) (f := a21) C dX11_goes_45 (rfl : 45 + 1 = 46) rfl rfl (show ¬ ((70 : Int32) < 0 ∨ 77 ≤ ((70 : Int32)).toNatClampNeg) by decide) rfl ?_
          refine r_iconst (v := (1 : Int32)) C dX11_goes_46 (rfl : 46 + 1 = 47) rfl ?_
          refine r_iadd C dX11_goes_47 (rfl : 47 + 1 = 48) ?_
          refine s_i (j := 70) (f := a21) (us' := [(16, .inr (.inr (.inl a16))), (17, .inr (.inr (.inl a17))), (21, .inr (.inr (.inl (upd a21 70 ((a21 70) + (1 : Int32)))))), (23, .inr (.inr (.inl a23))), (24, .inr (.inr (.inl a24)))]) C dX11_goes_48 (rfl : 48 + 1 = 49) rfl rfl (show ¬ ((70 : Int32) < 0 ∨ 77 ≤ ((70 : Int32)).toNatClampNeg) by decide) rfl ds_X11_goes rfl rfl rfl ?_
          refine r_aload_n C dX11_goes_49 (rfl : 49 + 1 = 50) rfl ?_
          refine r_iload_n C dX11_goes_50 (rfl : 50 + 1 = 51) rfl ?_
          obtain ⟨r51, q51, h⟩ := k_b_of h
          refine d_V (As := [.int v2]) (st := []) (st' := []) (h' := k_ap [(16, .inr (.inr (.inl r51.1))), (17, .inr (.inr (.inl r51.2.1))), (21, .inr (.inr (.inl r51.2.2.1))), (23, .inr (.inr (.inl r51.2.2.2))), (24, .inr (.inr (.inl a24)))] (shM, I, L, Rf)) C hR ⟨Nat.zero_le _, Nat.zero_le _⟩ mv_X11_digs lk_X11_412 dX11_goes_51 (rfl : 51 + 3 = 54) rfl rfl rfl rfl (c_X11_digs X.l u (k_ap [(16, .inr (.inr (.inl a16))), (17, .inr (.inr (.inl a17))), (21, .inr (.inr (.inl (upd a21 70 ((a21 70) + (1 : Int32)))))), (23, .inr (.inr (.inl a23))), (24, .inr (.inr (.inl a24)))] (shM, I, L, Rf)) rfl ec0_25 ec0_26 ea7 ea8 ea13 ea14 ea15 rfl rfl rfl rfl q51) rfl rfl rfl (k_jn (us' := [(16, .inr (.inr (.inl r51.1))), (17, .inr (.inr (.inl r51.2.1))), (21, .inr (.inr (.inl r51.2.2.1))), (23, .inr (.inr (.inl r51.2.2.2))), (24, .inr (.inr (.inl a24)))]) ds_X11_goes rfl rfl rfl) rfl ?_
          refine r_iconst (v := (1 : Int32)) C dX11_goes_54 (rfl : 54 + 1 = 55) rfl ?_
          cases h
          exact r_zret C hr (Or.inr rfl) dX11_goes_55
        · have h := k_t c33 h
          refine r_iconst (v := (0 : Int32)) C dX11_goes_36 (rfl : 36 + 1 = 37) rfl ?_
          cases h
          exact r_zret C hr (Or.inl rfl) dX11_goes_37
  · have h := k_t c2 h
    refine r_aload_n C dX11_goes_5 (rfl : 5 + 1 = 6) rfl ?_
    obtain ⟨r6, q6, h⟩ := k_b_of h
    refine d_V (As := []) (st := []) (st' := [.int r6.1]) (h' := k_ap [(16, .inr (.inr (.inl a16))), (17, .inr (.inr (.inl a17))), (21, .inr (.inr (.inl r6.2.1))), (23, .inr (.inr (.inl a23))), (24, .inr (.inr (.inl r6.2.2)))] (shM, I, L, Rf)) C hR ⟨Nat.zero_le _, Nat.zero_le _⟩ mv_X11_next lk_X11_406 dX11_goes_6 (rfl : 6 + 3 = 9) rfl rfl rfl rfl (c_X11_next X.l u (k_ap [(16, .inr (.inr (.inl a16))), (17, .inr (.inr (.inl a17))), (21, .inr (.inr (.inl a21))), (23, .inr (.inr (.inl a23))), (24, .inr (.inr (.inl a24)))] (shM, I, L, Rf)) rfl ec0_30 ea9 ea10 rfl rfl q6) rfl rfl rfl (k_jn (us' := [(16, .inr (.inr (.inl a16))), (17, .inr (.inr (.inl a17))), (21, .inr (.inr (.inl r6.2.1))), (23, .inr (.inr (.inl a23))), (24, .inr (.inr (.inl r6.2.2)))]) ds_X11_goes rfl rfl rfl) rfl ?_
    obtain ⟨hz, h⟩ := k_z_of h
    cases h
    exact r_zret C hr hz dX11_goes_9
set_option maxHeartbeats 400000 in
set_option maxRecDepth 100000 in
theorem c_X11_goes (l : Launch) (u : Nat) (h : k_H) (hsh : h.1 = shM) {c0_25 : Int32} (ec0_25 : h.2.1 0 25 = c0_25) {c0_26 : Int32} (ec0_26 : h.2.1 0 26 = c0_26) {c0_27 : Int32} (ec0_27 : h.2.1 0 27 = c0_27) {c0_28 : Int32} (ec0_28 : h.2.1 0 28 = c0_28) {c0_30 : Int32} (ec0_30 : h.2.1 0 30 = c0_30) {a7 : (Nat → Int32)} (ea7 : h.2.1 7 = a7) {a8 : (Nat → Int32)} (ea8 : h.2.1 8 = a8) {a9 : (Nat → Int32)} (ea9 : h.2.1 9 = a9) {a10 : (Nat → Int32)} (ea10 : h.2.1 10 = a10) {a13 : (Nat → Int32)} (ea13 : h.2.1 13 = a13) {a14 : (Nat → Int32)} (ea14 : h.2.1 14 = a14) {a15 : (Nat → Int32)} (ea15 : h.2.1 15 = a15) {a16 : (Nat → Int32)} (ea16 : h.2.1 16 = a16) {a17 : (Nat → Int32)} (ea17 : h.2.1 17 = a17) {a21 : (Nat → Int32)} (ea21 : h.2.1 21 = a21) {a23 : (Nat → Int32)} (ea23 : h.2.1 23 = a23) {a24 : (Nat → Int32)} (ea24 : h.2.1 24 = a24) {x0 : Int32} {x1 : Int32} {x2 : Int32} {out : Int32 × (Nat → Int32) × (Nat → Int32) × (Nat → Int32) × (Nat → Int32) × (Nat → Int32)} (hf : f_X11_goes u c0_25 c0_26 c0_27 c0_28 c0_30 a7 a8 a9 a10 a13 a14 a15 a16 a17 a21 a23 a24 x0 x1 x2 = some out) : k_CT l yX11_goes cX11_goes 4 (some .boolean) 6 133 [.ref 0, .int x0, .int x1, .int x2] h (some (.int out.1)) [(16, .inr (.inr (.inl out.2.1))), (17, .inr (.inr (.inl out.2.2.1))), (21, .inr (.inr (.inl out.2.2.2.1))), (23, .inr (.inr (.inl out.2.2.2.2.1))), (24, .inr (.inr (.inl out.2.2.2.2.2)))] := by
  obtain ⟨sh, I, L, Rf⟩ := h
  try dsimp only
  obtain rfl : sh = shM := hsh
  refine k_ofW (by decide) (Nat.le_of_ble_eq_true rfl) ?_
  intro X ad hl hR0 hr C
  have hR : X.R.frames = 6 ∧ X.R.locals = 133 := by rw [hR0]; exact ⟨rfl, rfl⟩
  have h := hf
  unfold f_X11_goes at h
  refine k_start (us := [(16, .inr (.inr (.inl a16))), (17, .inr (.inr (.inl a17))), (21, .inr (.inr (.inl a21))), (23, .inr (.inr (.inl a23))), (24, .inr (.inr (.inl a24)))]) (k_ao_A ea16 (k_ao_A ea17 (k_ao_A ea21 (k_ao_A ea23 (k_ao_A ea24 k_ap_0))))) ?_
  show k_W X 4 0 0 _ ad (k_ap [(16, .inr (.inr (.inl a16))), (17, .inr (.inr (.inl a17))), (21, .inr (.inr (.inl a21))), (23, .inr (.inr (.inl a23))), (24, .inr (.inr (.inl a24)))] (shM, I, L, Rf)) 0 [some (.ref 0), some (.int x0), some (.int x1), some (.int x2)] []
  refine k_mask [true, true, true, true] ?_
  exact sX11_goes_0 u C hr hR ec0_25 ec0_26 ec0_27 ec0_28 ec0_30 ea7 ea8 ea9 ea10 ea13 ea14 ea15 a16 a17 a21 a23 a24 x0 x1 x2 h
/-! LullabyPitModel.copies([I[II)V -/
theorem ds_X11_copies_20_21 : k_ds [(21, 2, 0)] = true := by decide +kernel
set_option maxHeartbeats 400000 in
set_option maxRecDepth 100000 in
theorem sX11_copies_20_21_3 (u : Nat) {X : k_X} {ad : Nat → Nat} (C : k_C X cX11_copies RX11 5 ad) (hr : X.meth.sig.returnType = none) (hR : X.R.frames = 0 ∧ X.R.locals = 0) {I : Nat → Nat → Int32} {L : Nat → Nat → Int64} {Rf : Nat → Nat → Option Nat} {a20 : (Nat → Int32)} (ea20 : I 20 = a20) {out : (Nat → Int32)} : ∀ (n : Nat) (a21 : (Nat → Int32)) (v3 : Int32) (v4 : Int32), bX11_copies_20_21_3 u a20 n a21 v3 v4 = some out → k_W X 5 0 0 (k_Q X ad none (k_ap [(21, .inr (.inr (.inl out)))] (shM, I, L, Rf))) ad (k_ap [(21, .inr (.inr (.inl a21)))] (shM, I, L, Rf)) 3 [none, some (.ref 20), some (.ref 21), some (.int v3), some (.int v4)] [] := by
  intro n
  induction n with
  | zero => intro a21 v3 v4 h; cases h
  | succ n ih =>
    intro a21 v3 v4 h
    refine r_iload C dX11_copies_3 (rfl : 3 + 2 = 5) rfl ?_
    refine r_iload_n C dX11_copies_5 (rfl : 5 + 1 = 6) rfl ?_
    refine r_icmp_ge (tgt := 23) C dX11_copies_6 (by decide) (rfl : 6 + 3 = 9) (fun c6 => ?_) (fun c6 => ?_)
    · have h := k_t c6 h
      cases h
      exact r_vret C hr dX11_copies_23
    · have h := k_f c6 h
      refine r_aload_n C dX11_copies_9 (rfl : 9 + 1 = 10) rfl ?_
      refine r_iload C dX11_copies_10 (rfl : 10 + 2 = 12) rfl ?_
      refine r_aload_n C dX11_copies_12 (rfl : 12 + 1 = 13) rfl ?_
      refine r_iload C dX11_copies_13 (rfl : 13 + 2 = 15) rfl ?_
      obtain ⟨hi15, h⟩ := k_i_of h
      refine a_i (j := (v4).toNatClampNeg) (f := a20) C dX11_copies_15 (rfl : 15 + 1 = 16) rfl ea20 hi15 rfl ?_
      obtain ⟨hi16, h⟩ := k_i_of h
      refine s_i (j := (v4).toNatClampNeg) (f := a21) (us' := [(21, .inr (.inr (.inl (upd a21 ((v4).toNatClampNeg) (a20 ((v4).toNatClampNeg))))))]) C dX11_copies_16 (rfl : 16 + 1 = 17) rfl rfl hi16 rfl ds_X11_copies_20_21 rfl rfl rfl ?_
      refine r_iinc (v := (v4 + (1 : Int32))) C dX11_copies_17 (rfl : 17 + 3 = 20) rfl rfl (by decide) ?_
      show k_W _ _ _ _ _ _ _ _ [none, some (.ref 20), some (.ref 21), some (.int v3), some (.int (v4 + (1 : Int32)))] _
      refine r_goto (tgt := 3) C dX11_copies_20 (by decide) ?_
      refine k_mask [false, true, true, true, true] ?_
      exact ih (upd a21 ((v4).toNatClampNeg) (a20 ((v4).toNatClampNeg))) v3 (v4 + (1 : Int32)) h
set_option maxHeartbeats 400000 in
set_option maxRecDepth 100000 in
theorem sX11_copies_20_21_0 (u : Nat) {X : k_X} {ad : Nat → Nat} (C : k_C X cX11_copies RX11 5 ad) (hr : X.meth.sig.returnType = none) (hR : X.R.frames = 0 ∧ X.R.locals = 0) {I : Nat → Nat → Int32} {L : Nat → Nat → Int64} {Rf : Nat → Nat → Option Nat} {a20 : (Nat → Int32)} (ea20 : I 20 = a20) {out : (Nat → Int32)} : ∀ (a21 : (Nat → Int32)) (v3 : Int32), bX11_copies_20_21_0 u a20 a21 v3 = some out → k_W X 5 0 0 (k_Q X ad none (k_ap [(21, .inr (.inr (.inl out)))] (shM, I, L, Rf))) ad (k_ap [(21, .inr (.inr (.inl a21)))] (shM, I, L, Rf)) 0 [none, some (.ref 20), some (.ref 21), some (.int v3), none] [] := by
  intro a21 v3 h
  unfold bX11_copies_20_21_0 at h
  refine r_iconst (v := (0 : Int32)) C dX11_copies_0 (rfl : 0 + 1 = 1) rfl ?_
  refine r_istore C dX11_copies_1 (rfl : 1 + 2 = 3) (by decide) (Nat.le_of_ble_eq_true rfl) ?_
  show k_W _ _ _ _ _ _ _ _ [none, some (.ref 20), some (.ref 21), some (.int v3), some (.int (0 : Int32))] _
  refine k_mask [false, true, true, true, true] ?_
  exact sX11_copies_20_21_3 u C hr hR ea20 u a21 v3 (0 : Int32) h
set_option maxHeartbeats 400000 in
set_option maxRecDepth 100000 in
theorem c_X11_copies_20_21 (l : Launch) (u : Nat) (h : k_H) (hsh : h.1 = shM) {a20 : (Nat → Int32)} (ea20 : h.2.1 20 = a20) {a21 : (Nat → Int32)} (ea21 : h.2.1 21 = a21) {x2 : Int32} {out : (Nat → Int32)} (hf : f_X11_copies_20_21 u a20 a21 x2 = some out) : k_CT l yX11_copies cX11_copies 5 none 0 0 [.ref 0, .ref 20, .ref 21, .int x2] h none [(21, .inr (.inr (.inl out)))] := by
  obtain ⟨sh, I, L, Rf⟩ := h
  try dsimp only
  obtain rfl : sh = shM := hsh
  refine k_ofW (by decide) (Nat.le_of_ble_eq_true rfl) ?_
  intro X ad hl hR0 hr C
  have hR : X.R.frames = 0 ∧ X.R.locals = 0 := by rw [hR0]; exact ⟨rfl, rfl⟩
  have h := hf
  unfold f_X11_copies_20_21 at h
  refine k_start (us := [(21, .inr (.inr (.inl a21)))]) (k_ao_A ea21 k_ap_0) ?_
  show k_W X 5 0 0 _ ad (k_ap [(21, .inr (.inr (.inl a21)))] (shM, I, L, Rf)) 0 [some (.ref 0), some (.ref 20), some (.ref 21), some (.int x2), none] []
  refine k_mask [false, true, true, true, false] ?_
  exact sX11_copies_20_21_0 u C hr hR ea20 a21 x2 h
/-! LullabyPitModel.take()V -/
theorem ds_X11_take : k_ds [(21, 2, 0)] = true := by decide +kernel
set_option maxHeartbeats 400000 in
set_option maxRecDepth 100000 in
theorem sX11_take_0 (u : Nat) {X : k_X} {ad : Nat → Nat} (C : k_C X cX11_take RX11 1 ad) (hr : X.meth.sig.returnType = none) (hR : X.R.frames = 1 ∧ X.R.locals = 24) {I : Nat → Nat → Int32} {L : Nat → Nat → Int64} {Rf : Nat → Nat → Option Nat} {a20 : (Nat → Int32)} (ea20 : I 20 = a20) {out : (Nat → Int32)} : ∀ (a21 : (Nat → Int32)), bX11_take_0 u a20 a21 = some out → k_W X 1 0 0 (k_Q X ad none (k_ap [(21, .inr (.inr (.inl out)))] (shM, I, L, Rf))) ad (k_ap [(21, .inr (.inr (.inl a21)))] (shM, I, L, Rf)) 0 [some (.ref 0)] [] := by
  intro a21 h
  unfold bX11_take_0 at h
  refine r_aload_n C dX11_take_0 (rfl : 0 + 1 = 1) rfl ?_
  refine r_aload_n C dX11_take_1 (rfl : 1 + 1 = 2) rfl ?_
  refine r_getR (q := 20) C dX11_take_2 (rfl : 2 + 3 = 5) fl_X11_74 rfl rfl ?_
  refine r_aload_n C dX11_take_5 (rfl : 5 + 1 = 6) rfl ?_
  refine r_getR (q := 21) C dX11_take_6 (rfl : 6 + 3 = 9) fl_X11_77 rfl rfl ?_
  refine r_bipush (v := (77 : Int32)) C dX11_take_9 (rfl : 9 + 2 = 11) rfl ?_
  obtain ⟨r11, q11, h⟩ := k_b_of h
  refine d_V (As := [.ref 20, .ref 21, .int (77 : Int32)]) (st := []) (st' := []) (h' := k_ap [(21, .inr (.inr (.inl r11)))] (shM, I, L, Rf)) C hR ⟨Nat.zero_le _, Nat.zero_le _⟩ mv_X11_copies lk_X11_202 dX11_take_11 (rfl : 11 + 3 = 14) rfl rfl rfl rfl (c_X11_copies_20_21 X.l u (k_ap [(21, .inr (.inr (.inl a21)))] (shM, I, L, Rf)) rfl ea20 rfl q11) rfl rfl rfl (k_jn (us' := [(21, .inr (.inr (.inl r11)))]) ds_X11_take rfl rfl rfl) rfl ?_
  cases h
  exact r_vret C hr dX11_take_14
set_option maxHeartbeats 400000 in
set_option maxRecDepth 100000 in
theorem c_X11_take (l : Launch) (u : Nat) (h : k_H) (hsh : h.1 = shM) {a20 : (Nat → Int32)} (ea20 : h.2.1 20 = a20) {a21 : (Nat → Int32)} (ea21 : h.2.1 21 = a21) {out : (Nat → Int32)} (hf : f_X11_take u a20 a21 = some out) : k_CT l yX11_take cX11_take 1 none 1 24 [.ref 0] h none [(21, .inr (.inr (.inl out)))] := by
  obtain ⟨sh, I, L, Rf⟩ := h
  try dsimp only
  obtain rfl : sh = shM := hsh
  refine k_ofW (by decide) (Nat.le_of_ble_eq_true rfl) ?_
  intro X ad hl hR0 hr C
  have hR : X.R.frames = 1 ∧ X.R.locals = 24 := by rw [hR0]; exact ⟨rfl, rfl⟩
  have h := hf
  unfold f_X11_take at h
  refine k_start (us := [(21, .inr (.inr (.inl a21)))]) (k_ao_A ea21 k_ap_0) ?_
  show k_W X 1 0 0 _ ad (k_ap [(21, .inr (.inr (.inl a21)))] (shM, I, L, Rf)) 0 [some (.ref 0)] []
  refine k_mask [true] ?_
  exact sX11_take_0 u C hr hR ea20 a21 h
/-! LullabyPitModel.copies([I[II)V -/
theorem ds_X11_copies_25_26 : k_ds [(26, 2, 0)] = true := by decide +kernel
set_option maxHeartbeats 400000 in
set_option maxRecDepth 100000 in
theorem sX11_copies_25_26_3 (u : Nat) {X : k_X} {ad : Nat → Nat} (C : k_C X cX11_copies RX11 5 ad) (hr : X.meth.sig.returnType = none) (hR : X.R.frames = 0 ∧ X.R.locals = 0) {I : Nat → Nat → Int32} {L : Nat → Nat → Int64} {Rf : Nat → Nat → Option Nat} {a25 : (Nat → Int32)} (ea25 : I 25 = a25) {out : (Nat → Int32)} : ∀ (n : Nat) (a26 : (Nat → Int32)) (v3 : Int32) (v4 : Int32), bX11_copies_25_26_3 u a25 n a26 v3 v4 = some out → k_W X 5 0 0 (k_Q X ad none (k_ap [(26, .inr (.inr (.inl out)))] (shM, I, L, Rf))) ad (k_ap [(26, .inr (.inr (.inl a26)))] (shM, I, L, Rf)) 3 [none, some (.ref 25), some (.ref 26), some (.int v3), some (.int v4)] [] := by
  intro n
  induction n with
  | zero => intro a26 v3 v4 h; cases h
  | succ n ih =>
    intro a26 v3 v4 h
    refine r_iload C dX11_copies_3 (rfl : 3 + 2 = 5) rfl ?_
    refine r_iload_n C dX11_copies_5 (rfl : 5 + 1 = 6) rfl ?_
    refine r_icmp_ge (tgt := 23) C dX11_copies_6 (by decide) (rfl : 6 + 3 = 9) (fun c6 => ?_) (fun c6 => ?_)
    · have h := k_t c6 h
      cases h
      exact r_vret C hr dX11_copies_23
    · have h := k_f c6 h
      refine r_aload_n C dX11_copies_9 (rfl : 9 + 1 = 10) rfl ?_
      refine r_iload C dX11_copies_10 (rfl : 10 + 2 = 12) rfl ?_
      refine r_aload_n C dX11_copies_12 (rfl : 12 + 1 = 13) rfl ?_
      refine r_iload C dX11_copies_13 (rfl : 13 + 2 = 15) rfl ?_
      obtain ⟨hi15, h⟩ := k_i_of h
      refine a_i (j := (v4).toNatClampNeg) (f := a25) C dX11_copies_15 (rfl : 15 + 1 = 16) rfl ea25 hi15 rfl ?_
      obtain ⟨hi16, h⟩ := k_i_of h
      refine s_i (j := (v4).toNatClampNeg) (f := a26) (us' := [(26, .inr (.inr (.inl (upd a26 ((v4).toNatClampNeg) (a25 ((v4).toNatClampNeg))))))]) C dX11_copies_16 (rfl : 16 + 1 = 17) rfl rfl hi16 rfl ds_X11_copies_25_26 rfl rfl rfl ?_
      refine r_iinc (v := (v4 + (1 : Int32))) C dX11_copies_17 (rfl : 17 + 3 = 20) rfl rfl (by decide) ?_
      show k_W _ _ _ _ _ _ _ _ [none, some (.ref 25), some (.ref 26), some (.int v3), some (.int (v4 + (1 : Int32)))] _
      refine r_goto (tgt := 3) C dX11_copies_20 (by decide) ?_
      refine k_mask [false, true, true, true, true] ?_
      exact ih (upd a26 ((v4).toNatClampNeg) (a25 ((v4).toNatClampNeg))) v3 (v4 + (1 : Int32)) h
set_option maxHeartbeats 400000 in
set_option maxRecDepth 100000 in
theorem sX11_copies_25_26_0 (u : Nat) {X : k_X} {ad : Nat → Nat} (C : k_C X cX11_copies RX11 5 ad) (hr : X.meth.sig.returnType = none) (hR : X.R.frames = 0 ∧ X.R.locals = 0) {I : Nat → Nat → Int32} {L : Nat → Nat → Int64} {Rf : Nat → Nat → Option Nat} {a25 : (Nat → Int32)} (ea25 : I 25 = a25) {out : (Nat → Int32)} : ∀ (a26 : (Nat → Int32)) (v3 : Int32), bX11_copies_25_26_0 u a25 a26 v3 = some out → k_W X 5 0 0 (k_Q X ad none (k_ap [(26, .inr (.inr (.inl out)))] (shM, I, L, Rf))) ad (k_ap [(26, .inr (.inr (.inl a26)))] (shM, I, L, Rf)) 0 [none, some (.ref 25), some (.ref 26), some (.int v3), none] [] := by
  intro a26 v3 h
  unfold bX11_copies_25_26_0 at h
  refine r_iconst (v := (0 : Int32)) C dX11_copies_0 (rfl : 0 + 1 = 1) rfl ?_
  refine r_istore C dX11_copies_1 (rfl : 1 + 2 = 3) (by decide) (Nat.le_of_ble_eq_true rfl) ?_
  show k_W _ _ _ _ _ _ _ _ [none, some (.ref 25), some (.ref 26), some (.int v3), some (.int (0 : Int32))] _
  refine k_mask [false, true, true, true, true] ?_
  exact sX11_copies_25_26_3 u C hr hR ea25 u a26 v3 (0 : Int32) h
set_option maxHeartbeats 400000 in
set_option maxRecDepth 100000 in
theorem c_X11_copies_25_26 (l : Launch) (u : Nat) (h : k_H) (hsh : h.1 = shM) {a25 : (Nat → Int32)} (ea25 : h.2.1 25 = a25) {a26 : (Nat → Int32)} (ea26 : h.2.1 26 = a26) {x2 : Int32} {out : (Nat → Int32)} (hf : f_X11_copies_25_26 u a25 a26 x2 = some out) : k_CT l yX11_copies cX11_copies 5 none 0 0 [.ref 0, .ref 25, .ref 26, .int x2] h none [(26, .inr (.inr (.inl out)))] := by
  obtain ⟨sh, I, L, Rf⟩ := h
  try dsimp only
  obtain rfl : sh = shM := hsh
  refine k_ofW (by decide) (Nat.le_of_ble_eq_true rfl) ?_
  intro X ad hl hR0 hr C
  have hR : X.R.frames = 0 ∧ X.R.locals = 0 := by rw [hR0]; exact ⟨rfl, rfl⟩
  have h := hf
  unfold f_X11_copies_25_26 at h
  refine k_start (us := [(26, .inr (.inr (.inl a26)))]) (k_ao_A ea26 k_ap_0) ?_
  show k_W X 5 0 0 _ ad (k_ap [(26, .inr (.inr (.inl a26)))] (shM, I, L, Rf)) 0 [some (.ref 0), some (.ref 25), some (.ref 26), some (.int x2), none] []
  refine k_mask [false, true, true, true, false] ?_
  exact sX11_copies_25_26_0 u C hr hR ea25 a26 x2 h
