def shM : List k_Sh := [(0, 11, [0, 4, 0, 0, 0, 0, 0, 0, 0, 5, 6, 7, 8, 9, 10, 11, 12, 13, 0, 0, 0, 0, 0, 0, 0, 0, 0, 0, 0, 0, 0, 14, 15, 16, 17, 18, 19, 0, 20, 21, 22, 0, 0, 0, 0, 0, 0, 23, 24, 25, 26, 27, 28, 29, 0, 30, 0, 0, 1, 31, 32, 33, 0, 0, 34, 0]), (1, 3, []), (1, 600, []), (1, 48, []), (1, 48, []), (1, 5, []), (1, 60, []), (1, 48, []), (1, 48, []), (1, 5, []), (1, 60, []), (1, 150, []), (1, 150, []), (1, 300, []), (1, 300, []), (1, 2, []), (1, 150, []), (1, 8, []), (1, 150, []), (1, 150, []), (1, 77, []), (1, 77, []), (1, 1232, []), (3, 48, []), (1, 5, []), (1, 16, []), (1, 16, []), (1, 385, []), (1, 48, []), (1, 48, []), (1, 7, []), (1, 3930, [])]
theorem in_X11 : ∀ w ∈ u_ws RX11 TX11 66, w ∈ k_tb := by decide +kernel
theorem fl_X11_3 : k_FL RX11 3 11 0 := ⟨_, _, _, rfl, in_X11, by decide, Or.inl (k_me (tm6 (List.mem_of_getElem? (i := 235) rfl)) rfl)⟩
theorem fp_X11_3 : k_FP RX11 3 11 0 .int := ⟨_, _, _, tyX11, rfl, in_X11, tyX11_ok, nmX11, by decide, rfl, by decide +kernel, Or.inl (k_me (tm6 (List.mem_of_getElem? (i := 235) rfl)) rfl)⟩
theorem fl_X11_7 : k_FL RX11 7 11 1 := ⟨_, _, _, rfl, in_X11, by decide, Or.inl (k_me (tm6 (List.mem_of_getElem? (i := 236) rfl)) rfl)⟩
theorem fl_X11_118 : k_FL RX11 118 11 2 := ⟨_, _, _, rfl, in_X11, by decide, Or.inl (k_me (tm6 (List.mem_of_getElem? (i := 237) rfl)) rfl)⟩
theorem fl_X11_20 : k_FL RX11 20 11 9 := ⟨_, _, _, rfl, in_X11, by decide, Or.inl (k_me (tm7 (List.mem_of_getElem? (i := 4) rfl)) rfl)⟩
theorem fp_X11_118 : k_FP RX11 118 11 2 .int := ⟨_, _, _, tyX11, rfl, in_X11, tyX11_ok, nmX11, by decide, rfl, by decide +kernel, Or.inl (k_me (tm6 (List.mem_of_getElem? (i := 237) rfl)) rfl)⟩
theorem fl_X11_121 : k_FL RX11 121 11 5 := ⟨_, _, _, rfl, in_X11, by decide, Or.inl (k_me (tm7 (List.mem_of_getElem? (i := 0) rfl)) rfl)⟩
theorem fp_X11_121 : k_FP RX11 121 11 5 .int := ⟨_, _, _, tyX11, rfl, in_X11, tyX11_ok, nmX11, by decide, rfl, by decide +kernel, Or.inl (k_me (tm7 (List.mem_of_getElem? (i := 0) rfl)) rfl)⟩
theorem fp_X11_124 : k_FP RX11 124 11 6 .int := ⟨_, _, _, tyX11, rfl, in_X11, tyX11_ok, nmX11, by decide, rfl, by decide +kernel, Or.inl (k_me (tm7 (List.mem_of_getElem? (i := 1) rfl)) rfl)⟩
theorem fl_X11_127 : k_FL RX11 127 11 4 := ⟨_, _, _, rfl, in_X11, by decide, Or.inl (k_me (tm6 (List.mem_of_getElem? (i := 239) rfl)) rfl)⟩
theorem fl_X11_130 : k_FL RX11 130 11 3 := ⟨_, _, _, rfl, in_X11, by decide, Or.inl (k_me (tm6 (List.mem_of_getElem? (i := 238) rfl)) rfl)⟩
theorem fp_X11_127 : k_FP RX11 127 11 4 .int := ⟨_, _, _, tyX11, rfl, in_X11, tyX11_ok, nmX11, by decide, rfl, by decide +kernel, Or.inl (k_me (tm6 (List.mem_of_getElem? (i := 239) rfl)) rfl)⟩
theorem lk_X11_140 : k_lk RX11 140 yJ0_length_8abf5 := Or.inl (k_me (tm8 (List.mem_of_getElem? (i := 1) rfl)) rfl)
theorem lk_X11_145 : k_lk RX11 145 yJ0_charAt_5068e := Or.inl (k_me (tm8 (List.mem_of_getElem? (i := 2) rfl)) rfl)
theorem fp_X11_17 : k_FP RX11 17 11 8 .int := ⟨_, _, _, tyX11, rfl, in_X11, tyX11_ok, nmX11, by decide, rfl, by decide +kernel, Or.inl (k_me (tm7 (List.mem_of_getElem? (i := 3) rfl)) rfl)⟩
theorem fp_X11_130 : k_FP RX11 130 11 3 .int := ⟨_, _, _, tyX11, rfl, in_X11, tyX11_ok, nmX11, by decide, rfl, by decide +kernel, Or.inl (k_me (tm6 (List.mem_of_getElem? (i := 238) rfl)) rfl)⟩
theorem fp_X11_160 : k_FP RX11 160 11 7 .int := ⟨_, _, _, tyX11, rfl, in_X11, tyX11_ok, nmX11, by decide, rfl, by decide +kernel, Or.inl (k_me (tm7 (List.mem_of_getElem? (i := 2) rfl)) rfl)⟩
theorem fl_X11_124 : k_FL RX11 124 11 6 := ⟨_, _, _, rfl, in_X11, by decide, Or.inl (k_me (tm7 (List.mem_of_getElem? (i := 1) rfl)) rfl)⟩
theorem fl_X11_17 : k_FL RX11 17 11 8 := ⟨_, _, _, rfl, in_X11, by decide, Or.inl (k_me (tm7 (List.mem_of_getElem? (i := 3) rfl)) rfl)⟩
theorem fp_X11_163 : k_FP RX11 163 11 18 .int := ⟨_, _, _, tyX11, rfl, in_X11, tyX11_ok, nmX11, by decide, rfl, by decide +kernel, Or.inl (k_me (tm7 (List.mem_of_getElem? (i := 13) rfl)) rfl)⟩
theorem fp_X11_166 : k_FP RX11 166 11 19 .int := ⟨_, _, _, tyX11, rfl, in_X11, tyX11_ok, nmX11, by decide, rfl, by decide +kernel, Or.inl (k_me (tm7 (List.mem_of_getElem? (i := 14) rfl)) rfl)⟩
theorem fp_X11_169 : k_FP RX11 169 11 20 .int := ⟨_, _, _, tyX11, rfl, in_X11, tyX11_ok, nmX11, by decide, rfl, by decide +kernel, Or.inl (k_me (tm7 (List.mem_of_getElem? (i := 15) rfl)) rfl)⟩
theorem fp_X11_172 : k_FP RX11 172 11 21 .int := ⟨_, _, _, tyX11, rfl, in_X11, tyX11_ok, nmX11, by decide, rfl, by decide +kernel, Or.inl (k_me (tm7 (List.mem_of_getElem? (i := 16) rfl)) rfl)⟩
theorem fp_X11_175 : k_FP RX11 175 11 22 .int := ⟨_, _, _, tyX11, rfl, in_X11, tyX11_ok, nmX11, by decide, rfl, by decide +kernel, Or.inl (k_me (tm7 (List.mem_of_getElem? (i := 17) rfl)) rfl)⟩
theorem fp_X11_178 : k_FP RX11 178 11 23 .int := ⟨_, _, _, tyX11, rfl, in_X11, tyX11_ok, nmX11, by decide, rfl, by decide +kernel, Or.inl (k_me (tm7 (List.mem_of_getElem? (i := 18) rfl)) rfl)⟩
theorem fp_X11_181 : k_FP RX11 181 11 24 .int := ⟨_, _, _, tyX11, rfl, in_X11, tyX11_ok, nmX11, by decide, rfl, by decide +kernel, Or.inl (k_me (tm7 (List.mem_of_getElem? (i := 19) rfl)) rfl)⟩
theorem fl_X11_23 : k_FL RX11 23 11 10 := ⟨_, _, _, rfl, in_X11, by decide, Or.inl (k_me (tm7 (List.mem_of_getElem? (i := 5) rfl)) rfl)⟩
theorem fl_X11_26 : k_FL RX11 26 11 11 := ⟨_, _, _, rfl, in_X11, by decide, Or.inl (k_me (tm7 (List.mem_of_getElem? (i := 6) rfl)) rfl)⟩
theorem fl_X11_29 : k_FL RX11 29 11 12 := ⟨_, _, _, rfl, in_X11, by decide, Or.inl (k_me (tm7 (List.mem_of_getElem? (i := 7) rfl)) rfl)⟩
theorem fl_X11_163 : k_FL RX11 163 11 18 := ⟨_, _, _, rfl, in_X11, by decide, Or.inl (k_me (tm7 (List.mem_of_getElem? (i := 13) rfl)) rfl)⟩
theorem fp_X11_184 : k_FP RX11 184 11 25 .int := ⟨_, _, _, tyX11, rfl, in_X11, tyX11_ok, nmX11, by decide, rfl, by decide +kernel, Or.inl (k_me (tm7 (List.mem_of_getElem? (i := 20) rfl)) rfl)⟩
theorem fl_X11_166 : k_FL RX11 166 11 19 := ⟨_, _, _, rfl, in_X11, by decide, Or.inl (k_me (tm7 (List.mem_of_getElem? (i := 14) rfl)) rfl)⟩
theorem fp_X11_187 : k_FP RX11 187 11 26 .int := ⟨_, _, _, tyX11, rfl, in_X11, tyX11_ok, nmX11, by decide, rfl, by decide +kernel, Or.inl (k_me (tm7 (List.mem_of_getElem? (i := 21) rfl)) rfl)⟩
theorem fl_X11_169 : k_FL RX11 169 11 20 := ⟨_, _, _, rfl, in_X11, by decide, Or.inl (k_me (tm7 (List.mem_of_getElem? (i := 15) rfl)) rfl)⟩
theorem fp_X11_190 : k_FP RX11 190 11 27 .int := ⟨_, _, _, tyX11, rfl, in_X11, tyX11_ok, nmX11, by decide, rfl, by decide +kernel, Or.inl (k_me (tm7 (List.mem_of_getElem? (i := 22) rfl)) rfl)⟩
theorem fl_X11_175 : k_FL RX11 175 11 22 := ⟨_, _, _, rfl, in_X11, by decide, Or.inl (k_me (tm7 (List.mem_of_getElem? (i := 17) rfl)) rfl)⟩
theorem fp_X11_193 : k_FP RX11 193 11 28 .int := ⟨_, _, _, tyX11, rfl, in_X11, tyX11_ok, nmX11, by decide, rfl, by decide +kernel, Or.inl (k_me (tm7 (List.mem_of_getElem? (i := 23) rfl)) rfl)⟩
theorem fl_X11_178 : k_FL RX11 178 11 23 := ⟨_, _, _, rfl, in_X11, by decide, Or.inl (k_me (tm7 (List.mem_of_getElem? (i := 18) rfl)) rfl)⟩
theorem fp_X11_196 : k_FP RX11 196 11 29 .int := ⟨_, _, _, tyX11, rfl, in_X11, tyX11_ok, nmX11, by decide, rfl, by decide +kernel, Or.inl (k_me (tm7 (List.mem_of_getElem? (i := 24) rfl)) rfl)⟩
theorem fl_X11_181 : k_FL RX11 181 11 24 := ⟨_, _, _, rfl, in_X11, by decide, Or.inl (k_me (tm7 (List.mem_of_getElem? (i := 19) rfl)) rfl)⟩
theorem fp_X11_199 : k_FP RX11 199 11 30 .int := ⟨_, _, _, tyX11, rfl, in_X11, tyX11_ok, nmX11, by decide, rfl, by decide +kernel, Or.inl (k_me (tm7 (List.mem_of_getElem? (i := 25) rfl)) rfl)⟩
theorem fl_X11_35 : k_FL RX11 35 11 14 := ⟨_, _, _, rfl, in_X11, by decide, Or.inl (k_me (tm7 (List.mem_of_getElem? (i := 9) rfl)) rfl)⟩
theorem fl_X11_38 : k_FL RX11 38 11 15 := ⟨_, _, _, rfl, in_X11, by decide, Or.inl (k_me (tm7 (List.mem_of_getElem? (i := 10) rfl)) rfl)⟩
theorem fl_X11_41 : k_FL RX11 41 11 16 := ⟨_, _, _, rfl, in_X11, by decide, Or.inl (k_me (tm7 (List.mem_of_getElem? (i := 11) rfl)) rfl)⟩
theorem fl_X11_32 : k_FL RX11 32 11 13 := ⟨_, _, _, rfl, in_X11, by decide, Or.inl (k_me (tm7 (List.mem_of_getElem? (i := 8) rfl)) rfl)⟩
theorem fl_X11_44 : k_FL RX11 44 11 17 := ⟨_, _, _, rfl, in_X11, by decide, Or.inl (k_me (tm7 (List.mem_of_getElem? (i := 12) rfl)) rfl)⟩
theorem fl_X11_59 : k_FL RX11 59 11 35 := ⟨_, _, _, rfl, in_X11, by decide, Or.inl (k_me (tm7 (List.mem_of_getElem? (i := 30) rfl)) rfl)⟩
theorem fp_X11_206 : k_FP RX11 206 11 54 .int := ⟨_, _, _, tyX11, rfl, in_X11, tyX11_ok, nmX11, by decide, rfl, by decide +kernel, Or.inl (k_me (tm7 (List.mem_of_getElem? (i := 49) rfl)) rfl)⟩
theorem fp_X11_209 : k_FP RX11 209 11 42 .int := ⟨_, _, _, tyX11, rfl, in_X11, tyX11_ok, nmX11, by decide, rfl, by decide +kernel, Or.inl (k_me (tm7 (List.mem_of_getElem? (i := 37) rfl)) rfl)⟩
theorem fp_X11_212 : k_FP RX11 212 11 65 .int := ⟨_, _, _, tyX11, rfl, in_X11, tyX11_ok, nmX11, by decide, rfl, by decide +kernel, Or.inl (k_me (tm7 (List.mem_of_getElem? (i := 60) rfl)) rfl)⟩
theorem fp_X11_215 : k_FP RX11 215 11 43 .int := ⟨_, _, _, tyX11, rfl, in_X11, tyX11_ok, nmX11, by decide, rfl, by decide +kernel, Or.inl (k_me (tm7 (List.mem_of_getElem? (i := 38) rfl)) rfl)⟩
theorem fl_X11_74 : k_FL RX11 74 11 47 := ⟨_, _, _, rfl, in_X11, by decide, Or.inl (k_me (tm7 (List.mem_of_getElem? (i := 42) rfl)) rfl)⟩
theorem fl_X11_196 : k_FL RX11 196 11 29 := ⟨_, _, _, rfl, in_X11, by decide, Or.inl (k_me (tm7 (List.mem_of_getElem? (i := 24) rfl)) rfl)⟩
theorem fl_X11_187 : k_FL RX11 187 11 26 := ⟨_, _, _, rfl, in_X11, by decide, Or.inl (k_me (tm7 (List.mem_of_getElem? (i := 21) rfl)) rfl)⟩
theorem fl_X11_172 : k_FL RX11 172 11 21 := ⟨_, _, _, rfl, in_X11, by decide, Or.inl (k_me (tm7 (List.mem_of_getElem? (i := 16) rfl)) rfl)⟩
theorem fl_X11_47 : k_FL RX11 47 11 31 := ⟨_, _, _, rfl, in_X11, by decide, Or.inl (k_me (tm7 (List.mem_of_getElem? (i := 26) rfl)) rfl)⟩
theorem fl_X11_276 : k_FL RX11 276 11 37 := ⟨_, _, _, rfl, in_X11, by decide, Or.inl (k_me (tm7 (List.mem_of_getElem? (i := 32) rfl)) rfl)⟩
theorem fl_X11_50 : k_FL RX11 50 11 32 := ⟨_, _, _, rfl, in_X11, by decide, Or.inl (k_me (tm7 (List.mem_of_getElem? (i := 27) rfl)) rfl)⟩
theorem fp_X11_276 : k_FP RX11 276 11 37 .int := ⟨_, _, _, tyX11, rfl, in_X11, tyX11_ok, nmX11, by decide, rfl, by decide +kernel, Or.inl (k_me (tm7 (List.mem_of_getElem? (i := 32) rfl)) rfl)⟩
theorem fl_X11_160 : k_FL RX11 160 11 7 := ⟨_, _, _, rfl, in_X11, by decide, Or.inl (k_me (tm7 (List.mem_of_getElem? (i := 2) rfl)) rfl)⟩
theorem fl_X11_62 : k_FL RX11 62 11 36 := ⟨_, _, _, rfl, in_X11, by decide, Or.inl (k_me (tm7 (List.mem_of_getElem? (i := 31) rfl)) rfl)⟩
theorem fl_X11_53 : k_FL RX11 53 11 33 := ⟨_, _, _, rfl, in_X11, by decide, Or.inl (k_me (tm7 (List.mem_of_getElem? (i := 28) rfl)) rfl)⟩
theorem fl_X11_65 : k_FL RX11 65 11 38 := ⟨_, _, _, rfl, in_X11, by decide, Or.inl (k_me (tm7 (List.mem_of_getElem? (i := 33) rfl)) rfl)⟩
theorem fl_X11_56 : k_FL RX11 56 11 34 := ⟨_, _, _, rfl, in_X11, by decide, Or.inl (k_me (tm7 (List.mem_of_getElem? (i := 29) rfl)) rfl)⟩
theorem fl_X11_68 : k_FL RX11 68 11 39 := ⟨_, _, _, rfl, in_X11, by decide, Or.inl (k_me (tm7 (List.mem_of_getElem? (i := 34) rfl)) rfl)⟩
theorem fl_X11_325 : k_FL RX11 325 11 41 := ⟨_, _, _, rfl, in_X11, by decide, Or.inl (k_me (tm7 (List.mem_of_getElem? (i := 36) rfl)) rfl)⟩
theorem fp_X11_325 : k_FP RX11 325 11 41 .int := ⟨_, _, _, tyX11, rfl, in_X11, tyX11_ok, nmX11, by decide, rfl, by decide +kernel, Or.inl (k_me (tm7 (List.mem_of_getElem? (i := 36) rfl)) rfl)⟩
theorem fl_X11_209 : k_FL RX11 209 11 42 := ⟨_, _, _, rfl, in_X11, by decide, Or.inl (k_me (tm7 (List.mem_of_getElem? (i := 37) rfl)) rfl)⟩
theorem fl_X11_77 : k_FL RX11 77 11 48 := ⟨_, _, _, rfl, in_X11, by decide, Or.inl (k_me (tm7 (List.mem_of_getElem? (i := 43) rfl)) rfl)⟩
theorem fl_X11_193 : k_FL RX11 193 11 28 := ⟨_, _, _, rfl, in_X11, by decide, Or.inl (k_me (tm7 (List.mem_of_getElem? (i := 23) rfl)) rfl)⟩
theorem fl_X11_184 : k_FL RX11 184 11 25 := ⟨_, _, _, rfl, in_X11, by decide, Or.inl (k_me (tm7 (List.mem_of_getElem? (i := 20) rfl)) rfl)⟩
theorem fl_X11_190 : k_FL RX11 190 11 27 := ⟨_, _, _, rfl, in_X11, by decide, Or.inl (k_me (tm7 (List.mem_of_getElem? (i := 22) rfl)) rfl)⟩
theorem fl_X11_83 : k_FL RX11 83 11 50 := ⟨_, _, _, rfl, in_X11, by decide, Or.inl (k_me (tm7 (List.mem_of_getElem? (i := 45) rfl)) rfl)⟩
theorem fl_X11_199 : k_FL RX11 199 11 30 := ⟨_, _, _, rfl, in_X11, by decide, Or.inl (k_me (tm7 (List.mem_of_getElem? (i := 25) rfl)) rfl)⟩
theorem fl_X11_87 : k_FL RX11 87 11 51 := ⟨_, _, _, rfl, in_X11, by decide, Or.inl (k_me (tm7 (List.mem_of_getElem? (i := 46) rfl)) rfl)⟩
theorem fl_X11_90 : k_FL RX11 90 11 52 := ⟨_, _, _, rfl, in_X11, by decide, Or.inl (k_me (tm7 (List.mem_of_getElem? (i := 47) rfl)) rfl)⟩
theorem fl_X11_93 : k_FL RX11 93 11 53 := ⟨_, _, _, rfl, in_X11, by decide, Or.inl (k_me (tm7 (List.mem_of_getElem? (i := 48) rfl)) rfl)⟩
theorem fl_X11_80 : k_FL RX11 80 11 49 := ⟨_, _, _, rfl, in_X11, by decide, Or.inl (k_me (tm7 (List.mem_of_getElem? (i := 44) rfl)) rfl)⟩
theorem fl_X11_206 : k_FL RX11 206 11 54 := ⟨_, _, _, rfl, in_X11, by decide, Or.inl (k_me (tm7 (List.mem_of_getElem? (i := 49) rfl)) rfl)⟩
theorem fl_X11_215 : k_FL RX11 215 11 43 := ⟨_, _, _, rfl, in_X11, by decide, Or.inl (k_me (tm7 (List.mem_of_getElem? (i := 38) rfl)) rfl)⟩
theorem fl_X11_99 : k_FL RX11 99 11 59 := ⟨_, _, _, rfl, in_X11, by decide, Or.inl (k_me (tm7 (List.mem_of_getElem? (i := 54) rfl)) rfl)⟩
theorem fl_X11_102 : k_FL RX11 102 11 60 := ⟨_, _, _, rfl, in_X11, by decide, Or.inl (k_me (tm7 (List.mem_of_getElem? (i := 55) rfl)) rfl)⟩
theorem fl_X11_105 : k_FL RX11 105 11 61 := ⟨_, _, _, rfl, in_X11, by decide, Or.inl (k_me (tm7 (List.mem_of_getElem? (i := 56) rfl)) rfl)⟩
theorem fl_X11_477 : k_FL RX11 477 11 62 := ⟨_, _, _, rfl, in_X11, by decide, Or.inl (k_me (tm7 (List.mem_of_getElem? (i := 57) rfl)) rfl)⟩
theorem ct_X11_480 : Cond.constant RX11 480 (1103515245) ∈ k_tb := (k_me (tm9 (List.mem_of_getElem? (i := 128) rfl)) rfl)
theorem fp_X11_477 : k_FP RX11 477 11 62 .int := ⟨_, _, _, tyX11, rfl, in_X11, tyX11_ok, nmX11, by decide, rfl, by decide +kernel, Or.inl (k_me (tm7 (List.mem_of_getElem? (i := 57) rfl)) rfl)⟩
theorem fp_X11_481 : k_FP RX11 481 11 63 .int := ⟨_, _, _, tyX11, rfl, in_X11, tyX11_ok, nmX11, by decide, rfl, by decide +kernel, Or.inl (k_me (tm7 (List.mem_of_getElem? (i := 58) rfl)) rfl)⟩
theorem fl_X11_481 : k_FL RX11 481 11 63 := ⟨_, _, _, rfl, in_X11, by decide, Or.inl (k_me (tm7 (List.mem_of_getElem? (i := 58) rfl)) rfl)⟩
theorem fl_X11_108 : k_FL RX11 108 11 64 := ⟨_, _, _, rfl, in_X11, by decide, Or.inl (k_me (tm7 (List.mem_of_getElem? (i := 59) rfl)) rfl)⟩
theorem fl_X11_212 : k_FL RX11 212 11 65 := ⟨_, _, _, rfl, in_X11, by decide, Or.inl (k_me (tm7 (List.mem_of_getElem? (i := 60) rfl)) rfl)⟩
theorem lk_X11_133 : k_lk RX11 133 yX11_here := Or.inl (k_me (tm7 (List.mem_of_getElem? (i := 223) rfl)) rfl)
theorem mv_X11_here : k_MV yX11_here cX11_here 1 (some .int) 0 := ⟨(k_me (tm7 (List.mem_of_getElem? (i := 225) rfl)) rfl), (k_me (tmp 66 (List.mem_of_getElem? (i := 46) rfl)) rfl), (k_me (tm1 (List.mem_of_getElem? (i := 14) rfl)) rfl), (k_me (tm7 (List.mem_of_getElem? (i := 226) rfl)) rfl), by decide, by decide, by decide +kernel⟩
theorem lk_X11_136 : k_lk RX11 136 yX11_isSmall := Or.inl (k_me (tm7 (List.mem_of_getElem? (i := 231) rfl)) rfl)
theorem ms_X11_isSmall : k_MS yX11_isSmall cX11_isSmall 1 (some .boolean) 1 := ⟨(k_me (tm7 (List.mem_of_getElem? (i := 232) rfl)) rfl), (k_me (tm1 (List.mem_of_getElem? (i := 14) rfl)) rfl), (k_me (tm7 (List.mem_of_getElem? (i := 233) rfl)) rfl), by decide, by decide, by decide +kernel⟩
theorem lk_X11_149 : k_lk RX11 149 yX11_fine := Or.inl (k_me (tm7 (List.mem_of_getElem? (i := 215) rfl)) rfl)
theorem mv_X11_fine : k_MV yX11_fine cX11_fine 1 (some .boolean) 0 := ⟨(k_me (tm7 (List.mem_of_getElem? (i := 217) rfl)) rfl), (k_me (tmp 66 (List.mem_of_getElem? (i := 44) rfl)) rfl), (k_me (tm1 (List.mem_of_getElem? (i := 14) rfl)) rfl), (k_me (tm7 (List.mem_of_getElem? (i := 218) rfl)) rfl), by decide, by decide, by decide +kernel⟩
theorem lk_X11_153 : k_lk RX11 153 yX11_isDigit := Or.inl (k_me (tm8 (List.mem_of_getElem? (i := 26) rfl)) rfl)
theorem ms_X11_isDigit : k_MS yX11_isDigit cX11_isDigit 1 (some .boolean) 1 := ⟨(k_me (tm8 (List.mem_of_getElem? (i := 27) rfl)) rfl), (k_me (tm1 (List.mem_of_getElem? (i := 14) rfl)) rfl), (k_me (tm8 (List.mem_of_getElem? (i := 28) rfl)) rfl), by decide, by decide, by decide +kernel⟩
theorem lk_X11_156 : k_lk RX11 156 yX11_wrong := Or.inl (k_me (tm8 (List.mem_of_getElem? (i := 10) rfl)) rfl)
theorem mv_X11_wrong : k_MV yX11_wrong cX11_wrong 3 none 2 := ⟨(k_me (tm8 (List.mem_of_getElem? (i := 12) rfl)) rfl), (k_me (tmp 66 (List.mem_of_getElem? (i := 48) rfl)) rfl), (k_me (tm1 (List.mem_of_getElem? (i := 14) rfl)) rfl), (k_me (tm8 (List.mem_of_getElem? (i := 13) rfl)) rfl), by decide, by decide, by decide +kernel⟩
theorem lk_X11_202 : k_lk RX11 202 yX11_copies := Or.inl (k_me (tm6 (List.mem_of_getElem? (i := 231) rfl)) rfl)
theorem mv_X11_copies : k_MV yX11_copies cX11_copies 5 none 3 := ⟨(k_me (tm6 (List.mem_of_getElem? (i := 233) rfl)) rfl), (k_me (tmp 66 (List.mem_of_getElem? (i := 41) rfl)) rfl), (k_me (tm1 (List.mem_of_getElem? (i := 14) rfl)) rfl), (k_me (tm6 (List.mem_of_getElem? (i := 234) rfl)) rfl), by decide, by decide, by decide +kernel⟩
theorem lk_X11_218 : k_lk RX11 218 yX11_readNumber := Or.inl (k_me (tm8 (List.mem_of_getElem? (i := 22) rfl)) rfl)
theorem mv_X11_readNumber : k_MV yX11_readNumber cX11_readNumber 6 (some .int) 2 := ⟨(k_me (tm8 (List.mem_of_getElem? (i := 24) rfl)) rfl), (k_me (tmp 66 (List.mem_of_getElem? (i := 51) rfl)) rfl), (k_me (tm1 (List.mem_of_getElem? (i := 14) rfl)) rfl), (k_me (tm8 (List.mem_of_getElem? (i := 25) rfl)) rfl), by decide, by decide, by decide +kernel⟩
theorem lk_X11_222 : k_lk RX11 222 yX11_word := Or.inl (k_me (tm7 (List.mem_of_getElem? (i := 227) rfl)) rfl)
theorem mv_X11_word : k_MV yX11_word cX11_word 4 (some .int) 0 := ⟨(k_me (tm7 (List.mem_of_getElem? (i := 229) rfl)) rfl), (k_me (tmp 66 (List.mem_of_getElem? (i := 47) rfl)) rfl), (k_me (tm1 (List.mem_of_getElem? (i := 14) rfl)) rfl), (k_me (tm7 (List.mem_of_getElem? (i := 230) rfl)) rfl), by decide, by decide, by decide +kernel⟩
theorem lk_X11_227 : k_lk RX11 227 yX11_of := Or.inl (k_me (tm7 (List.mem_of_getElem? (i := 238) rfl)) rfl)
theorem ms_X11_of : k_MS yX11_of cX11_of 3 (some .int) 1 := ⟨(k_me (tm7 (List.mem_of_getElem? (i := 239) rfl)) rfl), (k_me (tm1 (List.mem_of_getElem? (i := 14) rfl)) rfl), (k_me (tm8 (List.mem_of_getElem? (i := 0) rfl)) rfl), by decide, by decide, by decide +kernel⟩
theorem lk_X11_231 : k_lk RX11 231 yX11_pass := Or.inl (k_me (tm8 (List.mem_of_getElem? (i := 14) rfl)) rfl)
theorem mv_X11_pass : k_MV yX11_pass cX11_pass 1 none 0 := ⟨(k_me (tm8 (List.mem_of_getElem? (i := 16) rfl)) rfl), (k_me (tmp 66 (List.mem_of_getElem? (i := 49) rfl)) rfl), (k_me (tm1 (List.mem_of_getElem? (i := 14) rfl)) rfl), (k_me (tm8 (List.mem_of_getElem? (i := 17) rfl)) rfl), by decide, by decide, by decide +kernel⟩
theorem lk_X11_247 : k_lk RX11 247 yX11_readOrder := Or.inl (k_me (tm8 (List.mem_of_getElem? (i := 33) rfl)) rfl)
theorem mv_X11_readOrder : k_MV yX11_readOrder cX11_readOrder 5 none 0 := ⟨(k_me (tm8 (List.mem_of_getElem? (i := 35) rfl)) rfl), (k_me (tmp 66 (List.mem_of_getElem? (i := 53) rfl)) rfl), (k_me (tm1 (List.mem_of_getElem? (i := 14) rfl)) rfl), (k_me (tm8 (List.mem_of_getElem? (i := 36) rfl)) rfl), by decide, by decide, by decide +kernel⟩
theorem lk_X11_237 : k_lk RX11 237 yX11_readSeam := Or.inl (k_me (tm8 (List.mem_of_getElem? (i := 29) rfl)) rfl)
theorem mv_X11_readSeam : k_MV yX11_readSeam cX11_readSeam 9 none 0 := ⟨(k_me (tm8 (List.mem_of_getElem? (i := 31) rfl)) rfl), (k_me (tmp 66 (List.mem_of_getElem? (i := 52) rfl)) rfl), (k_me (tm1 (List.mem_of_getElem? (i := 14) rfl)) rfl), (k_me (tm8 (List.mem_of_getElem? (i := 32) rfl)) rfl), by decide, by decide, by decide +kernel⟩
theorem lk_X11_252 : k_lk RX11 252 yX11_may := Or.inl (k_me (tm7 (List.mem_of_getElem? (i := 207) rfl)) rfl)
theorem mv_X11_may : k_MV yX11_may cX11_may 4 (some .boolean) 3 := ⟨(k_me (tm7 (List.mem_of_getElem? (i := 209) rfl)) rfl), (k_me (tmp 66 (List.mem_of_getElem? (i := 42) rfl)) rfl), (k_me (tm1 (List.mem_of_getElem? (i := 14) rfl)) rfl), (k_me (tm7 (List.mem_of_getElem? (i := 210) rfl)) rfl), by decide, by decide, by decide +kernel⟩
theorem lk_X11_256 : k_lk RX11 256 yX11_begins := Or.inl (k_me (tm7 (List.mem_of_getElem? (i := 211) rfl)) rfl)
theorem mv_X11_begins : k_MV yX11_begins cX11_begins 2 none 1 := ⟨(k_me (tm7 (List.mem_of_getElem? (i := 213) rfl)) rfl), (k_me (tmp 66 (List.mem_of_getElem? (i := 43) rfl)) rfl), (k_me (tm1 (List.mem_of_getElem? (i := 14) rfl)) rfl), (k_me (tm7 (List.mem_of_getElem? (i := 214) rfl)) rfl), by decide, by decide, by decide +kernel⟩
theorem lk_X11_111 : k_lk RX11 111 yX11_clears := Or.inl (k_me (tm6 (List.mem_of_getElem? (i := 223) rfl)) rfl)
theorem mv_X11_clears : k_MV yX11_clears cX11_clears 2 none 0 := ⟨(k_me (tm6 (List.mem_of_getElem? (i := 225) rfl)) rfl), (k_me (tmp 66 (List.mem_of_getElem? (i := 39) rfl)) rfl), (k_me (tm1 (List.mem_of_getElem? (i := 14) rfl)) rfl), (k_me (tm6 (List.mem_of_getElem? (i := 226) rfl)) rfl), by decide, by decide, by decide +kernel⟩
theorem lk_X11_260 : k_lk RX11 260 yX11_isMore := Or.inl (k_me (tm7 (List.mem_of_getElem? (i := 219) rfl)) rfl)
theorem mv_X11_isMore : k_MV yX11_isMore cX11_isMore 1 (some .boolean) 0 := ⟨(k_me (tm7 (List.mem_of_getElem? (i := 221) rfl)) rfl), (k_me (tmp 66 (List.mem_of_getElem? (i := 45) rfl)) rfl), (k_me (tm1 (List.mem_of_getElem? (i := 14) rfl)) rfl), (k_me (tm7 (List.mem_of_getElem? (i := 222) rfl)) rfl), by decide, by decide, by decide +kernel⟩
theorem lk_X11_263 : k_lk RX11 263 yX11_isClause := Or.inl (k_me (tm7 (List.mem_of_getElem? (i := 234) rfl)) rfl)
theorem ms_X11_isClause : k_MS yX11_isClause cX11_isClause 1 (some .boolean) 1 := ⟨(k_me (tm7 (List.mem_of_getElem? (i := 235) rfl)) rfl), (k_me (tm1 (List.mem_of_getElem? (i := 14) rfl)) rfl), (k_me (tm7 (List.mem_of_getElem? (i := 236) rfl)) rfl), by decide, by decide, by decide +kernel⟩
theorem lk_X11_272 : k_lk RX11 272 yX11_result := Or.inl (k_me (tm8 (List.mem_of_getElem? (i := 42) rfl)) rfl)
theorem mv_X11_result : k_MV yX11_result cX11_result 2 (some .int) 1 := ⟨(k_me (tm8 (List.mem_of_getElem? (i := 44) rfl)) rfl), (k_me (tmp 66 (List.mem_of_getElem? (i := 55) rfl)) rfl), (k_me (tm1 (List.mem_of_getElem? (i := 14) rfl)) rfl), (k_me (tm8 (List.mem_of_getElem? (i := 45) rfl)) rfl), by decide, by decide, by decide +kernel⟩
theorem lk_X11_114 : k_lk RX11 114 yX11_sets := Or.inl (k_me (tm6 (List.mem_of_getElem? (i := 227) rfl)) rfl)
theorem mv_X11_sets : k_MV yX11_sets cX11_sets 3 (some .int) 0 := ⟨(k_me (tm6 (List.mem_of_getElem? (i := 229) rfl)) rfl), (k_me (tmp 66 (List.mem_of_getElem? (i := 40) rfl)) rfl), (k_me (tm1 (List.mem_of_getElem? (i := 14) rfl)) rfl), (k_me (tm6 (List.mem_of_getElem? (i := 230) rfl)) rfl), by decide, by decide, by decide +kernel⟩
theorem lk_X11_266 : k_lk RX11 266 yX11_readClause := Or.inl (k_me (tm8 (List.mem_of_getElem? (i := 18) rfl)) rfl)
theorem mv_X11_readClause : k_MV yX11_readClause cX11_readClause 4 none 1 := ⟨(k_me (tm8 (List.mem_of_getElem? (i := 20) rfl)) rfl), (k_me (tmp 66 (List.mem_of_getElem? (i := 50) rfl)) rfl), (k_me (tm1 (List.mem_of_getElem? (i := 14) rfl)) rfl), (k_me (tm8 (List.mem_of_getElem? (i := 21) rfl)) rfl), by decide, by decide, by decide +kernel⟩
theorem lk_X11_269 : k_lk RX11 269 yX11_sign := Or.inl (k_me (tm8 (List.mem_of_getElem? (i := 38) rfl)) rfl)
theorem mv_X11_sign : k_MV yX11_sign cX11_sign 2 none 1 := ⟨(k_me (tm8 (List.mem_of_getElem? (i := 40) rfl)) rfl), (k_me (tmp 66 (List.mem_of_getElem? (i := 54) rfl)) rfl), (k_me (tm1 (List.mem_of_getElem? (i := 14) rfl)) rfl), (k_me (tm8 (List.mem_of_getElem? (i := 41) rfl)) rfl), by decide, by decide, by decide +kernel⟩
theorem lk_X11_321 : k_lk RX11 321 yX11_both := Or.inl (k_me (tm8 (List.mem_of_getElem? (i := 176) rfl)) rfl)
theorem ms_X11_both : k_MS yX11_both cX11_both 3 (some .int) 3 := ⟨(k_me (tm8 (List.mem_of_getElem? (i := 177) rfl)) rfl), (k_me (tm1 (List.mem_of_getElem? (i := 14) rfl)) rfl), (k_me (tm8 (List.mem_of_getElem? (i := 178) rfl)) rfl), by decide, by decide, by decide +kernel⟩
theorem lk_X11_363 : k_lk RX11 363 yX11_isIn := Or.inl (k_me (tm8 (List.mem_of_getElem? (i := 148) rfl)) rfl)
theorem mv_X11_isIn : k_MV yX11_isIn cX11_isIn 3 (some .boolean) 2 := ⟨(k_me (tm8 (List.mem_of_getElem? (i := 150) rfl)) rfl), (k_me (tmp 66 (List.mem_of_getElem? (i := 75) rfl)) rfl), (k_me (tm1 (List.mem_of_getElem? (i := 14) rfl)) rfl), (k_me (tm8 (List.mem_of_getElem? (i := 151) rfl)) rfl), by decide, by decide, by decide +kernel⟩
theorem lk_X11_367 : k_lk RX11 367 yX11_isOpen := Or.inl (k_me (tm8 (List.mem_of_getElem? (i := 144) rfl)) rfl)
theorem mv_X11_isOpen : k_MV yX11_isOpen cX11_isOpen 3 (some .boolean) 2 := ⟨(k_me (tm8 (List.mem_of_getElem? (i := 146) rfl)) rfl), (k_me (tmp 66 (List.mem_of_getElem? (i := 74) rfl)) rfl), (k_me (tm1 (List.mem_of_getElem? (i := 14) rfl)) rfl), (k_me (tm8 (List.mem_of_getElem? (i := 147) rfl)) rfl), by decide, by decide, by decide +kernel⟩
theorem lk_X11_385 : k_lk RX11 385 yX11_isAtHand := Or.inl (k_me (tm8 (List.mem_of_getElem? (i := 152) rfl)) rfl)
theorem mv_X11_isAtHand : k_MV yX11_isAtHand cX11_isAtHand 4 (some .boolean) 1 := ⟨(k_me (tm8 (List.mem_of_getElem? (i := 154) rfl)) rfl), (k_me (tmp 66 (List.mem_of_getElem? (i := 76) rfl)) rfl), (k_me (tm1 (List.mem_of_getElem? (i := 14) rfl)) rfl), (k_me (tm8 (List.mem_of_getElem? (i := 155) rfl)) rfl), by decide, by decide, by decide +kernel⟩
theorem lk_X11_370 : k_lk RX11 370 yX11_propped := Or.inl (k_me (tm8 (List.mem_of_getElem? (i := 168) rfl)) rfl)
theorem mv_X11_propped : k_MV yX11_propped cX11_propped 3 (some .int) 2 := ⟨(k_me (tm8 (List.mem_of_getElem? (i := 170) rfl)) rfl), (k_me (tmp 66 (List.mem_of_getElem? (i := 80) rfl)) rfl), (k_me (tm1 (List.mem_of_getElem? (i := 14) rfl)) rfl), (k_me (tm8 (List.mem_of_getElem? (i := 171) rfl)) rfl), by decide, by decide, by decide +kernel⟩
theorem lk_X11_376 : k_lk RX11 376 yX11_findFacts := Or.inl (k_me (tm8 (List.mem_of_getElem? (i := 164) rfl)) rfl)
theorem mv_X11_findFacts : k_MV yX11_findFacts cX11_findFacts 5 none 2 := ⟨(k_me (tm8 (List.mem_of_getElem? (i := 166) rfl)) rfl), (k_me (tmp 66 (List.mem_of_getElem? (i := 79) rfl)) rfl), (k_me (tm1 (List.mem_of_getElem? (i := 14) rfl)) rfl), (k_me (tm8 (List.mem_of_getElem? (i := 167) rfl)) rfl), by decide, by decide, by decide +kernel⟩
theorem lk_X11_379 : k_lk RX11 379 yX11_valueOf := Or.inl (k_me (tm8 (List.mem_of_getElem? (i := 172) rfl)) rfl)
theorem mv_X11_valueOf : k_MV yX11_valueOf cX11_valueOf 5 (some .int) 1 := ⟨(k_me (tm8 (List.mem_of_getElem? (i := 174) rfl)) rfl), (k_me (tmp 66 (List.mem_of_getElem? (i := 81) rfl)) rfl), (k_me (tm1 (List.mem_of_getElem? (i := 14) rfl)) rfl), (k_me (tm8 (List.mem_of_getElem? (i := 175) rfl)) rfl), by decide, by decide, by decide +kernel⟩
theorem lk_X11_373 : k_lk RX11 373 yX11_wideAt := Or.inl (k_me (tm8 (List.mem_of_getElem? (i := 187) rfl)) rfl)
theorem mv_X11_wideAt : k_MV yX11_wideAt cX11_wideAt 4 (some .int) 1 := ⟨(k_me (tm8 (List.mem_of_getElem? (i := 189) rfl)) rfl), (k_me (tmp 66 (List.mem_of_getElem? (i := 84) rfl)) rfl), (k_me (tm1 (List.mem_of_getElem? (i := 14) rfl)) rfl), (k_me (tm8 (List.mem_of_getElem? (i := 190) rfl)) rfl), by decide, by decide, by decide +kernel⟩
theorem lk_X11_382 : k_lk RX11 382 yX11_isFalling := Or.inl (k_me (tm8 (List.mem_of_getElem? (i := 183) rfl)) rfl)
theorem mv_X11_isFalling : k_MV yX11_isFalling cX11_isFalling 2 (some .boolean) 1 := ⟨(k_me (tm8 (List.mem_of_getElem? (i := 185) rfl)) rfl), (k_me (tmp 66 (List.mem_of_getElem? (i := 83) rfl)) rfl), (k_me (tm1 (List.mem_of_getElem? (i := 14) rfl)) rfl), (k_me (tm8 (List.mem_of_getElem? (i := 186) rfl)) rfl), by decide, by decide, by decide +kernel⟩
theorem lk_X11_388 : k_lk RX11 388 yX11_harmOf := Or.inl (k_me (tm8 (List.mem_of_getElem? (i := 160) rfl)) rfl)
theorem mv_X11_harmOf : k_MV yX11_harmOf cX11_harmOf 3 (some .int) 1 := ⟨(k_me (tm8 (List.mem_of_getElem? (i := 162) rfl)) rfl), (k_me (tmp 66 (List.mem_of_getElem? (i := 78) rfl)) rfl), (k_me (tm1 (List.mem_of_getElem? (i := 14) rfl)) rfl), (k_me (tm8 (List.mem_of_getElem? (i := 163) rfl)) rfl), by decide, by decide, by decide +kernel⟩
theorem lk_X11_391 : k_lk RX11 391 yX11_fallNow := Or.inl (k_me (tm8 (List.mem_of_getElem? (i := 179) rfl)) rfl)
theorem mv_X11_fallNow : k_MV yX11_fallNow cX11_fallNow 3 (some .int) 0 := ⟨(k_me (tm8 (List.mem_of_getElem? (i := 181) rfl)) rfl), (k_me (tmp 66 (List.mem_of_getElem? (i := 82) rfl)) rfl), (k_me (tm1 (List.mem_of_getElem? (i := 14) rfl)) rfl), (k_me (tm8 (List.mem_of_getElem? (i := 182) rfl)) rfl), by decide, by decide, by decide +kernel⟩
theorem lk_X11_394 : k_lk RX11 394 yX11_wantsNothing := Or.inl (k_me (tm8 (List.mem_of_getElem? (i := 124) rfl)) rfl)
theorem mv_X11_wantsNothing : k_MV yX11_wantsNothing cX11_wantsNothing 2 none 0 := ⟨(k_me (tm8 (List.mem_of_getElem? (i := 126) rfl)) rfl), (k_me (tmp 66 (List.mem_of_getElem? (i := 69) rfl)) rfl), (k_me (tm1 (List.mem_of_getElem? (i := 14) rfl)) rfl), (k_me (tm8 (List.mem_of_getElem? (i := 127) rfl)) rfl), by decide, by decide, by decide +kernel⟩
theorem lk_X11_397 : k_lk RX11 397 yX11_adds := Or.inl (k_me (tm8 (List.mem_of_getElem? (i := 128) rfl)) rfl)
theorem mv_X11_adds : k_MV yX11_adds cX11_adds 3 none 1 := ⟨(k_me (tm8 (List.mem_of_getElem? (i := 130) rfl)) rfl), (k_me (tmp 66 (List.mem_of_getElem? (i := 70) rfl)) rfl), (k_me (tm1 (List.mem_of_getElem? (i := 14) rfl)) rfl), (k_me (tm8 (List.mem_of_getElem? (i := 131) rfl)) rfl), by decide, by decide, by decide +kernel⟩
theorem lk_X11_400 : k_lk RX11 400 yX11_lackNow := Or.inl (k_me (tm8 (List.mem_of_getElem? (i := 132) rfl)) rfl)
theorem mv_X11_lackNow : k_MV yX11_lackNow cX11_lackNow 3 (some .int) 0 := ⟨(k_me (tm8 (List.mem_of_getElem? (i := 134) rfl)) rfl), (k_me (tmp 66 (List.mem_of_getElem? (i := 71) rfl)) rfl), (k_me (tm1 (List.mem_of_getElem? (i := 14) rfl)) rfl), (k_me (tm8 (List.mem_of_getElem? (i := 135) rfl)) rfl), by decide, by decide, by decide +kernel⟩
theorem lk_X11_403 : k_lk RX11 403 yX11_worthOf := Or.inl (k_me (tm8 (List.mem_of_getElem? (i := 136) rfl)) rfl)
theorem mv_X11_worthOf : k_MV yX11_worthOf cX11_worthOf 4 (some .int) 1 := ⟨(k_me (tm8 (List.mem_of_getElem? (i := 138) rfl)) rfl), (k_me (tmp 66 (List.mem_of_getElem? (i := 72) rfl)) rfl), (k_me (tm1 (List.mem_of_getElem? (i := 14) rfl)) rfl), (k_me (tm8 (List.mem_of_getElem? (i := 139) rfl)) rfl), by decide, by decide, by decide +kernel⟩
theorem lk_X11_409 : k_lk RX11 409 yX11_whyNot := Or.inl (k_me (tm8 (List.mem_of_getElem? (i := 140) rfl)) rfl)
theorem mv_X11_whyNot : k_MV yX11_whyNot cX11_whyNot 2 (some .int) 1 := ⟨(k_me (tm8 (List.mem_of_getElem? (i := 142) rfl)) rfl), (k_me (tmp 66 (List.mem_of_getElem? (i := 73) rfl)) rfl), (k_me (tm1 (List.mem_of_getElem? (i := 14) rfl)) rfl), (k_me (tm8 (List.mem_of_getElem? (i := 143) rfl)) rfl), by decide, by decide, by decide +kernel⟩
theorem lk_X11_412 : k_lk RX11 412 yX11_digs := Or.inl (k_me (tm8 (List.mem_of_getElem? (i := 156) rfl)) rfl)
theorem mv_X11_digs : k_MV yX11_digs cX11_digs 3 none 1 := ⟨(k_me (tm8 (List.mem_of_getElem? (i := 158) rfl)) rfl), (k_me (tmp 66 (List.mem_of_getElem? (i := 77) rfl)) rfl), (k_me (tm1 (List.mem_of_getElem? (i := 14) rfl)) rfl), (k_me (tm8 (List.mem_of_getElem? (i := 159) rfl)) rfl), by decide, by decide, by decide +kernel⟩
theorem lk_X11_406 : k_lk RX11 406 yX11_next := Or.inl (k_me (tm8 (List.mem_of_getElem? (i := 120) rfl)) rfl)
theorem mv_X11_next : k_MV yX11_next cX11_next 4 (some .boolean) 0 := ⟨(k_me (tm8 (List.mem_of_getElem? (i := 122) rfl)) rfl), (k_me (tmp 66 (List.mem_of_getElem? (i := 68) rfl)) rfl), (k_me (tm1 (List.mem_of_getElem? (i := 14) rfl)) rfl), (k_me (tm8 (List.mem_of_getElem? (i := 123) rfl)) rfl), by decide, by decide, by decide +kernel⟩
theorem lk_X11_317 : k_lk RX11 317 yX11_within := Or.inl (k_me (tm8 (List.mem_of_getElem? (i := 50) rfl)) rfl)
theorem ms_X11_within : k_MS yX11_within cX11_within 3 (some .boolean) 3 := ⟨(k_me (tm8 (List.mem_of_getElem? (i := 51) rfl)) rfl), (k_me (tm1 (List.mem_of_getElem? (i := 14) rfl)) rfl), (k_me (tm8 (List.mem_of_getElem? (i := 52) rfl)) rfl), by decide, by decide, by decide +kernel⟩
theorem lk_X11_415 : k_lk RX11 415 yX11_isCell := Or.inl (k_me (tm8 (List.mem_of_getElem? (i := 207) rfl)) rfl)
theorem mv_X11_isCell : k_MV yX11_isCell cX11_isCell 4 (some .boolean) 3 := ⟨(k_me (tm8 (List.mem_of_getElem? (i := 209) rfl)) rfl), (k_me (tmp 66 (List.mem_of_getElem? (i := 85) rfl)) rfl), (k_me (tm1 (List.mem_of_getElem? (i := 14) rfl)) rfl), (k_me (tm8 (List.mem_of_getElem? (i := 210) rfl)) rfl), by decide, by decide, by decide +kernel⟩
theorem lk_X11_345 : k_lk RX11 345 yX11_take := Or.inl (k_me (tm8 (List.mem_of_getElem? (i := 108) rfl)) rfl)
theorem mv_X11_take : k_MV yX11_take cX11_take 1 none 0 := ⟨(k_me (tm8 (List.mem_of_getElem? (i := 110) rfl)) rfl), (k_me (tmp 66 (List.mem_of_getElem? (i := 65) rfl)) rfl), (k_me (tm1 (List.mem_of_getElem? (i := 14) rfl)) rfl), (k_me (tm8 (List.mem_of_getElem? (i := 111) rfl)) rfl), by decide, by decide, by decide +kernel⟩
theorem lk_X11_418 : k_lk RX11 418 yX11_isOrder := Or.inl (k_me (tm8 (List.mem_of_getElem? (i := 219) rfl)) rfl)
theorem mv_X11_isOrder : k_MV yX11_isOrder cX11_isOrder 3 (some .boolean) 2 := ⟨(k_me (tm8 (List.mem_of_getElem? (i := 221) rfl)) rfl), (k_me (tmp 66 (List.mem_of_getElem? (i := 86) rfl)) rfl), (k_me (tm1 (List.mem_of_getElem? (i := 14) rfl)) rfl), (k_me (tm8 (List.mem_of_getElem? (i := 222) rfl)) rfl), by decide, by decide, by decide +kernel⟩
theorem lk_X11_437 : k_lk RX11 437 yX11_barsIn := Or.inl (k_me (tm9 (List.mem_of_getElem? (i := 24) rfl)) rfl)
theorem mv_X11_barsIn : k_MV yX11_barsIn cX11_barsIn 2 (some .int) 1 := ⟨(k_me (tm9 (List.mem_of_getElem? (i := 26) rfl)) rfl), (k_me (tmp 66 (List.mem_of_getElem? (i := 89) rfl)) rfl), (k_me (tm1 (List.mem_of_getElem? (i := 14) rfl)) rfl), (k_me (tm9 (List.mem_of_getElem? (i := 27) rfl)) rfl), by decide, by decide, by decide +kernel⟩
theorem lk_X11_440 : k_lk RX11 440 yX11_comes := Or.inl (k_me (tm9 (List.mem_of_getElem? (i := 28) rfl)) rfl)
theorem mv_X11_comes : k_MV yX11_comes cX11_comes 5 (some .boolean) 2 := ⟨(k_me (tm9 (List.mem_of_getElem? (i := 30) rfl)) rfl), (k_me (tmp 66 (List.mem_of_getElem? (i := 90) rfl)) rfl), (k_me (tm1 (List.mem_of_getElem? (i := 14) rfl)) rfl), (k_me (tm9 (List.mem_of_getElem? (i := 31) rfl)) rfl), by decide, by decide, by decide +kernel⟩
theorem lk_X11_443 : k_lk RX11 443 yX11_findWays := Or.inl (k_me (tm9 (List.mem_of_getElem? (i := 20) rfl)) rfl)
theorem mv_X11_findWays : k_MV yX11_findWays cX11_findWays 6 none 1 := ⟨(k_me (tm9 (List.mem_of_getElem? (i := 22) rfl)) rfl), (k_me (tmp 66 (List.mem_of_getElem? (i := 88) rfl)) rfl), (k_me (tm1 (List.mem_of_getElem? (i := 14) rfl)) rfl), (k_me (tm9 (List.mem_of_getElem? (i := 23) rfl)) rfl), by decide, by decide, by decide +kernel⟩
theorem lk_X11_452 : k_lk RX11 452 yX11_isColumn := Or.inl (k_me (tm9 (List.mem_of_getElem? (i := 49) rfl)) rfl)
theorem mv_X11_isColumn : k_MV yX11_isColumn cX11_isColumn 2 (some .boolean) 1 := ⟨(k_me (tm9 (List.mem_of_getElem? (i := 51) rfl)) rfl), (k_me (tmp 66 (List.mem_of_getElem? (i := 92) rfl)) rfl), (k_me (tm1 (List.mem_of_getElem? (i := 14) rfl)) rfl), (k_me (tm9 (List.mem_of_getElem? (i := 52) rfl)) rfl), by decide, by decide, by decide +kernel⟩
theorem lk_X11_455 : k_lk RX11 455 yX11_tapAt := Or.inl (k_me (tm9 (List.mem_of_getElem? (i := 53) rfl)) rfl)
theorem mv_X11_tapAt : k_MV yX11_tapAt cX11_tapAt 3 (some .int) 1 := ⟨(k_me (tm9 (List.mem_of_getElem? (i := 55) rfl)) rfl), (k_me (tmp 66 (List.mem_of_getElem? (i := 93) rfl)) rfl), (k_me (tm1 (List.mem_of_getElem? (i := 14) rfl)) rfl), (k_me (tm9 (List.mem_of_getElem? (i := 56) rfl)) rfl), by decide, by decide, by decide +kernel⟩
theorem lk_X11_458 : k_lk RX11 458 yX11_fitsNow := Or.inl (k_me (tm9 (List.mem_of_getElem? (i := 65) rfl)) rfl)
theorem mv_X11_fitsNow : k_MV yX11_fitsNow cX11_fitsNow 5 (some .int) 0 := ⟨(k_me (tm9 (List.mem_of_getElem? (i := 67) rfl)) rfl), (k_me (tmp 66 (List.mem_of_getElem? (i := 94) rfl)) rfl), (k_me (tm1 (List.mem_of_getElem? (i := 14) rfl)) rfl), (k_me (tm9 (List.mem_of_getElem? (i := 68) rfl)) rfl), by decide, by decide, by decide +kernel⟩
theorem lk_X11_461 : k_lk RX11 461 yX11_isTapped := Or.inl (k_me (tm9 (List.mem_of_getElem? (i := 73) rfl)) rfl)
theorem mv_X11_isTapped : k_MV yX11_isTapped cX11_isTapped 3 (some .boolean) 1 := ⟨(k_me (tm9 (List.mem_of_getElem? (i := 75) rfl)) rfl), (k_me (tmp 66 (List.mem_of_getElem? (i := 95) rfl)) rfl), (k_me (tm1 (List.mem_of_getElem? (i := 14) rfl)) rfl), (k_me (tm9 (List.mem_of_getElem? (i := 76) rfl)) rfl), by decide, by decide, by decide +kernel⟩
theorem lk_X11_464 : k_lk RX11 464 yX11_worstAt := Or.inl (k_me (tm9 (List.mem_of_getElem? (i := 77) rfl)) rfl)
theorem mv_X11_worstAt : k_MV yX11_worstAt cX11_worstAt 6 (some .int) 2 := ⟨(k_me (tm9 (List.mem_of_getElem? (i := 79) rfl)) rfl), (k_me (tmp 66 (List.mem_of_getElem? (i := 96) rfl)) rfl), (k_me (tm1 (List.mem_of_getElem? (i := 14) rfl)) rfl), (k_me (tm9 (List.mem_of_getElem? (i := 80) rfl)) rfl), by decide, by decide, by decide +kernel⟩
theorem lk_X11_467 : k_lk RX11 467 yX11_getsOf := Or.inl (k_me (tm9 (List.mem_of_getElem? (i := 93) rfl)) rfl)
theorem mv_X11_getsOf : k_MV yX11_getsOf cX11_getsOf 5 (some .int) 3 := ⟨(k_me (tm9 (List.mem_of_getElem? (i := 95) rfl)) rfl), (k_me (tmp 66 (List.mem_of_getElem? (i := 98) rfl)) rfl), (k_me (tm1 (List.mem_of_getElem? (i := 14) rfl)) rfl), (k_me (tm9 (List.mem_of_getElem? (i := 96) rfl)) rfl), by decide, by decide, by decide +kernel⟩
theorem lk_X11_470 : k_lk RX11 470 yX11_isBest := Or.inl (k_me (tm9 (List.mem_of_getElem? (i := 89) rfl)) rfl)
theorem mv_X11_isBest : k_MV yX11_isBest cX11_isBest 6 (some .boolean) 4 := ⟨(k_me (tm9 (List.mem_of_getElem? (i := 91) rfl)) rfl), (k_me (tmp 66 (List.mem_of_getElem? (i := 97) rfl)) rfl), (k_me (tm1 (List.mem_of_getElem? (i := 14) rfl)) rfl), (k_me (tm9 (List.mem_of_getElem? (i := 92) rfl)) rfl), by decide, by decide, by decide +kernel⟩
theorem lk_X11_474 : k_lk RX11 474 yX11_pickNow := Or.inl (k_me (tm9 (List.mem_of_getElem? (i := 109) rfl)) rfl)
theorem mv_X11_pickNow : k_MV yX11_pickNow cX11_pickNow 3 (some .int) 0 := ⟨(k_me (tm9 (List.mem_of_getElem? (i := 111) rfl)) rfl), (k_me (tmp 66 (List.mem_of_getElem? (i := 99) rfl)) rfl), (k_me (tm1 (List.mem_of_getElem? (i := 14) rfl)) rfl), (k_me (tm9 (List.mem_of_getElem? (i := 112) rfl)) rfl), by decide, by decide, by decide +kernel⟩
theorem lk_X11_484 : k_lk RX11 484 yX11_draws := Or.inl (k_me (tm9 (List.mem_of_getElem? (i := 124) rfl)) rfl)
theorem mv_X11_draws : k_MV yX11_draws cX11_draws 1 (some .int) 0 := ⟨(k_me (tm9 (List.mem_of_getElem? (i := 126) rfl)) rfl), (k_me (tmp 66 (List.mem_of_getElem? (i := 101) rfl)) rfl), (k_me (tm1 (List.mem_of_getElem? (i := 14) rfl)) rfl), (k_me (tm9 (List.mem_of_getElem? (i := 127) rfl)) rfl), by decide, by decide, by decide +kernel⟩
theorem lk_X11_487 : k_lk RX11 487 yX11_isDecade := Or.inl (k_me (tm9 (List.mem_of_getElem? (i := 117) rfl)) rfl)
theorem ms_X11_isDecade : k_MS yX11_isDecade cX11_isDecade 2 (some .boolean) 2 := ⟨(k_me (tm9 (List.mem_of_getElem? (i := 118) rfl)) rfl), (k_me (tm1 (List.mem_of_getElem? (i := 14) rfl)) rfl), (k_me (tm9 (List.mem_of_getElem? (i := 119) rfl)) rfl), by decide, by decide, by decide +kernel⟩
theorem lk_X11_490 : k_lk RX11 490 yX11_goesOn := Or.inl (k_me (tm9 (List.mem_of_getElem? (i := 120) rfl)) rfl)
theorem mv_X11_goesOn : k_MV yX11_goesOn cX11_goesOn 6 none 3 := ⟨(k_me (tm9 (List.mem_of_getElem? (i := 122) rfl)) rfl), (k_me (tmp 66 (List.mem_of_getElem? (i := 100) rfl)) rfl), (k_me (tm1 (List.mem_of_getElem? (i := 14) rfl)) rfl), (k_me (tm9 (List.mem_of_getElem? (i := 123) rfl)) rfl), by decide, by decide, by decide +kernel⟩
theorem lk_X11_493 : k_lk RX11 493 yX11_keepsRow := Or.inl (k_me (tm9 (List.mem_of_getElem? (i := 149) rfl)) rfl)
theorem mv_X11_keepsRow : k_MV yX11_keepsRow cX11_keepsRow 6 (some .int) 4 := ⟨(k_me (tm9 (List.mem_of_getElem? (i := 151) rfl)) rfl), (k_me (tmp 66 (List.mem_of_getElem? (i := 103) rfl)) rfl), (k_me (tm1 (List.mem_of_getElem? (i := 14) rfl)) rfl), (k_me (tm9 (List.mem_of_getElem? (i := 152) rfl)) rfl), by decide, by decide, by decide +kernel⟩
theorem lk_X11_497 : k_lk RX11 497 yX11_keepsAll := Or.inl (k_me (tm9 (List.mem_of_getElem? (i := 145) rfl)) rfl)
theorem mv_X11_keepsAll : k_MV yX11_keepsAll cX11_keepsAll 4 none 2 := ⟨(k_me (tm9 (List.mem_of_getElem? (i := 147) rfl)) rfl), (k_me (tmp 66 (List.mem_of_getElem? (i := 102) rfl)) rfl), (k_me (tm1 (List.mem_of_getElem? (i := 14) rfl)) rfl), (k_me (tm9 (List.mem_of_getElem? (i := 148) rfl)) rfl), by decide, by decide, by decide +kernel⟩
