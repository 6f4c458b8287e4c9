theorem k_bl {a b : Nat} (h : a ≤ b) : Nat.ble a b = true := Nat.ble_eq_true_of_le h
theorem lk_X11_288 : k_lk RX11 288 yX11_opensOne := Or.inl (k_me (tm8 (List.mem_of_getElem? (i := 65) rfl)) rfl)
theorem mv_X11_opensOne : k_MV yX11_opensOne cX11_opensOne 2 none 1 := ⟨(k_me (tm8 (List.mem_of_getElem? (i := 67) rfl)) rfl), (k_me (tmp 66 (List.mem_of_getElem? (i := 59) rfl)) rfl), (k_me (tm1 (List.mem_of_getElem? (i := 14) rfl)) rfl), (k_me (tm8 (List.mem_of_getElem? (i := 68) rfl)) rfl), by decide, by decide, by decide +kernel⟩
theorem lk_X11_291 : k_lk RX11 291 yX11_readSum := Or.inl (k_me (tm8 (List.mem_of_getElem? (i := 53) rfl)) rfl)
theorem mv_X11_readSum : k_MV yX11_readSum cX11_readSum 2 none 0 := ⟨(k_me (tm8 (List.mem_of_getElem? (i := 55) rfl)) rfl), (k_me (tmp 66 (List.mem_of_getElem? (i := 56) rfl)) rfl), (k_me (tm1 (List.mem_of_getElem? (i := 14) rfl)) rfl), (k_me (tm8 (List.mem_of_getElem? (i := 56) rfl)) rfl), by decide, by decide, by decide +kernel⟩
theorem lk_X11_282 : k_lk RX11 282 yX11_emit := Or.inl (k_me (tm8 (List.mem_of_getElem? (i := 69) rfl)) rfl)
theorem mv_X11_emit : k_MV yX11_emit cX11_emit 3 none 2 := ⟨(k_me (tm8 (List.mem_of_getElem? (i := 71) rfl)) rfl), (k_me (tmp 66 (List.mem_of_getElem? (i := 60) rfl)) rfl), (k_me (tm1 (List.mem_of_getElem? (i := 14) rfl)) rfl), (k_me (tm8 (List.mem_of_getElem? (i := 72) rfl)) rfl), by decide, by decide, by decide +kernel⟩
theorem lk_X11_314 : k_lk RX11 314 yX11_factHere := Or.inl (k_me (tm8 (List.mem_of_getElem? (i := 79) rfl)) rfl)
theorem mv_X11_factHere : k_MV yX11_factHere cX11_factHere 2 (some .int) 0 := ⟨(k_me (tm8 (List.mem_of_getElem? (i := 81) rfl)) rfl), (k_me (tmp 66 (List.mem_of_getElem? (i := 62) rfl)) rfl), (k_me (tm1 (List.mem_of_getElem? (i := 14) rfl)) rfl), (k_me (tm8 (List.mem_of_getElem? (i := 82) rfl)) rfl), by decide, by decide, by decide +kernel⟩
theorem lk_X11_310 : k_lk RX11 310 yX11_readTwo := Or.inl (k_me (tm8 (List.mem_of_getElem? (i := 74) rfl)) rfl)
theorem mv_X11_readTwo : k_MV yX11_readTwo cX11_readTwo 3 none 2 := ⟨(k_me (tm8 (List.mem_of_getElem? (i := 76) rfl)) rfl), (k_me (tmp 66 (List.mem_of_getElem? (i := 61) rfl)) rfl), (k_me (tm1 (List.mem_of_getElem? (i := 14) rfl)) rfl), (k_me (tm8 (List.mem_of_getElem? (i := 77) rfl)) rfl), by decide, by decide, by decide +kernel⟩
theorem lk_X11_285 : k_lk RX11 285 yX11_readUnit := Or.inl (k_me (tm8 (List.mem_of_getElem? (i := 61) rfl)) rfl)
theorem mv_X11_readUnit : k_MV yX11_readUnit cX11_readUnit 2 none 0 := ⟨(k_me (tm8 (List.mem_of_getElem? (i := 63) rfl)) rfl), (k_me (tmp 66 (List.mem_of_getElem? (i := 58) rfl)) rfl), (k_me (tm1 (List.mem_of_getElem? (i := 14) rfl)) rfl), (k_me (tm8 (List.mem_of_getElem? (i := 64) rfl)) rfl), by decide, by decide, by decide +kernel⟩
theorem lk_X11_279 : k_lk RX11 279 yX11_readProduct := Or.inl (k_me (tm8 (List.mem_of_getElem? (i := 57) rfl)) rfl)
theorem mv_X11_readProduct : k_MV yX11_readProduct cX11_readProduct 2 none 0 := ⟨(k_me (tm8 (List.mem_of_getElem? (i := 59) rfl)) rfl), (k_me (tmp 66 (List.mem_of_getElem? (i := 57) rfl)) rfl), (k_me (tm1 (List.mem_of_getElem? (i := 14) rfl)) rfl), (k_me (tm8 (List.mem_of_getElem? (i := 60) rfl)) rfl), by decide, by decide, by decide +kernel⟩
theorem lk_X11_332 : k_lk RX11 332 yX11_tellsStep := Or.inl (k_me (tm8 (List.mem_of_getElem? (i := 101) rfl)) rfl)
theorem mv_X11_tellsStep : k_MV yX11_tellsStep cX11_tellsStep 4 none 3 := ⟨(k_me (tm8 (List.mem_of_getElem? (i := 103) rfl)) rfl), (k_me (tmp 66 (List.mem_of_getElem? (i := 64) rfl)) rfl), (k_me (tm1 (List.mem_of_getElem? (i := 14) rfl)) rfl), (k_me (tm8 (List.mem_of_getElem? (i := 104) rfl)) rfl), by decide, by decide, by decide +kernel⟩
theorem lk_X11_342 : k_lk RX11 342 yX11_readStep := Or.inl (k_me (tm8 (List.mem_of_getElem? (i := 95) rfl)) rfl)
theorem mv_X11_readStep : k_MV yX11_readStep cX11_readStep 4 none 0 := ⟨(k_me (tm8 (List.mem_of_getElem? (i := 97) rfl)) rfl), (k_me (tmp 66 (List.mem_of_getElem? (i := 63) rfl)) rfl), (k_me (tm1 (List.mem_of_getElem? (i := 14) rfl)) rfl), (k_me (tm8 (List.mem_of_getElem? (i := 98) rfl)) rfl), by decide, by decide, by decide +kernel⟩
theorem lk_X11_360 : k_lk RX11 360 yX11_goes := Or.inl (k_me (tm8 (List.mem_of_getElem? (i := 116) rfl)) rfl)
theorem mv_X11_goes : k_MV yX11_goes cX11_goes 4 (some .boolean) 3 := ⟨(k_me (tm8 (List.mem_of_getElem? (i := 118) rfl)) rfl), (k_me (tmp 66 (List.mem_of_getElem? (i := 67) rfl)) rfl), (k_me (tm1 (List.mem_of_getElem? (i := 14) rfl)) rfl), (k_me (tm8 (List.mem_of_getElem? (i := 119) rfl)) rfl), by decide, by decide, by decide +kernel⟩
theorem lk_X11_357 : k_lk RX11 357 yX11_goesSteps := Or.inl (k_me (tm8 (List.mem_of_getElem? (i := 112) rfl)) rfl)
theorem mv_X11_goesSteps : k_MV yX11_goesSteps cX11_goesSteps 6 none 2 := ⟨(k_me (tm8 (List.mem_of_getElem? (i := 114) rfl)) rfl), (k_me (tmp 66 (List.mem_of_getElem? (i := 66) rfl)) rfl), (k_me (tm1 (List.mem_of_getElem? (i := 14) rfl)) rfl), (k_me (tm8 (List.mem_of_getElem? (i := 115) rfl)) rfl), by decide, by decide, by decide +kernel⟩
theorem fp_X11_427 : k_FP RX11 427 11 58 .long := ⟨_, _, _, tyX11, rfl, in_X11, tyX11_ok, nmX11, by decide, rfl, by decide +kernel, Or.inl (k_me (tm7 (List.mem_of_getElem? (i := 53) rfl)) rfl)⟩
theorem lk_X11_433 : k_lk RX11 433 yX11_bestsOn := Or.inl (k_me (tm9 (List.mem_of_getElem? (i := 11) rfl)) rfl)
theorem mv_X11_bestsOn : k_MV yX11_bestsOn cX11_bestsOn 9 none 4 := ⟨(k_me (tm9 (List.mem_of_getElem? (i := 13) rfl)) rfl), (k_me (tmp 66 (List.mem_of_getElem? (i := 87) rfl)) rfl), (k_me (tm1 (List.mem_of_getElem? (i := 14) rfl)) rfl), (k_me (tm9 (List.mem_of_getElem? (i := 14) rfl)) rfl), by decide, by decide, by decide +kernel⟩
theorem lk_X11_448 : k_lk RX11 448 yX11_holdsOn := Or.inl (k_me (tm9 (List.mem_of_getElem? (i := 36) rfl)) rfl)
theorem mv_X11_holdsOn : k_MV yX11_holdsOn cX11_holdsOn 8 (some .long) 3 := ⟨(k_me (tm9 (List.mem_of_getElem? (i := 38) rfl)) rfl), (k_me (tmp 66 (List.mem_of_getElem? (i := 91) rfl)) rfl), (k_me (tm1 (List.mem_of_getElem? (i := 14) rfl)) rfl), (k_me (tm9 (List.mem_of_getElem? (i := 39) rfl)) rfl), by decide, by decide, by decide +kernel⟩
theorem fl_X1_81 : k_FL RX1 81 8 4 := ⟨_, _, _, rfl, in_X8, by decide, Or.inl (k_me (tm1 (List.mem_of_getElem? (i := 51) rfl)) rfl)⟩
theorem lk_X1_52 : k_lk RX1 52 yX8_sign := Or.inl (k_me (tm4 (List.mem_of_getElem? (i := 158) rfl)) rfl)
theorem ck_shLawTape_shTape_3 : k_ck [3, 4] shTape shLawTape = true := by decide +kernel
theorem lk_X1_32 : k_lk RX1 32 yX1_readSum := Or.inl (k_me (tm4 (List.mem_of_getElem? (i := 132) rfl)) rfl)
theorem mv_X1_readSum : k_MV yX1_readSum cX1_readSum 5 none 2 := ⟨(k_me (tm4 (List.mem_of_getElem? (i := 134) rfl)) rfl), (k_me (tmp 3 (List.mem_of_getElem? (i := 19) rfl)) rfl), (k_me (tm1 (List.mem_of_getElem? (i := 5) rfl)) rfl), (k_me (tm4 (List.mem_of_getElem? (i := 135) rfl)) rfl), by decide, by decide, by decide +kernel⟩
theorem lk_X1_78 : k_lk RX1 78 yX8_failHere := Or.inl (k_me (tm4 (List.mem_of_getElem? (i := 154) rfl)) rfl)
theorem mv_X8_failHere : k_MV yX8_failHere cX8_failHere 2 none 1 := ⟨(k_me (tm4 (List.mem_of_getElem? (i := 155) rfl)) rfl), (k_me (tm4 (List.mem_of_getElem? (i := 156) rfl)) rfl), (k_me (tm1 (List.mem_of_getElem? (i := 2) rfl)) rfl), (k_me (tm4 (List.mem_of_getElem? (i := 157) rfl)) rfl), by decide, by decide, by decide +kernel⟩
theorem lk_X1_84 : k_lk RX1 84 yX8_fail := Or.inl (k_me (tm4 (List.mem_of_getElem? (i := 166) rfl)) rfl)
theorem lk_X1_59 : k_lk RX1 59 yX8_isDigitNext := Or.inl (k_me (tm4 (List.mem_of_getElem? (i := 144) rfl)) rfl)
theorem lk_X1_48 : k_lk RX1 48 yX8_isNext := Or.inl (k_me (tm4 (List.mem_of_getElem? (i := 146) rfl)) rfl)
theorem mv_X8_isNext : k_MV yX8_isNext cX8_isNext 2 (some .boolean) 1 := ⟨(k_me (tm4 (List.mem_of_getElem? (i := 147) rfl)) rfl), (k_me (tm4 (List.mem_of_getElem? (i := 148) rfl)) rfl), (k_me (tm1 (List.mem_of_getElem? (i := 2) rfl)) rfl), (k_me (tm4 (List.mem_of_getElem? (i := 149) rfl)) rfl), by decide, by decide, by decide +kernel⟩
theorem lk_X1_71 : k_lk RX1 71 yX8_word := Or.inl (k_me (tm4 (List.mem_of_getElem? (i := 160) rfl)) rfl)
theorem lk_X1_44 : k_lk RX1 44 yX8_good := Or.inl (k_me (tm4 (List.mem_of_getElem? (i := 161) rfl)) rfl)
theorem lk_X1_66 : k_lk RX1 66 yX1_readBracket := Or.inl (k_me (tm4 (List.mem_of_getElem? (i := 150) rfl)) rfl)
theorem mv_X1_readBracket : k_MV yX1_readBracket cX1_readBracket 3 none 2 := ⟨(k_me (tm4 (List.mem_of_getElem? (i := 152) rfl)) rfl), (k_me (tmp 3 (List.mem_of_getElem? (i := 22) rfl)) rfl), (k_me (tm1 (List.mem_of_getElem? (i := 5) rfl)) rfl), (k_me (tm4 (List.mem_of_getElem? (i := 153) rfl)) rfl), by decide, by decide, by decide +kernel⟩
theorem lk_X1_62 : k_lk RX1 62 yX8_number := Or.inl (k_me (tm4 (List.mem_of_getElem? (i := 145) rfl)) rfl)
theorem ck_shLawTape_shLaw_0 : k_ck [0, 1, 2] shLaw shLawTape = true := by decide +kernel
theorem lk_X1_75 : k_lk RX1 75 yX1_readPair := Or.inl (k_me (tm4 (List.mem_of_getElem? (i := 162) rfl)) rfl)
theorem mv_X1_readPair : k_MV yX1_readPair cX1_readPair 3 none 2 := ⟨(k_me (tm4 (List.mem_of_getElem? (i := 164) rfl)) rfl), (k_me (tmp 3 (List.mem_of_getElem? (i := 23) rfl)) rfl), (k_me (tm1 (List.mem_of_getElem? (i := 5) rfl)) rfl), (k_me (tm4 (List.mem_of_getElem? (i := 165) rfl)) rfl), by decide, by decide, by decide +kernel⟩
theorem lk_X1_56 : k_lk RX1 56 yX1_readUnit := Or.inl (k_me (tm4 (List.mem_of_getElem? (i := 140) rfl)) rfl)
theorem mv_X1_readUnit : k_MV yX1_readUnit cX1_readUnit 4 none 2 := ⟨(k_me (tm4 (List.mem_of_getElem? (i := 142) rfl)) rfl), (k_me (tmp 3 (List.mem_of_getElem? (i := 21) rfl)) rfl), (k_me (tm1 (List.mem_of_getElem? (i := 5) rfl)) rfl), (k_me (tm4 (List.mem_of_getElem? (i := 143) rfl)) rfl), by decide, by decide, by decide +kernel⟩
theorem lk_X1_41 : k_lk RX1 41 yX1_readProduct := Or.inl (k_me (tm4 (List.mem_of_getElem? (i := 136) rfl)) rfl)
theorem mv_X1_readProduct : k_MV yX1_readProduct cX1_readProduct 5 none 2 := ⟨(k_me (tm4 (List.mem_of_getElem? (i := 138) rfl)) rfl), (k_me (tmp 3 (List.mem_of_getElem? (i := 20) rfl)) rfl), (k_me (tm1 (List.mem_of_getElem? (i := 5) rfl)) rfl), (k_me (tm4 (List.mem_of_getElem? (i := 139) rfl)) rfl), by decide, by decide, by decide +kernel⟩
theorem in_X6 : ∀ w ∈ u_ws RX6 TX6 7, w ∈ k_tb := by decide +kernel
theorem fl_X6_21 : k_FL RX6 21 6 3 := ⟨_, _, _, rfl, in_X6, by decide, Or.inl (k_me (tm2 (List.mem_of_getElem? (i := 44) rfl)) rfl)⟩
theorem fp_X6_21 : k_FP RX6 21 6 3 .int := ⟨_, _, _, tyX6, rfl, in_X6, tyX6_ok, nmX6, by decide, rfl, by decide +kernel, Or.inl (k_me (tm2 (List.mem_of_getElem? (i := 44) rfl)) rfl)⟩
theorem fl_X6_11 : k_FL RX6 11 6 0 := ⟨_, _, _, rfl, in_X6, by decide, Or.inl (k_me (tm2 (List.mem_of_getElem? (i := 41) rfl)) rfl)⟩
theorem fl_X6_15 : k_FL RX6 15 6 1 := ⟨_, _, _, rfl, in_X6, by decide, Or.inl (k_me (tm2 (List.mem_of_getElem? (i := 42) rfl)) rfl)⟩
theorem fl_X6_64 : k_FL RX6 64 5 0 := ⟨_, _, _, rfl, in_X5, by decide, Or.inl (k_me (tm1 (List.mem_of_getElem? (i := 91) rfl)) rfl)⟩
theorem fl_X6_73 : k_FL RX6 73 5 1 := ⟨_, _, _, rfl, in_X5, by decide, Or.inl (k_me (tm1 (List.mem_of_getElem? (i := 96) rfl)) rfl)⟩
theorem fl_X6_18 : k_FL RX6 18 6 2 := ⟨_, _, _, rfl, in_X6, by decide, Or.inl (k_me (tm2 (List.mem_of_getElem? (i := 43) rfl)) rfl)⟩
theorem fl_X6_80 : k_FL RX6 80 8 4 := ⟨_, _, _, rfl, in_X8, by decide, Or.inl (k_me (tm1 (List.mem_of_getElem? (i := 49) rfl)) rfl)⟩
theorem lk_X6_69 : k_lk RX6 69 yX8_number := Or.inl (k_me (tm4 (List.mem_of_getElem? (i := 204) rfl)) rfl)
theorem ck_shProg_shTape_4 : k_ck [4, 5] shTape shProg = true := by decide +kernel
theorem lk_X6_51 : k_lk RX6 51 yX8_sign := Or.inl (k_me (tm4 (List.mem_of_getElem? (i := 210) rfl)) rfl)
theorem lk_X6_34 : k_lk RX6 34 yX6_readSteps := Or.inl (k_me (tm4 (List.mem_of_getElem? (i := 191) rfl)) rfl)
theorem mv_X6_readSteps : k_MV yX6_readSteps cX6_readSteps 5 none 3 := ⟨(k_me (tm4 (List.mem_of_getElem? (i := 193) rfl)) rfl), (k_me (tmp 7 (List.mem_of_getElem? (i := 24) rfl)) rfl), (k_me (tm1 (List.mem_of_getElem? (i := 7) rfl)) rfl), (k_me (tm4 (List.mem_of_getElem? (i := 194) rfl)) rfl), by decide, by decide, by decide +kernel⟩
theorem lk_X6_83 : k_lk RX6 83 yX8_fail := Or.inl (k_me (tm4 (List.mem_of_getElem? (i := 209) rfl)) rfl)
theorem lk_X6_57 : k_lk RX6 57 yX8_word := Or.inl (k_me (tm4 (List.mem_of_getElem? (i := 202) rfl)) rfl)
theorem lk_X6_61 : k_lk RX6 61 yX8_good := Or.inl (k_me (tm4 (List.mem_of_getElem? (i := 203) rfl)) rfl)
theorem lk_X6_76 : k_lk RX6 76 yX6_readAgain := Or.inl (k_me (tm4 (List.mem_of_getElem? (i := 205) rfl)) rfl)
theorem mv_X6_readAgain : k_MV yX6_readAgain cX6_readAgain 6 none 4 := ⟨(k_me (tm4 (List.mem_of_getElem? (i := 207) rfl)) rfl), (k_me (tmp 7 (List.mem_of_getElem? (i := 26) rfl)) rfl), (k_me (tm1 (List.mem_of_getElem? (i := 7) rfl)) rfl), (k_me (tm4 (List.mem_of_getElem? (i := 208) rfl)) rfl), by decide, by decide, by decide +kernel⟩
theorem lk_X6_38 : k_lk RX6 38 yX8_more := Or.inl (k_me (tm4 (List.mem_of_getElem? (i := 195) rfl)) rfl)
theorem lk_X6_44 : k_lk RX6 44 yX8_isNext := Or.inl (k_me (tm4 (List.mem_of_getElem? (i := 196) rfl)) rfl)
theorem lk_X6_48 : k_lk RX6 48 yX6_readStep := Or.inl (k_me (tm4 (List.mem_of_getElem? (i := 197) rfl)) rfl)
theorem mv_X6_readStep : k_MV yX6_readStep cX6_readStep 6 none 3 := ⟨(k_me (tm4 (List.mem_of_getElem? (i := 199) rfl)) rfl), (k_me (tmp 7 (List.mem_of_getElem? (i := 25) rfl)) rfl), (k_me (tm1 (List.mem_of_getElem? (i := 7) rfl)) rfl), (k_me (tm4 (List.mem_of_getElem? (i := 200) rfl)) rfl), by decide, by decide, by decide +kernel⟩
theorem fl_X6_25 : k_FL RX6 25 6 4 := ⟨_, _, _, rfl, in_X6, by decide, Or.inl (k_me (tm2 (List.mem_of_getElem? (i := 46) rfl)) rfl)⟩
theorem fp_X6_25 : k_FP RX6 25 6 4 .int := ⟨_, _, _, tyX6, rfl, in_X6, tyX6_ok, nmX6, by decide, rfl, by decide +kernel, Or.inl (k_me (tm2 (List.mem_of_getElem? (i := 46) rfl)) rfl)⟩
theorem fl_X6_31 : k_FL RX6 31 6 6 := ⟨_, _, _, rfl, in_X6, by decide, Or.inl (k_me (tm2 (List.mem_of_getElem? (i := 49) rfl)) rfl)⟩
theorem fp_X6_31 : k_FP RX6 31 6 6 .int := ⟨_, _, _, tyX6, rfl, in_X6, tyX6_ok, nmX6, by decide, rfl, by decide +kernel, Or.inl (k_me (tm2 (List.mem_of_getElem? (i := 49) rfl)) rfl)⟩
theorem fl_X6_28 : k_FL RX6 28 6 5 := ⟨_, _, _, rfl, in_X6, by decide, Or.inl (k_me (tm2 (List.mem_of_getElem? (i := 47) rfl)) rfl)⟩
theorem fp_X6_28 : k_FP RX6 28 6 5 .int := ⟨_, _, _, tyX6, rfl, in_X6, tyX6_ok, nmX6, by decide, rfl, by decide +kernel, Or.inl (k_me (tm2 (List.mem_of_getElem? (i := 47) rfl)) rfl)⟩
theorem lk_X6_91 : k_lk RX6 91 yX6_isDone := Or.inl (k_me (tm4 (List.mem_of_getElem? (i := 219) rfl)) rfl)
theorem ms_X6_isDone : k_MS yX6_isDone cX6_isDone 4 (some .boolean) 4 := ⟨(k_me (tm4 (List.mem_of_getElem? (i := 220) rfl)) rfl), (k_me (tm1 (List.mem_of_getElem? (i := 7) rfl)) rfl), (k_me (tm4 (List.mem_of_getElem? (i := 221) rfl)) rfl), by decide, by decide, by decide +kernel⟩
theorem ck_shRun_shMine_4_9 : k_ck [4, 5, 6, 7, 8, 9, 10, 11, 12, 13, 14, 15, 16, 17, 18, 19, 20, 21] shMine shRun = true := by decide +kernel
theorem lk_X6_87 : k_lk RX6 87 yX6_run := Or.inl (k_me (tm4 (List.mem_of_getElem? (i := 218) rfl)) rfl)
theorem ms_X6_run : k_MS yX6_run cX6_run 9 none 5 := ⟨(k_me (tm4 (List.mem_of_getElem? (i := 216) rfl)) rfl), (k_me (tm1 (List.mem_of_getElem? (i := 7) rfl)) rfl), (k_me (tm4 (List.mem_of_getElem? (i := 217) rfl)) rfl), by decide, by decide, by decide +kernel⟩
theorem fl_X11_427 : k_FL RX11 427 11 58 := ⟨_, _, _, rfl, in_X11, by decide, Or.inl (k_me (tm7 (List.mem_of_getElem? (i := 53) rfl)) rfl)⟩
theorem lk_X1_36 : k_lk RX1 36 yX8_finish := Or.inl (k_me (tm4 (List.mem_of_getElem? (i := 167) rfl)) rfl)
theorem mv_X8_finish : k_MV yX8_finish cX8_finish 1 none 0 := ⟨(k_me (tm4 (List.mem_of_getElem? (i := 168) rfl)) rfl), (k_me (tm4 (List.mem_of_getElem? (i := 169) rfl)) rfl), (k_me (tm1 (List.mem_of_getElem? (i := 2) rfl)) rfl), (k_me (tm4 (List.mem_of_getElem? (i := 170) rfl)) rfl), by decide, by decide, by decide +kernel⟩
