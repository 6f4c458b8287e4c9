def shTape : List k_Sh := [(0, 8, [4, 0, 0, 0, 0, 0, 0]), (2, 600, [])]
def shPit : List k_Sh := [(0, 5, [0, 0, 4, 5, 6, 1, 1, 0, 0, 0, 0, 7, 8, 9]), (1, 48, []), (1, 48, []), (1, 6, []), (1, 6, []), (1, 6, []), (1, 48, [])]
def shPitTape : List k_Sh := [(0, 5, [0, 0, 4, 5, 6, 1, 1, 0, 0, 0, 0, 7, 8, 9]), (1, 48, []), (1, 48, []), (1, 6, []), (1, 6, []), (1, 6, []), (1, 48, []), (0, 8, [11, 0, 0, 0, 0, 0, 0]), (2, 600, [])]
def shPit2 : List k_Sh := [(0, 5, [0, 0, 4, 5, 6, 1, 1, 0, 0, 0, 0, 7, 8, 9]), (1, 48, []), (1, 48, []), (1, 6, []), (1, 6, []), (1, 6, []), (1, 48, []), (0, 5, [0, 0, 11, 12, 13, 1, 1, 0, 0, 0, 0, 14, 15, 16]), (1, 48, []), (1, 48, []), (1, 6, []), (1, 6, []), (1, 6, []), (1, 48, [])]
def shLaw : List k_Sh := [(0, 1, [4, 5, 0]), (1, 150, []), (1, 24, [])]
def shLaw2 : List k_Sh := [(0, 1, [4, 5, 0]), (1, 150, []), (1, 24, []), (0, 1, [7, 8, 0]), (1, 150, []), (1, 24, [])]
def shLawTape : List k_Sh := [(0, 1, [4, 5, 0]), (1, 150, []), (1, 24, []), (0, 8, [7, 0, 0, 0, 0, 0, 0]), (2, 600, [])]
def shMine : List k_Sh := [(0, 3, [8, 15, 18, 1, 1, 1, 4, 5, 6, 7, 0, 0, 0, 0, 0, 0, 0, 0]), (1, 6, []), (1, 6, []), (1, 6, []), (1, 6, []), (0, 5, [0, 0, 9, 10, 11, 1, 1, 0, 0, 0, 0, 12, 13, 14]), (1, 48, []), (1, 48, []), (1, 6, []), (1, 6, []), (1, 6, []), (1, 48, []), (0, 1, [16, 17, 0]), (1, 150, []), (1, 24, []), (0, 1, [19, 20, 0]), (1, 150, []), (1, 24, [])]
def shMine2 : List k_Sh := [(0, 3, [8, 15, 18, 1, 1, 1, 4, 5, 6, 7, 0, 0, 0, 0, 0, 0, 0, 0]), (1, 6, []), (1, 6, []), (1, 6, []), (1, 6, []), (0, 5, [0, 0, 9, 10, 11, 1, 1, 0, 0, 0, 0, 12, 13, 14]), (1, 48, []), (1, 48, []), (1, 6, []), (1, 6, []), (1, 6, []), (1, 48, []), (0, 1, [16, 17, 0]), (1, 150, []), (1, 24, []), (0, 1, [19, 20, 0]), (1, 150, []), (1, 24, []), (0, 3, [8, 15, 18, 1, 1, 1, 22, 23, 24, 25, 0, 0, 0, 0, 0, 0, 0, 0]), (1, 6, []), (1, 6, []), (1, 6, []), (1, 6, [])]
def shProg : List k_Sh := [(0, 6, [4, 5, 6, 0, 0, 0, 0]), (1, 30, []), (1, 30, []), (1, 30, []), (0, 8, [8, 0, 0, 0, 0, 0, 0]), (2, 600, []), (0, 5, [0, 0, 10, 11, 12, 1, 1, 0, 0, 0, 0, 13, 14, 15]), (1, 48, []), (1, 48, []), (1, 6, []), (1, 6, []), (1, 6, []), (1, 48, [])]
def shRun : List k_Sh := [(0, 6, [4, 5, 6, 0, 0, 0, 0]), (1, 30, []), (1, 30, []), (1, 30, []), (0, 3, [12, 19, 22, 1, 1, 1, 8, 9, 10, 11, 0, 0, 0, 0, 0, 0, 0, 0]), (1, 6, []), (1, 6, []), (1, 6, []), (1, 6, []), (0, 5, [0, 0, 13, 14, 15, 1, 1, 0, 0, 0, 0, 16, 17, 18]), (1, 48, []), (1, 48, []), (1, 6, []), (1, 6, []), (1, 6, []), (1, 48, []), (0, 1, [20, 21, 0]), (1, 150, []), (1, 24, []), (0, 1, [23, 24, 0]), (1, 150, []), (1, 24, [])]
def shTaps : List k_Sh := [(0, 9, [6, 4, 5, 0]), (1, 8, []), (1, 8, []), (0, 5, [0, 0, 7, 8, 9, 1, 1, 0, 0, 0, 0, 10, 11, 12]), (1, 48, []), (1, 48, []), (1, 6, []), (1, 6, []), (1, 6, []), (1, 48, [])]
def shTapsTape : List k_Sh := [(0, 9, [6, 4, 5, 0]), (1, 8, []), (1, 8, []), (0, 5, [0, 0, 7, 8, 9, 1, 1, 0, 0, 0, 0, 10, 11, 12]), (1, 48, []), (1, 48, []), (1, 6, []), (1, 6, []), (1, 6, []), (1, 48, []), (0, 8, [14, 0, 0, 0, 0, 0, 0]), (2, 600, [])]
def shDec : List k_Sh := [(0, 0, [4, 0, 0, 0, 0]), (0, 3, [9, 16, 19, 1, 1, 1, 5, 6, 7, 8, 0, 0, 0, 0, 0, 0, 0, 0]), (1, 6, []), (1, 6, []), (1, 6, []), (1, 6, []), (0, 5, [0, 0, 10, 11, 12, 1, 1, 0, 0, 0, 0, 13, 14, 15]), (1, 48, []), (1, 48, []), (1, 6, []), (1, 6, []), (1, 6, []), (1, 48, []), (0, 1, [17, 18, 0]), (1, 150, []), (1, 24, []), (0, 1, [20, 21, 0]), (1, 150, []), (1, 24, []), (0, 3, [9, 16, 19, 1, 1, 1, 23, 24, 25, 26, 0, 0, 0, 0, 0, 0, 0, 0]), (1, 6, []), (1, 6, []), (1, 6, []), (1, 6, [])]
def shMkt : List k_Sh := [(0, 2, [4, 0, 0, 0]), (1, 21, [])]
def shX : List k_Sh := [(0, 10, [4, 6, 13, 20, 23, 26, 29, 34, 38, 43, 61, 64, 70, 72, 0]), (0, 8, [5, 0, 0, 0, 0, 0, 0]), (2, 600, []), (0, 5, [0, 0, 7, 8, 9, 1, 1, 0, 0, 0, 0, 10, 11, 12]), (1, 48, []), (1, 48, []), (1, 6, []), (1, 6, []), (1, 6, []), (1, 48, []), (0, 5, [0, 0, 14, 15, 16, 1, 1, 0, 0, 0, 0, 17, 18, 19]), (1, 48, []), (1, 48, []), (1, 6, []), (1, 6, []), (1, 6, []), (1, 48, []), (0, 1, [21, 22, 0]), (1, 150, []), (1, 24, []), (0, 1, [24, 25, 0]), (1, 150, []), (1, 24, []), (0, 1, [27, 28, 0]), (1, 150, []), (1, 24, []), (0, 3, [6, 20, 23, 1, 1, 1, 30, 31, 32, 33, 0, 0, 0, 0, 0, 0, 0, 0]), (1, 6, []), (1, 6, []), (1, 6, []), (1, 6, []), (0, 6, [35, 36, 37, 0, 0, 0, 0]), (1, 30, []), (1, 30, []), (1, 30, []), (0, 4, [39, 0, 40, 41, 42, 0]), (5, 16, []), (5, 3, []), (5, 48, []), (1, 3, []), (0, 7, [6, 44, 45, 0, 0, 1]), (5, 3, []), (1, 48, []), (0, 3, [6, 20, 23, 1, 1, 1, 47, 48, 49, 50, 0, 0, 0, 0, 0, 0, 0, 0]), (1, 6, []), (1, 6, []), (1, 6, []), (1, 6, []), (0, 3, [6, 20, 23, 1, 1, 1, 52, 53, 54, 55, 0, 0, 0, 0, 0, 0, 0, 0]), (1, 6, []), (1, 6, []), (1, 6, []), (1, 6, []), (0, 3, [6, 20, 23, 1, 1, 1, 57, 58, 59, 60, 0, 0, 0, 0, 0, 0, 0, 0]), (1, 6, []), (1, 6, []), (1, 6, []), (1, 6, []), (0, 9, [6, 62, 63, 0]), (1, 8, []), (1, 8, []), (0, 0, [65, 0, 0, 0, 0]), (0, 3, [6, 20, 23, 1, 1, 1, 66, 67, 68, 69, 0, 0, 0, 0, 0, 0, 0, 0]), (1, 6, []), (1, 6, []), (1, 6, []), (1, 6, []), (0, 2, [71, 0, 0, 0]), (1, 21, []), (1, 3, [])]
def shArr (n : Nat) : List k_Sh := [(1, n, [])]
theorem fl_X11_348 : k_FL RX11 348 11 44 := ⟨_, _, _, rfl, in_X11, by decide, Or.inl (k_me (tm7 (List.mem_of_getElem? (i := 39) rfl)) rfl)⟩
theorem fp_X11_348 : k_FP RX11 348 11 44 .int := ⟨_, _, _, tyX11, rfl, in_X11, tyX11_ok, nmX11, by decide, rfl, by decide +kernel, Or.inl (k_me (tm7 (List.mem_of_getElem? (i := 39) rfl)) rfl)⟩
theorem fl_X11_71 : k_FL RX11 71 11 40 := ⟨_, _, _, rfl, in_X11, by decide, Or.inl (k_me (tm7 (List.mem_of_getElem? (i := 35) rfl)) rfl)⟩
theorem fl_X11_354 : k_FL RX11 354 11 46 := ⟨_, _, _, rfl, in_X11, by decide, Or.inl (k_me (tm7 (List.mem_of_getElem? (i := 41) rfl)) rfl)⟩
theorem fp_X11_354 : k_FP RX11 354 11 46 .int := ⟨_, _, _, tyX11, rfl, in_X11, tyX11_ok, nmX11, by decide, rfl, by decide +kernel, Or.inl (k_me (tm7 (List.mem_of_getElem? (i := 41) rfl)) rfl)⟩
theorem fl_X11_351 : k_FL RX11 351 11 45 := ⟨_, _, _, rfl, in_X11, by decide, Or.inl (k_me (tm7 (List.mem_of_getElem? (i := 40) rfl)) rfl)⟩
theorem fp_X11_351 : k_FP RX11 351 11 45 .int := ⟨_, _, _, tyX11, rfl, in_X11, tyX11_ok, nmX11, by decide, rfl, by decide +kernel, Or.inl (k_me (tm7 (List.mem_of_getElem? (i := 40) rfl)) rfl)⟩
theorem fl_X11_421 : k_FL RX11 421 11 56 := ⟨_, _, _, rfl, in_X11, by decide, Or.inl (k_me (tm7 (List.mem_of_getElem? (i := 51) rfl)) rfl)⟩
theorem fl_X11_424 : k_FL RX11 424 11 57 := ⟨_, _, _, rfl, in_X11, by decide, Or.inl (k_me (tm7 (List.mem_of_getElem? (i := 52) rfl)) rfl)⟩
theorem fl_X11_96 : k_FL RX11 96 11 55 := ⟨_, _, _, rfl, in_X11, by decide, Or.inl (k_me (tm7 (List.mem_of_getElem? (i := 50) rfl)) rfl)⟩
theorem ct_X11_431 : Cond.constantLong RX11 431 (64) ∈ k_tb := (k_me (tm9 (List.mem_of_getElem? (i := 15) rfl)) rfl)
theorem fp_X11_421 : k_FP RX11 421 11 56 .int := ⟨_, _, _, tyX11, rfl, in_X11, tyX11_ok, nmX11, by decide, rfl, by decide +kernel, Or.inl (k_me (tm7 (List.mem_of_getElem? (i := 51) rfl)) rfl)⟩
theorem fp_X11_424 : k_FP RX11 424 11 57 .int := ⟨_, _, _, tyX11, rfl, in_X11, tyX11_ok, nmX11, by decide, rfl, by decide +kernel, Or.inl (k_me (tm7 (List.mem_of_getElem? (i := 52) rfl)) rfl)⟩
theorem ct_X11_446 : Cond.constantLong RX11 446 (-1) ∈ k_tb := (k_me (tm9 (List.mem_of_getElem? (i := 40) rfl)) rfl)
theorem in_X8 : ∀ w ∈ u_ws RX8 TX8 7, w ∈ k_tb := by decide +kernel
theorem fl_X8_19 : k_FL RX8 19 8 1 := ⟨_, _, _, rfl, in_X8, by decide, Or.inl (k_me (tm1 (List.mem_of_getElem? (i := 44) rfl)) rfl)⟩
theorem fl_X8_9 : k_FL RX8 9 8 0 := ⟨_, _, _, rfl, in_X8, by decide, Or.inl (k_me (tm1 (List.mem_of_getElem? (i := 42) rfl)) rfl)⟩
theorem fp_X8_19 : k_FP RX8 19 8 1 .int := ⟨_, _, _, tyX8, rfl, in_X8, tyX8_ok, nmX8, by decide, rfl, by decide +kernel, Or.inl (k_me (tm1 (List.mem_of_getElem? (i := 44) rfl)) rfl)⟩
theorem lk_X8_22 : k_lk RX8 22 yJ9_min_7cf53 := Or.inl (k_me (tm3 (List.mem_of_getElem? (i := 216) rfl)) rfl)
theorem lm_X8_22 : Cond.methodLink RX8 22 Lib.Math.min.name ∈ k_tb := (k_me (tm3 (List.mem_of_getElem? (i := 216) rfl)) rfl)
theorem fp_X8_28 : k_FP RX8 28 8 2 .int := ⟨_, _, _, tyX8, rfl, in_X8, tyX8_ok, nmX8, by decide, rfl, by decide +kernel, Or.inl (k_me (tm1 (List.mem_of_getElem? (i := 45) rfl)) rfl)⟩
theorem fp_X8_31 : k_FP RX8 31 8 3 .int := ⟨_, _, _, tyX8, rfl, in_X8, tyX8_ok, nmX8, by decide, rfl, by decide +kernel, Or.inl (k_me (tm1 (List.mem_of_getElem? (i := 46) rfl)) rfl)⟩
theorem fp_X8_34 : k_FP RX8 34 8 4 .int := ⟨_, _, _, tyX8, rfl, in_X8, tyX8_ok, nmX8, by decide, rfl, by decide +kernel, Or.inl (k_me (tm1 (List.mem_of_getElem? (i := 47) rfl)) rfl)⟩
theorem fp_X8_37 : k_FP RX8 37 8 5 .int := ⟨_, _, _, tyX8, rfl, in_X8, tyX8_ok, nmX8, by decide, rfl, by decide +kernel, Or.inl (k_me (tm1 (List.mem_of_getElem? (i := 52) rfl)) rfl)⟩
theorem fp_X8_15 : k_FP RX8 15 8 6 .int := ⟨_, _, _, tyX8, rfl, in_X8, tyX8_ok, nmX8, by decide, rfl, by decide +kernel, Or.inl (k_me (tm1 (List.mem_of_getElem? (i := 54) rfl)) rfl)⟩
theorem fl_X8_37 : k_FL RX8 37 8 5 := ⟨_, _, _, rfl, in_X8, by decide, Or.inl (k_me (tm1 (List.mem_of_getElem? (i := 52) rfl)) rfl)⟩
theorem fl_X8_31 : k_FL RX8 31 8 3 := ⟨_, _, _, rfl, in_X8, by decide, Or.inl (k_me (tm1 (List.mem_of_getElem? (i := 46) rfl)) rfl)⟩
theorem fl_X8_28 : k_FL RX8 28 8 2 := ⟨_, _, _, rfl, in_X8, by decide, Or.inl (k_me (tm1 (List.mem_of_getElem? (i := 45) rfl)) rfl)⟩
theorem fl_X8_34 : k_FL RX8 34 8 4 := ⟨_, _, _, rfl, in_X8, by decide, Or.inl (k_me (tm1 (List.mem_of_getElem? (i := 47) rfl)) rfl)⟩
theorem in_X5 : ∀ w ∈ u_ws RX5 TX5 14, w ∈ k_tb := by decide +kernel
theorem fp_X5_36 : k_FP RX5 36 5 0 .int := ⟨_, _, _, tyX5, rfl, in_X5, tyX5_ok, nmX5, by decide, rfl, by decide +kernel, Or.inl (k_me (tm1 (List.mem_of_getElem? (i := 89) rfl)) rfl)⟩
theorem fp_X5_40 : k_FP RX5 40 5 1 .int := ⟨_, _, _, tyX5, rfl, in_X5, tyX5_ok, nmX5, by decide, rfl, by decide +kernel, Or.inl (k_me (tm1 (List.mem_of_getElem? (i := 93) rfl)) rfl)⟩
theorem fl_X5_9 : k_FL RX5 9 5 2 := ⟨_, _, _, rfl, in_X5, by decide, Or.inl (k_me (tm1 (List.mem_of_getElem? (i := 99) rfl)) rfl)⟩
theorem fl_X5_15 : k_FL RX5 15 5 3 := ⟨_, _, _, rfl, in_X5, by decide, Or.inl (k_me (tm1 (List.mem_of_getElem? (i := 104) rfl)) rfl)⟩
theorem fl_X5_18 : k_FL RX5 18 5 4 := ⟨_, _, _, rfl, in_X5, by decide, Or.inl (k_me (tm1 (List.mem_of_getElem? (i := 107) rfl)) rfl)⟩
theorem fp_X5_49 : k_FP RX5 49 5 6 .long := ⟨_, _, _, tyX5, rfl, in_X5, tyX5_ok, nmX5, by decide, rfl, by decide +kernel, Or.inl (k_me (tm1 (List.mem_of_getElem? (i := 113) rfl)) rfl)⟩
theorem fp_X5_53 : k_FP RX5 53 5 7 .int := ⟨_, _, _, tyX5, rfl, in_X5, tyX5_ok, nmX5, by decide, rfl, by decide +kernel, Or.inl (k_me (tm1 (List.mem_of_getElem? (i := 115) rfl)) rfl)⟩
theorem fp_X5_56 : k_FP RX5 56 5 8 .int := ⟨_, _, _, tyX5, rfl, in_X5, tyX5_ok, nmX5, by decide, rfl, by decide +kernel, Or.inl (k_me (tm1 (List.mem_of_getElem? (i := 116) rfl)) rfl)⟩
theorem fp_X5_59 : k_FP RX5 59 5 9 .int := ⟨_, _, _, tyX5, rfl, in_X5, tyX5_ok, nmX5, by decide, rfl, by decide +kernel, Or.inl (k_me (tm1 (List.mem_of_getElem? (i := 119) rfl)) rfl)⟩
theorem fp_X5_62 : k_FP RX5 62 5 10 .int := ⟨_, _, _, tyX5, rfl, in_X5, tyX5_ok, nmX5, by decide, rfl, by decide +kernel, Or.inl (k_me (tm1 (List.mem_of_getElem? (i := 121) rfl)) rfl)⟩
theorem fp_X5_65 : k_FP RX5 65 5 5 .long := ⟨_, _, _, tyX5, rfl, in_X5, tyX5_ok, nmX5, by decide, rfl, by decide +kernel, Or.inl (k_me (tm1 (List.mem_of_getElem? (i := 110) rfl)) rfl)⟩
theorem fl_X5_40 : k_FL RX5 40 5 1 := ⟨_, _, _, rfl, in_X5, by decide, Or.inl (k_me (tm1 (List.mem_of_getElem? (i := 93) rfl)) rfl)⟩
theorem fl_X5_65 : k_FL RX5 65 5 5 := ⟨_, _, _, rfl, in_X5, by decide, Or.inl (k_me (tm1 (List.mem_of_getElem? (i := 110) rfl)) rfl)⟩
theorem fl_X5_36 : k_FL RX5 36 5 0 := ⟨_, _, _, rfl, in_X5, by decide, Or.inl (k_me (tm1 (List.mem_of_getElem? (i := 89) rfl)) rfl)⟩
theorem fl_X5_62 : k_FL RX5 62 5 10 := ⟨_, _, _, rfl, in_X5, by decide, Or.inl (k_me (tm1 (List.mem_of_getElem? (i := 121) rfl)) rfl)⟩
theorem fl_X5_24 : k_FL RX5 24 5 12 := ⟨_, _, _, rfl, in_X5, by decide, Or.inl (k_me (tm1 (List.mem_of_getElem? (i := 128) rfl)) rfl)⟩
theorem fl_X5_27 : k_FL RX5 27 5 13 := ⟨_, _, _, rfl, in_X5, by decide, Or.inl (k_me (tm1 (List.mem_of_getElem? (i := 130) rfl)) rfl)⟩
theorem lk_X8_48 : k_lk RX8 48 yJ0_length_8abf5 := Or.inl (k_me (tm4 (List.mem_of_getElem? (i := 0) rfl)) rfl)
theorem lk_X8_53 : k_lk RX8 53 yJ0_charAt_5068e := Or.inl (k_me (tm4 (List.mem_of_getElem? (i := 10) rfl)) rfl)
theorem fl_X5_94 : k_FL RX5 94 8 4 := ⟨_, _, _, rfl, in_X8, by decide, Or.inl (k_me (tm1 (List.mem_of_getElem? (i := 50) rfl)) rfl)⟩
theorem fl_X5_53 : k_FL RX5 53 5 7 := ⟨_, _, _, rfl, in_X5, by decide, Or.inl (k_me (tm1 (List.mem_of_getElem? (i := 115) rfl)) rfl)⟩
theorem fl_X5_49 : k_FL RX5 49 5 6 := ⟨_, _, _, rfl, in_X5, by decide, Or.inl (k_me (tm1 (List.mem_of_getElem? (i := 113) rfl)) rfl)⟩
theorem fl_X5_21 : k_FL RX5 21 5 11 := ⟨_, _, _, rfl, in_X5, by decide, Or.inl (k_me (tm1 (List.mem_of_getElem? (i := 125) rfl)) rfl)⟩
theorem lk_X5_136 : k_lk RX5 136 yJ9_min_7cf53 := Or.inl (k_me (tm4 (List.mem_of_getElem? (i := 98) rfl)) rfl)
theorem lm_X5_136 : Cond.methodLink RX5 136 Lib.Math.min.name ∈ k_tb := (k_me (tm4 (List.mem_of_getElem? (i := 98) rfl)) rfl)
theorem lm_X5_68 : Cond.methodLink RX5 68 arraycopyName ∈ k_tb := (k_me (tm4 (List.mem_of_getElem? (i := 108) rfl)) rfl)
theorem fl_X5_56 : k_FL RX5 56 5 8 := ⟨_, _, _, rfl, in_X5, by decide, Or.inl (k_me (tm1 (List.mem_of_getElem? (i := 116) rfl)) rfl)⟩
theorem fl_X5_59 : k_FL RX5 59 5 9 := ⟨_, _, _, rfl, in_X5, by decide, Or.inl (k_me (tm1 (List.mem_of_getElem? (i := 119) rfl)) rfl)⟩
theorem in_X1 : ∀ w ∈ u_ws RX1 TX1 3, w ∈ k_tb := by decide +kernel
theorem fp_X1_18 : k_FP RX1 18 1 2 .int := ⟨_, _, _, tyX1, rfl, in_X1, tyX1_ok, nmX1, by decide, rfl, by decide +kernel, Or.inl (k_me (tm1 (List.mem_of_getElem? (i := 170) rfl)) rfl)⟩
theorem fl_X1_18 : k_FL RX1 18 1 2 := ⟨_, _, _, rfl, in_X1, by decide, Or.inl (k_me (tm1 (List.mem_of_getElem? (i := 170) rfl)) rfl)⟩
theorem fl_X1_9 : k_FL RX1 9 1 0 := ⟨_, _, _, rfl, in_X1, by decide, Or.inl (k_me (tm1 (List.mem_of_getElem? (i := 168) rfl)) rfl)⟩
theorem lm_X1_26 : Cond.methodLink RX1 26 arraycopyName ∈ k_tb := (k_me (tm4 (List.mem_of_getElem? (i := 175) rfl)) rfl)
theorem fl_X1_15 : k_FL RX1 15 1 1 := ⟨_, _, _, rfl, in_X1, by decide, Or.inl (k_me (tm1 (List.mem_of_getElem? (i := 169) rfl)) rfl)⟩
theorem in_X3 : ∀ w ∈ u_ws RX3 TX3 18, w ∈ k_tb := by decide +kernel
theorem fl_X3_24 : k_FL RX3 24 3 0 := ⟨_, _, _, rfl, in_X3, by decide, Or.inl (k_me (tm1 (List.mem_of_getElem? (i := 196) rfl)) rfl)⟩
theorem fl_X3_137 : k_FL RX3 137 5 2 := ⟨_, _, _, rfl, in_X5, by decide, Or.inl (k_me (tm1 (List.mem_of_getElem? (i := 103) rfl)) rfl)⟩
theorem fl_X3_127 : k_FL RX3 127 5 3 := ⟨_, _, _, rfl, in_X5, by decide, Or.inl (k_me (tm1 (List.mem_of_getElem? (i := 106) rfl)) rfl)⟩
theorem fl_X3_39 : k_FL RX3 39 3 4 := ⟨_, _, _, rfl, in_X3, by decide, Or.inl (k_me (tm1 (List.mem_of_getElem? (i := 201) rfl)) rfl)⟩
theorem fl_X3_35 : k_FL RX3 35 3 3 := ⟨_, _, _, rfl, in_X3, by decide, Or.inl (k_me (tm1 (List.mem_of_getElem? (i := 199) rfl)) rfl)⟩
theorem fl_X3_51 : k_FL RX3 51 3 10 := ⟨_, _, _, rfl, in_X3, by decide, Or.inl (k_me (tm1 (List.mem_of_getElem? (i := 214) rfl)) rfl)⟩
theorem fp_X3_35 : k_FP RX3 35 3 3 .long := ⟨_, _, _, tyX3, rfl, in_X3, tyX3_ok, nmX3, by decide, rfl, by decide +kernel, Or.inl (k_me (tm1 (List.mem_of_getElem? (i := 199) rfl)) rfl)⟩
theorem fp_X3_39 : k_FP RX3 39 3 4 .long := ⟨_, _, _, tyX3, rfl, in_X3, tyX3_ok, nmX3, by decide, rfl, by decide +kernel, Or.inl (k_me (tm1 (List.mem_of_getElem? (i := 201) rfl)) rfl)⟩
theorem fp_X3_42 : k_FP RX3 42 3 5 .long := ⟨_, _, _, tyX3, rfl, in_X3, tyX3_ok, nmX3, by decide, rfl, by decide +kernel, Or.inl (k_me (tm1 (List.mem_of_getElem? (i := 203) rfl)) rfl)⟩
theorem fl_X3_9 : k_FL RX3 9 3 6 := ⟨_, _, _, rfl, in_X3, by decide, Or.inl (k_me (tm1 (List.mem_of_getElem? (i := 204) rfl)) rfl)⟩
theorem fl_X3_15 : k_FL RX3 15 3 7 := ⟨_, _, _, rfl, in_X3, by decide, Or.inl (k_me (tm1 (List.mem_of_getElem? (i := 207) rfl)) rfl)⟩
theorem fl_X3_18 : k_FL RX3 18 3 8 := ⟨_, _, _, rfl, in_X3, by decide, Or.inl (k_me (tm1 (List.mem_of_getElem? (i := 209) rfl)) rfl)⟩
theorem fl_X3_21 : k_FL RX3 21 3 9 := ⟨_, _, _, rfl, in_X3, by decide, Or.inl (k_me (tm1 (List.mem_of_getElem? (i := 211) rfl)) rfl)⟩
theorem fp_X3_51 : k_FP RX3 51 3 10 .int := ⟨_, _, _, tyX3, rfl, in_X3, tyX3_ok, nmX3, by decide, rfl, by decide +kernel, Or.inl (k_me (tm1 (List.mem_of_getElem? (i := 214) rfl)) rfl)⟩
theorem fp_X3_55 : k_FP RX3 55 3 11 .int := ⟨_, _, _, tyX3, rfl, in_X3, tyX3_ok, nmX3, by decide, rfl, by decide +kernel, Or.inl (k_me (tm1 (List.mem_of_getElem? (i := 216) rfl)) rfl)⟩
theorem fl_X3_58 : k_FL RX3 58 5 9 := ⟨_, _, _, rfl, in_X5, by decide, Or.inl (k_me (tm1 (List.mem_of_getElem? (i := 120) rfl)) rfl)⟩
theorem fp_X3_63 : k_FP RX3 63 3 12 .int := ⟨_, _, _, tyX3, rfl, in_X3, tyX3_ok, nmX3, by decide, rfl, by decide +kernel, Or.inl (k_me (tm1 (List.mem_of_getElem? (i := 218) rfl)) rfl)⟩
theorem fp_X3_66 : k_FP RX3 66 3 13 .int := ⟨_, _, _, tyX3, rfl, in_X3, tyX3_ok, nmX3, by decide, rfl, by decide +kernel, Or.inl (k_me (tm1 (List.mem_of_getElem? (i := 220) rfl)) rfl)⟩
theorem fp_X3_69 : k_FP RX3 69 3 14 .int := ⟨_, _, _, tyX3, rfl, in_X3, tyX3_ok, nmX3, by decide, rfl, by decide +kernel, Or.inl (k_me (tm1 (List.mem_of_getElem? (i := 222) rfl)) rfl)⟩
theorem fl_X3_72 : k_FL RX3 72 5 1 := ⟨_, _, _, rfl, in_X5, by decide, Or.inl (k_me (tm1 (List.mem_of_getElem? (i := 94) rfl)) rfl)⟩
theorem fp_X3_75 : k_FP RX3 75 3 15 .int := ⟨_, _, _, tyX3, rfl, in_X3, tyX3_ok, nmX3, by decide, rfl, by decide +kernel, Or.inl (k_me (tm1 (List.mem_of_getElem? (i := 225) rfl)) rfl)⟩
theorem fp_X3_78 : k_FP RX3 78 3 16 .int := ⟨_, _, _, tyX3, rfl, in_X3, tyX3_ok, nmX3, by decide, rfl, by decide +kernel, Or.inl (k_me (tm1 (List.mem_of_getElem? (i := 227) rfl)) rfl)⟩
theorem fp_X3_81 : k_FP RX3 81 3 17 .int := ⟨_, _, _, tyX3, rfl, in_X3, tyX3_ok, nmX3, by decide, rfl, by decide +kernel, Or.inl (k_me (tm1 (List.mem_of_getElem? (i := 230) rfl)) rfl)⟩
theorem ct_X3_97 : Cond.constantLong RX3 97 (-72340172838076674) ∈ k_tb := (k_me (tm3 (List.mem_of_getElem? (i := 94) rfl)) rfl)
theorem ct_X3_99 : Cond.constantLong RX3 99 (9187201950435737471) ∈ k_tb := (k_me (tm3 (List.mem_of_getElem? (i := 95) rfl)) rfl)
theorem fl_X3_109 : k_FL RX3 109 5 6 := ⟨_, _, _, rfl, in_X5, by decide, Or.inl (k_me (tm1 (List.mem_of_getElem? (i := 114) rfl)) rfl)⟩
theorem fl_X3_112 : k_FL RX3 112 5 5 := ⟨_, _, _, rfl, in_X5, by decide, Or.inl (k_me (tm1 (List.mem_of_getElem? (i := 111) rfl)) rfl)⟩
theorem ct_X3_115 : Cond.constantLong RX3 115 (-1) ∈ k_tb := (k_me (tm3 (List.mem_of_getElem? (i := 96) rfl)) rfl)
theorem fl_X3_75 : k_FL RX3 75 3 15 := ⟨_, _, _, rfl, in_X3, by decide, Or.inl (k_me (tm1 (List.mem_of_getElem? (i := 225) rfl)) rfl)⟩
theorem fl_X3_42 : k_FL RX3 42 3 5 := ⟨_, _, _, rfl, in_X3, by decide, Or.inl (k_me (tm1 (List.mem_of_getElem? (i := 203) rfl)) rfl)⟩
theorem fl_X3_134 : k_FL RX3 134 5 4 := ⟨_, _, _, rfl, in_X5, by decide, Or.inl (k_me (tm1 (List.mem_of_getElem? (i := 109) rfl)) rfl)⟩
theorem fl_X3_32 : k_FL RX3 32 3 2 := ⟨_, _, _, rfl, in_X3, by decide, Or.inl (k_me (tm1 (List.mem_of_getElem? (i := 198) rfl)) rfl)⟩
theorem fl_X3_28 : k_FL RX3 28 3 1 := ⟨_, _, _, rfl, in_X3, by decide, Or.inl (k_me (tm1 (List.mem_of_getElem? (i := 197) rfl)) rfl)⟩
theorem fl_X3_55 : k_FL RX3 55 3 11 := ⟨_, _, _, rfl, in_X3, by decide, Or.inl (k_me (tm1 (List.mem_of_getElem? (i := 216) rfl)) rfl)⟩
theorem fl_X3_159 : k_FL RX3 159 5 8 := ⟨_, _, _, rfl, in_X5, by decide, Or.inl (k_me (tm1 (List.mem_of_getElem? (i := 118) rfl)) rfl)⟩
theorem fl_X3_78 : k_FL RX3 78 3 16 := ⟨_, _, _, rfl, in_X3, by decide, Or.inl (k_me (tm1 (List.mem_of_getElem? (i := 227) rfl)) rfl)⟩
theorem fl_X3_69 : k_FL RX3 69 3 14 := ⟨_, _, _, rfl, in_X3, by decide, Or.inl (k_me (tm1 (List.mem_of_getElem? (i := 222) rfl)) rfl)⟩
theorem lk_X3_165 : k_lk RX3 165 yJ9_min_7cf53 := Or.inl (k_me (tm5 (List.mem_of_getElem? (i := 21) rfl)) rfl)
theorem lm_X3_165 : Cond.methodLink RX3 165 Lib.Math.min.name ∈ k_tb := (k_me (tm5 (List.mem_of_getElem? (i := 21) rfl)) rfl)
theorem fl_X3_81 : k_FL RX3 81 3 17 := ⟨_, _, _, rfl, in_X3, by decide, Or.inl (k_me (tm1 (List.mem_of_getElem? (i := 230) rfl)) rfl)⟩
theorem ct_J13_314 : Cond.constantLong RJ13 314 (6148914691236517205) ∈ k_tb := (k_me (tm5 (List.mem_of_getElem? (i := 29) rfl)) rfl)
theorem ct_J13_316 : Cond.constantLong RJ13 316 (3689348814741910323) ∈ k_tb := (k_me (tm5 (List.mem_of_getElem? (i := 30) rfl)) rfl)
theorem ct_J13_318 : Cond.constantLong RJ13 318 (1085102592571150095) ∈ k_tb := (k_me (tm5 (List.mem_of_getElem? (i := 31) rfl)) rfl)
theorem fl_X3_63 : k_FL RX3 63 3 12 := ⟨_, _, _, rfl, in_X3, by decide, Or.inl (k_me (tm1 (List.mem_of_getElem? (i := 218) rfl)) rfl)⟩
theorem fl_X3_66 : k_FL RX3 66 3 13 := ⟨_, _, _, rfl, in_X3, by decide, Or.inl (k_me (tm1 (List.mem_of_getElem? (i := 220) rfl)) rfl)⟩
theorem fl_X3_183 : k_FL RX3 183 5 10 := ⟨_, _, _, rfl, in_X5, by decide, Or.inl (k_me (tm1 (List.mem_of_getElem? (i := 124) rfl)) rfl)⟩
theorem fl_X3_186 : k_FL RX3 186 5 11 := ⟨_, _, _, rfl, in_X5, by decide, Or.inl (k_me (tm1 (List.mem_of_getElem? (i := 127) rfl)) rfl)⟩
theorem lk_X3_199 : k_lk RX3 199 yJ9_max_7cf53 := Or.inl (k_me (tm5 (List.mem_of_getElem? (i := 56) rfl)) rfl)
theorem lm_X3_199 : Cond.methodLink RX3 199 Lib.Math.max.name ∈ k_tb := (k_me (tm5 (List.mem_of_getElem? (i := 56) rfl)) rfl)
theorem lm_X3_84 : Cond.methodLink RX3 84 arraycopyName ∈ k_tb := (k_me (tm2 (List.mem_of_getElem? (i := 112) rfl)) rfl)
theorem fl_X7_33 : k_FL RX7 33 3 3 := ⟨_, _, _, rfl, in_X3, by decide, Or.inl (k_me (tm1 (List.mem_of_getElem? (i := 200) rfl)) rfl)⟩
theorem ct_J6_265 : Cond.constant RJ6 265 (1431655765) ∈ k_tb := (k_me (tm6 (List.mem_of_getElem? (i := 57) rfl)) rfl)
theorem ct_J6_266 : Cond.constant RJ6 266 (858993459) ∈ k_tb := (k_me (tm6 (List.mem_of_getElem? (i := 58) rfl)) rfl)
theorem ct_J6_267 : Cond.constant RJ6 267 (252645135) ∈ k_tb := (k_me (tm6 (List.mem_of_getElem? (i := 59) rfl)) rfl)
theorem ct_X7_81 : Cond.constantLong RX7 81 (-1) ∈ k_tb := (k_me (tm6 (List.mem_of_getElem? (i := 22) rfl)) rfl)
theorem fp_X7_33 : k_FP RX7 33 3 3 .long := ⟨_, _, _, tyX3, rfl, in_X3, tyX3_ok, nmX3, by decide, rfl, by decide +kernel, Or.inl (k_me (tm1 (List.mem_of_getElem? (i := 200) rfl)) rfl)⟩
theorem fl_X7_139 : k_FL RX7 139 3 4 := ⟨_, _, _, rfl, in_X3, by decide, Or.inl (k_me (tm1 (List.mem_of_getElem? (i := 202) rfl)) rfl)⟩
theorem fp_X7_139 : k_FP RX7 139 3 4 .long := ⟨_, _, _, tyX3, rfl, in_X3, tyX3_ok, nmX3, by decide, rfl, by decide +kernel, Or.inl (k_me (tm1 (List.mem_of_getElem? (i := 202) rfl)) rfl)⟩
theorem in_X9 : ∀ w ∈ u_ws RX9 TX9 4, w ∈ k_tb := by decide +kernel
theorem fl_X9_9 : k_FL RX9 9 9 1 := ⟨_, _, _, rfl, in_X9, by decide, Or.inl (k_me (tm2 (List.mem_of_getElem? (i := 144) rfl)) rfl)⟩
theorem fp_X9_28 : k_FP RX9 28 9 3 .int := ⟨_, _, _, tyX9, rfl, in_X9, tyX9_ok, nmX9, by decide, rfl, by decide +kernel, Or.inl (k_me (tm2 (List.mem_of_getElem? (i := 146) rfl)) rfl)⟩
theorem fl_X9_18 : k_FL RX9 18 9 0 := ⟨_, _, _, rfl, in_X9, by decide, Or.inl (k_me (tm2 (List.mem_of_getElem? (i := 143) rfl)) rfl)⟩
theorem fl_X9_67 : k_FL RX9 67 5 1 := ⟨_, _, _, rfl, in_X5, by decide, Or.inl (k_me (tm1 (List.mem_of_getElem? (i := 95) rfl)) rfl)⟩
theorem fl_X9_62 : k_FL RX9 62 5 0 := ⟨_, _, _, rfl, in_X5, by decide, Or.inl (k_me (tm1 (List.mem_of_getElem? (i := 90) rfl)) rfl)⟩
theorem fl_X9_70 : k_FL RX9 70 5 2 := ⟨_, _, _, rfl, in_X5, by decide, Or.inl (k_me (tm1 (List.mem_of_getElem? (i := 100) rfl)) rfl)⟩
theorem lk_X9_90 : k_lk RX9 90 yJ9_max_7cf53 := Or.inl (k_me (tm6 (List.mem_of_getElem? (i := 119) rfl)) rfl)
theorem lm_X9_90 : Cond.methodLink RX9 90 Lib.Math.max.name ∈ k_tb := (k_me (tm6 (List.mem_of_getElem? (i := 119) rfl)) rfl)
theorem fl_X9_15 : k_FL RX9 15 9 2 := ⟨_, _, _, rfl, in_X9, by decide, Or.inl (k_me (tm2 (List.mem_of_getElem? (i := 145) rfl)) rfl)⟩
theorem fl_X9_42 : k_FL RX9 42 8 4 := ⟨_, _, _, rfl, in_X8, by decide, Or.inl (k_me (tm1 (List.mem_of_getElem? (i := 48) rfl)) rfl)⟩
theorem lm_X9_56 : Cond.methodLink RX9 56 arraycopyName ∈ k_tb := (k_me (tm5 (List.mem_of_getElem? (i := 80) rfl)) rfl)
theorem in_X0 : ∀ w ∈ u_ws RX0 TX0 5, w ∈ k_tb := by decide +kernel
theorem fl_X0_13 : k_FL RX0 13 0 0 := ⟨_, _, _, rfl, in_X0, by decide, Or.inl (k_me (tm2 (List.mem_of_getElem? (i := 164) rfl)) rfl)⟩
theorem fp_X0_23 : k_FP RX0 23 0 3 .int := ⟨_, _, _, tyX0, rfl, in_X0, tyX0_ok, nmX0, by decide, rfl, by decide +kernel, Or.inl (k_me (tm2 (List.mem_of_getElem? (i := 169) rfl)) rfl)⟩
theorem fl_X0_35 : k_FL RX0 35 3 16 := ⟨_, _, _, rfl, in_X3, by decide, Or.inl (k_me (tm1 (List.mem_of_getElem? (i := 228) rfl)) rfl)⟩
theorem fp_X0_38 : k_FP RX0 38 0 1 .int := ⟨_, _, _, tyX0, rfl, in_X0, tyX0_ok, nmX0, by decide, rfl, by decide +kernel, Or.inl (k_me (tm2 (List.mem_of_getElem? (i := 165) rfl)) rfl)⟩
theorem fl_X0_41 : k_FL RX0 41 3 17 := ⟨_, _, _, rfl, in_X3, by decide, Or.inl (k_me (tm1 (List.mem_of_getElem? (i := 231) rfl)) rfl)⟩
theorem fp_X0_44 : k_FP RX0 44 0 2 .int := ⟨_, _, _, tyX0, rfl, in_X0, tyX0_ok, nmX0, by decide, rfl, by decide +kernel, Or.inl (k_me (tm2 (List.mem_of_getElem? (i := 167) rfl)) rfl)⟩
theorem fl_X0_45 : k_FL RX0 45 3 14 := ⟨_, _, _, rfl, in_X3, by decide, Or.inl (k_me (tm1 (List.mem_of_getElem? (i := 223) rfl)) rfl)⟩
theorem fp_X0_48 : k_FP RX0 48 0 4 .int := ⟨_, _, _, tyX0, rfl, in_X0, tyX0_ok, nmX0, by decide, rfl, by decide +kernel, Or.inl (k_me (tm2 (List.mem_of_getElem? (i := 171) rfl)) rfl)⟩
theorem ct_X0_27 : Cond.constant RX0 27 (1103515245) ∈ k_tb := (k_me (tm6 (List.mem_of_getElem? (i := 177) rfl)) rfl)
theorem fl_X0_23 : k_FL RX0 23 0 3 := ⟨_, _, _, rfl, in_X0, by decide, Or.inl (k_me (tm2 (List.mem_of_getElem? (i := 169) rfl)) rfl)⟩
theorem in_X2 : ∀ w ∈ u_ws RX2 TX2 4, w ∈ k_tb := by decide +kernel
theorem fp_X2_15 : k_FP RX2 15 2 1 .int := ⟨_, _, _, tyX2, rfl, in_X2, tyX2_ok, nmX2, by decide, rfl, by decide +kernel, Or.inl (k_me (tm2 (List.mem_of_getElem? (i := 191) rfl)) rfl)⟩
theorem fp_X2_19 : k_FP RX2 19 2 2 .int := ⟨_, _, _, tyX2, rfl, in_X2, tyX2_ok, nmX2, by decide, rfl, by decide +kernel, Or.inl (k_me (tm2 (List.mem_of_getElem? (i := 193) rfl)) rfl)⟩
theorem fp_X2_22 : k_FP RX2 22 2 3 .int := ⟨_, _, _, tyX2, rfl, in_X2, tyX2_ok, nmX2, by decide, rfl, by decide +kernel, Or.inl (k_me (tm2 (List.mem_of_getElem? (i := 195) rfl)) rfl)⟩
theorem lk_X2_25 : k_lk RX2 25 yJ9_min_7cf53 := Or.inl (k_me (tm6 (List.mem_of_getElem? (i := 142) rfl)) rfl)
theorem lm_X2_25 : Cond.methodLink RX2 25 Lib.Math.min.name ∈ k_tb := (k_me (tm6 (List.mem_of_getElem? (i := 142) rfl)) rfl)
theorem fl_X2_9 : k_FL RX2 9 2 0 := ⟨_, _, _, rfl, in_X2, by decide, Or.inl (k_me (tm2 (List.mem_of_getElem? (i := 190) rfl)) rfl)⟩
theorem lk_X2_35 : k_lk RX2 35 yJ9_max_7cf53 := Or.inl (k_me (tm6 (List.mem_of_getElem? (i := 146) rfl)) rfl)
theorem lm_X2_35 : Cond.methodLink RX2 35 Lib.Math.max.name ∈ k_tb := (k_me (tm6 (List.mem_of_getElem? (i := 146) rfl)) rfl)
theorem fl_X2_15 : k_FL RX2 15 2 1 := ⟨_, _, _, rfl, in_X2, by decide, Or.inl (k_me (tm2 (List.mem_of_getElem? (i := 191) rfl)) rfl)⟩
theorem in_X7 : ∀ w ∈ u_ws RX7 TX7 6, w ∈ k_tb := by decide +kernel
theorem fl_X7_13 : k_FL RX7 13 7 1 := ⟨_, _, _, rfl, in_X7, by decide, Or.inl (k_me (tm2 (List.mem_of_getElem? (i := 116) rfl)) rfl)⟩
theorem fp_X7_47 : k_FP RX7 47 7 3 .int := ⟨_, _, _, tyX7, rfl, in_X7, tyX7_ok, nmX7, by decide, rfl, by decide +kernel, Or.inl (k_me (tm2 (List.mem_of_getElem? (i := 118) rfl)) rfl)⟩
theorem fp_X7_51 : k_FP RX7 51 7 4 .int := ⟨_, _, _, tyX7, rfl, in_X7, tyX7_ok, nmX7, by decide, rfl, by decide +kernel, Or.inl (k_me (tm2 (List.mem_of_getElem? (i := 120) rfl)) rfl)⟩
theorem fp_X7_54 : k_FP RX7 54 7 5 .long := ⟨_, _, _, tyX7, rfl, in_X7, tyX7_ok, nmX7, by decide, rfl, by decide +kernel, Or.inl (k_me (tm2 (List.mem_of_getElem? (i := 121) rfl)) rfl)⟩
theorem ct_X7_68 : Cond.constantLong RX7 68 (64) ∈ k_tb := (k_me (tm6 (List.mem_of_getElem? (i := 4) rfl)) rfl)
theorem fl_X7_47 : k_FL RX7 47 7 3 := ⟨_, _, _, rfl, in_X7, by decide, Or.inl (k_me (tm2 (List.mem_of_getElem? (i := 118) rfl)) rfl)⟩
theorem fl_X7_51 : k_FL RX7 51 7 4 := ⟨_, _, _, rfl, in_X7, by decide, Or.inl (k_me (tm2 (List.mem_of_getElem? (i := 120) rfl)) rfl)⟩
theorem fl_X7_21 : k_FL RX7 21 7 0 := ⟨_, _, _, rfl, in_X7, by decide, Or.inl (k_me (tm2 (List.mem_of_getElem? (i := 115) rfl)) rfl)⟩
theorem fl_X7_102 : k_FL RX7 102 5 5 := ⟨_, _, _, rfl, in_X5, by decide, Or.inl (k_me (tm1 (List.mem_of_getElem? (i := 112) rfl)) rfl)⟩
theorem fl_X7_97 : k_FL RX7 97 5 2 := ⟨_, _, _, rfl, in_X5, by decide, Or.inl (k_me (tm1 (List.mem_of_getElem? (i := 101) rfl)) rfl)⟩
theorem fs_X7_105 : Cond.fieldLink RX7 105 "LullabyPit$Survey" "STEPS" "[I" ∈ k_tb := (k_me (tm6 (List.mem_of_getElem? (i := 33) rfl)) rfl)
theorem fl_X7_17 : k_FL RX7 17 7 2 := ⟨_, _, _, rfl, in_X7, by decide, Or.inl (k_me (tm2 (List.mem_of_getElem? (i := 117) rfl)) rfl)⟩
theorem lk_X7_108 : k_lk RX7 108 yJ9_max_7cf53 := Or.inl (k_me (tm6 (List.mem_of_getElem? (i := 35) rfl)) rfl)
theorem lm_X7_108 : Cond.methodLink RX7 108 Lib.Math.max.name ∈ k_tb := (k_me (tm6 (List.mem_of_getElem? (i := 35) rfl)) rfl)
theorem fl_X7_117 : k_FL RX7 117 5 1 := ⟨_, _, _, rfl, in_X5, by decide, Or.inl (k_me (tm1 (List.mem_of_getElem? (i := 97) rfl)) rfl)⟩
theorem fl_X7_146 : k_FL RX7 146 5 10 := ⟨_, _, _, rfl, in_X5, by decide, Or.inl (k_me (tm1 (List.mem_of_getElem? (i := 123) rfl)) rfl)⟩
theorem fl_X7_153 : k_FL RX7 153 3 9 := ⟨_, _, _, rfl, in_X3, by decide, Or.inl (k_me (tm1 (List.mem_of_getElem? (i := 213) rfl)) rfl)⟩
theorem fl_X7_162 : k_FL RX7 162 3 6 := ⟨_, _, _, rfl, in_X3, by decide, Or.inl (k_me (tm1 (List.mem_of_getElem? (i := 206) rfl)) rfl)⟩
theorem lk_X8_40 : k_lk RX8 40 yX8_peek := Or.inl (k_me (tm3 (List.mem_of_getElem? (i := 227) rfl)) rfl)
theorem mv_X8_peek : k_MV yX8_peek cX8_peek 1 (some .int) 0 := ⟨(k_me (tm3 (List.mem_of_getElem? (i := 229) rfl)) rfl), (k_me (tmp 7 (List.mem_of_getElem? (i := 9) rfl)) rfl), (k_me (tm1 (List.mem_of_getElem? (i := 2) rfl)) rfl), (k_me (tm3 (List.mem_of_getElem? (i := 230) rfl)) rfl), by decide, by decide, by decide +kernel⟩
theorem lk_X8_44 : k_lk RX8 44 yX8_fail := Or.inl (k_me (tm4 (List.mem_of_getElem? (i := 52) rfl)) rfl)
theorem mv_X8_fail : k_MV yX8_fail cX8_fail 3 none 2 := ⟨(k_me (tm4 (List.mem_of_getElem? (i := 53) rfl)) rfl), (k_me (tm4 (List.mem_of_getElem? (i := 54) rfl)) rfl), (k_me (tm1 (List.mem_of_getElem? (i := 2) rfl)) rfl), (k_me (tm4 (List.mem_of_getElem? (i := 55) rfl)) rfl), by decide, by decide, by decide +kernel⟩
theorem lk_X5_43 : k_lk RX5 43 yJ7_fill_53178 := Or.inl (k_me (tm1 (List.mem_of_getElem? (i := 82) rfl)) rfl)
theorem ms_J7_fill_53178 : k_MS yJ7_fill_53178 cJ7_fill_53178 4 none 2 := ⟨(k_me (tm1 (List.mem_of_getElem? (i := 83) rfl)) rfl), (k_me (tm1 (List.mem_of_getElem? (i := 4) rfl)) rfl), (k_me (tm1 (List.mem_of_getElem? (i := 84) rfl)) rfl), by decide, by decide, by decide +kernel⟩
theorem ck_shPit_shArr_1_48 : k_ck [1] (shArr 48) shPit = true := by decide +kernel
theorem ck_shPit_shArr_2_48 : k_ck [2] (shArr 48) shPit = true := by decide +kernel
theorem ck_shPit_shArr_3_6 : k_ck [3] (shArr 6) shPit = true := by decide +kernel
theorem lk_X5_141 : k_lk RX5 141 yX5_wanted := Or.inl (k_me (tm5 (List.mem_of_getElem? (i := 165) rfl)) rfl)
theorem mv_X5_wanted : k_MV yX5_wanted cX5_wanted 5 (some .int) 2 := ⟨(k_me (tm5 (List.mem_of_getElem? (i := 53) rfl)) rfl), (k_me (tm5 (List.mem_of_getElem? (i := 54) rfl)) rfl), (k_me (tm1 (List.mem_of_getElem? (i := 3) rfl)) rfl), (k_me (tm5 (List.mem_of_getElem? (i := 55) rfl)) rfl), by decide, by decide, by decide +kernel⟩
theorem lk_X8_57 : k_lk RX8 57 yX8_isWord := Or.inl (k_me (tm4 (List.mem_of_getElem? (i := 48) rfl)) rfl)
theorem mv_X8_isWord : k_MV yX8_isWord cX8_isWord 5 (some .boolean) 3 := ⟨(k_me (tm4 (List.mem_of_getElem? (i := 50) rfl)) rfl), (k_me (tmp 7 (List.mem_of_getElem? (i := 11) rfl)) rfl), (k_me (tm1 (List.mem_of_getElem? (i := 2) rfl)) rfl), (k_me (tm4 (List.mem_of_getElem? (i := 51) rfl)) rfl), by decide, by decide, by decide +kernel⟩
theorem lk_X5_117 : k_lk RX5 117 yX8_number := Or.inl (k_me (tm4 (List.mem_of_getElem? (i := 65) rfl)) rfl)
theorem mv_X8_number : k_MV yX8_number cX8_number 4 (some .int) 2 := ⟨(k_me (tm4 (List.mem_of_getElem? (i := 66) rfl)) rfl), (k_me (tm4 (List.mem_of_getElem? (i := 67) rfl)) rfl), (k_me (tm1 (List.mem_of_getElem? (i := 2) rfl)) rfl), (k_me (tm4 (List.mem_of_getElem? (i := 68) rfl)) rfl), by decide, by decide, by decide +kernel⟩
theorem ck_shPitTape_shTape_7 : k_ck [7, 8] shTape shPitTape = true := by decide +kernel
theorem lk_X5_97 : k_lk RX5 97 yX8_fail := Or.inl (k_me (tm4 (List.mem_of_getElem? (i := 56) rfl)) rfl)
theorem lk_X5_127 : k_lk RX5 127 yX5_lay := Or.inl (k_me (tm4 (List.mem_of_getElem? (i := 73) rfl)) rfl)
theorem mv_X5_lay : k_MV yX5_lay cX5_lay 6 none 4 := ⟨(k_me (tm4 (List.mem_of_getElem? (i := 75) rfl)) rfl), (k_me (tmp 14 (List.mem_of_getElem? (i := 14) rfl)) rfl), (k_me (tm1 (List.mem_of_getElem? (i := 3) rfl)) rfl), (k_me (tm4 (List.mem_of_getElem? (i := 76) rfl)) rfl), by decide, by decide, by decide +kernel⟩
theorem ck_shPitTape_shPit_0_5 : k_ck [0, 1, 2, 3, 4, 5, 6] shPit shPitTape = true := by decide +kernel
theorem lk_X5_101 : k_lk RX5 101 yX8_good := Or.inl (k_me (tm4 (List.mem_of_getElem? (i := 57) rfl)) rfl)
theorem mv_X8_good : k_MV yX8_good cX8_good 1 (some .boolean) 0 := ⟨(k_me (tm4 (List.mem_of_getElem? (i := 58) rfl)) rfl), (k_me (tm4 (List.mem_of_getElem? (i := 59) rfl)) rfl), (k_me (tm1 (List.mem_of_getElem? (i := 2) rfl)) rfl), (k_me (tm4 (List.mem_of_getElem? (i := 60) rfl)) rfl), by decide, by decide, by decide +kernel⟩
theorem lk_X5_131 : k_lk RX5 131 yX8_isDigitNext := Or.inl (k_me (tm4 (List.mem_of_getElem? (i := 93) rfl)) rfl)
theorem mv_X8_isDigitNext : k_MV yX8_isDigitNext cX8_isDigitNext 2 (some .boolean) 0 := ⟨(k_me (tm4 (List.mem_of_getElem? (i := 94) rfl)) rfl), (k_me (tm4 (List.mem_of_getElem? (i := 95) rfl)) rfl), (k_me (tm1 (List.mem_of_getElem? (i := 2) rfl)) rfl), (k_me (tm4 (List.mem_of_getElem? (i := 96) rfl)) rfl), by decide, by decide, by decide +kernel⟩
theorem lk_X5_90 : k_lk RX5 90 yX8_word := Or.inl (k_me (tm3 (List.mem_of_getElem? (i := 236) rfl)) rfl)
theorem mv_X8_word : k_MV yX8_word cX8_word 5 (some .int) 1 := ⟨(k_me (tm3 (List.mem_of_getElem? (i := 237) rfl)) rfl), (k_me (tm3 (List.mem_of_getElem? (i := 238) rfl)) rfl), (k_me (tm1 (List.mem_of_getElem? (i := 2) rfl)) rfl), (k_me (tm3 (List.mem_of_getElem? (i := 239) rfl)) rfl), by decide, by decide, by decide +kernel⟩
theorem lk_X5_104 : k_lk RX5 104 yX5_readSize := Or.inl (k_me (tm4 (List.mem_of_getElem? (i := 61) rfl)) rfl)
theorem mv_X5_readSize : k_MV yX5_readSize cX5_readSize 3 none 2 := ⟨(k_me (tm4 (List.mem_of_getElem? (i := 63) rfl)) rfl), (k_me (tmp 14 (List.mem_of_getElem? (i := 12) rfl)) rfl), (k_me (tm1 (List.mem_of_getElem? (i := 3) rfl)) rfl), (k_me (tm4 (List.mem_of_getElem? (i := 64) rfl)) rfl), by decide, by decide, by decide +kernel⟩
theorem lk_X5_107 : k_lk RX5 107 yX5_readSeam := Or.inl (k_me (tm4 (List.mem_of_getElem? (i := 69) rfl)) rfl)
theorem mv_X5_readSeam : k_MV yX5_readSeam cX5_readSeam 10 none 1 := ⟨(k_me (tm4 (List.mem_of_getElem? (i := 71) rfl)) rfl), (k_me (tmp 14 (List.mem_of_getElem? (i := 13) rfl)) rfl), (k_me (tm1 (List.mem_of_getElem? (i := 3) rfl)) rfl), (k_me (tm4 (List.mem_of_getElem? (i := 72) rfl)) rfl), by decide, by decide, by decide +kernel⟩
theorem lk_X5_111 : k_lk RX5 111 yX5_readWater := Or.inl (k_me (tm4 (List.mem_of_getElem? (i := 77) rfl)) rfl)
theorem mv_X5_readWater : k_MV yX5_readWater cX5_readWater 4 none 1 := ⟨(k_me (tm4 (List.mem_of_getElem? (i := 79) rfl)) rfl), (k_me (tmp 14 (List.mem_of_getElem? (i := 15) rfl)) rfl), (k_me (tm1 (List.mem_of_getElem? (i := 3) rfl)) rfl), (k_me (tm4 (List.mem_of_getElem? (i := 80) rfl)) rfl), by decide, by decide, by decide +kernel⟩
theorem lk_X5_114 : k_lk RX5 114 yX5_readShaft := Or.inl (k_me (tm4 (List.mem_of_getElem? (i := 81) rfl)) rfl)
theorem mv_X5_readShaft : k_MV yX5_readShaft cX5_readShaft 2 none 1 := ⟨(k_me (tm4 (List.mem_of_getElem? (i := 83) rfl)) rfl), (k_me (tmp 14 (List.mem_of_getElem? (i := 16) rfl)) rfl), (k_me (tm1 (List.mem_of_getElem? (i := 3) rfl)) rfl), (k_me (tm4 (List.mem_of_getElem? (i := 84) rfl)) rfl), by decide, by decide, by decide +kernel⟩
theorem lk_X5_121 : k_lk RX5 121 yX5_readPrice := Or.inl (k_me (tm4 (List.mem_of_getElem? (i := 85) rfl)) rfl)
theorem mv_X5_readPrice : k_MV yX5_readPrice cX5_readPrice 3 none 1 := ⟨(k_me (tm4 (List.mem_of_getElem? (i := 87) rfl)) rfl), (k_me (tmp 14 (List.mem_of_getElem? (i := 17) rfl)) rfl), (k_me (tm1 (List.mem_of_getElem? (i := 3) rfl)) rfl), (k_me (tm4 (List.mem_of_getElem? (i := 88) rfl)) rfl), by decide, by decide, by decide +kernel⟩
theorem lk_X5_124 : k_lk RX5 124 yX5_readOrder := Or.inl (k_me (tm4 (List.mem_of_getElem? (i := 89) rfl)) rfl)
theorem mv_X5_readOrder : k_MV yX5_readOrder cX5_readOrder 4 none 1 := ⟨(k_me (tm4 (List.mem_of_getElem? (i := 91) rfl)) rfl), (k_me (tmp 14 (List.mem_of_getElem? (i := 18) rfl)) rfl), (k_me (tm1 (List.mem_of_getElem? (i := 3) rfl)) rfl), (k_me (tm4 (List.mem_of_getElem? (i := 92) rfl)) rfl), by decide, by decide, by decide +kernel⟩
theorem lk_X5_30 : k_lk RX5 30 yX5_clear := Or.inl (k_me (tm1 (List.mem_of_getElem? (i := 78) rfl)) rfl)
theorem mv_X5_clear : k_MV yX5_clear cX5_clear 1 none 0 := ⟨(k_me (tm1 (List.mem_of_getElem? (i := 80) rfl)) rfl), (k_me (tmp 14 (List.mem_of_getElem? (i := 0) rfl)) rfl), (k_me (tm1 (List.mem_of_getElem? (i := 3) rfl)) rfl), (k_me (tm1 (List.mem_of_getElem? (i := 81) rfl)) rfl), by decide, by decide, by decide +kernel⟩
theorem lk_X5_74 : k_lk RX5 74 yX8_more := Or.inl (k_me (tm3 (List.mem_of_getElem? (i := 223) rfl)) rfl)
theorem mv_X8_more : k_MV yX8_more cX8_more 1 (some .boolean) 0 := ⟨(k_me (tm3 (List.mem_of_getElem? (i := 224) rfl)) rfl), (k_me (tm3 (List.mem_of_getElem? (i := 225) rfl)) rfl), (k_me (tm1 (List.mem_of_getElem? (i := 2) rfl)) rfl), (k_me (tm3 (List.mem_of_getElem? (i := 226) rfl)) rfl), by decide, by decide, by decide +kernel⟩
theorem lk_X5_80 : k_lk RX5 80 yX5_readClause := Or.inl (k_me (tm3 (List.mem_of_getElem? (i := 231) rfl)) rfl)
theorem mv_X5_readClause : k_MV yX5_readClause cX5_readClause 4 none 2 := ⟨(k_me (tm3 (List.mem_of_getElem? (i := 233) rfl)) rfl), (k_me (tmp 14 (List.mem_of_getElem? (i := 10) rfl)) rfl), (k_me (tm1 (List.mem_of_getElem? (i := 3) rfl)) rfl), (k_me (tm3 (List.mem_of_getElem? (i := 234) rfl)) rfl), by decide, by decide, by decide +kernel⟩
theorem lk_X5_84 : k_lk RX5 84 yX8_sign := Or.inl (k_me (tm4 (List.mem_of_getElem? (i := 99) rfl)) rfl)
theorem mv_X8_sign : k_MV yX8_sign cX8_sign 2 none 1 := ⟨(k_me (tm4 (List.mem_of_getElem? (i := 100) rfl)) rfl), (k_me (tm4 (List.mem_of_getElem? (i := 101) rfl)) rfl), (k_me (tm1 (List.mem_of_getElem? (i := 2) rfl)) rfl), (k_me (tm4 (List.mem_of_getElem? (i := 102) rfl)) rfl), by decide, by decide, by decide +kernel⟩
theorem lk_X5_33 : k_lk RX5 33 yX5_tellAll := Or.inl (k_me (tm1 (List.mem_of_getElem? (i := 85) rfl)) rfl)
theorem mv_X5_tellAll : k_MV yX5_tellAll cX5_tellAll 2 none 0 := ⟨(k_me (tm1 (List.mem_of_getElem? (i := 87) rfl)) rfl), (k_me (tmp 14 (List.mem_of_getElem? (i := 1) rfl)) rfl), (k_me (tm1 (List.mem_of_getElem? (i := 3) rfl)) rfl), (k_me (tm1 (List.mem_of_getElem? (i := 88) rfl)) rfl), by decide, by decide, by decide +kernel⟩
theorem lk_X1_22 : k_lk RX1 22 yX1_put := Or.inl (k_me (tm1 (List.mem_of_getElem? (i := 182) rfl)) rfl)
theorem mv_X1_put : k_MV yX1_put cX1_put 2 none 1 := ⟨(k_me (tm1 (List.mem_of_getElem? (i := 184) rfl)) rfl), (k_me (tmp 3 (List.mem_of_getElem? (i := 2) rfl)) rfl), (k_me (tm1 (List.mem_of_getElem? (i := 5) rfl)) rfl), (k_me (tm1 (List.mem_of_getElem? (i := 185) rfl)) rfl), by decide, by decide, by decide +kernel⟩
theorem lk_X3_146 : k_lk RX3 146 yX3_propsBeside := Or.inl (k_me (tm5 (List.mem_of_getElem? (i := 17) rfl)) rfl)
theorem mv_X3_propsBeside : k_MV yX3_propsBeside cX3_propsBeside 5 (some .int) 1 := ⟨(k_me (tm5 (List.mem_of_getElem? (i := 19) rfl)) rfl), (k_me (tmp 18 (List.mem_of_getElem? (i := 28) rfl)) rfl), (k_me (tm1 (List.mem_of_getElem? (i := 6) rfl)) rfl), (k_me (tm5 (List.mem_of_getElem? (i := 20) rfl)) rfl), by decide, by decide, by decide +kernel⟩
theorem lk_X3_101 : k_lk RX3 101 yX3_openCells := Or.inl (k_me (tm3 (List.mem_of_getElem? (i := 87) rfl)) rfl)
theorem mv_X3_openCells : k_MV yX3_openCells cX3_openCells 1 (some .long) 0 := ⟨(k_me (tm3 (List.mem_of_getElem? (i := 88) rfl)) rfl), (k_me (tm3 (List.mem_of_getElem? (i := 89) rfl)) rfl), (k_me (tm1 (List.mem_of_getElem? (i := 6) rfl)) rfl), (k_me (tm3 (List.mem_of_getElem? (i := 90) rfl)) rfl), by decide, by decide, by decide +kernel⟩
theorem lk_X3_143 : k_lk RX3 143 yX5_kindAbove := Or.inl (k_me (tm5 (List.mem_of_getElem? (i := 13) rfl)) rfl)
theorem mv_X5_kindAbove : k_MV yX5_kindAbove cX5_kindAbove 2 (some .int) 1 := ⟨(k_me (tm5 (List.mem_of_getElem? (i := 14) rfl)) rfl), (k_me (tm5 (List.mem_of_getElem? (i := 15) rfl)) rfl), (k_me (tm1 (List.mem_of_getElem? (i := 3) rfl)) rfl), (k_me (tm5 (List.mem_of_getElem? (i := 16) rfl)) rfl), by decide, by decide, by decide +kernel⟩
theorem ck_shMine_shPit_5_10 : k_ck [5, 6, 7, 8, 9, 10, 11] shPit shMine = true := by decide +kernel
theorem lk_X3_140 : k_lk RX3 140 yX3_wide := Or.inl (k_me (tm5 (List.mem_of_getElem? (i := 9) rfl)) rfl)
theorem mv_X3_wide : k_MV yX3_wide cX3_wide 5 (some .int) 1 := ⟨(k_me (tm5 (List.mem_of_getElem? (i := 10) rfl)) rfl), (k_me (tm5 (List.mem_of_getElem? (i := 11) rfl)) rfl), (k_me (tm1 (List.mem_of_getElem? (i := 6) rfl)) rfl), (k_me (tm5 (List.mem_of_getElem? (i := 12) rfl)) rfl), by decide, by decide, by decide +kernel⟩
theorem lk_X1_92 : k_lk RX1 92 yX3_sight := Or.inl (k_me (tm5 (List.mem_of_getElem? (i := 5) rfl)) rfl)
theorem mv_X3_sight : k_MV yX3_sight cX3_sight 4 (some .int) 3 := ⟨(k_me (tm5 (List.mem_of_getElem? (i := 6) rfl)) rfl), (k_me (tm5 (List.mem_of_getElem? (i := 7) rfl)) rfl), (k_me (tm1 (List.mem_of_getElem? (i := 6) rfl)) rfl), (k_me (tm5 (List.mem_of_getElem? (i := 8) rfl)) rfl), by decide, by decide, by decide +kernel⟩
theorem lk_X1_88 : k_lk RX1 88 yX1_joined := Or.inl (k_me (tm5 (List.mem_of_getElem? (i := 2) rfl)) rfl)
theorem ms_X1_joined : k_MS yX1_joined cX1_joined 3 (some .int) 3 := ⟨(k_me (tm5 (List.mem_of_getElem? (i := 3) rfl)) rfl), (k_me (tm1 (List.mem_of_getElem? (i := 5) rfl)) rfl), (k_me (tm5 (List.mem_of_getElem? (i := 4) rfl)) rfl), by decide, by decide, by decide +kernel⟩
theorem lk_X3_45 : k_lk RX3 45 yJ7_fill_53178 := Or.inl (k_me (tm2 (List.mem_of_getElem? (i := 34) rfl)) rfl)
theorem ck_shMine_shArr_1_6 : k_ck [1] (shArr 6) shMine = true := by decide +kernel
theorem ck_shMine_shArr_2_6 : k_ck [2] (shArr 6) shMine = true := by decide +kernel
theorem ck_shMine_shArr_3_6 : k_ck [3] (shArr 6) shMine = true := by decide +kernel
theorem ck_shMine_shArr_4_6 : k_ck [4] (shArr 6) shMine = true := by decide +kernel
theorem lk_X3_105 : k_lk RX3 105 yX3_beside := Or.inl (k_me (tm3 (List.mem_of_getElem? (i := 91) rfl)) rfl)
theorem ms_X3_beside : k_MS yX3_beside cX3_beside 2 (some .long) 1 := ⟨(k_me (tm3 (List.mem_of_getElem? (i := 92) rfl)) rfl), (k_me (tm1 (List.mem_of_getElem? (i := 6) rfl)) rfl), (k_me (tm3 (List.mem_of_getElem? (i := 93) rfl)) rfl), by decide, by decide, by decide +kernel⟩
theorem lk_X3_117 : k_lk RX3 117 yX3_handCells := Or.inl (k_me (tm3 (List.mem_of_getElem? (i := 83) rfl)) rfl)
theorem mv_X3_handCells : k_MV yX3_handCells cX3_handCells 1 (some .long) 0 := ⟨(k_me (tm3 (List.mem_of_getElem? (i := 84) rfl)) rfl), (k_me (tm3 (List.mem_of_getElem? (i := 85) rfl)) rfl), (k_me (tm1 (List.mem_of_getElem? (i := 6) rfl)) rfl), (k_me (tm3 (List.mem_of_getElem? (i := 86) rfl)) rfl), by decide, by decide, by decide +kernel⟩
theorem lk_X3_120 : k_lk RX3 120 yX3_wetCells := Or.inl (k_me (tm3 (List.mem_of_getElem? (i := 97) rfl)) rfl)
theorem mv_X3_wetCells : k_MV yX3_wetCells cX3_wetCells 1 (some .long) 0 := ⟨(k_me (tm3 (List.mem_of_getElem? (i := 99) rfl)) rfl), (k_me (tmp 18 (List.mem_of_getElem? (i := 5) rfl)) rfl), (k_me (tm1 (List.mem_of_getElem? (i := 6) rfl)) rfl), (k_me (tm3 (List.mem_of_getElem? (i := 100) rfl)) rfl), by decide, by decide, by decide +kernel⟩
theorem lk_X3_123 : k_lk RX3 123 yX3_isWhole := Or.inl (k_me (tm3 (List.mem_of_getElem? (i := 67) rfl)) rfl)
theorem mv_X3_isWhole : k_MV yX3_isWhole cX3_isWhole 2 (some .boolean) 1 := ⟨(k_me (tm3 (List.mem_of_getElem? (i := 69) rfl)) rfl), (k_me (tmp 18 (List.mem_of_getElem? (i := 4) rfl)) rfl), (k_me (tm1 (List.mem_of_getElem? (i := 6) rfl)) rfl), (k_me (tm3 (List.mem_of_getElem? (i := 70) rfl)) rfl), by decide, by decide, by decide +kernel⟩
theorem lk_X3_130 : k_lk RX3 130 yX3_barsLeft := Or.inl (k_me (tm3 (List.mem_of_getElem? (i := 63) rfl)) rfl)
theorem mv_X3_barsLeft : k_MV yX3_barsLeft cX3_barsLeft 2 (some .int) 1 := ⟨(k_me (tm3 (List.mem_of_getElem? (i := 64) rfl)) rfl), (k_me (tm3 (List.mem_of_getElem? (i := 65) rfl)) rfl), (k_me (tm1 (List.mem_of_getElem? (i := 6) rfl)) rfl), (k_me (tm3 (List.mem_of_getElem? (i := 66) rfl)) rfl), by decide, by decide, by decide +kernel⟩
theorem lk_X3_149 : k_lk RX3 149 yX1_value := Or.inl (k_me (tm4 (List.mem_of_getElem? (i := 238) rfl)) rfl)
theorem mv_X1_value : k_MV yX1_value cX1_value 7 (some .int) 3 := ⟨(k_me (tm4 (List.mem_of_getElem? (i := 239) rfl)) rfl), (k_me (tm5 (List.mem_of_getElem? (i := 0) rfl)) rfl), (k_me (tm1 (List.mem_of_getElem? (i := 5) rfl)) rfl), (k_me (tm5 (List.mem_of_getElem? (i := 1) rfl)) rfl), by decide, by decide, by decide +kernel⟩
theorem lk_X3_155 : k_lk RX3 155 yX3_crewIsDone := Or.inl (k_me (tm4 (List.mem_of_getElem? (i := 226) rfl)) rfl)
theorem mv_X3_crewIsDone : k_MV yX3_crewIsDone cX3_crewIsDone 1 (some .boolean) 0 := ⟨(k_me (tm4 (List.mem_of_getElem? (i := 228) rfl)) rfl), (k_me (tmp 18 (List.mem_of_getElem? (i := 27) rfl)) rfl), (k_me (tm1 (List.mem_of_getElem? (i := 6) rfl)) rfl), (k_me (tm4 (List.mem_of_getElem? (i := 229) rfl)) rfl), by decide, by decide, by decide +kernel⟩
theorem lk_X3_162 : k_lk RX3 162 yX3_harmOf := Or.inl (k_me (tm4 (List.mem_of_getElem? (i := 234) rfl)) rfl)
theorem mv_X3_harmOf : k_MV yX3_harmOf cX3_harmOf 3 (some .int) 1 := ⟨(k_me (tm4 (List.mem_of_getElem? (i := 235) rfl)) rfl), (k_me (tm4 (List.mem_of_getElem? (i := 236) rfl)) rfl), (k_me (tm1 (List.mem_of_getElem? (i := 6) rfl)) rfl), (k_me (tm4 (List.mem_of_getElem? (i := 237) rfl)) rfl), by decide, by decide, by decide +kernel⟩
theorem lk_X3_171 : k_lk RX3 171 yX3_doomedCells := Or.inl (k_me (tm5 (List.mem_of_getElem? (i := 22) rfl)) rfl)
theorem mv_X3_doomedCells : k_MV yX3_doomedCells cX3_doomedCells 4 (some .long) 0 := ⟨(k_me (tm5 (List.mem_of_getElem? (i := 23) rfl)) rfl), (k_me (tm5 (List.mem_of_getElem? (i := 24) rfl)) rfl), (k_me (tm1 (List.mem_of_getElem? (i := 6) rfl)) rfl), (k_me (tm5 (List.mem_of_getElem? (i := 25) rfl)) rfl), by decide, by decide, by decide +kernel⟩
theorem lk_X3_174 : k_lk RX3 174 yJ13_bitCount_95d88 := Or.inl (k_me (tm5 (List.mem_of_getElem? (i := 26) rfl)) rfl)
theorem ms_J13_bitCount_95d88 : k_MS yJ13_bitCount_95d88 cJ13_bitCount_95d88 2 (some .int) 1 := ⟨(k_me (tm5 (List.mem_of_getElem? (i := 27) rfl)) rfl), (k_me (tm1 (List.mem_of_getElem? (i := 24) rfl)) rfl), (k_me (tm5 (List.mem_of_getElem? (i := 28) rfl)) rfl), by decide, by decide, by decide +kernel⟩
theorem lk_X3_180 : k_lk RX3 180 yX10_isMusic := Or.inr ⟨_, List.mem_of_getElem? (i := 7) rfl⟩
theorem ms_X10_isMusic : k_MS yX10_isMusic cX10_isMusic 1 (some .boolean) 1 := ⟨(k_me (tm3 (List.mem_of_getElem? (i := 53) rfl)) rfl), (k_me (tm1 (List.mem_of_getElem? (i := 1) rfl)) rfl), (k_me (tm3 (List.mem_of_getElem? (i := 54) rfl)) rfl), by decide, by decide, by decide +kernel⟩
theorem lk_X3_196 : k_lk RX3 196 yX5_wanted := Or.inl (k_me (tm5 (List.mem_of_getElem? (i := 52) rfl)) rfl)
theorem lk_X3_193 : k_lk RX3 193 yX3_lacking := Or.inl (k_me (tm5 (List.mem_of_getElem? (i := 48) rfl)) rfl)
theorem mv_X3_lacking : k_MV yX3_lacking cX3_lacking 4 (some .int) 1 := ⟨(k_me (tm5 (List.mem_of_getElem? (i := 49) rfl)) rfl), (k_me (tm5 (List.mem_of_getElem? (i := 50) rfl)) rfl), (k_me (tm1 (List.mem_of_getElem? (i := 6) rfl)) rfl), (k_me (tm5 (List.mem_of_getElem? (i := 51) rfl)) rfl), by decide, by decide, by decide +kernel⟩
theorem lk_X3_189 : k_lk RX3 189 yX3_settle := Or.inl (k_me (tm5 (List.mem_of_getElem? (i := 44) rfl)) rfl)
theorem mv_X3_settle : k_MV yX3_settle cX3_settle 4 none 1 := ⟨(k_me (tm5 (List.mem_of_getElem? (i := 46) rfl)) rfl), (k_me (tmp 18 (List.mem_of_getElem? (i := 29) rfl)) rfl), (k_me (tm1 (List.mem_of_getElem? (i := 6) rfl)) rfl), (k_me (tm5 (List.mem_of_getElem? (i := 47) rfl)) rfl), by decide, by decide, by decide +kernel⟩
theorem lk_X3_202 : k_lk RX3 202 yX3_ableCells := Or.inl (k_me (tm3 (List.mem_of_getElem? (i := 79) rfl)) rfl)
theorem mv_X3_ableCells : k_MV yX3_ableCells cX3_ableCells 1 (some .long) 0 := ⟨(k_me (tm3 (List.mem_of_getElem? (i := 80) rfl)) rfl), (k_me (tm3 (List.mem_of_getElem? (i := 81) rfl)) rfl), (k_me (tm1 (List.mem_of_getElem? (i := 6) rfl)) rfl), (k_me (tm3 (List.mem_of_getElem? (i := 82) rfl)) rfl), by decide, by decide, by decide +kernel⟩
theorem lk_X3_205 : k_lk RX3 205 yX3_richestCell := Or.inl (k_me (tm6 (List.mem_of_getElem? (i := 182) rfl)) rfl)
theorem mv_X3_richestCell : k_MV yX3_richestCell cX3_richestCell 6 (some .int) 0 := ⟨(k_me (tm3 (List.mem_of_getElem? (i := 76) rfl)) rfl), (k_me (tm3 (List.mem_of_getElem? (i := 77) rfl)) rfl), (k_me (tm1 (List.mem_of_getElem? (i := 6) rfl)) rfl), (k_me (tm3 (List.mem_of_getElem? (i := 78) rfl)) rfl), by decide, by decide, by decide +kernel⟩
theorem lk_X3_209 : k_lk RX3 209 yX3_breakOpen := Or.inl (k_me (tm6 (List.mem_of_getElem? (i := 183) rfl)) rfl)
theorem mv_X3_breakOpen : k_MV yX3_breakOpen cX3_breakOpen 6 none 1 := ⟨(k_me (tm4 (List.mem_of_getElem? (i := 231) rfl)) rfl), (k_me (tm4 (List.mem_of_getElem? (i := 232) rfl)) rfl), (k_me (tm1 (List.mem_of_getElem? (i := 6) rfl)) rfl), (k_me (tm4 (List.mem_of_getElem? (i := 233) rfl)) rfl), by decide, by decide, by decide +kernel⟩
theorem lk_X6_95 : k_lk RX6 95 yX3_obstacle := Or.inl (k_me (tm4 (List.mem_of_getElem? (i := 222) rfl)) rfl)
theorem mv_X3_obstacle : k_MV yX3_obstacle cX3_obstacle 4 (some .int) 1 := ⟨(k_me (tm4 (List.mem_of_getElem? (i := 223) rfl)) rfl), (k_me (tm4 (List.mem_of_getElem? (i := 224) rfl)) rfl), (k_me (tm1 (List.mem_of_getElem? (i := 6) rfl)) rfl), (k_me (tm4 (List.mem_of_getElem? (i := 225) rfl)) rfl), by decide, by decide, by decide +kernel⟩
theorem lk_X6_101 : k_lk RX6 101 yX3_breakOpen := Or.inl (k_me (tm4 (List.mem_of_getElem? (i := 230) rfl)) rfl)
theorem lk_X6_105 : k_lk RX6 105 yX3_propUp := Or.inl (k_me (tm5 (List.mem_of_getElem? (i := 32) rfl)) rfl)
theorem mv_X3_propUp : k_MV yX3_propUp cX3_propUp 4 (some .boolean) 1 := ⟨(k_me (tm5 (List.mem_of_getElem? (i := 33) rfl)) rfl), (k_me (tm5 (List.mem_of_getElem? (i := 34) rfl)) rfl), (k_me (tm1 (List.mem_of_getElem? (i := 6) rfl)) rfl), (k_me (tm5 (List.mem_of_getElem? (i := 35) rfl)) rfl), by decide, by decide, by decide +kernel⟩
theorem lk_X6_109 : k_lk RX6 109 yX3_pumpDry := Or.inl (k_me (tm5 (List.mem_of_getElem? (i := 36) rfl)) rfl)
theorem mv_X3_pumpDry : k_MV yX3_pumpDry cX3_pumpDry 1 (some .boolean) 0 := ⟨(k_me (tm5 (List.mem_of_getElem? (i := 37) rfl)) rfl), (k_me (tm5 (List.mem_of_getElem? (i := 38) rfl)) rfl), (k_me (tm1 (List.mem_of_getElem? (i := 6) rfl)) rfl), (k_me (tm5 (List.mem_of_getElem? (i := 39) rfl)) rfl), by decide, by decide, by decide +kernel⟩
theorem lk_X6_112 : k_lk RX6 112 yX3_endShift := Or.inl (k_me (tm5 (List.mem_of_getElem? (i := 40) rfl)) rfl)
theorem mv_X3_endShift : k_MV yX3_endShift cX3_endShift 2 (some .boolean) 0 := ⟨(k_me (tm5 (List.mem_of_getElem? (i := 41) rfl)) rfl), (k_me (tm5 (List.mem_of_getElem? (i := 42) rfl)) rfl), (k_me (tm1 (List.mem_of_getElem? (i := 6) rfl)) rfl), (k_me (tm5 (List.mem_of_getElem? (i := 43) rfl)) rfl), by decide, by decide, by decide +kernel⟩
theorem lk_X6_115 : k_lk RX6 115 yX3_sellBars := Or.inl (k_me (tm5 (List.mem_of_getElem? (i := 59) rfl)) rfl)
theorem mv_X3_sellBars : k_MV yX3_sellBars cX3_sellBars 3 (some .boolean) 2 := ⟨(k_me (tm5 (List.mem_of_getElem? (i := 60) rfl)) rfl), (k_me (tm5 (List.mem_of_getElem? (i := 61) rfl)) rfl), (k_me (tm1 (List.mem_of_getElem? (i := 6) rfl)) rfl), (k_me (tm5 (List.mem_of_getElem? (i := 62) rfl)) rfl), by decide, by decide, by decide +kernel⟩
theorem lk_X7_142 : k_lk RX7 142 yX3_wouldFall := Or.inl (k_me (tm6 (List.mem_of_getElem? (i := 66) rfl)) rfl)
theorem mv_X3_wouldFall : k_MV yX3_wouldFall cX3_wouldFall 2 (some .boolean) 1 := ⟨(k_me (tm5 (List.mem_of_getElem? (i := 197) rfl)) rfl), (k_me (tm5 (List.mem_of_getElem? (i := 198) rfl)) rfl), (k_me (tm1 (List.mem_of_getElem? (i := 6) rfl)) rfl), (k_me (tm5 (List.mem_of_getElem? (i := 199) rfl)) rfl), by decide, by decide, by decide +kernel⟩
theorem lk_X7_128 : k_lk RX7 128 yX10_rowOf := Or.inr ⟨_, List.mem_of_getElem? (i := 8) rfl⟩
theorem ms_X10_rowOf : k_MS yX10_rowOf cX10_rowOf 3 (some .int) 2 := ⟨(k_me (tm6 (List.mem_of_getElem? (i := 52) rfl)) rfl), (k_me (tm1 (List.mem_of_getElem? (i := 1) rfl)) rfl), (k_me (tm6 (List.mem_of_getElem? (i := 53) rfl)) rfl), by decide, by decide, by decide +kernel⟩
theorem lk_X7_124 : k_lk RX7 124 yJ6_bitCount_0f7a4 := Or.inl (k_me (tm6 (List.mem_of_getElem? (i := 54) rfl)) rfl)
theorem ms_J6_bitCount_0f7a4 : k_MS yJ6_bitCount_0f7a4 cJ6_bitCount_0f7a4 1 (some .int) 1 := ⟨(k_me (tm6 (List.mem_of_getElem? (i := 55) rfl)) rfl), (k_me (tm1 (List.mem_of_getElem? (i := 27) rfl)) rfl), (k_me (tm6 (List.mem_of_getElem? (i := 56) rfl)) rfl), by decide, by decide, by decide +kernel⟩
theorem lk_X7_132 : k_lk RX7 132 yX7_mirrored := Or.inl (k_me (tm6 (List.mem_of_getElem? (i := 60) rfl)) rfl)
theorem ms_X7_mirrored : k_MS yX7_mirrored cX7_mirrored 3 (some .int) 1 := ⟨(k_me (tm6 (List.mem_of_getElem? (i := 61) rfl)) rfl), (k_me (tm1 (List.mem_of_getElem? (i := 9) rfl)) rfl), (k_me (tm6 (List.mem_of_getElem? (i := 62) rfl)) rfl), by decide, by decide, by decide +kernel⟩
theorem lk_X7_135 : k_lk RX7 135 yX7_isHeld := Or.inl (k_me (tm6 (List.mem_of_getElem? (i := 63) rfl)) rfl)
theorem ms_X7_isHeld : k_MS yX7_isHeld cX7_isHeld 7 (some .boolean) 3 := ⟨(k_me (tm6 (List.mem_of_getElem? (i := 64) rfl)) rfl), (k_me (tm1 (List.mem_of_getElem? (i := 9) rfl)) rfl), (k_me (tm6 (List.mem_of_getElem? (i := 65) rfl)) rfl), by decide, by decide, by decide +kernel⟩
theorem lk_X9_22 : k_lk RX9 22 yJ7_fill_53178 := Or.inl (k_me (tm2 (List.mem_of_getElem? (i := 142) rfl)) rfl)
theorem ck_shTaps_shArr_1_8 : k_ck [1] (shArr 8) shTaps = true := by decide +kernel
theorem lk_X9_73 : k_lk RX9 73 yX10_isMusic := Or.inr ⟨_, List.mem_of_getElem? (i := 5) rfl⟩
theorem lk_X9_80 : k_lk RX9 80 yX9_heard := Or.inl (k_me (tm3 (List.mem_of_getElem? (i := 48) rfl)) rfl)
theorem mv_X9_heard : k_MV yX9_heard cX9_heard 5 (some .int) 2 := ⟨(k_me (tm3 (List.mem_of_getElem? (i := 49) rfl)) rfl), (k_me (tm3 (List.mem_of_getElem? (i := 50) rfl)) rfl), (k_me (tm1 (List.mem_of_getElem? (i := 11) rfl)) rfl), (k_me (tm3 (List.mem_of_getElem? (i := 51) rfl)) rfl), by decide, by decide, by decide +kernel⟩
theorem lk_X9_77 : k_lk RX9 77 yX9_isRight := Or.inl (k_me (tm3 (List.mem_of_getElem? (i := 44) rfl)) rfl)
theorem mv_X9_isRight : k_MV yX9_isRight cX9_isRight 3 (some .boolean) 1 := ⟨(k_me (tm3 (List.mem_of_getElem? (i := 46) rfl)) rfl), (k_me (tmp 4 (List.mem_of_getElem? (i := 3) rfl)) rfl), (k_me (tm1 (List.mem_of_getElem? (i := 11) rfl)) rfl), (k_me (tm3 (List.mem_of_getElem? (i := 47) rfl)) rfl), by decide, by decide, by decide +kernel⟩
theorem lk_X9_83 : k_lk RX9 83 yX9_fitting := Or.inl (k_me (tm6 (List.mem_of_getElem? (i := 114) rfl)) rfl)
theorem mv_X9_fitting : k_MV yX9_fitting cX9_fitting 3 (some .int) 0 := ⟨(k_me (tm3 (List.mem_of_getElem? (i := 41) rfl)) rfl), (k_me (tm3 (List.mem_of_getElem? (i := 42) rfl)) rfl), (k_me (tm1 (List.mem_of_getElem? (i := 11) rfl)) rfl), (k_me (tm3 (List.mem_of_getElem? (i := 43) rfl)) rfl), by decide, by decide, by decide +kernel⟩
theorem lk_X9_87 : k_lk RX9 87 yX9_mostLeft := Or.inl (k_me (tm6 (List.mem_of_getElem? (i := 115) rfl)) rfl)
theorem mv_X9_mostLeft : k_MV yX9_mostLeft cX9_mostLeft 7 (some .int) 2 := ⟨(k_me (tm6 (List.mem_of_getElem? (i := 117) rfl)) rfl), (k_me (tmp 4 (List.mem_of_getElem? (i := 37) rfl)) rfl), (k_me (tm1 (List.mem_of_getElem? (i := 11) rfl)) rfl), (k_me (tm6 (List.mem_of_getElem? (i := 118) rfl)) rfl), by decide, by decide, by decide +kernel⟩
theorem ck_shTapsTape_shArr_2_8 : k_ck [2] (shArr 8) shTapsTape = true := by decide +kernel
theorem lk_X9_32 : k_lk RX9 32 yX8_more := Or.inl (k_me (tm5 (List.mem_of_getElem? (i := 75) rfl)) rfl)
theorem ck_shTapsTape_shTape_10 : k_ck [10, 11] shTape shTapsTape = true := by decide +kernel
theorem lk_X9_38 : k_lk RX9 38 yX8_number := Or.inl (k_me (tm5 (List.mem_of_getElem? (i := 76) rfl)) rfl)
theorem lk_X9_45 : k_lk RX9 45 yX8_fail := Or.inl (k_me (tm5 (List.mem_of_getElem? (i := 77) rfl)) rfl)
theorem lk_X9_53 : k_lk RX9 53 yX8_good := Or.inl (k_me (tm5 (List.mem_of_getElem? (i := 79) rfl)) rfl)
theorem lk_X9_49 : k_lk RX9 49 yX8_sign := Or.inl (k_me (tm5 (List.mem_of_getElem? (i := 78) rfl)) rfl)
theorem lk_X0_19 : k_lk RX0 19 yX3_copyFrom := Or.inl (k_me (tm6 (List.mem_of_getElem? (i := 176) rfl)) rfl)
theorem mv_X3_copyFrom : k_MV yX3_copyFrom cX3_copyFrom 2 none 1 := ⟨(k_me (tm2 (List.mem_of_getElem? (i := 109) rfl)) rfl), (k_me (tm2 (List.mem_of_getElem? (i := 110) rfl)) rfl), (k_me (tm1 (List.mem_of_getElem? (i := 6) rfl)) rfl), (k_me (tm2 (List.mem_of_getElem? (i := 111) rfl)) rfl), by decide, by decide, by decide +kernel⟩
theorem ck_shDec_shMine2_1_6 : k_ck [1, 2, 3, 4, 5, 6, 7, 8, 9, 10, 11, 12, 13, 14, 15, 16, 17, 18, 19, 20, 21, 22, 23] shMine2 shDec = true := by decide +kernel
theorem lk_X0_28 : k_lk RX0 28 yX3_digShift := Or.inl (k_me (tm6 (List.mem_of_getElem? (i := 178) rfl)) rfl)
theorem mv_X3_digShift : k_MV yX3_digShift cX3_digShift 4 none 0 := ⟨(k_me (tm6 (List.mem_of_getElem? (i := 179) rfl)) rfl), (k_me (tm6 (List.mem_of_getElem? (i := 180) rfl)) rfl), (k_me (tm1 (List.mem_of_getElem? (i := 6) rfl)) rfl), (k_me (tm6 (List.mem_of_getElem? (i := 181) rfl)) rfl), by decide, by decide, by decide +kernel⟩
theorem ck_shDec_shMine_1_6 : k_ck [1, 2, 3, 4, 5, 6, 7, 8, 9, 10, 11, 12, 13, 14, 15, 16, 17, 18] shMine shDec = true := by decide +kernel
theorem lk_X0_31 : k_lk RX0 31 yX3_endShift := Or.inl (k_me (tm6 (List.mem_of_getElem? (i := 184) rfl)) rfl)
theorem lk_X2_31 : k_lk RX2 31 yX2_gets := Or.inl (k_me (tm6 (List.mem_of_getElem? (i := 143) rfl)) rfl)
theorem ms_X2_gets : k_MS yX2_gets cX2_gets 3 (some .int) 3 := ⟨(k_me (tm6 (List.mem_of_getElem? (i := 144) rfl)) rfl), (k_me (tm1 (List.mem_of_getElem? (i := 13) rfl)) rfl), (k_me (tm6 (List.mem_of_getElem? (i := 145) rfl)) rfl), by decide, by decide, by decide +kernel⟩
theorem lk_X2_38 : k_lk RX2 38 yX2_countRest := Or.inl (k_me (tm6 (List.mem_of_getElem? (i := 147) rfl)) rfl)
theorem mv_X2_countRest : k_MV yX2_countRest cX2_countRest 4 none 3 := ⟨(k_me (tm6 (List.mem_of_getElem? (i := 149) rfl)) rfl), (k_me (tmp 4 (List.mem_of_getElem? (i := 38) rfl)) rfl), (k_me (tm1 (List.mem_of_getElem? (i := 13) rfl)) rfl), (k_me (tm6 (List.mem_of_getElem? (i := 150) rfl)) rfl), by decide, by decide, by decide +kernel⟩
theorem lk_X7_29 : k_lk RX7 29 yX3_copyFrom := Or.inl (k_me (tm5 (List.mem_of_getElem? (i := 211) rfl)) rfl)
theorem ck_shX_shMine2_43_3 {rest : List k_Sh} : k_ck [43, 44, 45, 46, 47, 3, 4, 5, 6, 7, 8, 9, 17, 18, 19, 20, 21, 22, 26, 27, 28, 29, 30] shMine2 (shX ++ rest) = true := k_ck_app (by decide +kernel)
theorem lk_X7_37 : k_lk RX7 37 yX3_doomedCells := Or.inl (k_me (tm5 (List.mem_of_getElem? (i := 212) rfl)) rfl)
theorem ck_shX_shMine_43_3 {rest : List k_Sh} : k_ck [43, 44, 45, 46, 47, 3, 4, 5, 6, 7, 8, 9, 17, 18, 19, 20, 21, 22] shMine (shX ++ rest) = true := k_ck_app (by decide +kernel)
theorem lk_X7_41 : k_lk RX7 41 yJ13_bitCount_95d88 := Or.inl (k_me (tm5 (List.mem_of_getElem? (i := 213) rfl)) rfl)
theorem lk_X7_61 : k_lk RX7 61 yX3_ableCells := Or.inl (k_me (tm5 (List.mem_of_getElem? (i := 239) rfl)) rfl)
theorem ck_shX_shMine_48_3 {rest : List k_Sh} : k_ck [48, 49, 50, 51, 52, 3, 4, 5, 6, 7, 8, 9, 17, 18, 19, 20, 21, 22] shMine (shX ++ rest) = true := k_ck_app (by decide +kernel)
theorem lk_X7_64 : k_lk RX7 64 yX3_penceLeft := Or.inl (k_me (tm6 (List.mem_of_getElem? (i := 0) rfl)) rfl)
theorem mv_X3_penceLeft : k_MV yX3_penceLeft cX3_penceLeft 3 (some .int) 1 := ⟨(k_me (tm6 (List.mem_of_getElem? (i := 1) rfl)) rfl), (k_me (tm6 (List.mem_of_getElem? (i := 2) rfl)) rfl), (k_me (tm1 (List.mem_of_getElem? (i := 6) rfl)) rfl), (k_me (tm6 (List.mem_of_getElem? (i := 3) rfl)) rfl), by decide, by decide, by decide +kernel⟩
theorem lk_X7_70 : k_lk RX7 70 yX7_consider := Or.inl (k_me (tm6 (List.mem_of_getElem? (i := 5) rfl)) rfl)
theorem mv_X7_consider : k_MV yX7_consider cX7_consider 5 none 3 := ⟨(k_me (tm6 (List.mem_of_getElem? (i := 7) rfl)) rfl), (k_me (tmp 6 (List.mem_of_getElem? (i := 32) rfl)) rfl), (k_me (tm1 (List.mem_of_getElem? (i := 9) rfl)) rfl), (k_me (tm6 (List.mem_of_getElem? (i := 8) rfl)) rfl), by decide, by decide, by decide +kernel⟩
theorem ck_shX_shMine2_53_3 {rest : List k_Sh} : k_ck [53, 54, 55, 56, 57, 3, 4, 5, 6, 7, 8, 9, 17, 18, 19, 20, 21, 22, 48, 49, 50, 51, 52] shMine2 (shX ++ rest) = true := k_ck_app (by decide +kernel)
theorem lk_X7_74 : k_lk RX7 74 yX3_breakOpen := Or.inl (k_me (tm6 (List.mem_of_getElem? (i := 9) rfl)) rfl)
theorem ck_shX_shMine_53_3 {rest : List k_Sh} : k_ck [53, 54, 55, 56, 57, 3, 4, 5, 6, 7, 8, 9, 17, 18, 19, 20, 21, 22] shMine (shX ++ rest) = true := k_ck_app (by decide +kernel)
theorem lk_X7_57 : k_lk RX7 57 yX7_search := Or.inl (k_me (tm5 (List.mem_of_getElem? (i := 236) rfl)) rfl)
theorem ms_X7_search : k_MS yX7_search cX7_search 14 none 6 := ⟨(k_me (tm5 (List.mem_of_getElem? (i := 237) rfl)) rfl), (k_me (tm1 (List.mem_of_getElem? (i := 9) rfl)) rfl), (k_me (tm5 (List.mem_of_getElem? (i := 238) rfl)) rfl), by decide, by decide, by decide +kernel⟩
theorem ck_shX_shMine2_48_3 {rest : List k_Sh} : k_ck [48, 49, 50, 51, 52, 3, 4, 5, 6, 7, 8, 9, 17, 18, 19, 20, 21, 22, 43, 44, 45, 46, 47] shMine2 (shX ++ rest) = true := k_ck_app (by decide +kernel)
theorem ck_shX_shMine_26_3 {rest : List k_Sh} : k_ck [26, 27, 28, 29, 30, 3, 4, 5, 6, 7, 8, 9, 17, 18, 19, 20, 21, 22] shMine (shX ++ rest) = true := k_ck_app (by decide +kernel)
theorem lk_X7_93 : k_lk RX7 93 yX3_beside := Or.inl (k_me (tm6 (List.mem_of_getElem? (i := 32) rfl)) rfl)
theorem lk_X7_114 : k_lk RX7 114 yX3_barsLeft := Or.inl (k_me (tm6 (List.mem_of_getElem? (i := 36) rfl)) rfl)
theorem lk_X7_78 : k_lk RX7 78 yX3_openCells := Or.inl (k_me (tm6 (List.mem_of_getElem? (i := 21) rfl)) rfl)
theorem lk_X7_83 : k_lk RX7 83 yX7_dryCells := Or.inl (k_me (tm6 (List.mem_of_getElem? (i := 23) rfl)) rfl)
theorem mv_X7_dryCells : k_MV yX7_dryCells cX7_dryCells 4 (some .long) 0 := ⟨(k_me (tm6 (List.mem_of_getElem? (i := 25) rfl)) rfl), (k_me (tmp 6 (List.mem_of_getElem? (i := 33) rfl)) rfl), (k_me (tm1 (List.mem_of_getElem? (i := 9) rfl)) rfl), (k_me (tm6 (List.mem_of_getElem? (i := 26) rfl)) rfl), by decide, by decide, by decide +kernel⟩
theorem lk_X7_86 : k_lk RX7 86 yX3_handCells := Or.inl (k_me (tm6 (List.mem_of_getElem? (i := 27) rfl)) rfl)
theorem lk_X7_89 : k_lk RX7 89 yX7_countBars := Or.inl (k_me (tm6 (List.mem_of_getElem? (i := 28) rfl)) rfl)
theorem mv_X7_countBars : k_MV yX7_countBars cX7_countBars 12 none 3 := ⟨(k_me (tm6 (List.mem_of_getElem? (i := 30) rfl)) rfl), (k_me (tmp 6 (List.mem_of_getElem? (i := 34) rfl)) rfl), (k_me (tm1 (List.mem_of_getElem? (i := 9) rfl)) rfl), (k_me (tm6 (List.mem_of_getElem? (i := 31) rfl)) rfl), by decide, by decide, by decide +kernel⟩
theorem lk_X7_120 : k_lk RX7 120 yX7_propsOfRow := Or.inl (k_me (tm6 (List.mem_of_getElem? (i := 48) rfl)) rfl)
theorem ms_X7_propsOfRow : k_MS yX7_propsOfRow cX7_propsOfRow 7 (some .int) 3 := ⟨(k_me (tm6 (List.mem_of_getElem? (i := 49) rfl)) rfl), (k_me (tm1 (List.mem_of_getElem? (i := 9) rfl)) rfl), (k_me (tm6 (List.mem_of_getElem? (i := 50) rfl)) rfl), by decide, by decide, by decide +kernel⟩
theorem lk_X7_156 : k_lk RX7 156 yX5_orderWorth := Or.inl (k_me (tm6 (List.mem_of_getElem? (i := 82) rfl)) rfl)
theorem mv_X5_orderWorth : k_MV yX5_orderWorth cX5_orderWorth 4 (some .int) 1 := ⟨(k_me (tm5 (List.mem_of_getElem? (i := 162) rfl)) rfl), (k_me (tm5 (List.mem_of_getElem? (i := 163) rfl)) rfl), (k_me (tm1 (List.mem_of_getElem? (i := 3) rfl)) rfl), (k_me (tm5 (List.mem_of_getElem? (i := 164) rfl)) rfl), by decide, by decide, by decide +kernel⟩
theorem ck_shX_shPit_3_8 {rest : List k_Sh} : k_ck [3, 4, 5, 6, 7, 8, 9] shPit (shX ++ rest) = true := k_ck_app (by decide +kernel)
theorem lk_X7_159 : k_lk RX7 159 yX5_wanted := Or.inl (k_me (tm6 (List.mem_of_getElem? (i := 83) rfl)) rfl)
theorem lk_X7_149 : k_lk RX7 149 yX7_penceOfOrders := Or.inl (k_me (tm6 (List.mem_of_getElem? (i := 78) rfl)) rfl)
theorem mv_X7_penceOfOrders : k_MV yX7_penceOfOrders cX7_penceOfOrders 7 (some .int) 2 := ⟨(k_me (tm6 (List.mem_of_getElem? (i := 80) rfl)) rfl), (k_me (tmp 6 (List.mem_of_getElem? (i := 35) rfl)) rfl), (k_me (tm1 (List.mem_of_getElem? (i := 9) rfl)) rfl), (k_me (tm6 (List.mem_of_getElem? (i := 81) rfl)) rfl), by decide, by decide, by decide +kernel⟩
