def shM : List k_Sh := [(0, 11, [0, 4, 0, 0, 0, 0, 0, 0, 0, 5, 6, 7, 8, 9, 10, 11, 12, 13, 0, 0, 0, 0, 0, 0, 0, 0, 0, 0, 0, 0, 0, 14, 15, 16, 17, 18, 19, 0, 20, 21, 22, 0, 0, 0, 0, 0, 0, 23, 24, 25, 26, 27, 28, 29, 0, 30, 0, 0, 1, 31, 32, 33, 0, 0, 34, 0]), (1, 3, []), (1, 600, []), (1, 48, []), (1, 48, []), (1, 5, []), (1, 60, []), (1, 48, []), (1, 48, []), (1, 5, []), (1, 60, []), (1, 150, []), (1, 150, []), (1, 300, []), (1, 300, []), (1, 2, []), (1, 150, []), (1, 8, []), (1, 150, []), (1, 150, []), (1, 77, []), (1, 77, []), (1, 1232, []), (3, 48, []), (1, 5, []), (1, 16, []), (1, 16, []), (1, 385, []), (1, 48, []), (1, 48, []), (1, 7, []), (1, 3930, [])]
theorem in_X11 : ∀ w ∈ u_ws RX11 TX11 66, w ∈ k_tb := by decide +kernel
theorem fl_X11_184 : k_FL RX11 184 11 25 := ⟨_, _, _, rfl, in_X11, by decide, Or.inl (k_me (tm7 (List.mem_of_getElem? (i := 23) rfl)) rfl)⟩
theorem fl_X11_187 : k_FL RX11 187 11 26 := ⟨_, _, _, rfl, in_X11, by decide, Or.inl (k_me (tm7 (List.mem_of_getElem? (i := 24) rfl)) rfl)⟩
theorem fl_X11_77 : k_FL RX11 77 11 48 := ⟨_, _, _, rfl, in_X11, by decide, Or.inl (k_me (tm7 (List.mem_of_getElem? (i := 46) rfl)) rfl)⟩
theorem fl_X11_190 : k_FL RX11 190 11 27 := ⟨_, _, _, rfl, in_X11, by decide, Or.inl (k_me (tm7 (List.mem_of_getElem? (i := 25) rfl)) rfl)⟩
theorem fl_X11_65 : k_FL RX11 65 11 38 := ⟨_, _, _, rfl, in_X11, by decide, Or.inl (k_me (tm7 (List.mem_of_getElem? (i := 36) rfl)) rfl)⟩
theorem fl_X11_35 : k_FL RX11 35 11 14 := ⟨_, _, _, rfl, in_X11, by decide, Or.inl (k_me (tm7 (List.mem_of_getElem? (i := 12) rfl)) rfl)⟩
theorem fl_X11_38 : k_FL RX11 38 11 15 := ⟨_, _, _, rfl, in_X11, by decide, Or.inl (k_me (tm7 (List.mem_of_getElem? (i := 13) rfl)) rfl)⟩
theorem fl_X11_59 : k_FL RX11 59 11 35 := ⟨_, _, _, rfl, in_X11, by decide, Or.inl (k_me (tm7 (List.mem_of_getElem? (i := 33) rfl)) rfl)⟩
theorem fl_X11_62 : k_FL RX11 62 11 36 := ⟨_, _, _, rfl, in_X11, by decide, Or.inl (k_me (tm7 (List.mem_of_getElem? (i := 34) rfl)) rfl)⟩
theorem fl_X11_53 : k_FL RX11 53 11 33 := ⟨_, _, _, rfl, in_X11, by decide, Or.inl (k_me (tm7 (List.mem_of_getElem? (i := 31) rfl)) rfl)⟩
theorem fl_X11_56 : k_FL RX11 56 11 34 := ⟨_, _, _, rfl, in_X11, by decide, Or.inl (k_me (tm7 (List.mem_of_getElem? (i := 32) rfl)) rfl)⟩
theorem lk_X11_363 : k_lk RX11 363 yX11_isIn := Or.inl (k_me (tm8 (List.mem_of_getElem? (i := 151) rfl)) rfl)
theorem mv_X11_isIn : k_MV yX11_isIn cX11_isIn 3 (some .boolean) 2 := ⟨(k_me (tm8 (List.mem_of_getElem? (i := 153) rfl)) rfl), (k_me (tmp 66 (List.mem_of_getElem? (i := 76) rfl)) rfl), (k_me (tm1 (List.mem_of_getElem? (i := 14) rfl)) rfl), (k_me (tm8 (List.mem_of_getElem? (i := 154) rfl)) rfl), by decide, by decide, by decide +kernel⟩
theorem lk_X11_367 : k_lk RX11 367 yX11_isOpen := Or.inl (k_me (tm8 (List.mem_of_getElem? (i := 147) rfl)) rfl)
theorem mv_X11_isOpen : k_MV yX11_isOpen cX11_isOpen 3 (some .boolean) 2 := ⟨(k_me (tm8 (List.mem_of_getElem? (i := 149) rfl)) rfl), (k_me (tmp 66 (List.mem_of_getElem? (i := 75) rfl)) rfl), (k_me (tm1 (List.mem_of_getElem? (i := 14) rfl)) rfl), (k_me (tm8 (List.mem_of_getElem? (i := 150) rfl)) rfl), by decide, by decide, by decide +kernel⟩
theorem lk_X11_370 : k_lk RX11 370 yX11_propped := Or.inl (k_me (tm8 (List.mem_of_getElem? (i := 171) rfl)) rfl)
theorem mv_X11_propped : k_MV yX11_propped cX11_propped 3 (some .int) 2 := ⟨(k_me (tm8 (List.mem_of_getElem? (i := 173) rfl)) rfl), (k_me (tmp 66 (List.mem_of_getElem? (i := 81) rfl)) rfl), (k_me (tm1 (List.mem_of_getElem? (i := 14) rfl)) rfl), (k_me (tm8 (List.mem_of_getElem? (i := 174) rfl)) rfl), by decide, by decide, by decide +kernel⟩
theorem lk_X11_321 : k_lk RX11 321 yX11_both := Or.inl (k_me (tm8 (List.mem_of_getElem? (i := 179) rfl)) rfl)
theorem ms_X11_both : k_MS yX11_both cX11_both 3 (some .int) 3 := ⟨(k_me (tm8 (List.mem_of_getElem? (i := 180) rfl)) rfl), (k_me (tm1 (List.mem_of_getElem? (i := 14) rfl)) rfl), (k_me (tm8 (List.mem_of_getElem? (i := 181) rfl)) rfl), by decide, by decide, by decide +kernel⟩
