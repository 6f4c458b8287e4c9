theorem mv_X10_image : k_MV yX10_image cX10_image 1 (some .int) 0 := ⟨(k_me (tm3 (List.mem_of_getElem? (i := 102) rfl)) rfl), (k_me (tm3 (List.mem_of_getElem? (i := 103) rfl)) rfl), (k_me (tm1 (List.mem_of_getElem? (i := 1) rfl)) rfl), (k_me (tm3 (List.mem_of_getElem? (i := 104) rfl)) rfl), by decide, by decide, by decide +kernel⟩
theorem mv_X10_undo : k_MV yX10_undo cX10_undo 1 (some .int) 0 := ⟨(k_me (tm3 (List.mem_of_getElem? (i := 25) rfl)) rfl), (k_me (tm3 (List.mem_of_getElem? (i := 26) rfl)) rfl), (k_me (tm1 (List.mem_of_getElem? (i := 1) rfl)) rfl), (k_me (tm3 (List.mem_of_getElem? (i := 27) rfl)) rfl), by decide, by decide, by decide +kernel⟩
theorem mv_X10_restore : k_MV yX10_restore cX10_restore 1 (some .int) 0 := ⟨(k_me (tm3 (List.mem_of_getElem? (i := 114) rfl)) rfl), (k_me (tm3 (List.mem_of_getElem? (i := 115) rfl)) rfl), (k_me (tm1 (List.mem_of_getElem? (i := 1) rfl)) rfl), (k_me (tm3 (List.mem_of_getElem? (i := 116) rfl)) rfl), by decide, by decide, by decide +kernel⟩
theorem mv_X10_feed : k_MV yX10_feed cX10_feed 6 (some .int) 5 := ⟨(k_me (tm3 (List.mem_of_getElem? (i := 13) rfl)) rfl), (k_me (tm3 (List.mem_of_getElem? (i := 14) rfl)) rfl), (k_me (tm1 (List.mem_of_getElem? (i := 1) rfl)) rfl), (k_me (tm3 (List.mem_of_getElem? (i := 15) rfl)) rfl), by decide, by decide, by decide +kernel⟩
theorem mv_X11_feed : k_MV yX11_feed cX11_feed 8 (some .int) 5 := ⟨(k_me (tm7 (List.mem_of_getElem? (i := 196) rfl)) rfl), (k_me (tm7 (List.mem_of_getElem? (i := 197) rfl)) rfl), (k_me (tm1 (List.mem_of_getElem? (i := 14) rfl)) rfl), (k_me (tm7 (List.mem_of_getElem? (i := 198) rfl)) rfl), by decide, by decide, by decide +kernel⟩
theorem lk_L_114 : k_lk RL 114 yX11_feed := Or.inl (k_me (tm7 (List.mem_of_getElem? (i := 195) rfl)) rfl)
theorem lk_L_111 : k_lk RL 111 yX10_feed := Or.inl (k_me (tm3 (List.mem_of_getElem? (i := 12) rfl)) rfl)
theorem mv_X11_pit : k_MV yX11_pit cX11_pit 4 (some .int) 1 := ⟨(k_me (tm7 (List.mem_of_getElem? (i := 204) rfl)) rfl), (k_me (tm7 (List.mem_of_getElem? (i := 205) rfl)) rfl), (k_me (tm1 (List.mem_of_getElem? (i := 14) rfl)) rfl), (k_me (tm7 (List.mem_of_getElem? (i := 206) rfl)) rfl), by decide, by decide, by decide +kernel⟩
theorem lk_L_120 : k_lk RL 120 yX11_pit := Or.inl (k_me (tm7 (List.mem_of_getElem? (i := 203) rfl)) rfl)
theorem mv_X11_thrown : k_MV yX11_thrown cX11_thrown 1 (some .int) 0 := ⟨(k_me (tm6 (List.mem_of_getElem? (i := 214) rfl)) rfl), (k_me (tm6 (List.mem_of_getElem? (i := 215) rfl)) rfl), (k_me (tm1 (List.mem_of_getElem? (i := 14) rfl)) rfl), (k_me (tm6 (List.mem_of_getElem? (i := 216) rfl)) rfl), by decide, by decide, by decide +kernel⟩
theorem lk_L_121 : k_lk RL 121 yX11_thrown := Or.inl (k_me (tm6 (List.mem_of_getElem? (i := 213) rfl)) rfl)
theorem mh_L_pit : k_MH yL_pit cL_pit 4 (some .int) hh_pit 3 := ⟨(k_me (tm3 (List.mem_of_getElem? (i := 130) rfl)) rfl), (k_me (tm1 (List.mem_of_getElem? (i := 0) rfl)) rfl), (k_me (tm3 (List.mem_of_getElem? (i := 131) rfl)) rfl), by decide, by decide, by decide +kernel⟩
theorem mv_X11_law : k_MV yX11_law cX11_law 5 (some .int) 2 := ⟨(k_me (tm8 (List.mem_of_getElem? (i := 47) rfl)) rfl), (k_me (tm8 (List.mem_of_getElem? (i := 48) rfl)) rfl), (k_me (tm1 (List.mem_of_getElem? (i := 14) rfl)) rfl), (k_me (tm8 (List.mem_of_getElem? (i := 49) rfl)) rfl), by decide, by decide, by decide +kernel⟩
theorem lk_L_128 : k_lk RL 128 yX11_law := Or.inl (k_me (tm8 (List.mem_of_getElem? (i := 46) rfl)) rfl)
theorem mh_L_law : k_MH yL_law cL_law 5 (some .int) hh_law 4 := ⟨(k_me (tm4 (List.mem_of_getElem? (i := 122) rfl)) rfl), (k_me (tm1 (List.mem_of_getElem? (i := 0) rfl)) rfl), (k_me (tm4 (List.mem_of_getElem? (i := 123) rfl)) rfl), by decide, by decide, by decide +kernel⟩
theorem mv_X11_work : k_MV yX11_work cX11_work 4 (some .int) 1 := ⟨(k_me (tm8 (List.mem_of_getElem? (i := 92) rfl)) rfl), (k_me (tm8 (List.mem_of_getElem? (i := 93) rfl)) rfl), (k_me (tm1 (List.mem_of_getElem? (i := 14) rfl)) rfl), (k_me (tm8 (List.mem_of_getElem? (i := 94) rfl)) rfl), by decide, by decide, by decide +kernel⟩
theorem lk_L_131 : k_lk RL 131 yX11_work := Or.inl (k_me (tm8 (List.mem_of_getElem? (i := 91) rfl)) rfl)
theorem mh_L_work : k_MH yL_work cL_work 4 (some .int) hh_work 3 := ⟨(k_me (tm4 (List.mem_of_getElem? (i := 177) rfl)) rfl), (k_me (tm1 (List.mem_of_getElem? (i := 0) rfl)) rfl), (k_me (tm4 (List.mem_of_getElem? (i := 178) rfl)) rfl), by decide, by decide, by decide +kernel⟩
theorem mv_X11_book : k_MV yX11_book cX11_book 7 (some .int) 1 := ⟨(k_me (tm8 (List.mem_of_getElem? (i := 192) rfl)) rfl), (k_me (tm8 (List.mem_of_getElem? (i := 193) rfl)) rfl), (k_me (tm1 (List.mem_of_getElem? (i := 14) rfl)) rfl), (k_me (tm8 (List.mem_of_getElem? (i := 194) rfl)) rfl), by decide, by decide, by decide +kernel⟩
theorem lk_L_134 : k_lk RL 134 yX11_book := Or.inl (k_me (tm8 (List.mem_of_getElem? (i := 191) rfl)) rfl)
theorem mh_L_book : k_MH yL_book cL_book 4 (some .int) hh_book 3 := ⟨(k_me (tm5 (List.mem_of_getElem? (i := 65) rfl)) rfl), (k_me (tm1 (List.mem_of_getElem? (i := 0) rfl)) rfl), (k_me (tm5 (List.mem_of_getElem? (i := 66) rfl)) rfl), by decide, by decide, by decide +kernel⟩
theorem mv_X10_fault : k_MV yX10_fault cX10_fault 1 (some .int) 0 := ⟨(k_me (tm3 (List.mem_of_getElem? (i := 21) rfl)) rfl), (k_me (tm3 (List.mem_of_getElem? (i := 22) rfl)) rfl), (k_me (tm1 (List.mem_of_getElem? (i := 1) rfl)) rfl), (k_me (tm3 (List.mem_of_getElem? (i := 23) rfl)) rfl), by decide, by decide, by decide +kernel⟩
theorem mv_X11_fault : k_MV yX11_fault cX11_fault 1 (some .int) 0 := ⟨(k_me (tm7 (List.mem_of_getElem? (i := 200) rfl)) rfl), (k_me (tm7 (List.mem_of_getElem? (i := 201) rfl)) rfl), (k_me (tm1 (List.mem_of_getElem? (i := 14) rfl)) rfl), (k_me (tm7 (List.mem_of_getElem? (i := 202) rfl)) rfl), by decide, by decide, by decide +kernel⟩
theorem lk_L_138 : k_lk RL 138 yX11_fault := Or.inl (k_me (tm7 (List.mem_of_getElem? (i := 199) rfl)) rfl)
theorem lk_L_135 : k_lk RL 135 yX10_fault := Or.inl (k_me (tm3 (List.mem_of_getElem? (i := 20) rfl)) rfl)
theorem mv_X11_undo : k_MV yX11_undo cX11_undo 2 (some .int) 0 := ⟨(k_me (tm8 (List.mem_of_getElem? (i := 196) rfl)) rfl), (k_me (tm8 (List.mem_of_getElem? (i := 197) rfl)) rfl), (k_me (tm1 (List.mem_of_getElem? (i := 14) rfl)) rfl), (k_me (tm8 (List.mem_of_getElem? (i := 198) rfl)) rfl), by decide, by decide, by decide +kernel⟩
theorem lk_L_142 : k_lk RL 142 yX11_undo := Or.inl (k_me (tm8 (List.mem_of_getElem? (i := 195) rfl)) rfl)
theorem mv_X11_told : k_MV yX11_told cX11_told 2 (some .int) 1 := ⟨(k_me (tm8 (List.mem_of_getElem? (i := 200) rfl)) rfl), (k_me (tm8 (List.mem_of_getElem? (i := 201) rfl)) rfl), (k_me (tm1 (List.mem_of_getElem? (i := 14) rfl)) rfl), (k_me (tm8 (List.mem_of_getElem? (i := 202) rfl)) rfl), by decide, by decide, by decide +kernel⟩
theorem lk_L_145 : k_lk RL 145 yX11_told := Or.inl (k_me (tm8 (List.mem_of_getElem? (i := 199) rfl)) rfl)
theorem mh_L_told : k_MH yL_told cL_told 4 (some .int) hh_told 3 := ⟨(k_me (tm5 (List.mem_of_getElem? (i := 82) rfl)) rfl), (k_me (tm1 (List.mem_of_getElem? (i := 0) rfl)) rfl), (k_me (tm5 (List.mem_of_getElem? (i := 83) rfl)) rfl), by decide, by decide, by decide +kernel⟩
theorem mv_X11_cell : k_MV yX11_cell cX11_cell 5 (some .int) 3 := ⟨(k_me (tm8 (List.mem_of_getElem? (i := 204) rfl)) rfl), (k_me (tm8 (List.mem_of_getElem? (i := 205) rfl)) rfl), (k_me (tm1 (List.mem_of_getElem? (i := 14) rfl)) rfl), (k_me (tm8 (List.mem_of_getElem? (i := 206) rfl)) rfl), by decide, by decide, by decide +kernel⟩
theorem lk_L_149 : k_lk RL 149 yX11_cell := Or.inl (k_me (tm8 (List.mem_of_getElem? (i := 203) rfl)) rfl)
theorem mh_L_cell : k_MH yL_cell cL_cell 6 (some .int) hh_cell 5 := ⟨(k_me (tm5 (List.mem_of_getElem? (i := 89) rfl)) rfl), (k_me (tm1 (List.mem_of_getElem? (i := 0) rfl)) rfl), (k_me (tm5 (List.mem_of_getElem? (i := 90) rfl)) rfl), by decide, by decide, by decide +kernel⟩
theorem mv_X11_kind : k_MV yX11_kind cX11_kind 5 (some .int) 2 := ⟨(k_me (tm8 (List.mem_of_getElem? (i := 212) rfl)) rfl), (k_me (tm8 (List.mem_of_getElem? (i := 213) rfl)) rfl), (k_me (tm1 (List.mem_of_getElem? (i := 14) rfl)) rfl), (k_me (tm8 (List.mem_of_getElem? (i := 214) rfl)) rfl), by decide, by decide, by decide +kernel⟩
theorem lk_L_152 : k_lk RL 152 yX11_kind := Or.inl (k_me (tm8 (List.mem_of_getElem? (i := 211) rfl)) rfl)
theorem mh_L_kind : k_MH yL_kind cL_kind 5 (some .int) hh_kind 4 := ⟨(k_me (tm5 (List.mem_of_getElem? (i := 122) rfl)) rfl), (k_me (tm1 (List.mem_of_getElem? (i := 0) rfl)) rfl), (k_me (tm5 (List.mem_of_getElem? (i := 123) rfl)) rfl), by decide, by decide, by decide +kernel⟩
theorem mv_X11_order : k_MV yX11_order cX11_order 3 (some .int) 2 := ⟨(k_me (tm8 (List.mem_of_getElem? (i := 216) rfl)) rfl), (k_me (tm8 (List.mem_of_getElem? (i := 217) rfl)) rfl), (k_me (tm1 (List.mem_of_getElem? (i := 14) rfl)) rfl), (k_me (tm8 (List.mem_of_getElem? (i := 218) rfl)) rfl), by decide, by decide, by decide +kernel⟩
theorem lk_L_155 : k_lk RL 155 yX11_order := Or.inl (k_me (tm8 (List.mem_of_getElem? (i := 215) rfl)) rfl)
theorem mh_L_order : k_MH yL_order cL_order 5 (some .int) hh_order 4 := ⟨(k_me (tm5 (List.mem_of_getElem? (i := 134) rfl)) rfl), (k_me (tm1 (List.mem_of_getElem? (i := 0) rfl)) rfl), (k_me (tm5 (List.mem_of_getElem? (i := 135) rfl)) rfl), by decide, by decide, by decide +kernel⟩
theorem mv_X11_note : k_MV yX11_note cX11_note 3 (some .int) 2 := ⟨(k_me (tm8 (List.mem_of_getElem? (i := 224) rfl)) rfl), (k_me (tm8 (List.mem_of_getElem? (i := 225) rfl)) rfl), (k_me (tm1 (List.mem_of_getElem? (i := 14) rfl)) rfl), (k_me (tm8 (List.mem_of_getElem? (i := 226) rfl)) rfl), by decide, by decide, by decide +kernel⟩
theorem lk_L_158 : k_lk RL 158 yX11_note := Or.inl (k_me (tm8 (List.mem_of_getElem? (i := 223) rfl)) rfl)
theorem mh_L_note : k_MH yL_note cL_note 5 (some .int) hh_note 4 := ⟨(k_me (tm5 (List.mem_of_getElem? (i := 167) rfl)) rfl), (k_me (tm1 (List.mem_of_getElem? (i := 0) rfl)) rfl), (k_me (tm5 (List.mem_of_getElem? (i := 168) rfl)) rfl), by decide, by decide, by decide +kernel⟩
theorem mv_X11_lacks : k_MV yX11_lacks cX11_lacks 2 (some .int) 1 := ⟨(k_me (tm8 (List.mem_of_getElem? (i := 228) rfl)) rfl), (k_me (tm8 (List.mem_of_getElem? (i := 229) rfl)) rfl), (k_me (tm1 (List.mem_of_getElem? (i := 14) rfl)) rfl), (k_me (tm8 (List.mem_of_getElem? (i := 230) rfl)) rfl), by decide, by decide, by decide +kernel⟩
theorem lk_L_161 : k_lk RL 161 yX11_lacks := Or.inl (k_me (tm8 (List.mem_of_getElem? (i := 227) rfl)) rfl)
theorem mh_L_lacks : k_MH yL_lacks cL_lacks 4 (some .int) hh_lacks 3 := ⟨(k_me (tm5 (List.mem_of_getElem? (i := 174) rfl)) rfl), (k_me (tm1 (List.mem_of_getElem? (i := 0) rfl)) rfl), (k_me (tm5 (List.mem_of_getElem? (i := 175) rfl)) rfl), by decide, by decide, by decide +kernel⟩
theorem mv_X11_can : k_MV yX11_can cX11_can 4 (some .int) 2 := ⟨(k_me (tm8 (List.mem_of_getElem? (i := 232) rfl)) rfl), (k_me (tm8 (List.mem_of_getElem? (i := 233) rfl)) rfl), (k_me (tm1 (List.mem_of_getElem? (i := 14) rfl)) rfl), (k_me (tm8 (List.mem_of_getElem? (i := 234) rfl)) rfl), by decide, by decide, by decide +kernel⟩
theorem lk_L_164 : k_lk RL 164 yX11_can := Or.inl (k_me (tm8 (List.mem_of_getElem? (i := 231) rfl)) rfl)
theorem mh_L_can : k_MH yL_can cL_can 5 (some .int) hh_can 4 := ⟨(k_me (tm5 (List.mem_of_getElem? (i := 182) rfl)) rfl), (k_me (tm1 (List.mem_of_getElem? (i := 0) rfl)) rfl), (k_me (tm5 (List.mem_of_getElem? (i := 183) rfl)) rfl), by decide, by decide, by decide +kernel⟩
theorem mv_X11_falls : k_MV yX11_falls cX11_falls 3 (some .boolean) 2 := ⟨(k_me (tm8 (List.mem_of_getElem? (i := 236) rfl)) rfl), (k_me (tm8 (List.mem_of_getElem? (i := 237) rfl)) rfl), (k_me (tm1 (List.mem_of_getElem? (i := 14) rfl)) rfl), (k_me (tm8 (List.mem_of_getElem? (i := 238) rfl)) rfl), by decide, by decide, by decide +kernel⟩
theorem lk_L_167 : k_lk RL 167 yX11_falls := Or.inl (k_me (tm8 (List.mem_of_getElem? (i := 235) rfl)) rfl)
theorem mh_L_falls : k_MH yL_falls cL_falls 5 (some .int) hh_falls 4 := ⟨(k_me (tm5 (List.mem_of_getElem? (i := 190) rfl)) rfl), (k_me (tm1 (List.mem_of_getElem? (i := 0) rfl)) rfl), (k_me (tm5 (List.mem_of_getElem? (i := 191) rfl)) rfl), by decide, by decide, by decide +kernel⟩
theorem mv_X11_risks : k_MV yX11_risks cX11_risks 4 (some .int) 2 := ⟨(k_me (tm9 (List.mem_of_getElem? (i := 0) rfl)) rfl), (k_me (tm9 (List.mem_of_getElem? (i := 1) rfl)) rfl), (k_me (tm1 (List.mem_of_getElem? (i := 14) rfl)) rfl), (k_me (tm9 (List.mem_of_getElem? (i := 2) rfl)) rfl), by decide, by decide, by decide +kernel⟩
theorem lk_L_170 : k_lk RL 170 yX11_risks := Or.inl (k_me (tm8 (List.mem_of_getElem? (i := 239) rfl)) rfl)
theorem mh_L_risks : k_MH yL_risks cL_risks 5 (some .int) hh_risks 4 := ⟨(k_me (tm5 (List.mem_of_getElem? (i := 201) rfl)) rfl), (k_me (tm1 (List.mem_of_getElem? (i := 0) rfl)) rfl), (k_me (tm5 (List.mem_of_getElem? (i := 202) rfl)) rfl), by decide, by decide, by decide +kernel⟩
theorem mv_X11_harm : k_MV yX11_harm cX11_harm 3 (some .int) 2 := ⟨(k_me (tm9 (List.mem_of_getElem? (i := 4) rfl)) rfl), (k_me (tm9 (List.mem_of_getElem? (i := 5) rfl)) rfl), (k_me (tm1 (List.mem_of_getElem? (i := 14) rfl)) rfl), (k_me (tm9 (List.mem_of_getElem? (i := 6) rfl)) rfl), by decide, by decide, by decide +kernel⟩
theorem lk_L_173 : k_lk RL 173 yX11_harm := Or.inl (k_me (tm9 (List.mem_of_getElem? (i := 3) rfl)) rfl)
theorem mh_L_harm : k_MH yL_harm cL_harm 5 (some .int) hh_harm 4 := ⟨(k_me (tm5 (List.mem_of_getElem? (i := 215) rfl)) rfl), (k_me (tm1 (List.mem_of_getElem? (i := 0) rfl)) rfl), (k_me (tm5 (List.mem_of_getElem? (i := 216) rfl)) rfl), by decide, by decide, by decide +kernel⟩
theorem mv_X11_best : k_MV yX11_best cX11_best 3 (some .long) 2 := ⟨(k_me (tm9 (List.mem_of_getElem? (i := 8) rfl)) rfl), (k_me (tm9 (List.mem_of_getElem? (i := 9) rfl)) rfl), (k_me (tm1 (List.mem_of_getElem? (i := 14) rfl)) rfl), (k_me (tm9 (List.mem_of_getElem? (i := 10) rfl)) rfl), by decide, by decide, by decide +kernel⟩
theorem lk_L_176 : k_lk RL 176 yX11_best := Or.inl (k_me (tm9 (List.mem_of_getElem? (i := 7) rfl)) rfl)
theorem mh_L_best : k_MH yL_best cL_best 5 (some .int) hh_best 4 := ⟨(k_me (tm5 (List.mem_of_getElem? (i := 223) rfl)) rfl), (k_me (tm1 (List.mem_of_getElem? (i := 0) rfl)) rfl), (k_me (tm5 (List.mem_of_getElem? (i := 224) rfl)) rfl), by decide, by decide, by decide +kernel⟩
theorem mv_X11_way : k_MV yX11_way cX11_way 5 (some .int) 3 := ⟨(k_me (tm9 (List.mem_of_getElem? (i := 17) rfl)) rfl), (k_me (tm9 (List.mem_of_getElem? (i := 18) rfl)) rfl), (k_me (tm1 (List.mem_of_getElem? (i := 14) rfl)) rfl), (k_me (tm9 (List.mem_of_getElem? (i := 19) rfl)) rfl), by decide, by decide, by decide +kernel⟩
theorem lk_L_179 : k_lk RL 179 yX11_way := Or.inl (k_me (tm9 (List.mem_of_getElem? (i := 16) rfl)) rfl)
theorem mh_L_way : k_MH yL_way cL_way 6 (some .int) hh_way 5 := ⟨(k_me (tm6 (List.mem_of_getElem? (i := 11) rfl)) rfl), (k_me (tm1 (List.mem_of_getElem? (i := 0) rfl)) rfl), (k_me (tm6 (List.mem_of_getElem? (i := 12) rfl)) rfl), by decide, by decide, by decide +kernel⟩
theorem mv_X11_hold : k_MV yX11_hold cX11_hold 5 (some .long) 1 := ⟨(k_me (tm9 (List.mem_of_getElem? (i := 33) rfl)) rfl), (k_me (tm9 (List.mem_of_getElem? (i := 34) rfl)) rfl), (k_me (tm1 (List.mem_of_getElem? (i := 14) rfl)) rfl), (k_me (tm9 (List.mem_of_getElem? (i := 35) rfl)) rfl), by decide, by decide, by decide +kernel⟩
theorem lk_L_182 : k_lk RL 182 yX11_hold := Or.inl (k_me (tm9 (List.mem_of_getElem? (i := 32) rfl)) rfl)
theorem mh_L_hold : k_MH yL_hold cL_hold 4 (some .int) hh_hold 3 := ⟨(k_me (tm6 (List.mem_of_getElem? (i := 38) rfl)) rfl), (k_me (tm1 (List.mem_of_getElem? (i := 0) rfl)) rfl), (k_me (tm6 (List.mem_of_getElem? (i := 39) rfl)) rfl), by decide, by decide, by decide +kernel⟩
theorem mv_X11_fill : k_MV yX11_fill cX11_fill 8 (some .int) 1 := ⟨(k_me (tm9 (List.mem_of_getElem? (i := 42) rfl)) rfl), (k_me (tm9 (List.mem_of_getElem? (i := 43) rfl)) rfl), (k_me (tm1 (List.mem_of_getElem? (i := 14) rfl)) rfl), (k_me (tm9 (List.mem_of_getElem? (i := 44) rfl)) rfl), by decide, by decide, by decide +kernel⟩
theorem lk_L_185 : k_lk RL 185 yX11_fill := Or.inl (k_me (tm9 (List.mem_of_getElem? (i := 41) rfl)) rfl)
theorem mh_L_fill : k_MH yL_fill cL_fill 4 (some .int) hh_fill 3 := ⟨(k_me (tm6 (List.mem_of_getElem? (i := 68) rfl)) rfl), (k_me (tm1 (List.mem_of_getElem? (i := 0) rfl)) rfl), (k_me (tm6 (List.mem_of_getElem? (i := 69) rfl)) rfl), by decide, by decide, by decide +kernel⟩
theorem mv_X11_tap : k_MV yX11_tap cX11_tap 2 (some .int) 1 := ⟨(k_me (tm9 (List.mem_of_getElem? (i := 46) rfl)) rfl), (k_me (tm9 (List.mem_of_getElem? (i := 47) rfl)) rfl), (k_me (tm1 (List.mem_of_getElem? (i := 14) rfl)) rfl), (k_me (tm9 (List.mem_of_getElem? (i := 48) rfl)) rfl), by decide, by decide, by decide +kernel⟩
theorem lk_L_188 : k_lk RL 188 yX11_tap := Or.inl (k_me (tm9 (List.mem_of_getElem? (i := 45) rfl)) rfl)
theorem mh_L_tap : k_MH yL_tap cL_tap 4 (some .int) hh_tap 3 := ⟨(k_me (tm6 (List.mem_of_getElem? (i := 85) rfl)) rfl), (k_me (tm1 (List.mem_of_getElem? (i := 0) rfl)) rfl), (k_me (tm6 (List.mem_of_getElem? (i := 86) rfl)) rfl), by decide, by decide, by decide +kernel⟩
theorem mv_X11_moved : k_MV yX11_moved cX11_moved 3 (some .int) 2 := ⟨(k_me (tm9 (List.mem_of_getElem? (i := 58) rfl)) rfl), (k_me (tm9 (List.mem_of_getElem? (i := 59) rfl)) rfl), (k_me (tm1 (List.mem_of_getElem? (i := 14) rfl)) rfl), (k_me (tm9 (List.mem_of_getElem? (i := 60) rfl)) rfl), by decide, by decide, by decide +kernel⟩
theorem lk_L_191 : k_lk RL 191 yX11_moved := Or.inl (k_me (tm9 (List.mem_of_getElem? (i := 57) rfl)) rfl)
theorem mh_L_moved : k_MH yL_moved cL_moved 5 (some .int) hh_moved 4 := ⟨(k_me (tm6 (List.mem_of_getElem? (i := 97) rfl)) rfl), (k_me (tm1 (List.mem_of_getElem? (i := 0) rfl)) rfl), (k_me (tm6 (List.mem_of_getElem? (i := 98) rfl)) rfl), by decide, by decide, by decide +kernel⟩
theorem mv_X10_fits : k_MV yX10_fits cX10_fits 1 (some .int) 0 := ⟨(k_me (tm3 (List.mem_of_getElem? (i := 37) rfl)) rfl), (k_me (tm3 (List.mem_of_getElem? (i := 38) rfl)) rfl), (k_me (tm1 (List.mem_of_getElem? (i := 1) rfl)) rfl), (k_me (tm3 (List.mem_of_getElem? (i := 39) rfl)) rfl), by decide, by decide, by decide +kernel⟩
theorem mv_X11_fits : k_MV yX11_fits cX11_fits 1 (some .int) 0 := ⟨(k_me (tm9 (List.mem_of_getElem? (i := 62) rfl)) rfl), (k_me (tm9 (List.mem_of_getElem? (i := 63) rfl)) rfl), (k_me (tm1 (List.mem_of_getElem? (i := 14) rfl)) rfl), (k_me (tm9 (List.mem_of_getElem? (i := 64) rfl)) rfl), by decide, by decide, by decide +kernel⟩
theorem lk_L_195 : k_lk RL 195 yX11_fits := Or.inl (k_me (tm9 (List.mem_of_getElem? (i := 61) rfl)) rfl)
theorem lk_L_192 : k_lk RL 192 yX10_fits := Or.inl (k_me (tm3 (List.mem_of_getElem? (i := 36) rfl)) rfl)
theorem mv_X11_next_ : k_MV yX11_next_ cX11_next_ 7 (some .int) 1 := ⟨(k_me (tm9 (List.mem_of_getElem? (i := 70) rfl)) rfl), (k_me (tm9 (List.mem_of_getElem? (i := 71) rfl)) rfl), (k_me (tm1 (List.mem_of_getElem? (i := 14) rfl)) rfl), (k_me (tm9 (List.mem_of_getElem? (i := 72) rfl)) rfl), by decide, by decide, by decide +kernel⟩
theorem lk_L_198 : k_lk RL 198 yX11_next_ := Or.inl (k_me (tm9 (List.mem_of_getElem? (i := 69) rfl)) rfl)
theorem mh_L_next : k_MH yL_next cL_next 4 (some .int) hh_next 3 := ⟨(k_me (tm6 (List.mem_of_getElem? (i := 104) rfl)) rfl), (k_me (tm1 (List.mem_of_getElem? (i := 0) rfl)) rfl), (k_me (tm6 (List.mem_of_getElem? (i := 105) rfl)) rfl), by decide, by decide, by decide +kernel⟩
theorem mv_X11_canon : k_MV yX11_canon cX11_canon 10 (some .int) 3 := ⟨(k_me (tm9 (List.mem_of_getElem? (i := 82) rfl)) rfl), (k_me (tm9 (List.mem_of_getElem? (i := 83) rfl)) rfl), (k_me (tm1 (List.mem_of_getElem? (i := 14) rfl)) rfl), (k_me (tm9 (List.mem_of_getElem? (i := 84) rfl)) rfl), by decide, by decide, by decide +kernel⟩
theorem lk_L_201 : k_lk RL 201 yX11_canon := Or.inl (k_me (tm9 (List.mem_of_getElem? (i := 81) rfl)) rfl)
theorem mh_L_canon : k_MH yL_canon cL_canon 6 (some .int) hh_canon 5 := ⟨(k_me (tm6 (List.mem_of_getElem? (i := 121) rfl)) rfl), (k_me (tm1 (List.mem_of_getElem? (i := 0) rfl)) rfl), (k_me (tm6 (List.mem_of_getElem? (i := 122) rfl)) rfl), by decide, by decide, by decide +kernel⟩
theorem mv_X11_owners : k_MV yX11_owners cX11_owners 8 (some .int) 3 := ⟨(k_me (tm9 (List.mem_of_getElem? (i := 86) rfl)) rfl), (k_me (tm9 (List.mem_of_getElem? (i := 87) rfl)) rfl), (k_me (tm1 (List.mem_of_getElem? (i := 14) rfl)) rfl), (k_me (tm9 (List.mem_of_getElem? (i := 88) rfl)) rfl), by decide, by decide, by decide +kernel⟩
theorem lk_L_204 : k_lk RL 204 yX11_owners := Or.inl (k_me (tm9 (List.mem_of_getElem? (i := 85) rfl)) rfl)
theorem mh_L_owners : k_MH yL_owners cL_owners 6 (some .int) hh_owners 5 := ⟨(k_me (tm6 (List.mem_of_getElem? (i := 132) rfl)) rfl), (k_me (tm1 (List.mem_of_getElem? (i := 0) rfl)) rfl), (k_me (tm6 (List.mem_of_getElem? (i := 133) rfl)) rfl), by decide, by decide, by decide +kernel⟩
theorem mv_X11_face : k_MV yX11_face cX11_face 7 (some .int) 2 := ⟨(k_me (tm9 (List.mem_of_getElem? (i := 98) rfl)) rfl), (k_me (tm9 (List.mem_of_getElem? (i := 99) rfl)) rfl), (k_me (tm1 (List.mem_of_getElem? (i := 14) rfl)) rfl), (k_me (tm9 (List.mem_of_getElem? (i := 100) rfl)) rfl), by decide, by decide, by decide +kernel⟩
theorem lk_L_207 : k_lk RL 207 yX11_face := Or.inl (k_me (tm9 (List.mem_of_getElem? (i := 97) rfl)) rfl)
theorem mh_L_face : k_MH yL_face cL_face 5 (some .int) hh_face 4 := ⟨(k_me (tm6 (List.mem_of_getElem? (i := 152) rfl)) rfl), (k_me (tm1 (List.mem_of_getElem? (i := 0) rfl)) rfl), (k_me (tm6 (List.mem_of_getElem? (i := 153) rfl)) rfl), by decide, by decide, by decide +kernel⟩
theorem mv_X10_level : k_MV yX10_level cX10_level 1 (some .int) 0 := ⟨(k_me (tm3 (List.mem_of_getElem? (i := 56) rfl)) rfl), (k_me (tm3 (List.mem_of_getElem? (i := 57) rfl)) rfl), (k_me (tm1 (List.mem_of_getElem? (i := 1) rfl)) rfl), (k_me (tm3 (List.mem_of_getElem? (i := 58) rfl)) rfl), by decide, by decide, by decide +kernel⟩
theorem mv_X11_level : k_MV yX11_level cX11_level 6 (some .int) 0 := ⟨(k_me (tm9 (List.mem_of_getElem? (i := 102) rfl)) rfl), (k_me (tm9 (List.mem_of_getElem? (i := 103) rfl)) rfl), (k_me (tm1 (List.mem_of_getElem? (i := 14) rfl)) rfl), (k_me (tm9 (List.mem_of_getElem? (i := 104) rfl)) rfl), by decide, by decide, by decide +kernel⟩
theorem lk_L_211 : k_lk RL 211 yX11_level := Or.inl (k_me (tm9 (List.mem_of_getElem? (i := 101) rfl)) rfl)
theorem lk_L_208 : k_lk RL 208 yX10_level := Or.inl (k_me (tm3 (List.mem_of_getElem? (i := 55) rfl)) rfl)
theorem mv_X10_pick : k_MV yX10_pick cX10_pick 1 (some .int) 0 := ⟨(k_me (tm3 (List.mem_of_getElem? (i := 72) rfl)) rfl), (k_me (tm3 (List.mem_of_getElem? (i := 73) rfl)) rfl), (k_me (tm1 (List.mem_of_getElem? (i := 1) rfl)) rfl), (k_me (tm3 (List.mem_of_getElem? (i := 74) rfl)) rfl), by decide, by decide, by decide +kernel⟩
theorem mv_X11_pick : k_MV yX11_pick cX11_pick 1 (some .int) 0 := ⟨(k_me (tm9 (List.mem_of_getElem? (i := 106) rfl)) rfl), (k_me (tm9 (List.mem_of_getElem? (i := 107) rfl)) rfl), (k_me (tm1 (List.mem_of_getElem? (i := 14) rfl)) rfl), (k_me (tm9 (List.mem_of_getElem? (i := 108) rfl)) rfl), by decide, by decide, by decide +kernel⟩
theorem lk_L_215 : k_lk RL 215 yX11_pick := Or.inl (k_me (tm9 (List.mem_of_getElem? (i := 105) rfl)) rfl)
theorem lk_L_212 : k_lk RL 212 yX10_pick := Or.inl (k_me (tm3 (List.mem_of_getElem? (i := 71) rfl)) rfl)
theorem mv_X11_decade : k_MV yX11_decade cX11_decade 5 (some .int) 4 := ⟨(k_me (tm9 (List.mem_of_getElem? (i := 114) rfl)) rfl), (k_me (tm9 (List.mem_of_getElem? (i := 115) rfl)) rfl), (k_me (tm1 (List.mem_of_getElem? (i := 14) rfl)) rfl), (k_me (tm9 (List.mem_of_getElem? (i := 116) rfl)) rfl), by decide, by decide, by decide +kernel⟩
theorem lk_L_219 : k_lk RL 219 yX11_decade := Or.inl (k_me (tm9 (List.mem_of_getElem? (i := 113) rfl)) rfl)
theorem mh_L_decade : k_MH yL_decade cL_decade 7 (some .int) hh_decade 6 := ⟨(k_me (tm6 (List.mem_of_getElem? (i := 163) rfl)) rfl), (k_me (tm1 (List.mem_of_getElem? (i := 0) rfl)) rfl), (k_me (tm6 (List.mem_of_getElem? (i := 164) rfl)) rfl), by decide, by decide, by decide +kernel⟩
theorem mv_X11_span : k_MV yX11_span cX11_span 11 (some .int) 5 := ⟨(k_me (tm9 (List.mem_of_getElem? (i := 130) rfl)) rfl), (k_me (tm9 (List.mem_of_getElem? (i := 131) rfl)) rfl), (k_me (tm1 (List.mem_of_getElem? (i := 14) rfl)) rfl), (k_me (tm9 (List.mem_of_getElem? (i := 132) rfl)) rfl), by decide, by decide, by decide +kernel⟩
theorem lk_L_223 : k_lk RL 223 yX11_span := Or.inl (k_me (tm9 (List.mem_of_getElem? (i := 129) rfl)) rfl)
theorem mh_L_span : k_MH yL_span cL_span 8 (some .int) hh_span 7 := ⟨(k_me (tm6 (List.mem_of_getElem? (i := 186) rfl)) rfl), (k_me (tm1 (List.mem_of_getElem? (i := 0) rfl)) rfl), (k_me (tm6 (List.mem_of_getElem? (i := 187) rfl)) rfl), by decide, by decide, by decide +kernel⟩
theorem mv_X11_sums : k_MV yX11_sums cX11_sums 5 (some .int) 1 := ⟨(k_me (tm9 (List.mem_of_getElem? (i := 134) rfl)) rfl), (k_me (tm9 (List.mem_of_getElem? (i := 135) rfl)) rfl), (k_me (tm1 (List.mem_of_getElem? (i := 14) rfl)) rfl), (k_me (tm9 (List.mem_of_getElem? (i := 136) rfl)) rfl), by decide, by decide, by decide +kernel⟩
theorem lk_L_226 : k_lk RL 226 yX11_sums := Or.inl (k_me (tm9 (List.mem_of_getElem? (i := 133) rfl)) rfl)
theorem mh_L_sums : k_MH yL_sums cL_sums 4 (some .int) hh_sums 3 := ⟨(k_me (tm6 (List.mem_of_getElem? (i := 195) rfl)) rfl), (k_me (tm1 (List.mem_of_getElem? (i := 0) rfl)) rfl), (k_me (tm6 (List.mem_of_getElem? (i := 196) rfl)) rfl), by decide, by decide, by decide +kernel⟩
theorem mv_X11_open : k_MV yX11_open cX11_open 4 (some .int) 1 := ⟨(k_me (tm9 (List.mem_of_getElem? (i := 138) rfl)) rfl), (k_me (tm9 (List.mem_of_getElem? (i := 139) rfl)) rfl), (k_me (tm1 (List.mem_of_getElem? (i := 14) rfl)) rfl), (k_me (tm9 (List.mem_of_getElem? (i := 140) rfl)) rfl), by decide, by decide, by decide +kernel⟩
theorem lk_L_229 : k_lk RL 229 yX11_open := Or.inl (k_me (tm9 (List.mem_of_getElem? (i := 137) rfl)) rfl)
theorem mh_L_open : k_MH yL_open cL_open 4 (some .int) hh_open 3 := ⟨(k_me (tm6 (List.mem_of_getElem? (i := 206) rfl)) rfl), (k_me (tm1 (List.mem_of_getElem? (i := 0) rfl)) rfl), (k_me (tm6 (List.mem_of_getElem? (i := 207) rfl)) rfl), by decide, by decide, by decide +kernel⟩
theorem mv_X11_image : k_MV yX11_image cX11_image 1 (some .int) 0 := ⟨(k_me (tm9 (List.mem_of_getElem? (i := 142) rfl)) rfl), (k_me (tm9 (List.mem_of_getElem? (i := 143) rfl)) rfl), (k_me (tm1 (List.mem_of_getElem? (i := 14) rfl)) rfl), (k_me (tm9 (List.mem_of_getElem? (i := 144) rfl)) rfl), by decide, by decide, by decide +kernel⟩
theorem lk_L_233 : k_lk RL 233 yX11_image := Or.inl (k_me (tm9 (List.mem_of_getElem? (i := 141) rfl)) rfl)
theorem mv_X11_restore : k_MV yX11_restore cX11_restore 1 (some .int) 0 := ⟨(k_me (tm9 (List.mem_of_getElem? (i := 154) rfl)) rfl), (k_me (tm9 (List.mem_of_getElem? (i := 155) rfl)) rfl), (k_me (tm1 (List.mem_of_getElem? (i := 14) rfl)) rfl), (k_me (tm9 (List.mem_of_getElem? (i := 156) rfl)) rfl), by decide, by decide, by decide +kernel⟩
theorem lk_L_237 : k_lk RL 237 yX11_restore := Or.inl (k_me (tm9 (List.mem_of_getElem? (i := 153) rfl)) rfl)
theorem mv_X10_status : k_MV yX10_status cX10_status 2 (some .int) 1 := ⟨(k_me (tm3 (List.mem_of_getElem? (i := 122) rfl)) rfl), (k_me (tm3 (List.mem_of_getElem? (i := 123) rfl)) rfl), (k_me (tm1 (List.mem_of_getElem? (i := 1) rfl)) rfl), (k_me (tm3 (List.mem_of_getElem? (i := 124) rfl)) rfl), by decide, by decide, by decide +kernel⟩
theorem mv_X11_status : k_MV yX11_status cX11_status 2 (some .int) 1 := ⟨(k_me (tm9 (List.mem_of_getElem? (i := 158) rfl)) rfl), (k_me (tm9 (List.mem_of_getElem? (i := 159) rfl)) rfl), (k_me (tm1 (List.mem_of_getElem? (i := 14) rfl)) rfl), (k_me (tm9 (List.mem_of_getElem? (i := 160) rfl)) rfl), by decide, by decide, by decide +kernel⟩
theorem lk_L_241 : k_lk RL 241 yX11_status := Or.inl (k_me (tm9 (List.mem_of_getElem? (i := 157) rfl)) rfl)
theorem lk_L_238 : k_lk RL 238 yX10_status := Or.inl (k_me (tm3 (List.mem_of_getElem? (i := 121) rfl)) rfl)
theorem mv_X10_count : k_MV yX10_count cX10_count 2 (some .int) 1 := ⟨(k_me (tm3 (List.mem_of_getElem? (i := 126) rfl)) rfl), (k_me (tm3 (List.mem_of_getElem? (i := 127) rfl)) rfl), (k_me (tm1 (List.mem_of_getElem? (i := 1) rfl)) rfl), (k_me (tm3 (List.mem_of_getElem? (i := 128) rfl)) rfl), by decide, by decide, by decide +kernel⟩
theorem mv_X11_count : k_MV yX11_count cX11_count 2 (some .int) 1 := ⟨(k_me (tm9 (List.mem_of_getElem? (i := 162) rfl)) rfl), (k_me (tm9 (List.mem_of_getElem? (i := 163) rfl)) rfl), (k_me (tm1 (List.mem_of_getElem? (i := 14) rfl)) rfl), (k_me (tm9 (List.mem_of_getElem? (i := 164) rfl)) rfl), by decide, by decide, by decide +kernel⟩
theorem lk_L_245 : k_lk RL 245 yX11_count := Or.inl (k_me (tm9 (List.mem_of_getElem? (i := 161) rfl)) rfl)
theorem lk_L_242 : k_lk RL 242 yX10_count := Or.inl (k_me (tm3 (List.mem_of_getElem? (i := 125) rfl)) rfl)

/-! THE LAW'S CASES -/
section LAWCASE
/-- the script's element at i -/
def k_el (N : Nat) (f : Nat → Int32) (i a : Int32) : Prop := vp_in i N ∧ f i.toNatClampNeg = a
/-- what the law needs of a picture's shape -/
def k_LS (h : k_H) : Prop := h.1[0]? = some k_s0 ∧ h.1[102]? = some (4, 1, []) ∧ k_ck piM shM h.1 = true ∧ h.1[70]?.isSome = true
/-- a call of the reference: its answer, what thrown() says then, the picture behind -/
def k_MR (l : Launch) (y : MethodName) (cc : ByteArray) (maxL : Nat) (rt : Option FieldType) (f n : Nat) (As : List Value) (h : k_H) (b : Value) (t : Int32) (h3 : k_H) : Prop :=
  ∃ us : List k_U, k_CT l y cc maxL rt f n (.ref 0 :: As) (k_pl piM shM h) (some b) us ∧ us.all (fun u => decide (u.1 < piM.length)) = true ∧ h3 = k_ap (us.map (k_ru piM)) h ∧ h3.2.1 70 0 = t
theorem k_LS_out {x : Int64} {h : k_H} (z : k_LS h) : k_LS (k_out x h) := z
theorem k_MR_LS {l : Launch} {y : MethodName} {cc : ByteArray} {maxL : Nat} {rt : Option FieldType} {f n : Nat} {As : List Value} {h : k_H} {b : Value} {t : Int32} {h3 : k_H} (K : k_MR l y cc maxL rt f n As h b t h3) (z : k_LS h) : k_LS h3 := by
  obtain ⟨us, -, -, rfl, -⟩ := K
  unfold k_LS
  rw [k_ap_sh]
  exact z
theorem k_thr {l : Launch} {h : k_H} {t : Int32} (ht : h.2.1 70 0 = t) : k_CT l yX11_thrown cX11_thrown 1 (some .int) 0 0 [.ref 0] (k_pl piM shM h) (some (.int t)) [] :=
  c_X11_thrown l 1 (k_pl piM shM h) rfl (k_plI (p := 70) rfl ht) rfl
theorem k_cmps (x : Int64) : lg_cmp x x = 0 := by
  unfold lg_cmp
  rw [if_neg (show ¬ x > x from Int64.lt_irrefl), if_pos rfl]
theorem k_is70 {h : k_H} (z : k_LS h) : 70 < h.1.length := by
  have := z.2.2.2
  by_cases h1 : 70 < h.1.length
  · exact h1
  · rw [List.getElem?_eq_none (by omega)] at this; cases this
variable {X : k_X} {cc : ByteArray} {own : String} {nL cells slots F NN f nn n maxL ix : Nat} {Q : State → Prop} {ad : Nat → Nat} {h h3 : k_H} {pc pc' : Nat} {lv : List (Option Value)} {st stk As : List Value} {y : MethodName} {c2 : ByteArray} {rt : Option FieldType} {b : Value} {t : Int32}
theorem k_Wup {c' s' : Nat} (h1 : cells ≤ c') (h2 : slots ≤ s') (k : k_W X nL c' s' Q ad h pc lv st) : k_W X nL cells slots Q ad h pc lv st :=
  fun H locs ls hw hP hD hS hl T hT XX => k H locs ls hw hP hD hS hl T hT (stand_widen XX h1 h2)
theorem r_argV (C : k_C X cc own nL ad) {p N : Nat} {f : Nat → Int32} (hA : va_T .int (ad p) N (fun j => .int (f j)) X.A X.s X.s.heap) {i a : Int32} (hd : decode cc pc = .ok (.iaload, 1)) (hn : pc + 1 = pc') (hv : k_el N f i a) (k : k_W X nL cells slots Q ad h pc' lv (.int a :: st)) : k_W X nL cells slots Q ad h pc lv (.int i :: .ref p :: st) := by
  obtain ⟨h1, rfl⟩ := hv
  exact r_argI C hA hd hn h1 rfl k
theorem c_MR (C : k_C X cc own nL ad) (hR : X.R.frames = F ∧ X.R.locals = NN) (hcs : cells ≤ X.R.cells ∧ slots ≤ X.R.slots) (hLS : k_LS h) (K : k_MR X.l y c2 maxL rt f nn As h b t h3) (M : k_MV y c2 maxL rt n) (hl : k_lk own ix y) (hd : decode cc pc = .ok (.invokevirtual ix, 3)) (hn : pc + 3 = pc') (h1 : Nat.ble (f + 1) F = true) (h2 : Nat.ble (8 + (maxL + 11) + nn) NN = true) (hy : y.cls = RX11) (hAl : ∀ ad : Nat → Nat, As.map (k_rl (k_al piM ad)) = As.map (k_rl ad)) (hb : ∀ ad : Nat → Nat, k_rl ad b = b) (hA : As.length = n) (hst : Nat.ble ((st.map fun v => v.category).sum) 8 = true) (hstk : As.reverse ++ .ref 70 :: st = stk)
    (k : k_W X nL cells slots Q ad h3 pc' lv (b :: st)) : k_W X nL cells slots Q ad h pc lv stk := by
  obtain ⟨us, K1, hu, rfl, -⟩ := K
  exact c_Vp (pi := piM) (shl := shM) (bl := 0) (b := 70) (T := TX11) (N := 66) C hR hcs M hl hd hn h1 h2 hLS.2.2.1 rfl (by rw [hy]; rfl) K1 rfl hAl hu (fun ad => by show some (k_rl _ b) = some (k_rl _ b); rw [hb, hb]) hA hst hstk k
end LAWCASE

def q_0 (l : Launch) (h : k_H) (a1 a2 a3 a4 a5 : Int32) (P : k_H → Prop) : Prop :=
  ∃ (y t : Int32) (us : List k_U) (h3 : k_H), k_CT l yX10_feed cX10_feed 6 (some .int) 1 22 [.ref 0, .int a1, .int a2, .int a3, .int a4, .int a5] h (some (.int y)) us ∧ k_MR l yX11_feed cX11_feed 8 (some .int) 0 0 [.int a1, .int a2, .int a3, .int a4, .int a5] (k_ap us h) (.int y) t h3 ∧ P h3
set_option maxRecDepth 20000 in
theorem s_k0 {X : k_X} {cells slots N : Nat} {Q : State → Prop} {ad : Nat → Nat} {h : k_H} {i a1 a2 a3 a4 a5 : Int32} {f : Nat → Int32} (C : k_C X cL_law_ RL 8 ad) (hR : X.R.frames = 2048 ∧ X.R.locals = 84000) (hcs : cells + 85 ≤ X.R.cells ∧ slots + 714 ≤ X.R.slots) (hA : va_T .int (ad 5000000) N (fun j => .int (f j)) X.A X.s X.s.heap) (E1 : k_el N f (i + 1) a1) (E2 : k_el N f (i + 2) a2) (E3 : k_el N f (i + 3) a3) (E4 : k_el N f (i + 4) a4) (E5 : k_el N f (i + 5) a5) (hLS : k_LS h) {P : k_H → Prop} (K : q_0 X.l h a1 a2 a3 a4 a5 P)
    (kk : ∀ (ad' : Nat → Nat) (h' : k_H), P h' → k_LS h' → k_sm 0 ad ad' → k_C X cL_law_ RL 8 ad' → k_W X 8 (cells + 85) (slots + 714) Q ad' h' 2307 [some (.ref 5000000), some (.ref 0), some (.ref 70), some (.ref 102), some (.int i), none, none, none] []) : k_W X 8 cells slots Q ad h 208 [some (.ref 5000000), some (.ref 0), some (.ref 70), some (.ref 102), some (.int i), none, none, none] [] := by
  refine r_aload_n C dL_law__208 (rfl : 208 + 1 = 209) rfl ?_
  refine r_aload_n C dL_law__209 (rfl : 209 + 1 = 210) rfl ?_
  refine r_iload C dL_law__210 (rfl : 210 + 2 = 212) rfl ?_
  refine r_iconst (v := (1 : Int32)) C dL_law__212 (rfl : 212 + 1 = 213) rfl ?_
  refine r_iadd C dL_law__213 (rfl : 213 + 1 = 214) ?_
  refine r_argV C hA dL_law__214 (rfl : 214 + 1 = 215) E1 ?_
  refine r_aload_n C dL_law__215 (rfl : 215 + 1 = 216) rfl ?_
  refine r_iload C dL_law__216 (rfl : 216 + 2 = 218) rfl ?_
  refine r_iconst (v := (2 : Int32)) C dL_law__218 (rfl : 218 + 1 = 219) rfl ?_
  refine r_iadd C dL_law__219 (rfl : 219 + 1 = 220) ?_
  refine r_argV C hA dL_law__220 (rfl : 220 + 1 = 221) E2 ?_
  refine r_aload_n C dL_law__221 (rfl : 221 + 1 = 222) rfl ?_
  refine r_iload C dL_law__222 (rfl : 222 + 2 = 224) rfl ?_
  refine r_iconst (v := (3 : Int32)) C dL_law__224 (rfl : 224 + 1 = 225) rfl ?_
  refine r_iadd C dL_law__225 (rfl : 225 + 1 = 226) ?_
  refine r_argV C hA dL_law__226 (rfl : 226 + 1 = 227) E3 ?_
  refine r_aload_n C dL_law__227 (rfl : 227 + 1 = 228) rfl ?_
  refine r_iload C dL_law__228 (rfl : 228 + 2 = 230) rfl ?_
  refine r_iconst (v := (4 : Int32)) C dL_law__230 (rfl : 230 + 1 = 231) rfl ?_
  refine r_iadd C dL_law__231 (rfl : 231 + 1 = 232) ?_
  refine r_argV C hA dL_law__232 (rfl : 232 + 1 = 233) E4 ?_
  refine r_aload_n C dL_law__233 (rfl : 233 + 1 = 234) rfl ?_
  refine r_iload C dL_law__234 (rfl : 234 + 2 = 236) rfl ?_
  refine r_iconst (v := (5 : Int32)) C dL_law__236 (rfl : 236 + 1 = 237) rfl ?_
  refine r_iadd C dL_law__237 (rfl : 237 + 1 = 238) ?_
  refine r_argV C hA dL_law__238 (rfl : 238 + 1 = 239) E5 ?_
  obtain ⟨y, t, us, h3, K1, K2, hP⟩ := K
  refine c_V (As := [.int a1, .int a2, .int a3, .int a4, .int a5]) (st := []) (b := 0) C hR ⟨by omega, by omega⟩ mv_X10_feed lk_L_111 dL_law__239 (rfl : 239 + 3 = 242) rfl rfl hLS.1 rfl K1 rfl rfl rfl ?_
  have hL1 : k_LS (k_ap us h) := by unfold k_LS; rw [k_ap_sh]; exact hLS
  change k_W X _ _ _ _ ad _ _ _ [.int y]
  refine r_aload_n C dL_law__242 (rfl : 242 + 1 = 243) rfl ?_
  refine r_aload_n C dL_law__243 (rfl : 243 + 1 = 244) rfl ?_
  refine r_iload C dL_law__244 (rfl : 244 + 2 = 246) rfl ?_
  refine r_iconst (v := (1 : Int32)) C dL_law__246 (rfl : 246 + 1 = 247) rfl ?_
  refine r_iadd C dL_law__247 (rfl : 247 + 1 = 248) ?_
  refine r_argV C hA dL_law__248 (rfl : 248 + 1 = 249) E1 ?_
  refine r_aload_n C dL_law__249 (rfl : 249 + 1 = 250) rfl ?_
  refine r_iload C dL_law__250 (rfl : 250 + 2 = 252) rfl ?_
  refine r_iconst (v := (2 : Int32)) C dL_law__252 (rfl : 252 + 1 = 253) rfl ?_
  refine r_iadd C dL_law__253 (rfl : 253 + 1 = 254) ?_
  refine r_argV C hA dL_law__254 (rfl : 254 + 1 = 255) E2 ?_
  refine r_aload_n C dL_law__255 (rfl : 255 + 1 = 256) rfl ?_
  refine r_iload C dL_law__256 (rfl : 256 + 2 = 258) rfl ?_
  refine r_iconst (v := (3 : Int32)) C dL_law__258 (rfl : 258 + 1 = 259) rfl ?_
  refine r_iadd C dL_law__259 (rfl : 259 + 1 = 260) ?_
  refine r_argV C hA dL_law__260 (rfl : 260 + 1 = 261) E3 ?_
  refine r_aload_n C dL_law__261 (rfl : 261 + 1 = 262) rfl ?_
  refine r_iload C dL_law__262 (rfl : 262 + 2 = 264) rfl ?_
  refine r_iconst (v := (4 : Int32)) C dL_law__264 (rfl : 264 + 1 = 265) rfl ?_
  refine r_iadd C dL_law__265 (rfl : 265 + 1 = 266) ?_
  refine r_argV C hA dL_law__266 (rfl : 266 + 1 = 267) E4 ?_
  refine r_aload_n C dL_law__267 (rfl : 267 + 1 = 268) rfl ?_
  refine r_iload C dL_law__268 (rfl : 268 + 2 = 270) rfl ?_
  refine r_iconst (v := (5 : Int32)) C dL_law__270 (rfl : 270 + 1 = 271) rfl ?_
  refine r_iadd C dL_law__271 (rfl : 271 + 1 = 272) ?_
  refine r_argV C hA dL_law__272 (rfl : 272 + 1 = 273) E5 ?_
  refine c_MR C hR ⟨by omega, by omega⟩ hL1 K2 mv_X11_feed lk_L_114 dL_law__273 (rfl : 273 + 3 = 276) rfl rfl rfl (fun _ => rfl) (fun _ => rfl) rfl rfl rfl ?_
  have hL3 := k_MR_LS K2 hL1
  refine r_icmp_eq (tgt := 2307) C dL_law__276 (by decide) (rfl : 276 + 3 = 279) (fun _ => ?_) (fun z => absurd rfl z)
  exact k_Wup (by omega) (by omega) (kk ad _ hP hL3 (fun _ _ => rfl) C)
set_option maxRecDepth 20000 in
theorem s_t1 {X : k_X} {cells slots N : Nat} {Q : State → Prop} {ad : Nat → Nat} {h : k_H} {i a1 a2 a3 a4 a5 : Int32} {f : Nat → Int32} (C : k_C X cL_law_ RL 8 ad) (hR : X.R.frames = 2048 ∧ X.R.locals = 84000) (hcs : cells ≤ X.R.cells ∧ slots ≤ X.R.slots) (hA : va_T .int (ad 5000000) N (fun j => .int (f j)) X.A X.s X.s.heap) (E1 : k_el N f (i + 1) a1) (E2 : k_el N f (i + 2) a2) (E3 : k_el N f (i + 3) a3) (E4 : k_el N f (i + 4) a4) (E5 : k_el N f (i + 5) a5) (hLS : k_LS h) {h3 : k_H} {b : Int32} {t : Int32} (K : k_MR X.l yX11_pit cX11_pit 4 (some .int) 7 154 [.int a1] h (.int b) t h3) (hv : t = 0 → h3.2.2.1 102 0 = b.toInt64) (kk : k_LS h3 → k_W X 8 cells slots Q ad h3 2307 [some (.ref 5000000), some (.ref 0), some (.ref 70), some (.ref 102), some (.int i), none, none, none] []) : k_W X 8 cells slots Q ad h 294 [some (.ref 5000000), some (.ref 0), some (.ref 70), some (.ref 102), some (.int i), some (.int t), none, none] [] := by
  refine r_aload_n C dL_law__294 (rfl : 294 + 1 = 295) rfl ?_
  refine r_aload_n C dL_law__295 (rfl : 295 + 1 = 296) rfl ?_
  refine r_iload C dL_law__296 (rfl : 296 + 2 = 298) rfl ?_
  refine r_iconst (v := (1 : Int32)) C dL_law__298 (rfl : 298 + 1 = 299) rfl ?_
  refine r_iadd C dL_law__299 (rfl : 299 + 1 = 300) ?_
  refine r_argV C hA dL_law__300 (rfl : 300 + 1 = 301) E1 ?_
  refine c_MR C hR ⟨by omega, by omega⟩ hLS K mv_X11_pit lk_L_120 dL_law__301 (rfl : 301 + 3 = 304) rfl rfl rfl (fun _ => rfl) (fun _ => rfl) rfl rfl rfl ?_
  have hL3 := k_MR_LS K hLS
  obtain ⟨-, -, -, -, ht⟩ := K
  refine r_istore C dL_law__304 (rfl : 304 + 2 = 306) (by decide) (Nat.le_of_ble_eq_true rfl) ?_
  show k_W X _ _ _ _ _ _ _ [some (.ref 5000000), some (.ref 0), some (.ref 70), some (.ref 102), some (.int i), some (.int t), some (.int b), none] _
  refine r_aload_n C dL_law__306 (rfl : 306 + 1 = 307) rfl ?_
  refine c_Vp (pi := piM) (shl := shM) (bl := 0) (b := 70) (As := []) (Al := []) (v := some (.int t)) (us := []) (T := TX11) (N := 66) C hR ⟨by omega, by omega⟩ mv_X11_thrown lk_L_121 dL_law__307 (rfl : 307 + 3 = 310) rfl rfl hL3.2.2.1 rfl rfl (k_thr ht) rfl (fun _ => rfl) rfl (fun _ => rfl) rfl rfl rfl ?_
  change k_W X _ _ _ _ ad h3 _ _ [.int t]
  refine r_iload C dL_law__310 (rfl : 310 + 2 = 312) rfl ?_
  refine r_icmp_eq (tgt := 317) C dL_law__312 (by decide) (rfl : 312 + 3 = 315) (fun _ => ?_) (fun z => absurd rfl z)
  refine r_iload C dL_law__317 (rfl : 317 + 2 = 319) rfl ?_
  refine r_if_ne (tgt := 334) C dL_law__319 (by decide) (rfl : 319 + 3 = 322) (fun _ => ?_) (fun z => ?_)
  · refine r_goto (tgt := 2307) C dL_law__334 (by decide) ?_
    exact k_mask [true, true, true, true, true, false, false, false] (kk hL3)
  · refine r_aload_n C dL_law__322 (rfl : 322 + 1 = 323) rfl ?_
    refine r_iconst (v := (0 : Int32)) C dL_law__323 (rfl : 323 + 1 = 324) rfl ?_
    refine r_lald (f := h3.2.2.1 102) C dL_law__324 (rfl : 324 + 1 = 325) hL3.2.1 rfl (show ¬ ((0 : Int32) < 0 ∨ 1 ≤ (0 : Int32).toNatClampNeg) by decide) ?_
    refine r_iload C dL_law__325 (rfl : 325 + 2 = 327) rfl ?_
    refine r_i2l C dL_law__327 (rfl : 327 + 1 = 328) ?_
    refine r_lcmp C dL_law__328 (rfl : 328 + 1 = 329) ?_
    refine r_if_eq (tgt := 334) C dL_law__329 (by decide) (rfl : 329 + 3 = 332) (fun _ => ?_) (fun z9 => absurd (by rw [show h3.2.2.1 102 (0 : Int32).toNatClampNeg = b.toInt64 from hv z]; exact k_cmps _) z9)
    refine r_goto (tgt := 2307) C dL_law__334 (by decide) ?_
    exact k_mask [true, true, true, true, true, false, false, false] (kk hL3)
def q_1 (l : Launch) (h : k_H) (a1 a2 a3 a4 a5 : Int32) (P : k_H → Prop) : Prop :=
  ∃ (mc ms : Nat) (Rr : Option Value → k_H → Prop) (Rx : String → k_H → Prop), mc ≤ 85 ∧ ms ≤ 714 ∧ k_CX l yX10_pit cX10_pit 2 (some .int) 9 201 mc ms [.ref 0, .int a1] h Rr Rx ∧ (∀ v h1, Rr v h1 → ∃ (y : Int32) (b : Int32) (h3 : k_H), v = some (.int y) ∧ k_LS h1 ∧ k_MR l yX11_pit cX11_pit 4 (some .int) 7 154 [.int a1] (k_out y.toInt64 h1) (.int b) 0 h3 ∧ h3.2.2.1 102 0 = b.toInt64 ∧ P h3) ∧
    (∀ E h1, Rx E h1 → ∃ (b : Int32) (t : Int32) (h3 : k_H), k_LS h1 ∧ (E = k_IAE ∧ t = 1) ∧ k_MR l yX11_pit cX11_pit 4 (some .int) 7 154 [.int a1] h1 (.int b) t h3 ∧ P h3)
set_option maxRecDepth 20000 in
theorem s_k1 {X : k_X} {cells slots N : Nat} {Q : State → Prop} {ad : Nat → Nat} {h : k_H} {i a1 a2 a3 a4 a5 : Int32} {f : Nat → Int32} (C : k_C X cL_law_ RL 8 ad) (hR : X.R.frames = 2048 ∧ X.R.locals = 84000) (hcs : cells + 85 ≤ X.R.cells ∧ slots + 714 ≤ X.R.slots) (hA : va_T .int (ad 5000000) N (fun j => .int (f j)) X.A X.s X.s.heap) (E1 : k_el N f (i + 1) a1) (E2 : k_el N f (i + 2) a2) (E3 : k_el N f (i + 3) a3) (E4 : k_el N f (i + 4) a4) (E5 : k_el N f (i + 5) a5) (hLS : k_LS h) {P : k_H → Prop} (K : q_1 X.l h a1 a2 a3 a4 a5 P)
    (kk : ∀ (ad' : Nat → Nat) (h' : k_H), P h' → k_LS h' → k_sm 0 ad ad' → k_C X cL_law_ RL 8 ad' → k_W X 8 (cells + 85) (slots + 714) Q ad' h' 2307 [some (.ref 5000000), some (.ref 0), some (.ref 70), some (.ref 102), some (.int i), none, none, none] []) : k_W X 8 cells slots Q ad h 281 [some (.ref 5000000), some (.ref 0), some (.ref 70), some (.ref 102), some (.int i), none, none, none] [] := by
  refine r_aload_n C dL_law__281 (rfl : 281 + 1 = 282) rfl ?_
  refine r_aload_n C dL_law__282 (rfl : 282 + 1 = 283) rfl ?_
  refine r_iload C dL_law__283 (rfl : 283 + 2 = 285) rfl ?_
  refine r_iconst (v := (1 : Int32)) C dL_law__285 (rfl : 285 + 1 = 286) rfl ?_
  refine r_iadd C dL_law__286 (rfl : 286 + 1 = 287) ?_
  refine r_argV C hA dL_law__287 (rfl : 287 + 1 = 288) E1 ?_
  refine r_aload_n C dL_law__288 (rfl : 288 + 1 = 289) rfl ?_
  obtain ⟨mc, ms, Rr, Rx, hmc, hms, K1, hr, hx⟩ := K
  refine c_SH (As := [.ref 0, .int a1, .ref 102]) (st := []) C hR ⟨by omega, by omega⟩ mh_L_pit (k_me (tm3 (List.mem_of_getElem? (i := 129) rfl)) rfl) dL_law__289 (rfl : 289 + 3 = 292) rfl rfl (c_L_pit X.l h K1 hLS.1 hLS.2.1 (fun v h1 z => by obtain ⟨y, b, h3, h4, h5, h6⟩ := hr v h1 z; exact ⟨⟨y, h4⟩, h5.2.1⟩) (fun E h1 z => by obtain ⟨b, t, h3, h4, h5, h6⟩ := hx E h1 z; exact h5.1)) rfl rfl rfl ⟨Or.inr (by decide), k_okv_of hLS.1, Or.inl (k_is70 hLS), k_okv_of hLS.2.1, True.intro, True.intro⟩ True.intro ?_
  intro v ad1 h9 hres hsm C1
  have hA1 := k_argS hsm (by decide : 1000000 ≤ 5000000) hA
  have hs0 : k_sm 0 ad ad1 := fun p hp => hsm p (hp.elim (fun z => absurd z (Nat.not_lt_zero p)) Or.inr)
  rcases hres with ⟨y, h1, hz, rfl, rfl⟩ | ⟨E, h1, hz, rfl, rfl⟩
  · obtain ⟨y1, b, h3, hv1, hL1, K2, ho, hP⟩ := hr _ h1 hz
    cases hv1
    change k_W X _ _ _ _ ad1 _ _ _ [.int (0 : Int32)]
    refine r_istore C1 dL_law__292 (rfl : 292 + 2 = 294) (by decide) (Nat.le_of_ble_eq_true rfl) ?_
    show k_W X _ _ _ _ _ _ _ [some (.ref 5000000), some (.ref 0), some (.ref 70), some (.ref 102), some (.int i), some (.int (0 : Int32)), none, none] _
    exact s_t1 C1 hR ⟨by omega, by omega⟩ hA1 E1 E2 E3 E4 E5 (k_LS_out hL1) K2 (fun _ => ho) (fun hL => k_Wup (by omega) (by omega) (kk ad1 _ hP hL hs0 C1))
  · obtain ⟨b, t, h3, hL1, ⟨-, rfl⟩, K2, hP⟩ := hx E _ hz
    change k_W X _ _ _ _ ad1 _ _ _ [.int (1 : Int32)]
    refine r_istore C1 dL_law__292 (rfl : 292 + 2 = 294) (by decide) (Nat.le_of_ble_eq_true rfl) ?_
    show k_W X _ _ _ _ _ _ _ [some (.ref 5000000), some (.ref 0), some (.ref 70), some (.ref 102), some (.int i), some (.int (1 : Int32)), none, none] _
    exact s_t1 C1 hR ⟨by omega, by omega⟩ hA1 E1 E2 E3 E4 E5 hL1 K2 (fun z => absurd z (by decide)) (fun hL => k_Wup (by omega) (by omega) (kk ad1 _ hP hL hs0 C1))
set_option maxRecDepth 20000 in
theorem s_t2 {X : k_X} {cells slots N : Nat} {Q : State → Prop} {ad : Nat → Nat} {h : k_H} {i a1 a2 a3 a4 a5 : Int32} {f : Nat → Int32} (C : k_C X cL_law_ RL 8 ad) (hR : X.R.frames = 2048 ∧ X.R.locals = 84000) (hcs : cells ≤ X.R.cells ∧ slots ≤ X.R.slots) (hA : va_T .int (ad 5000000) N (fun j => .int (f j)) X.A X.s X.s.heap) (E1 : k_el N f (i + 1) a1) (E2 : k_el N f (i + 2) a2) (E3 : k_el N f (i + 3) a3) (E4 : k_el N f (i + 4) a4) (E5 : k_el N f (i + 5) a5) (hLS : k_LS h) {h3 : k_H} {b : Int32} {t : Int32} (K : k_MR X.l yX11_law cX11_law 5 (some .int) 73 1551 [.int a1, .int a2] h (.int b) t h3) (hv : t = 0 → h3.2.2.1 102 0 = b.toInt64) (kk : k_LS h3 → k_W X 8 cells slots Q ad h3 2307 [some (.ref 5000000), some (.ref 0), some (.ref 70), some (.ref 102), some (.int i), none, none, none] []) : k_W X 8 cells slots Q ad h 356 [some (.ref 5000000), some (.ref 0), some (.ref 70), some (.ref 102), some (.int i), some (.int t), none, none] [] := by
  refine r_aload_n C dL_law__356 (rfl : 356 + 1 = 357) rfl ?_
  refine r_aload_n C dL_law__357 (rfl : 357 + 1 = 358) rfl ?_
  refine r_iload C dL_law__358 (rfl : 358 + 2 = 360) rfl ?_
  refine r_iconst (v := (1 : Int32)) C dL_law__360 (rfl : 360 + 1 = 361) rfl ?_
  refine r_iadd C dL_law__361 (rfl : 361 + 1 = 362) ?_
  refine r_argV C hA dL_law__362 (rfl : 362 + 1 = 363) E1 ?_
  refine r_aload_n C dL_law__363 (rfl : 363 + 1 = 364) rfl ?_
  refine r_iload C dL_law__364 (rfl : 364 + 2 = 366) rfl ?_
  refine r_iconst (v := (2 : Int32)) C dL_law__366 (rfl : 366 + 1 = 367) rfl ?_
  refine r_iadd C dL_law__367 (rfl : 367 + 1 = 368) ?_
  refine r_argV C hA dL_law__368 (rfl : 368 + 1 = 369) E2 ?_
  refine c_MR C hR ⟨by omega, by omega⟩ hLS K mv_X11_law lk_L_128 dL_law__369 (rfl : 369 + 3 = 372) rfl rfl rfl (fun _ => rfl) (fun _ => rfl) rfl rfl rfl ?_
  have hL3 := k_MR_LS K hLS
  obtain ⟨-, -, -, -, ht⟩ := K
  refine r_istore C dL_law__372 (rfl : 372 + 2 = 374) (by decide) (Nat.le_of_ble_eq_true rfl) ?_
  show k_W X _ _ _ _ _ _ _ [some (.ref 5000000), some (.ref 0), some (.ref 70), some (.ref 102), some (.int i), some (.int t), some (.int b), none] _
  refine r_aload_n C dL_law__374 (rfl : 374 + 1 = 375) rfl ?_
  refine c_Vp (pi := piM) (shl := shM) (bl := 0) (b := 70) (As := []) (Al := []) (v := some (.int t)) (us := []) (T := TX11) (N := 66) C hR ⟨by omega, by omega⟩ mv_X11_thrown lk_L_121 dL_law__375 (rfl : 375 + 3 = 378) rfl rfl hL3.2.2.1 rfl rfl (k_thr ht) rfl (fun _ => rfl) rfl (fun _ => rfl) rfl rfl rfl ?_
  change k_W X _ _ _ _ ad h3 _ _ [.int t]
  refine r_iload C dL_law__378 (rfl : 378 + 2 = 380) rfl ?_
  refine r_icmp_eq (tgt := 385) C dL_law__380 (by decide) (rfl : 380 + 3 = 383) (fun _ => ?_) (fun z => absurd rfl z)
  refine r_iload C dL_law__385 (rfl : 385 + 2 = 387) rfl ?_
  refine r_if_ne (tgt := 402) C dL_law__387 (by decide) (rfl : 387 + 3 = 390) (fun _ => ?_) (fun z => ?_)
  · refine r_goto (tgt := 2307) C dL_law__402 (by decide) ?_
    exact k_mask [true, true, true, true, true, false, false, false] (kk hL3)
  · refine r_aload_n C dL_law__390 (rfl : 390 + 1 = 391) rfl ?_
    refine r_iconst (v := (0 : Int32)) C dL_law__391 (rfl : 391 + 1 = 392) rfl ?_
    refine r_lald (f := h3.2.2.1 102) C dL_law__392 (rfl : 392 + 1 = 393) hL3.2.1 rfl (show ¬ ((0 : Int32) < 0 ∨ 1 ≤ (0 : Int32).toNatClampNeg) by decide) ?_
    refine r_iload C dL_law__393 (rfl : 393 + 2 = 395) rfl ?_
    refine r_i2l C dL_law__395 (rfl : 395 + 1 = 396) ?_
    refine r_lcmp C dL_law__396 (rfl : 396 + 1 = 397) ?_
    refine r_if_eq (tgt := 402) C dL_law__397 (by decide) (rfl : 397 + 3 = 400) (fun _ => ?_) (fun z9 => absurd (by rw [show h3.2.2.1 102 (0 : Int32).toNatClampNeg = b.toInt64 from hv z]; exact k_cmps _) z9)
    refine r_goto (tgt := 2307) C dL_law__402 (by decide) ?_
    exact k_mask [true, true, true, true, true, false, false, false] (kk hL3)
def q_2 (l : Launch) (h : k_H) (a1 a2 a3 a4 a5 : Int32) (P : k_H → Prop) : Prop :=
  ∃ (mc ms : Nat) (Rr : Option Value → k_H → Prop) (Rx : String → k_H → Prop), mc ≤ 85 ∧ ms ≤ 714 ∧ k_CX l yX10_law cX10_law 3 (some .int) 74 1665 mc ms [.ref 0, .int a1, .int a2] h Rr Rx ∧ (∀ v h1, Rr v h1 → ∃ (y : Int32) (b : Int32) (h3 : k_H), v = some (.int y) ∧ k_LS h1 ∧ k_MR l yX11_law cX11_law 5 (some .int) 73 1551 [.int a1, .int a2] (k_out y.toInt64 h1) (.int b) 0 h3 ∧ h3.2.2.1 102 0 = b.toInt64 ∧ P h3) ∧
    (∀ E h1, Rx E h1 → ∃ (b : Int32) (t : Int32) (h3 : k_H), k_LS h1 ∧ (E = k_IAE ∧ t = 1) ∧ k_MR l yX11_law cX11_law 5 (some .int) 73 1551 [.int a1, .int a2] h1 (.int b) t h3 ∧ P h3)
set_option maxRecDepth 20000 in
theorem s_k2 {X : k_X} {cells slots N : Nat} {Q : State → Prop} {ad : Nat → Nat} {h : k_H} {i a1 a2 a3 a4 a5 : Int32} {f : Nat → Int32} (C : k_C X cL_law_ RL 8 ad) (hR : X.R.frames = 2048 ∧ X.R.locals = 84000) (hcs : cells + 85 ≤ X.R.cells ∧ slots + 714 ≤ X.R.slots) (hA : va_T .int (ad 5000000) N (fun j => .int (f j)) X.A X.s X.s.heap) (E1 : k_el N f (i + 1) a1) (E2 : k_el N f (i + 2) a2) (E3 : k_el N f (i + 3) a3) (E4 : k_el N f (i + 4) a4) (E5 : k_el N f (i + 5) a5) (hLS : k_LS h) {P : k_H → Prop} (K : q_2 X.l h a1 a2 a3 a4 a5 P)
    (kk : ∀ (ad' : Nat → Nat) (h' : k_H), P h' → k_LS h' → k_sm 0 ad ad' → k_C X cL_law_ RL 8 ad' → k_W X 8 (cells + 85) (slots + 714) Q ad' h' 2307 [some (.ref 5000000), some (.ref 0), some (.ref 70), some (.ref 102), some (.int i), none, none, none] []) : k_W X 8 cells slots Q ad h 337 [some (.ref 5000000), some (.ref 0), some (.ref 70), some (.ref 102), some (.int i), none, none, none] [] := by
  refine r_aload_n C dL_law__337 (rfl : 337 + 1 = 338) rfl ?_
  refine r_aload_n C dL_law__338 (rfl : 338 + 1 = 339) rfl ?_
  refine r_iload C dL_law__339 (rfl : 339 + 2 = 341) rfl ?_
  refine r_iconst (v := (1 : Int32)) C dL_law__341 (rfl : 341 + 1 = 342) rfl ?_
  refine r_iadd C dL_law__342 (rfl : 342 + 1 = 343) ?_
  refine r_argV C hA dL_law__343 (rfl : 343 + 1 = 344) E1 ?_
  refine r_aload_n C dL_law__344 (rfl : 344 + 1 = 345) rfl ?_
  refine r_iload C dL_law__345 (rfl : 345 + 2 = 347) rfl ?_
  refine r_iconst (v := (2 : Int32)) C dL_law__347 (rfl : 347 + 1 = 348) rfl ?_
  refine r_iadd C dL_law__348 (rfl : 348 + 1 = 349) ?_
  refine r_argV C hA dL_law__349 (rfl : 349 + 1 = 350) E2 ?_
  refine r_aload_n C dL_law__350 (rfl : 350 + 1 = 351) rfl ?_
  obtain ⟨mc, ms, Rr, Rx, hmc, hms, K1, hr, hx⟩ := K
  refine c_SH (As := [.ref 0, .int a1, .int a2, .ref 102]) (st := []) C hR ⟨by omega, by omega⟩ mh_L_law (k_me (tm4 (List.mem_of_getElem? (i := 121) rfl)) rfl) dL_law__351 (rfl : 351 + 3 = 354) rfl rfl (c_L_law X.l h K1 hLS.1 hLS.2.1 (fun v h1 z => by obtain ⟨y, b, h3, h4, h5, h6⟩ := hr v h1 z; exact ⟨⟨y, h4⟩, h5.2.1⟩) (fun E h1 z => by obtain ⟨b, t, h3, h4, h5, h6⟩ := hx E h1 z; exact h5.1)) rfl rfl rfl ⟨Or.inr (by decide), k_okv_of hLS.1, Or.inl (k_is70 hLS), k_okv_of hLS.2.1, True.intro, True.intro⟩ True.intro ?_
  intro v ad1 h9 hres hsm C1
  have hA1 := k_argS hsm (by decide : 1000000 ≤ 5000000) hA
  have hs0 : k_sm 0 ad ad1 := fun p hp => hsm p (hp.elim (fun z => absurd z (Nat.not_lt_zero p)) Or.inr)
  rcases hres with ⟨y, h1, hz, rfl, rfl⟩ | ⟨E, h1, hz, rfl, rfl⟩
  · obtain ⟨y1, b, h3, hv1, hL1, K2, ho, hP⟩ := hr _ h1 hz
    cases hv1
    change k_W X _ _ _ _ ad1 _ _ _ [.int (0 : Int32)]
    refine r_istore C1 dL_law__354 (rfl : 354 + 2 = 356) (by decide) (Nat.le_of_ble_eq_true rfl) ?_
    show k_W X _ _ _ _ _ _ _ [some (.ref 5000000), some (.ref 0), some (.ref 70), some (.ref 102), some (.int i), some (.int (0 : Int32)), none, none] _
    exact s_t2 C1 hR ⟨by omega, by omega⟩ hA1 E1 E2 E3 E4 E5 (k_LS_out hL1) K2 (fun _ => ho) (fun hL => k_Wup (by omega) (by omega) (kk ad1 _ hP hL hs0 C1))
  · obtain ⟨b, t, h3, hL1, ⟨-, rfl⟩, K2, hP⟩ := hx E _ hz
    change k_W X _ _ _ _ ad1 _ _ _ [.int (1 : Int32)]
    refine r_istore C1 dL_law__354 (rfl : 354 + 2 = 356) (by decide) (Nat.le_of_ble_eq_true rfl) ?_
    show k_W X _ _ _ _ _ _ _ [some (.ref 5000000), some (.ref 0), some (.ref 70), some (.ref 102), some (.int i), some (.int (1 : Int32)), none, none] _
    exact s_t2 C1 hR ⟨by omega, by omega⟩ hA1 E1 E2 E3 E4 E5 hL1 K2 (fun z => absurd z (by decide)) (fun hL => k_Wup (by omega) (by omega) (kk ad1 _ hP hL hs0 C1))
set_option maxRecDepth 20000 in
theorem s_t3 {X : k_X} {cells slots N : Nat} {Q : State → Prop} {ad : Nat → Nat} {h : k_H} {i a1 a2 a3 a4 a5 : Int32} {f : Nat → Int32} (C : k_C X cL_law_ RL 8 ad) (hR : X.R.frames = 2048 ∧ X.R.locals = 84000) (hcs : cells ≤ X.R.cells ∧ slots ≤ X.R.slots) (hA : va_T .int (ad 5000000) N (fun j => .int (f j)) X.A X.s X.s.heap) (E1 : k_el N f (i + 1) a1) (E2 : k_el N f (i + 2) a2) (E3 : k_el N f (i + 3) a3) (E4 : k_el N f (i + 4) a4) (E5 : k_el N f (i + 5) a5) (hLS : k_LS h) {h3 : k_H} {b : Int32} {t : Int32} (K : k_MR X.l yX11_work cX11_work 4 (some .int) 64 1429 [.int a1] h (.int b) t h3) (hv : t = 0 → h3.2.2.1 102 0 = b.toInt64) (kk : k_LS h3 → k_W X 8 cells slots Q ad h3 2307 [some (.ref 5000000), some (.ref 0), some (.ref 70), some (.ref 102), some (.int i), none, none, none] []) : k_W X 8 cells slots Q ad h 418 [some (.ref 5000000), some (.ref 0), some (.ref 70), some (.ref 102), some (.int i), some (.int t), none, none] [] := by
  refine r_aload_n C dL_law__418 (rfl : 418 + 1 = 419) rfl ?_
  refine r_aload_n C dL_law__419 (rfl : 419 + 1 = 420) rfl ?_
  refine r_iload C dL_law__420 (rfl : 420 + 2 = 422) rfl ?_
  refine r_iconst (v := (1 : Int32)) C dL_law__422 (rfl : 422 + 1 = 423) rfl ?_
  refine r_iadd C dL_law__423 (rfl : 423 + 1 = 424) ?_
  refine r_argV C hA dL_law__424 (rfl : 424 + 1 = 425) E1 ?_
  refine c_MR C hR ⟨by omega, by omega⟩ hLS K mv_X11_work lk_L_131 dL_law__425 (rfl : 425 + 3 = 428) rfl rfl rfl (fun _ => rfl) (fun _ => rfl) rfl rfl rfl ?_
  have hL3 := k_MR_LS K hLS
  obtain ⟨-, -, -, -, ht⟩ := K
  refine r_istore C dL_law__428 (rfl : 428 + 2 = 430) (by decide) (Nat.le_of_ble_eq_true rfl) ?_
  show k_W X _ _ _ _ _ _ _ [some (.ref 5000000), some (.ref 0), some (.ref 70), some (.ref 102), some (.int i), some (.int t), some (.int b), none] _
  refine r_aload_n C dL_law__430 (rfl : 430 + 1 = 431) rfl ?_
  refine c_Vp (pi := piM) (shl := shM) (bl := 0) (b := 70) (As := []) (Al := []) (v := some (.int t)) (us := []) (T := TX11) (N := 66) C hR ⟨by omega, by omega⟩ mv_X11_thrown lk_L_121 dL_law__431 (rfl : 431 + 3 = 434) rfl rfl hL3.2.2.1 rfl rfl (k_thr ht) rfl (fun _ => rfl) rfl (fun _ => rfl) rfl rfl rfl ?_
  change k_W X _ _ _ _ ad h3 _ _ [.int t]
  refine r_iload C dL_law__434 (rfl : 434 + 2 = 436) rfl ?_
  refine r_icmp_eq (tgt := 441) C dL_law__436 (by decide) (rfl : 436 + 3 = 439) (fun _ => ?_) (fun z => absurd rfl z)
  refine r_iload C dL_law__441 (rfl : 441 + 2 = 443) rfl ?_
  refine r_if_ne (tgt := 458) C dL_law__443 (by decide) (rfl : 443 + 3 = 446) (fun _ => ?_) (fun z => ?_)
  · refine r_goto (tgt := 2307) C dL_law__458 (by decide) ?_
    exact k_mask [true, true, true, true, true, false, false, false] (kk hL3)
  · refine r_aload_n C dL_law__446 (rfl : 446 + 1 = 447) rfl ?_
    refine r_iconst (v := (0 : Int32)) C dL_law__447 (rfl : 447 + 1 = 448) rfl ?_
    refine r_lald (f := h3.2.2.1 102) C dL_law__448 (rfl : 448 + 1 = 449) hL3.2.1 rfl (show ¬ ((0 : Int32) < 0 ∨ 1 ≤ (0 : Int32).toNatClampNeg) by decide) ?_
    refine r_iload C dL_law__449 (rfl : 449 + 2 = 451) rfl ?_
    refine r_i2l C dL_law__451 (rfl : 451 + 1 = 452) ?_
    refine r_lcmp C dL_law__452 (rfl : 452 + 1 = 453) ?_
    refine r_if_eq (tgt := 458) C dL_law__453 (by decide) (rfl : 453 + 3 = 456) (fun _ => ?_) (fun z9 => absurd (by rw [show h3.2.2.1 102 (0 : Int32).toNatClampNeg = b.toInt64 from hv z]; exact k_cmps _) z9)
    refine r_goto (tgt := 2307) C dL_law__458 (by decide) ?_
    exact k_mask [true, true, true, true, true, false, false, false] (kk hL3)
def q_3 (l : Launch) (h : k_H) (a1 a2 a3 a4 a5 : Int32) (P : k_H → Prop) : Prop :=
  ∃ (mc ms : Nat) (Rr : Option Value → k_H → Prop) (Rx : String → k_H → Prop), mc ≤ 85 ∧ ms ≤ 714 ∧ k_CX l yX10_work cX10_work 2 (some .int) 65 1468 mc ms [.ref 0, .int a1] h Rr Rx ∧ (∀ v h1, Rr v h1 → ∃ (y : Int32) (b : Int32) (h3 : k_H), v = some (.int y) ∧ k_LS h1 ∧ k_MR l yX11_work cX11_work 4 (some .int) 64 1429 [.int a1] (k_out y.toInt64 h1) (.int b) 0 h3 ∧ h3.2.2.1 102 0 = b.toInt64 ∧ P h3) ∧
    (∀ E h1, Rx E h1 → ∃ (b : Int32) (t : Int32) (h3 : k_H), k_LS h1 ∧ (E = k_IAE ∧ t = 1) ∧ k_MR l yX11_work cX11_work 4 (some .int) 64 1429 [.int a1] h1 (.int b) t h3 ∧ P h3)
set_option maxRecDepth 20000 in
theorem s_k3 {X : k_X} {cells slots N : Nat} {Q : State → Prop} {ad : Nat → Nat} {h : k_H} {i a1 a2 a3 a4 a5 : Int32} {f : Nat → Int32} (C : k_C X cL_law_ RL 8 ad) (hR : X.R.frames = 2048 ∧ X.R.locals = 84000) (hcs : cells + 85 ≤ X.R.cells ∧ slots + 714 ≤ X.R.slots) (hA : va_T .int (ad 5000000) N (fun j => .int (f j)) X.A X.s X.s.heap) (E1 : k_el N f (i + 1) a1) (E2 : k_el N f (i + 2) a2) (E3 : k_el N f (i + 3) a3) (E4 : k_el N f (i + 4) a4) (E5 : k_el N f (i + 5) a5) (hLS : k_LS h) {P : k_H → Prop} (K : q_3 X.l h a1 a2 a3 a4 a5 P)
    (kk : ∀ (ad' : Nat → Nat) (h' : k_H), P h' → k_LS h' → k_sm 0 ad ad' → k_C X cL_law_ RL 8 ad' → k_W X 8 (cells + 85) (slots + 714) Q ad' h' 2307 [some (.ref 5000000), some (.ref 0), some (.ref 70), some (.ref 102), some (.int i), none, none, none] []) : k_W X 8 cells slots Q ad h 405 [some (.ref 5000000), some (.ref 0), some (.ref 70), some (.ref 102), some (.int i), none, none, none] [] := by
  refine r_aload_n C dL_law__405 (rfl : 405 + 1 = 406) rfl ?_
  refine r_aload_n C dL_law__406 (rfl : 406 + 1 = 407) rfl ?_
  refine r_iload C dL_law__407 (rfl : 407 + 2 = 409) rfl ?_
  refine r_iconst (v := (1 : Int32)) C dL_law__409 (rfl : 409 + 1 = 410) rfl ?_
  refine r_iadd C dL_law__410 (rfl : 410 + 1 = 411) ?_
  refine r_argV C hA dL_law__411 (rfl : 411 + 1 = 412) E1 ?_
  refine r_aload_n C dL_law__412 (rfl : 412 + 1 = 413) rfl ?_
  obtain ⟨mc, ms, Rr, Rx, hmc, hms, K1, hr, hx⟩ := K
  refine c_SH (As := [.ref 0, .int a1, .ref 102]) (st := []) C hR ⟨by omega, by omega⟩ mh_L_work (k_me (tm4 (List.mem_of_getElem? (i := 176) rfl)) rfl) dL_law__413 (rfl : 413 + 3 = 416) rfl rfl (c_L_work X.l h K1 hLS.1 hLS.2.1 (fun v h1 z => by obtain ⟨y, b, h3, h4, h5, h6⟩ := hr v h1 z; exact ⟨⟨y, h4⟩, h5.2.1⟩) (fun E h1 z => by obtain ⟨b, t, h3, h4, h5, h6⟩ := hx E h1 z; exact h5.1)) rfl rfl rfl ⟨Or.inr (by decide), k_okv_of hLS.1, Or.inl (k_is70 hLS), k_okv_of hLS.2.1, True.intro, True.intro⟩ True.intro ?_
  intro v ad1 h9 hres hsm C1
  have hA1 := k_argS hsm (by decide : 1000000 ≤ 5000000) hA
  have hs0 : k_sm 0 ad ad1 := fun p hp => hsm p (hp.elim (fun z => absurd z (Nat.not_lt_zero p)) Or.inr)
  rcases hres with ⟨y, h1, hz, rfl, rfl⟩ | ⟨E, h1, hz, rfl, rfl⟩
  · obtain ⟨y1, b, h3, hv1, hL1, K2, ho, hP⟩ := hr _ h1 hz
    cases hv1
    change k_W X _ _ _ _ ad1 _ _ _ [.int (0 : Int32)]
    refine r_istore C1 dL_law__416 (rfl : 416 + 2 = 418) (by decide) (Nat.le_of_ble_eq_true rfl) ?_
    show k_W X _ _ _ _ _ _ _ [some (.ref 5000000), some (.ref 0), some (.ref 70), some (.ref 102), some (.int i), some (.int (0 : Int32)), none, none] _
    exact s_t3 C1 hR ⟨by omega, by omega⟩ hA1 E1 E2 E3 E4 E5 (k_LS_out hL1) K2 (fun _ => ho) (fun hL => k_Wup (by omega) (by omega) (kk ad1 _ hP hL hs0 C1))
  · obtain ⟨b, t, h3, hL1, ⟨-, rfl⟩, K2, hP⟩ := hx E _ hz
    change k_W X _ _ _ _ ad1 _ _ _ [.int (1 : Int32)]
    refine r_istore C1 dL_law__416 (rfl : 416 + 2 = 418) (by decide) (Nat.le_of_ble_eq_true rfl) ?_
    show k_W X _ _ _ _ _ _ _ [some (.ref 5000000), some (.ref 0), some (.ref 70), some (.ref 102), some (.int i), some (.int (1 : Int32)), none, none] _
    exact s_t3 C1 hR ⟨by omega, by omega⟩ hA1 E1 E2 E3 E4 E5 hL1 K2 (fun z => absurd z (by decide)) (fun hL => k_Wup (by omega) (by omega) (kk ad1 _ hP hL hs0 C1))
set_option maxRecDepth 20000 in
theorem s_t4 {X : k_X} {cells slots N : Nat} {Q : State → Prop} {ad : Nat → Nat} {h : k_H} {i a1 a2 a3 a4 a5 : Int32} {f : Nat → Int32} (C : k_C X cL_law_ RL 8 ad) (hR : X.R.frames = 2048 ∧ X.R.locals = 84000) (hcs : cells ≤ X.R.cells ∧ slots ≤ X.R.slots) (hA : va_T .int (ad 5000000) N (fun j => .int (f j)) X.A X.s X.s.heap) (E1 : k_el N f (i + 1) a1) (E2 : k_el N f (i + 2) a2) (E3 : k_el N f (i + 3) a3) (E4 : k_el N f (i + 4) a4) (E5 : k_el N f (i + 5) a5) (hLS : k_LS h) {h3 : k_H} {b : Int32} {t : Int32} (K : k_MR X.l yX11_book cX11_book 7 (some .int) 2 47 [.int a1] h (.int b) t h3) (hv : t = 0 → h3.2.2.1 102 0 = b.toInt64) (kk : k_LS h3 → k_W X 8 cells slots Q ad h3 2307 [some (.ref 5000000), some (.ref 0), some (.ref 70), some (.ref 102), some (.int i), none, none, none] []) : k_W X 8 cells slots Q ad h 474 [some (.ref 5000000), some (.ref 0), some (.ref 70), some (.ref 102), some (.int i), some (.int t), none, none] [] := by
  refine r_aload_n C dL_law__474 (rfl : 474 + 1 = 475) rfl ?_
  refine r_aload_n C dL_law__475 (rfl : 475 + 1 = 476) rfl ?_
  refine r_iload C dL_law__476 (rfl : 476 + 2 = 478) rfl ?_
  refine r_iconst (v := (1 : Int32)) C dL_law__478 (rfl : 478 + 1 = 479) rfl ?_
  refine r_iadd C dL_law__479 (rfl : 479 + 1 = 480) ?_
  refine r_argV C hA dL_law__480 (rfl : 480 + 1 = 481) E1 ?_
  refine c_MR C hR ⟨by omega, by omega⟩ hLS K mv_X11_book lk_L_134 dL_law__481 (rfl : 481 + 3 = 484) rfl rfl rfl (fun _ => rfl) (fun _ => rfl) rfl rfl rfl ?_
  have hL3 := k_MR_LS K hLS
  obtain ⟨-, -, -, -, ht⟩ := K
  refine r_istore C dL_law__484 (rfl : 484 + 2 = 486) (by decide) (Nat.le_of_ble_eq_true rfl) ?_
  show k_W X _ _ _ _ _ _ _ [some (.ref 5000000), some (.ref 0), some (.ref 70), some (.ref 102), some (.int i), some (.int t), some (.int b), none] _
  refine r_aload_n C dL_law__486 (rfl : 486 + 1 = 487) rfl ?_
  refine c_Vp (pi := piM) (shl := shM) (bl := 0) (b := 70) (As := []) (Al := []) (v := some (.int t)) (us := []) (T := TX11) (N := 66) C hR ⟨by omega, by omega⟩ mv_X11_thrown lk_L_121 dL_law__487 (rfl : 487 + 3 = 490) rfl rfl hL3.2.2.1 rfl rfl (k_thr ht) rfl (fun _ => rfl) rfl (fun _ => rfl) rfl rfl rfl ?_
  change k_W X _ _ _ _ ad h3 _ _ [.int t]
  refine r_iload C dL_law__490 (rfl : 490 + 2 = 492) rfl ?_
  refine r_icmp_eq (tgt := 497) C dL_law__492 (by decide) (rfl : 492 + 3 = 495) (fun _ => ?_) (fun z => absurd rfl z)
  refine r_iload C dL_law__497 (rfl : 497 + 2 = 499) rfl ?_
  refine r_if_ne (tgt := 514) C dL_law__499 (by decide) (rfl : 499 + 3 = 502) (fun _ => ?_) (fun z => ?_)
  · refine r_goto (tgt := 2307) C dL_law__514 (by decide) ?_
    exact k_mask [true, true, true, true, true, false, false, false] (kk hL3)
  · refine r_aload_n C dL_law__502 (rfl : 502 + 1 = 503) rfl ?_
    refine r_iconst (v := (0 : Int32)) C dL_law__503 (rfl : 503 + 1 = 504) rfl ?_
    refine r_lald (f := h3.2.2.1 102) C dL_law__504 (rfl : 504 + 1 = 505) hL3.2.1 rfl (show ¬ ((0 : Int32) < 0 ∨ 1 ≤ (0 : Int32).toNatClampNeg) by decide) ?_
    refine r_iload C dL_law__505 (rfl : 505 + 2 = 507) rfl ?_
    refine r_i2l C dL_law__507 (rfl : 507 + 1 = 508) ?_
    refine r_lcmp C dL_law__508 (rfl : 508 + 1 = 509) ?_
    refine r_if_eq (tgt := 514) C dL_law__509 (by decide) (rfl : 509 + 3 = 512) (fun _ => ?_) (fun z9 => absurd (by rw [show h3.2.2.1 102 (0 : Int32).toNatClampNeg = b.toInt64 from hv z]; exact k_cmps _) z9)
    refine r_goto (tgt := 2307) C dL_law__514 (by decide) ?_
    exact k_mask [true, true, true, true, true, false, false, false] (kk hL3)
def q_4 (l : Launch) (h : k_H) (a1 a2 a3 a4 a5 : Int32) (P : k_H → Prop) : Prop :=
  ∃ (mc ms : Nat) (Rr : Option Value → k_H → Prop) (Rx : String → k_H → Prop), mc ≤ 85 ∧ ms ≤ 714 ∧ k_CX l yX10_book cX10_book 2 (some .int) 8 133 mc ms [.ref 0, .int a1] h Rr Rx ∧ (∀ v h1, Rr v h1 → ∃ (y : Int32) (b : Int32) (h3 : k_H), v = some (.int y) ∧ k_LS h1 ∧ k_MR l yX11_book cX11_book 7 (some .int) 2 47 [.int a1] (k_out y.toInt64 h1) (.int b) 0 h3 ∧ h3.2.2.1 102 0 = b.toInt64 ∧ P h3) ∧
    (∀ E h1, Rx E h1 → ∃ (b : Int32) (t : Int32) (h3 : k_H), k_LS h1 ∧ (E = k_IAE ∧ t = 1) ∧ k_MR l yX11_book cX11_book 7 (some .int) 2 47 [.int a1] h1 (.int b) t h3 ∧ P h3)
set_option maxRecDepth 20000 in
theorem s_k4 {X : k_X} {cells slots N : Nat} {Q : State → Prop} {ad : Nat → Nat} {h : k_H} {i a1 a2 a3 a4 a5 : Int32} {f : Nat → Int32} (C : k_C X cL_law_ RL 8 ad) (hR : X.R.frames = 2048 ∧ X.R.locals = 84000) (hcs : cells + 85 ≤ X.R.cells ∧ slots + 714 ≤ X.R.slots) (hA : va_T .int (ad 5000000) N (fun j => .int (f j)) X.A X.s X.s.heap) (E1 : k_el N f (i + 1) a1) (E2 : k_el N f (i + 2) a2) (E3 : k_el N f (i + 3) a3) (E4 : k_el N f (i + 4) a4) (E5 : k_el N f (i + 5) a5) (hLS : k_LS h) {P : k_H → Prop} (K : q_4 X.l h a1 a2 a3 a4 a5 P)
    (kk : ∀ (ad' : Nat → Nat) (h' : k_H), P h' → k_LS h' → k_sm 0 ad ad' → k_C X cL_law_ RL 8 ad' → k_W X 8 (cells + 85) (slots + 714) Q ad' h' 2307 [some (.ref 5000000), some (.ref 0), some (.ref 70), some (.ref 102), some (.int i), none, none, none] []) : k_W X 8 cells slots Q ad h 461 [some (.ref 5000000), some (.ref 0), some (.ref 70), some (.ref 102), some (.int i), none, none, none] [] := by
  refine r_aload_n C dL_law__461 (rfl : 461 + 1 = 462) rfl ?_
  refine r_aload_n C dL_law__462 (rfl : 462 + 1 = 463) rfl ?_
  refine r_iload C dL_law__463 (rfl : 463 + 2 = 465) rfl ?_
  refine r_iconst (v := (1 : Int32)) C dL_law__465 (rfl : 465 + 1 = 466) rfl ?_
  refine r_iadd C dL_law__466 (rfl : 466 + 1 = 467) ?_
  refine r_argV C hA dL_law__467 (rfl : 467 + 1 = 468) E1 ?_
  refine r_aload_n C dL_law__468 (rfl : 468 + 1 = 469) rfl ?_
  obtain ⟨mc, ms, Rr, Rx, hmc, hms, K1, hr, hx⟩ := K
  refine c_SH (As := [.ref 0, .int a1, .ref 102]) (st := []) C hR ⟨by omega, by omega⟩ mh_L_book (k_me (tm5 (List.mem_of_getElem? (i := 64) rfl)) rfl) dL_law__469 (rfl : 469 + 3 = 472) rfl rfl (c_L_book X.l h K1 hLS.1 hLS.2.1 (fun v h1 z => by obtain ⟨y, b, h3, h4, h5, h6⟩ := hr v h1 z; exact ⟨⟨y, h4⟩, h5.2.1⟩) (fun E h1 z => by obtain ⟨b, t, h3, h4, h5, h6⟩ := hx E h1 z; exact h5.1)) rfl rfl rfl ⟨Or.inr (by decide), k_okv_of hLS.1, Or.inl (k_is70 hLS), k_okv_of hLS.2.1, True.intro, True.intro⟩ True.intro ?_
  intro v ad1 h9 hres hsm C1
  have hA1 := k_argS hsm (by decide : 1000000 ≤ 5000000) hA
  have hs0 : k_sm 0 ad ad1 := fun p hp => hsm p (hp.elim (fun z => absurd z (Nat.not_lt_zero p)) Or.inr)
  rcases hres with ⟨y, h1, hz, rfl, rfl⟩ | ⟨E, h1, hz, rfl, rfl⟩
  · obtain ⟨y1, b, h3, hv1, hL1, K2, ho, hP⟩ := hr _ h1 hz
    cases hv1
    change k_W X _ _ _ _ ad1 _ _ _ [.int (0 : Int32)]
    refine r_istore C1 dL_law__472 (rfl : 472 + 2 = 474) (by decide) (Nat.le_of_ble_eq_true rfl) ?_
    show k_W X _ _ _ _ _ _ _ [some (.ref 5000000), some (.ref 0), some (.ref 70), some (.ref 102), some (.int i), some (.int (0 : Int32)), none, none] _
    exact s_t4 C1 hR ⟨by omega, by omega⟩ hA1 E1 E2 E3 E4 E5 (k_LS_out hL1) K2 (fun _ => ho) (fun hL => k_Wup (by omega) (by omega) (kk ad1 _ hP hL hs0 C1))
  · obtain ⟨b, t, h3, hL1, ⟨-, rfl⟩, K2, hP⟩ := hx E _ hz
    change k_W X _ _ _ _ ad1 _ _ _ [.int (1 : Int32)]
    refine r_istore C1 dL_law__472 (rfl : 472 + 2 = 474) (by decide) (Nat.le_of_ble_eq_true rfl) ?_
    show k_W X _ _ _ _ _ _ _ [some (.ref 5000000), some (.ref 0), some (.ref 70), some (.ref 102), some (.int i), some (.int (1 : Int32)), none, none] _
    exact s_t4 C1 hR ⟨by omega, by omega⟩ hA1 E1 E2 E3 E4 E5 hL1 K2 (fun z => absurd z (by decide)) (fun hL => k_Wup (by omega) (by omega) (kk ad1 _ hP hL hs0 C1))
def q_5 (l : Launch) (h : k_H) (a1 a2 a3 a4 a5 : Int32) (P : k_H → Prop) : Prop :=
  ∃ (y t : Int32) (us : List k_U) (h3 : k_H), k_CT l yX10_fault cX10_fault 1 (some .int) 0 0 [.ref 0] h (some (.int y)) us ∧ k_MR l yX11_fault cX11_fault 1 (some .int) 0 0 [] (k_ap us h) (.int y) t h3 ∧ P h3
set_option maxRecDepth 20000 in
theorem s_k5 {X : k_X} {cells slots N : Nat} {Q : State → Prop} {ad : Nat → Nat} {h : k_H} {i a1 a2 a3 a4 a5 : Int32} {f : Nat → Int32} (C : k_C X cL_law_ RL 8 ad) (hR : X.R.frames = 2048 ∧ X.R.locals = 84000) (hcs : cells + 85 ≤ X.R.cells ∧ slots + 714 ≤ X.R.slots) (hA : va_T .int (ad 5000000) N (fun j => .int (f j)) X.A X.s X.s.heap) (E1 : k_el N f (i + 1) a1) (E2 : k_el N f (i + 2) a2) (E3 : k_el N f (i + 3) a3) (E4 : k_el N f (i + 4) a4) (E5 : k_el N f (i + 5) a5) (hLS : k_LS h) {P : k_H → Prop} (K : q_5 X.l h a1 a2 a3 a4 a5 P)
    (kk : ∀ (ad' : Nat → Nat) (h' : k_H), P h' → k_LS h' → k_sm 0 ad ad' → k_C X cL_law_ RL 8 ad' → k_W X 8 (cells + 85) (slots + 714) Q ad' h' 2307 [some (.ref 5000000), some (.ref 0), some (.ref 70), some (.ref 102), some (.int i), none, none, none] []) : k_W X 8 cells slots Q ad h 517 [some (.ref 5000000), some (.ref 0), some (.ref 70), some (.ref 102), some (.int i), none, none, none] [] := by
  refine r_aload_n C dL_law__517 (rfl : 517 + 1 = 518) rfl ?_
  obtain ⟨y, t, us, h3, K1, K2, hP⟩ := K
  refine c_V (As := []) (st := []) (b := 0) C hR ⟨by omega, by omega⟩ mv_X10_fault lk_L_135 dL_law__518 (rfl : 518 + 3 = 521) rfl rfl hLS.1 rfl K1 rfl rfl rfl ?_
  have hL1 : k_LS (k_ap us h) := by unfold k_LS; rw [k_ap_sh]; exact hLS
  change k_W X _ _ _ _ ad _ _ _ [.int y]
  refine r_aload_n C dL_law__521 (rfl : 521 + 1 = 522) rfl ?_
  refine c_MR C hR ⟨by omega, by omega⟩ hL1 K2 mv_X11_fault lk_L_138 dL_law__522 (rfl : 522 + 3 = 525) rfl rfl rfl (fun _ => rfl) (fun _ => rfl) rfl rfl rfl ?_
  have hL3 := k_MR_LS K2 hL1
  refine r_icmp_eq (tgt := 2307) C dL_law__525 (by decide) (rfl : 525 + 3 = 528) (fun _ => ?_) (fun z => absurd rfl z)
  exact k_Wup (by omega) (by omega) (kk ad _ hP hL3 (fun _ _ => rfl) C)
def q_6 (l : Launch) (h : k_H) (a1 a2 a3 a4 a5 : Int32) (P : k_H → Prop) : Prop :=
  ∃ (mc ms : Nat) (Rr : Option Value → k_H → Prop), mc ≤ 85 ∧ ms ≤ 714 ∧ k_CG l yX10_undo cX10_undo 1 (some .int) 4 150 mc ms [.ref 0] h Rr ∧ (∀ v h1, Rr v h1 → ∃ (y t : Int32) (h3 : k_H), v = some (.int y) ∧ k_LS h1 ∧ k_MR l yX11_undo cX11_undo 2 (some .int) 0 0 [] h1 (.int y) t h3 ∧ P h3)
set_option maxRecDepth 20000 in
theorem s_k6 {X : k_X} {cells slots N : Nat} {Q : State → Prop} {ad : Nat → Nat} {h : k_H} {i a1 a2 a3 a4 a5 : Int32} {f : Nat → Int32} (C : k_C X cL_law_ RL 8 ad) (hR : X.R.frames = 2048 ∧ X.R.locals = 84000) (hcs : cells + 85 ≤ X.R.cells ∧ slots + 714 ≤ X.R.slots) (hA : va_T .int (ad 5000000) N (fun j => .int (f j)) X.A X.s X.s.heap) (E1 : k_el N f (i + 1) a1) (E2 : k_el N f (i + 2) a2) (E3 : k_el N f (i + 3) a3) (E4 : k_el N f (i + 4) a4) (E5 : k_el N f (i + 5) a5) (hLS : k_LS h) {P : k_H → Prop} (K : q_6 X.l h a1 a2 a3 a4 a5 P)
    (kk : ∀ (ad' : Nat → Nat) (h' : k_H), P h' → k_LS h' → k_sm 0 ad ad' → k_C X cL_law_ RL 8 ad' → k_W X 8 (cells + 85) (slots + 714) Q ad' h' 2307 [some (.ref 5000000), some (.ref 0), some (.ref 70), some (.ref 102), some (.int i), none, none, none] []) : k_W X 8 cells slots Q ad h 530 [some (.ref 5000000), some (.ref 0), some (.ref 70), some (.ref 102), some (.int i), none, none, none] [] := by
  refine r_aload_n C dL_law__530 (rfl : 530 + 1 = 531) rfl ?_
  obtain ⟨mc, ms, Rr, hmc, hms, K1, hr⟩ := K
  refine c_VG (As := []) (st := []) (b := 0) C hR ⟨by omega, by omega⟩ mv_X10_undo (k_me (tm3 (List.mem_of_getElem? (i := 24) rfl)) rfl) dL_law__531 (rfl : 531 + 3 = 534) rfl rfl hLS.1 rfl K1 rfl rfl rfl ⟨Or.inr (by decide), k_okv_of hLS.1, Or.inl (k_is70 hLS), k_okv_of hLS.2.1, True.intro, True.intro⟩ True.intro ?_
  intro v ad1 h1 hz hsm C1
  have hA1 := k_argS hsm (by decide : 1000000 ≤ 5000000) hA
  have hs0 : k_sm 0 ad ad1 := fun p hp => hsm p (hp.elim (fun z => absurd z (Nat.not_lt_zero p)) Or.inr)
  obtain ⟨y, t, h3, rfl, hL1, K2, hP⟩ := hr _ _ hz
  change k_W X _ _ _ _ ad1 _ _ _ [.int y]
  refine r_aload_n C1 dL_law__534 (rfl : 534 + 1 = 535) rfl ?_
  refine c_MR C1 hR ⟨by omega, by omega⟩ hL1 K2 mv_X11_undo lk_L_142 dL_law__535 (rfl : 535 + 3 = 538) rfl rfl rfl (fun _ => rfl) (fun _ => rfl) rfl rfl rfl ?_
  have hL3 := k_MR_LS K2 hL1
  refine r_icmp_eq (tgt := 2307) C1 dL_law__538 (by decide) (rfl : 538 + 3 = 541) (fun _ => ?_) (fun z => absurd rfl z)
  exact k_Wup (by omega) (by omega) (kk ad1 _ hP hL3 hs0 C1)
set_option maxRecDepth 20000 in
theorem s_t7 {X : k_X} {cells slots N : Nat} {Q : State → Prop} {ad : Nat → Nat} {h : k_H} {i a1 a2 a3 a4 a5 : Int32} {f : Nat → Int32} (C : k_C X cL_law_ RL 8 ad) (hR : X.R.frames = 2048 ∧ X.R.locals = 84000) (hcs : cells ≤ X.R.cells ∧ slots ≤ X.R.slots) (hA : va_T .int (ad 5000000) N (fun j => .int (f j)) X.A X.s X.s.heap) (E1 : k_el N f (i + 1) a1) (E2 : k_el N f (i + 2) a2) (E3 : k_el N f (i + 3) a3) (E4 : k_el N f (i + 4) a4) (E5 : k_el N f (i + 5) a5) (hLS : k_LS h) {h3 : k_H} {b : Int32} {t : Int32} (K : k_MR X.l yX11_told cX11_told 2 (some .int) 1 23 [.int a1] h (.int b) t h3) (hv : t = 0 → h3.2.2.1 102 0 = b.toInt64) (kk : k_LS h3 → k_W X 8 cells slots Q ad h3 2307 [some (.ref 5000000), some (.ref 0), some (.ref 70), some (.ref 102), some (.int i), none, none, none] []) : k_W X 8 cells slots Q ad h 556 [some (.ref 5000000), some (.ref 0), some (.ref 70), some (.ref 102), some (.int i), some (.int t), none, none] [] := by
  refine r_aload_n C dL_law__556 (rfl : 556 + 1 = 557) rfl ?_
  refine r_aload_n C dL_law__557 (rfl : 557 + 1 = 558) rfl ?_
  refine r_iload C dL_law__558 (rfl : 558 + 2 = 560) rfl ?_
  refine r_iconst (v := (1 : Int32)) C dL_law__560 (rfl : 560 + 1 = 561) rfl ?_
  refine r_iadd C dL_law__561 (rfl : 561 + 1 = 562) ?_
  refine r_argV C hA dL_law__562 (rfl : 562 + 1 = 563) E1 ?_
  refine c_MR C hR ⟨by omega, by omega⟩ hLS K mv_X11_told lk_L_145 dL_law__563 (rfl : 563 + 3 = 566) rfl rfl rfl (fun _ => rfl) (fun _ => rfl) rfl rfl rfl ?_
  have hL3 := k_MR_LS K hLS
  obtain ⟨-, -, -, -, ht⟩ := K
  refine r_istore C dL_law__566 (rfl : 566 + 2 = 568) (by decide) (Nat.le_of_ble_eq_true rfl) ?_
  show k_W X _ _ _ _ _ _ _ [some (.ref 5000000), some (.ref 0), some (.ref 70), some (.ref 102), some (.int i), some (.int t), some (.int b), none] _
  refine r_aload_n C dL_law__568 (rfl : 568 + 1 = 569) rfl ?_
  refine c_Vp (pi := piM) (shl := shM) (bl := 0) (b := 70) (As := []) (Al := []) (v := some (.int t)) (us := []) (T := TX11) (N := 66) C hR ⟨by omega, by omega⟩ mv_X11_thrown lk_L_121 dL_law__569 (rfl : 569 + 3 = 572) rfl rfl hL3.2.2.1 rfl rfl (k_thr ht) rfl (fun _ => rfl) rfl (fun _ => rfl) rfl rfl rfl ?_
  change k_W X _ _ _ _ ad h3 _ _ [.int t]
  refine r_iload C dL_law__572 (rfl : 572 + 2 = 574) rfl ?_
  refine r_icmp_eq (tgt := 579) C dL_law__574 (by decide) (rfl : 574 + 3 = 577) (fun _ => ?_) (fun z => absurd rfl z)
  refine r_iload C dL_law__579 (rfl : 579 + 2 = 581) rfl ?_
  refine r_if_ne (tgt := 596) C dL_law__581 (by decide) (rfl : 581 + 3 = 584) (fun _ => ?_) (fun z => ?_)
  · refine r_goto (tgt := 2307) C dL_law__596 (by decide) ?_
    exact k_mask [true, true, true, true, true, false, false, false] (kk hL3)
  · refine r_aload_n C dL_law__584 (rfl : 584 + 1 = 585) rfl ?_
    refine r_iconst (v := (0 : Int32)) C dL_law__585 (rfl : 585 + 1 = 586) rfl ?_
    refine r_lald (f := h3.2.2.1 102) C dL_law__586 (rfl : 586 + 1 = 587) hL3.2.1 rfl (show ¬ ((0 : Int32) < 0 ∨ 1 ≤ (0 : Int32).toNatClampNeg) by decide) ?_
    refine r_iload C dL_law__587 (rfl : 587 + 2 = 589) rfl ?_
    refine r_i2l C dL_law__589 (rfl : 589 + 1 = 590) ?_
    refine r_lcmp C dL_law__590 (rfl : 590 + 1 = 591) ?_
    refine r_if_eq (tgt := 596) C dL_law__591 (by decide) (rfl : 591 + 3 = 594) (fun _ => ?_) (fun z9 => absurd (by rw [show h3.2.2.1 102 (0 : Int32).toNatClampNeg = b.toInt64 from hv z]; exact k_cmps _) z9)
    refine r_goto (tgt := 2307) C dL_law__596 (by decide) ?_
    exact k_mask [true, true, true, true, true, false, false, false] (kk hL3)
def q_7 (l : Launch) (h : k_H) (a1 a2 a3 a4 a5 : Int32) (P : k_H → Prop) : Prop :=
  ∃ (mc ms : Nat) (Rr : Option Value → k_H → Prop) (Rx : String → k_H → Prop), mc ≤ 85 ∧ ms ≤ 714 ∧ k_CX l yX10_told cX10_told 2 (some .int) 7 111 mc ms [.ref 0, .int a1] h Rr Rx ∧ (∀ v h1, Rr v h1 → ∃ (y : Int32) (b : Int32) (h3 : k_H), v = some (.int y) ∧ k_LS h1 ∧ k_MR l yX11_told cX11_told 2 (some .int) 1 23 [.int a1] (k_out y.toInt64 h1) (.int b) 0 h3 ∧ h3.2.2.1 102 0 = b.toInt64 ∧ P h3) ∧
    (∀ E h1, Rx E h1 → ∃ (b : Int32) (t : Int32) (h3 : k_H), k_LS h1 ∧ (E = k_IAE ∧ t = 1) ∧ k_MR l yX11_told cX11_told 2 (some .int) 1 23 [.int a1] h1 (.int b) t h3 ∧ P h3)
set_option maxRecDepth 20000 in
theorem s_k7 {X : k_X} {cells slots N : Nat} {Q : State → Prop} {ad : Nat → Nat} {h : k_H} {i a1 a2 a3 a4 a5 : Int32} {f : Nat → Int32} (C : k_C X cL_law_ RL 8 ad) (hR : X.R.frames = 2048 ∧ X.R.locals = 84000) (hcs : cells + 85 ≤ X.R.cells ∧ slots + 714 ≤ X.R.slots) (hA : va_T .int (ad 5000000) N (fun j => .int (f j)) X.A X.s X.s.heap) (E1 : k_el N f (i + 1) a1) (E2 : k_el N f (i + 2) a2) (E3 : k_el N f (i + 3) a3) (E4 : k_el N f (i + 4) a4) (E5 : k_el N f (i + 5) a5) (hLS : k_LS h) {P : k_H → Prop} (K : q_7 X.l h a1 a2 a3 a4 a5 P)
    (kk : ∀ (ad' : Nat → Nat) (h' : k_H), P h' → k_LS h' → k_sm 0 ad ad' → k_C X cL_law_ RL 8 ad' → k_W X 8 (cells + 85) (slots + 714) Q ad' h' 2307 [some (.ref 5000000), some (.ref 0), some (.ref 70), some (.ref 102), some (.int i), none, none, none] []) : k_W X 8 cells slots Q ad h 543 [some (.ref 5000000), some (.ref 0), some (.ref 70), some (.ref 102), some (.int i), none, none, none] [] := by
  refine r_aload_n C dL_law__543 (rfl : 543 + 1 = 544) rfl ?_
  refine r_aload_n C dL_law__544 (rfl : 544 + 1 = 545) rfl ?_
  refine r_iload C dL_law__545 (rfl : 545 + 2 = 547) rfl ?_
  refine r_iconst (v := (1 : Int32)) C dL_law__547 (rfl : 547 + 1 = 548) rfl ?_
  refine r_iadd C dL_law__548 (rfl : 548 + 1 = 549) ?_
  refine r_argV C hA dL_law__549 (rfl : 549 + 1 = 550) E1 ?_
  refine r_aload_n C dL_law__550 (rfl : 550 + 1 = 551) rfl ?_
  obtain ⟨mc, ms, Rr, Rx, hmc, hms, K1, hr, hx⟩ := K
  refine c_SH (As := [.ref 0, .int a1, .ref 102]) (st := []) C hR ⟨by omega, by omega⟩ mh_L_told (k_me (tm5 (List.mem_of_getElem? (i := 81) rfl)) rfl) dL_law__551 (rfl : 551 + 3 = 554) rfl rfl (c_L_told X.l h K1 hLS.1 hLS.2.1 (fun v h1 z => by obtain ⟨y, b, h3, h4, h5, h6⟩ := hr v h1 z; exact ⟨⟨y, h4⟩, h5.2.1⟩) (fun E h1 z => by obtain ⟨b, t, h3, h4, h5, h6⟩ := hx E h1 z; exact h5.1)) rfl rfl rfl ⟨Or.inr (by decide), k_okv_of hLS.1, Or.inl (k_is70 hLS), k_okv_of hLS.2.1, True.intro, True.intro⟩ True.intro ?_
  intro v ad1 h9 hres hsm C1
  have hA1 := k_argS hsm (by decide : 1000000 ≤ 5000000) hA
  have hs0 : k_sm 0 ad ad1 := fun p hp => hsm p (hp.elim (fun z => absurd z (Nat.not_lt_zero p)) Or.inr)
  rcases hres with ⟨y, h1, hz, rfl, rfl⟩ | ⟨E, h1, hz, rfl, rfl⟩
  · obtain ⟨y1, b, h3, hv1, hL1, K2, ho, hP⟩ := hr _ h1 hz
    cases hv1
    change k_W X _ _ _ _ ad1 _ _ _ [.int (0 : Int32)]
    refine r_istore C1 dL_law__554 (rfl : 554 + 2 = 556) (by decide) (Nat.le_of_ble_eq_true rfl) ?_
    show k_W X _ _ _ _ _ _ _ [some (.ref 5000000), some (.ref 0), some (.ref 70), some (.ref 102), some (.int i), some (.int (0 : Int32)), none, none] _
    exact s_t7 C1 hR ⟨by omega, by omega⟩ hA1 E1 E2 E3 E4 E5 (k_LS_out hL1) K2 (fun _ => ho) (fun hL => k_Wup (by omega) (by omega) (kk ad1 _ hP hL hs0 C1))
  · obtain ⟨b, t, h3, hL1, ⟨-, rfl⟩, K2, hP⟩ := hx E _ hz
    change k_W X _ _ _ _ ad1 _ _ _ [.int (1 : Int32)]
    refine r_istore C1 dL_law__554 (rfl : 554 + 2 = 556) (by decide) (Nat.le_of_ble_eq_true rfl) ?_
    show k_W X _ _ _ _ _ _ _ [some (.ref 5000000), some (.ref 0), some (.ref 70), some (.ref 102), some (.int i), some (.int (1 : Int32)), none, none] _
    exact s_t7 C1 hR ⟨by omega, by omega⟩ hA1 E1 E2 E3 E4 E5 hL1 K2 (fun z => absurd z (by decide)) (fun hL => k_Wup (by omega) (by omega) (kk ad1 _ hP hL hs0 C1))
set_option maxRecDepth 20000 in
theorem s_t8 {X : k_X} {cells slots N : Nat} {Q : State → Prop} {ad : Nat → Nat} {h : k_H} {i a1 a2 a3 a4 a5 : Int32} {f : Nat → Int32} (C : k_C X cL_law_ RL 8 ad) (hR : X.R.frames = 2048 ∧ X.R.locals = 84000) (hcs : cells ≤ X.R.cells ∧ slots ≤ X.R.slots) (hA : va_T .int (ad 5000000) N (fun j => .int (f j)) X.A X.s X.s.heap) (E1 : k_el N f (i + 1) a1) (E2 : k_el N f (i + 2) a2) (E3 : k_el N f (i + 3) a3) (E4 : k_el N f (i + 4) a4) (E5 : k_el N f (i + 5) a5) (hLS : k_LS h) {h3 : k_H} {b : Int32} {t : Int32} (K : k_MR X.l yX11_cell cX11_cell 5 (some .int) 2 46 [.int a1, .int a2, .int a3] h (.int b) t h3) (hv : t = 0 → h3.2.2.1 102 0 = b.toInt64) (kk : k_LS h3 → k_W X 8 cells slots Q ad h3 2307 [some (.ref 5000000), some (.ref 0), some (.ref 70), some (.ref 102), some (.int i), none, none, none] []) : k_W X 8 cells slots Q ad h 624 [some (.ref 5000000), some (.ref 0), some (.ref 70), some (.ref 102), some (.int i), some (.int t), none, none] [] := by
  refine r_aload_n C dL_law__624 (rfl : 624 + 1 = 625) rfl ?_
  refine r_aload_n C dL_law__625 (rfl : 625 + 1 = 626) rfl ?_
  refine r_iload C dL_law__626 (rfl : 626 + 2 = 628) rfl ?_
  refine r_iconst (v := (1 : Int32)) C dL_law__628 (rfl : 628 + 1 = 629) rfl ?_
  refine r_iadd C dL_law__629 (rfl : 629 + 1 = 630) ?_
  refine r_argV C hA dL_law__630 (rfl : 630 + 1 = 631) E1 ?_
  refine r_aload_n C dL_law__631 (rfl : 631 + 1 = 632) rfl ?_
  refine r_iload C dL_law__632 (rfl : 632 + 2 = 634) rfl ?_
  refine r_iconst (v := (2 : Int32)) C dL_law__634 (rfl : 634 + 1 = 635) rfl ?_
  refine r_iadd C dL_law__635 (rfl : 635 + 1 = 636) ?_
  refine r_argV C hA dL_law__636 (rfl : 636 + 1 = 637) E2 ?_
  refine r_aload_n C dL_law__637 (rfl : 637 + 1 = 638) rfl ?_
  refine r_iload C dL_law__638 (rfl : 638 + 2 = 640) rfl ?_
  refine r_iconst (v := (3 : Int32)) C dL_law__640 (rfl : 640 + 1 = 641) rfl ?_
  refine r_iadd C dL_law__641 (rfl : 641 + 1 = 642) ?_
  refine r_argV C hA dL_law__642 (rfl : 642 + 1 = 643) E3 ?_
  refine c_MR C hR ⟨by omega, by omega⟩ hLS K mv_X11_cell lk_L_149 dL_law__643 (rfl : 643 + 3 = 646) rfl rfl rfl (fun _ => rfl) (fun _ => rfl) rfl rfl rfl ?_
  have hL3 := k_MR_LS K hLS
  obtain ⟨-, -, -, -, ht⟩ := K
  refine r_istore C dL_law__646 (rfl : 646 + 2 = 648) (by decide) (Nat.le_of_ble_eq_true rfl) ?_
  show k_W X _ _ _ _ _ _ _ [some (.ref 5000000), some (.ref 0), some (.ref 70), some (.ref 102), some (.int i), some (.int t), some (.int b), none] _
  refine r_aload_n C dL_law__648 (rfl : 648 + 1 = 649) rfl ?_
  refine c_Vp (pi := piM) (shl := shM) (bl := 0) (b := 70) (As := []) (Al := []) (v := some (.int t)) (us := []) (T := TX11) (N := 66) C hR ⟨by omega, by omega⟩ mv_X11_thrown lk_L_121 dL_law__649 (rfl : 649 + 3 = 652) rfl rfl hL3.2.2.1 rfl rfl (k_thr ht) rfl (fun _ => rfl) rfl (fun _ => rfl) rfl rfl rfl ?_
  change k_W X _ _ _ _ ad h3 _ _ [.int t]
  refine r_iload C dL_law__652 (rfl : 652 + 2 = 654) rfl ?_
  refine r_icmp_eq (tgt := 659) C dL_law__654 (by decide) (rfl : 654 + 3 = 657) (fun _ => ?_) (fun z => absurd rfl z)
  refine r_iload C dL_law__659 (rfl : 659 + 2 = 661) rfl ?_
  refine r_if_ne (tgt := 676) C dL_law__661 (by decide) (rfl : 661 + 3 = 664) (fun _ => ?_) (fun z => ?_)
  · refine r_goto (tgt := 2307) C dL_law__676 (by decide) ?_
    exact k_mask [true, true, true, true, true, false, false, false] (kk hL3)
  · refine r_aload_n C dL_law__664 (rfl : 664 + 1 = 665) rfl ?_
    refine r_iconst (v := (0 : Int32)) C dL_law__665 (rfl : 665 + 1 = 666) rfl ?_
    refine r_lald (f := h3.2.2.1 102) C dL_law__666 (rfl : 666 + 1 = 667) hL3.2.1 rfl (show ¬ ((0 : Int32) < 0 ∨ 1 ≤ (0 : Int32).toNatClampNeg) by decide) ?_
    refine r_iload C dL_law__667 (rfl : 667 + 2 = 669) rfl ?_
    refine r_i2l C dL_law__669 (rfl : 669 + 1 = 670) ?_
    refine r_lcmp C dL_law__670 (rfl : 670 + 1 = 671) ?_
    refine r_if_eq (tgt := 676) C dL_law__671 (by decide) (rfl : 671 + 3 = 674) (fun _ => ?_) (fun z9 => absurd (by rw [show h3.2.2.1 102 (0 : Int32).toNatClampNeg = b.toInt64 from hv z]; exact k_cmps _) z9)
    refine r_goto (tgt := 2307) C dL_law__676 (by decide) ?_
    exact k_mask [true, true, true, true, true, false, false, false] (kk hL3)
def q_8 (l : Launch) (h : k_H) (a1 a2 a3 a4 a5 : Int32) (P : k_H → Prop) : Prop :=
  ∃ (mc ms : Nat) (Rr : Option Value → k_H → Prop) (Rx : String → k_H → Prop), mc ≤ 85 ∧ ms ≤ 714 ∧ k_CX l yX10_cell cX10_cell 5 (some .int) 7 112 mc ms [.ref 0, .int a1, .int a2, .int a3] h Rr Rx ∧ (∀ v h1, Rr v h1 → ∃ (y : Int32) (b : Int32) (h3 : k_H), v = some (.int y) ∧ k_LS h1 ∧ k_MR l yX11_cell cX11_cell 5 (some .int) 2 46 [.int a1, .int a2, .int a3] (k_out y.toInt64 h1) (.int b) 0 h3 ∧ h3.2.2.1 102 0 = b.toInt64 ∧ P h3) ∧
    (∀ E h1, Rx E h1 → ∃ (b : Int32) (t : Int32) (h3 : k_H), k_LS h1 ∧ ((E = k_IOO ∧ t = 1) ∨ (E = k_IAE ∧ t = 2)) ∧ k_MR l yX11_cell cX11_cell 5 (some .int) 2 46 [.int a1, .int a2, .int a3] h1 (.int b) t h3 ∧ P h3)
set_option maxRecDepth 20000 in
theorem s_k8 {X : k_X} {cells slots N : Nat} {Q : State → Prop} {ad : Nat → Nat} {h : k_H} {i a1 a2 a3 a4 a5 : Int32} {f : Nat → Int32} (C : k_C X cL_law_ RL 8 ad) (hR : X.R.frames = 2048 ∧ X.R.locals = 84000) (hcs : cells + 85 ≤ X.R.cells ∧ slots + 714 ≤ X.R.slots) (hA : va_T .int (ad 5000000) N (fun j => .int (f j)) X.A X.s X.s.heap) (E1 : k_el N f (i + 1) a1) (E2 : k_el N f (i + 2) a2) (E3 : k_el N f (i + 3) a3) (E4 : k_el N f (i + 4) a4) (E5 : k_el N f (i + 5) a5) (hLS : k_LS h) {P : k_H → Prop} (K : q_8 X.l h a1 a2 a3 a4 a5 P)
    (kk : ∀ (ad' : Nat → Nat) (h' : k_H), P h' → k_LS h' → k_sm 0 ad ad' → k_C X cL_law_ RL 8 ad' → k_W X 8 (cells + 85) (slots + 714) Q ad' h' 2307 [some (.ref 5000000), some (.ref 0), some (.ref 70), some (.ref 102), some (.int i), none, none, none] []) : k_W X 8 cells slots Q ad h 599 [some (.ref 5000000), some (.ref 0), some (.ref 70), some (.ref 102), some (.int i), none, none, none] [] := by
  refine r_aload_n C dL_law__599 (rfl : 599 + 1 = 600) rfl ?_
  refine r_aload_n C dL_law__600 (rfl : 600 + 1 = 601) rfl ?_
  refine r_iload C dL_law__601 (rfl : 601 + 2 = 603) rfl ?_
  refine r_iconst (v := (1 : Int32)) C dL_law__603 (rfl : 603 + 1 = 604) rfl ?_
  refine r_iadd C dL_law__604 (rfl : 604 + 1 = 605) ?_
  refine r_argV C hA dL_law__605 (rfl : 605 + 1 = 606) E1 ?_
  refine r_aload_n C dL_law__606 (rfl : 606 + 1 = 607) rfl ?_
  refine r_iload C dL_law__607 (rfl : 607 + 2 = 609) rfl ?_
  refine r_iconst (v := (2 : Int32)) C dL_law__609 (rfl : 609 + 1 = 610) rfl ?_
  refine r_iadd C dL_law__610 (rfl : 610 + 1 = 611) ?_
  refine r_argV C hA dL_law__611 (rfl : 611 + 1 = 612) E2 ?_
  refine r_aload_n C dL_law__612 (rfl : 612 + 1 = 613) rfl ?_
  refine r_iload C dL_law__613 (rfl : 613 + 2 = 615) rfl ?_
  refine r_iconst (v := (3 : Int32)) C dL_law__615 (rfl : 615 + 1 = 616) rfl ?_
  refine r_iadd C dL_law__616 (rfl : 616 + 1 = 617) ?_
  refine r_argV C hA dL_law__617 (rfl : 617 + 1 = 618) E3 ?_
  refine r_aload_n C dL_law__618 (rfl : 618 + 1 = 619) rfl ?_
  obtain ⟨mc, ms, Rr, Rx, hmc, hms, K1, hr, hx⟩ := K
  refine c_SH (As := [.ref 0, .int a1, .int a2, .int a3, .ref 102]) (st := []) C hR ⟨by omega, by omega⟩ mh_L_cell (k_me (tm5 (List.mem_of_getElem? (i := 88) rfl)) rfl) dL_law__619 (rfl : 619 + 3 = 622) rfl rfl (c_L_cell X.l h K1 hLS.1 hLS.2.1 (fun v h1 z => by obtain ⟨y, b, h3, h4, h5, h6⟩ := hr v h1 z; exact ⟨⟨y, h4⟩, h5.2.1⟩) (fun E h1 z => by obtain ⟨b, t, h3, h4, h5, h6⟩ := hx E h1 z; exact h5.imp (fun z => z.1) (fun z => z.1))) rfl rfl rfl ⟨Or.inr (by decide), k_okv_of hLS.1, Or.inl (k_is70 hLS), k_okv_of hLS.2.1, True.intro, True.intro⟩ True.intro ?_
  intro v ad1 h9 hres hsm C1
  have hA1 := k_argS hsm (by decide : 1000000 ≤ 5000000) hA
  have hs0 : k_sm 0 ad ad1 := fun p hp => hsm p (hp.elim (fun z => absurd z (Nat.not_lt_zero p)) Or.inr)
  rcases hres with ⟨y, h1, hz, rfl, rfl⟩ | ⟨E, h1, hz, ⟨hE, rfl, rfl⟩ | ⟨hE, rfl, rfl⟩⟩
  · obtain ⟨y1, b, h3, hv1, hL1, K2, ho, hP⟩ := hr _ h1 hz
    cases hv1
    change k_W X _ _ _ _ ad1 _ _ _ [.int (0 : Int32)]
    refine r_istore C1 dL_law__622 (rfl : 622 + 2 = 624) (by decide) (Nat.le_of_ble_eq_true rfl) ?_
    show k_W X _ _ _ _ _ _ _ [some (.ref 5000000), some (.ref 0), some (.ref 70), some (.ref 102), some (.int i), some (.int (0 : Int32)), none, none] _
    exact s_t8 C1 hR ⟨by omega, by omega⟩ hA1 E1 E2 E3 E4 E5 (k_LS_out hL1) K2 (fun _ => ho) (fun hL => k_Wup (by omega) (by omega) (kk ad1 _ hP hL hs0 C1))
  · obtain ⟨b, t, h3, hL1, hE1, K2, hP⟩ := hx E _ hz
    obtain rfl : t = 1 := hE1.elim (fun z => z.2) (fun z => absurd (hE.symm.trans z.1) (by decide))
    change k_W X _ _ _ _ ad1 _ _ _ [.int (1 : Int32)]
    refine r_istore C1 dL_law__622 (rfl : 622 + 2 = 624) (by decide) (Nat.le_of_ble_eq_true rfl) ?_
    show k_W X _ _ _ _ _ _ _ [some (.ref 5000000), some (.ref 0), some (.ref 70), some (.ref 102), some (.int i), some (.int (1 : Int32)), none, none] _
    exact s_t8 C1 hR ⟨by omega, by omega⟩ hA1 E1 E2 E3 E4 E5 hL1 K2 (fun z => absurd z (by decide)) (fun hL => k_Wup (by omega) (by omega) (kk ad1 _ hP hL hs0 C1))
  · obtain ⟨b, t, h3, hL1, hE1, K2, hP⟩ := hx E _ hz
    obtain rfl : t = 2 := hE1.elim (fun z => absurd (hE.symm.trans z.1) (by decide)) (fun z => z.2)
    change k_W X _ _ _ _ ad1 _ _ _ [.int (2 : Int32)]
    refine r_istore C1 dL_law__622 (rfl : 622 + 2 = 624) (by decide) (Nat.le_of_ble_eq_true rfl) ?_
    show k_W X _ _ _ _ _ _ _ [some (.ref 5000000), some (.ref 0), some (.ref 70), some (.ref 102), some (.int i), some (.int (2 : Int32)), none, none] _
    exact s_t8 C1 hR ⟨by omega, by omega⟩ hA1 E1 E2 E3 E4 E5 hL1 K2 (fun z => absurd z (by decide)) (fun hL => k_Wup (by omega) (by omega) (kk ad1 _ hP hL hs0 C1))
set_option maxRecDepth 20000 in
theorem s_t9 {X : k_X} {cells slots N : Nat} {Q : State → Prop} {ad : Nat → Nat} {h : k_H} {i a1 a2 a3 a4 a5 : Int32} {f : Nat → Int32} (C : k_C X cL_law_ RL 8 ad) (hR : X.R.frames = 2048 ∧ X.R.locals = 84000) (hcs : cells ≤ X.R.cells ∧ slots ≤ X.R.slots) (hA : va_T .int (ad 5000000) N (fun j => .int (f j)) X.A X.s X.s.heap) (E1 : k_el N f (i + 1) a1) (E2 : k_el N f (i + 2) a2) (E3 : k_el N f (i + 3) a3) (E4 : k_el N f (i + 4) a4) (E5 : k_el N f (i + 5) a5) (hLS : k_LS h) {h3 : k_H} {b : Int32} {t : Int32} (K : k_MR X.l yX11_kind cX11_kind 5 (some .int) 1 23 [.int a1, .int a2] h (.int b) t h3) (hv : t = 0 → h3.2.2.1 102 0 = b.toInt64) (kk : k_LS h3 → k_W X 8 cells slots Q ad h3 2307 [some (.ref 5000000), some (.ref 0), some (.ref 70), some (.ref 102), some (.int i), none, none, none] []) : k_W X 8 cells slots Q ad h 698 [some (.ref 5000000), some (.ref 0), some (.ref 70), some (.ref 102), some (.int i), some (.int t), none, none] [] := by
  refine r_aload_n C dL_law__698 (rfl : 698 + 1 = 699) rfl ?_
  refine r_aload_n C dL_law__699 (rfl : 699 + 1 = 700) rfl ?_
  refine r_iload C dL_law__700 (rfl : 700 + 2 = 702) rfl ?_
  refine r_iconst (v := (1 : Int32)) C dL_law__702 (rfl : 702 + 1 = 703) rfl ?_
  refine r_iadd C dL_law__703 (rfl : 703 + 1 = 704) ?_
  refine r_argV C hA dL_law__704 (rfl : 704 + 1 = 705) E1 ?_
  refine r_aload_n C dL_law__705 (rfl : 705 + 1 = 706) rfl ?_
  refine r_iload C dL_law__706 (rfl : 706 + 2 = 708) rfl ?_
  refine r_iconst (v := (2 : Int32)) C dL_law__708 (rfl : 708 + 1 = 709) rfl ?_
  refine r_iadd C dL_law__709 (rfl : 709 + 1 = 710) ?_
  refine r_argV C hA dL_law__710 (rfl : 710 + 1 = 711) E2 ?_
  refine c_MR C hR ⟨by omega, by omega⟩ hLS K mv_X11_kind lk_L_152 dL_law__711 (rfl : 711 + 3 = 714) rfl rfl rfl (fun _ => rfl) (fun _ => rfl) rfl rfl rfl ?_
  have hL3 := k_MR_LS K hLS
  obtain ⟨-, -, -, -, ht⟩ := K
  refine r_istore C dL_law__714 (rfl : 714 + 2 = 716) (by decide) (Nat.le_of_ble_eq_true rfl) ?_
  show k_W X _ _ _ _ _ _ _ [some (.ref 5000000), some (.ref 0), some (.ref 70), some (.ref 102), some (.int i), some (.int t), some (.int b), none] _
  refine r_aload_n C dL_law__716 (rfl : 716 + 1 = 717) rfl ?_
  refine c_Vp (pi := piM) (shl := shM) (bl := 0) (b := 70) (As := []) (Al := []) (v := some (.int t)) (us := []) (T := TX11) (N := 66) C hR ⟨by omega, by omega⟩ mv_X11_thrown lk_L_121 dL_law__717 (rfl : 717 + 3 = 720) rfl rfl hL3.2.2.1 rfl rfl (k_thr ht) rfl (fun _ => rfl) rfl (fun _ => rfl) rfl rfl rfl ?_
  change k_W X _ _ _ _ ad h3 _ _ [.int t]
  refine r_iload C dL_law__720 (rfl : 720 + 2 = 722) rfl ?_
  refine r_icmp_eq (tgt := 727) C dL_law__722 (by decide) (rfl : 722 + 3 = 725) (fun _ => ?_) (fun z => absurd rfl z)
  refine r_iload C dL_law__727 (rfl : 727 + 2 = 729) rfl ?_
  refine r_if_ne (tgt := 744) C dL_law__729 (by decide) (rfl : 729 + 3 = 732) (fun _ => ?_) (fun z => ?_)
  · refine r_goto (tgt := 2307) C dL_law__744 (by decide) ?_
    exact k_mask [true, true, true, true, true, false, false, false] (kk hL3)
  · refine r_aload_n C dL_law__732 (rfl : 732 + 1 = 733) rfl ?_
    refine r_iconst (v := (0 : Int32)) C dL_law__733 (rfl : 733 + 1 = 734) rfl ?_
    refine r_lald (f := h3.2.2.1 102) C dL_law__734 (rfl : 734 + 1 = 735) hL3.2.1 rfl (show ¬ ((0 : Int32) < 0 ∨ 1 ≤ (0 : Int32).toNatClampNeg) by decide) ?_
    refine r_iload C dL_law__735 (rfl : 735 + 2 = 737) rfl ?_
    refine r_i2l C dL_law__737 (rfl : 737 + 1 = 738) ?_
    refine r_lcmp C dL_law__738 (rfl : 738 + 1 = 739) ?_
    refine r_if_eq (tgt := 744) C dL_law__739 (by decide) (rfl : 739 + 3 = 742) (fun _ => ?_) (fun z9 => absurd (by rw [show h3.2.2.1 102 (0 : Int32).toNatClampNeg = b.toInt64 from hv z]; exact k_cmps _) z9)
    refine r_goto (tgt := 2307) C dL_law__744 (by decide) ?_
    exact k_mask [true, true, true, true, true, false, false, false] (kk hL3)
def q_9 (l : Launch) (h : k_H) (a1 a2 a3 a4 a5 : Int32) (P : k_H → Prop) : Prop :=
  ∃ (mc ms : Nat) (Rr : Option Value → k_H → Prop) (Rx : String → k_H → Prop), mc ≤ 85 ∧ ms ≤ 714 ∧ k_CX l yX10_kind cX10_kind 3 (some .int) 7 111 mc ms [.ref 0, .int a1, .int a2] h Rr Rx ∧ (∀ v h1, Rr v h1 → ∃ (y : Int32) (b : Int32) (h3 : k_H), v = some (.int y) ∧ k_LS h1 ∧ k_MR l yX11_kind cX11_kind 5 (some .int) 1 23 [.int a1, .int a2] (k_out y.toInt64 h1) (.int b) 0 h3 ∧ h3.2.2.1 102 0 = b.toInt64 ∧ P h3) ∧
    (∀ E h1, Rx E h1 → ∃ (b : Int32) (t : Int32) (h3 : k_H), k_LS h1 ∧ (E = k_IAE ∧ t = 1) ∧ k_MR l yX11_kind cX11_kind 5 (some .int) 1 23 [.int a1, .int a2] h1 (.int b) t h3 ∧ P h3)
set_option maxRecDepth 20000 in
theorem s_k9 {X : k_X} {cells slots N : Nat} {Q : State → Prop} {ad : Nat → Nat} {h : k_H} {i a1 a2 a3 a4 a5 : Int32} {f : Nat → Int32} (C : k_C X cL_law_ RL 8 ad) (hR : X.R.frames = 2048 ∧ X.R.locals = 84000) (hcs : cells + 85 ≤ X.R.cells ∧ slots + 714 ≤ X.R.slots) (hA : va_T .int (ad 5000000) N (fun j => .int (f j)) X.A X.s X.s.heap) (E1 : k_el N f (i + 1) a1) (E2 : k_el N f (i + 2) a2) (E3 : k_el N f (i + 3) a3) (E4 : k_el N f (i + 4) a4) (E5 : k_el N f (i + 5) a5) (hLS : k_LS h) {P : k_H → Prop} (K : q_9 X.l h a1 a2 a3 a4 a5 P)
    (kk : ∀ (ad' : Nat → Nat) (h' : k_H), P h' → k_LS h' → k_sm 0 ad ad' → k_C X cL_law_ RL 8 ad' → k_W X 8 (cells + 85) (slots + 714) Q ad' h' 2307 [some (.ref 5000000), some (.ref 0), some (.ref 70), some (.ref 102), some (.int i), none, none, none] []) : k_W X 8 cells slots Q ad h 679 [some (.ref 5000000), some (.ref 0), some (.ref 70), some (.ref 102), some (.int i), none, none, none] [] := by
  refine r_aload_n C dL_law__679 (rfl : 679 + 1 = 680) rfl ?_
  refine r_aload_n C dL_law__680 (rfl : 680 + 1 = 681) rfl ?_
  refine r_iload C dL_law__681 (rfl : 681 + 2 = 683) rfl ?_
  refine r_iconst (v := (1 : Int32)) C dL_law__683 (rfl : 683 + 1 = 684) rfl ?_
  refine r_iadd C dL_law__684 (rfl : 684 + 1 = 685) ?_
  refine r_argV C hA dL_law__685 (rfl : 685 + 1 = 686) E1 ?_
  refine r_aload_n C dL_law__686 (rfl : 686 + 1 = 687) rfl ?_
  refine r_iload C dL_law__687 (rfl : 687 + 2 = 689) rfl ?_
  refine r_iconst (v := (2 : Int32)) C dL_law__689 (rfl : 689 + 1 = 690) rfl ?_
  refine r_iadd C dL_law__690 (rfl : 690 + 1 = 691) ?_
  refine r_argV C hA dL_law__691 (rfl : 691 + 1 = 692) E2 ?_
  refine r_aload_n C dL_law__692 (rfl : 692 + 1 = 693) rfl ?_
  obtain ⟨mc, ms, Rr, Rx, hmc, hms, K1, hr, hx⟩ := K
  refine c_SH (As := [.ref 0, .int a1, .int a2, .ref 102]) (st := []) C hR ⟨by omega, by omega⟩ mh_L_kind (k_me (tm5 (List.mem_of_getElem? (i := 121) rfl)) rfl) dL_law__693 (rfl : 693 + 3 = 696) rfl rfl (c_L_kind X.l h K1 hLS.1 hLS.2.1 (fun v h1 z => by obtain ⟨y, b, h3, h4, h5, h6⟩ := hr v h1 z; exact ⟨⟨y, h4⟩, h5.2.1⟩) (fun E h1 z => by obtain ⟨b, t, h3, h4, h5, h6⟩ := hx E h1 z; exact h5.1)) rfl rfl rfl ⟨Or.inr (by decide), k_okv_of hLS.1, Or.inl (k_is70 hLS), k_okv_of hLS.2.1, True.intro, True.intro⟩ True.intro ?_
  intro v ad1 h9 hres hsm C1
  have hA1 := k_argS hsm (by decide : 1000000 ≤ 5000000) hA
  have hs0 : k_sm 0 ad ad1 := fun p hp => hsm p (hp.elim (fun z => absurd z (Nat.not_lt_zero p)) Or.inr)
  rcases hres with ⟨y, h1, hz, rfl, rfl⟩ | ⟨E, h1, hz, rfl, rfl⟩
  · obtain ⟨y1, b, h3, hv1, hL1, K2, ho, hP⟩ := hr _ h1 hz
    cases hv1
    change k_W X _ _ _ _ ad1 _ _ _ [.int (0 : Int32)]
    refine r_istore C1 dL_law__696 (rfl : 696 + 2 = 698) (by decide) (Nat.le_of_ble_eq_true rfl) ?_
    show k_W X _ _ _ _ _ _ _ [some (.ref 5000000), some (.ref 0), some (.ref 70), some (.ref 102), some (.int i), some (.int (0 : Int32)), none, none] _
    exact s_t9 C1 hR ⟨by omega, by omega⟩ hA1 E1 E2 E3 E4 E5 (k_LS_out hL1) K2 (fun _ => ho) (fun hL => k_Wup (by omega) (by omega) (kk ad1 _ hP hL hs0 C1))
  · obtain ⟨b, t, h3, hL1, ⟨-, rfl⟩, K2, hP⟩ := hx E _ hz
    change k_W X _ _ _ _ ad1 _ _ _ [.int (1 : Int32)]
    refine r_istore C1 dL_law__696 (rfl : 696 + 2 = 698) (by decide) (Nat.le_of_ble_eq_true rfl) ?_
    show k_W X _ _ _ _ _ _ _ [some (.ref 5000000), some (.ref 0), some (.ref 70), some (.ref 102), some (.int i), some (.int (1 : Int32)), none, none] _
    exact s_t9 C1 hR ⟨by omega, by omega⟩ hA1 E1 E2 E3 E4 E5 hL1 K2 (fun z => absurd z (by decide)) (fun hL => k_Wup (by omega) (by omega) (kk ad1 _ hP hL hs0 C1))
set_option maxRecDepth 20000 in
theorem s_t10 {X : k_X} {cells slots N : Nat} {Q : State → Prop} {ad : Nat → Nat} {h : k_H} {i a1 a2 a3 a4 a5 : Int32} {f : Nat → Int32} (C : k_C X cL_law_ RL 8 ad) (hR : X.R.frames = 2048 ∧ X.R.locals = 84000) (hcs : cells ≤ X.R.cells ∧ slots ≤ X.R.slots) (hA : va_T .int (ad 5000000) N (fun j => .int (f j)) X.A X.s X.s.heap) (E1 : k_el N f (i + 1) a1) (E2 : k_el N f (i + 2) a2) (E3 : k_el N f (i + 3) a3) (E4 : k_el N f (i + 4) a4) (E5 : k_el N f (i + 5) a5) (hLS : k_LS h) {h3 : k_H} {b : Int32} {t : Int32} (K : k_MR X.l yX11_order cX11_order 3 (some .int) 2 45 [.int a1, .int a2] h (.int b) t h3) (hv : t = 0 → h3.2.2.1 102 0 = b.toInt64) (kk : k_LS h3 → k_W X 8 cells slots Q ad h3 2307 [some (.ref 5000000), some (.ref 0), some (.ref 70), some (.ref 102), some (.int i), none, none, none] []) : k_W X 8 cells slots Q ad h 766 [some (.ref 5000000), some (.ref 0), some (.ref 70), some (.ref 102), some (.int i), some (.int t), none, none] [] := by
  refine r_aload_n C dL_law__766 (rfl : 766 + 1 = 767) rfl ?_
  refine r_aload_n C dL_law__767 (rfl : 767 + 1 = 768) rfl ?_
  refine r_iload C dL_law__768 (rfl : 768 + 2 = 770) rfl ?_
  refine r_iconst (v := (1 : Int32)) C dL_law__770 (rfl : 770 + 1 = 771) rfl ?_
  refine r_iadd C dL_law__771 (rfl : 771 + 1 = 772) ?_
  refine r_argV C hA dL_law__772 (rfl : 772 + 1 = 773) E1 ?_
  refine r_aload_n C dL_law__773 (rfl : 773 + 1 = 774) rfl ?_
  refine r_iload C dL_law__774 (rfl : 774 + 2 = 776) rfl ?_
  refine r_iconst (v := (2 : Int32)) C dL_law__776 (rfl : 776 + 1 = 777) rfl ?_
  refine r_iadd C dL_law__777 (rfl : 777 + 1 = 778) ?_
  refine r_argV C hA dL_law__778 (rfl : 778 + 1 = 779) E2 ?_
  refine c_MR C hR ⟨by omega, by omega⟩ hLS K mv_X11_order lk_L_155 dL_law__779 (rfl : 779 + 3 = 782) rfl rfl rfl (fun _ => rfl) (fun _ => rfl) rfl rfl rfl ?_
  have hL3 := k_MR_LS K hLS
  obtain ⟨-, -, -, -, ht⟩ := K
  refine r_istore C dL_law__782 (rfl : 782 + 2 = 784) (by decide) (Nat.le_of_ble_eq_true rfl) ?_
  show k_W X _ _ _ _ _ _ _ [some (.ref 5000000), some (.ref 0), some (.ref 70), some (.ref 102), some (.int i), some (.int t), some (.int b), none] _
  refine r_aload_n C dL_law__784 (rfl : 784 + 1 = 785) rfl ?_
  refine c_Vp (pi := piM) (shl := shM) (bl := 0) (b := 70) (As := []) (Al := []) (v := some (.int t)) (us := []) (T := TX11) (N := 66) C hR ⟨by omega, by omega⟩ mv_X11_thrown lk_L_121 dL_law__785 (rfl : 785 + 3 = 788) rfl rfl hL3.2.2.1 rfl rfl (k_thr ht) rfl (fun _ => rfl) rfl (fun _ => rfl) rfl rfl rfl ?_
  change k_W X _ _ _ _ ad h3 _ _ [.int t]
  refine r_iload C dL_law__788 (rfl : 788 + 2 = 790) rfl ?_
  refine r_icmp_eq (tgt := 795) C dL_law__790 (by decide) (rfl : 790 + 3 = 793) (fun _ => ?_) (fun z => absurd rfl z)
  refine r_iload C dL_law__795 (rfl : 795 + 2 = 797) rfl ?_
  refine r_if_ne (tgt := 812) C dL_law__797 (by decide) (rfl : 797 + 3 = 800) (fun _ => ?_) (fun z => ?_)
  · refine r_goto (tgt := 2307) C dL_law__812 (by decide) ?_
    exact k_mask [true, true, true, true, true, false, false, false] (kk hL3)
  · refine r_aload_n C dL_law__800 (rfl : 800 + 1 = 801) rfl ?_
    refine r_iconst (v := (0 : Int32)) C dL_law__801 (rfl : 801 + 1 = 802) rfl ?_
    refine r_lald (f := h3.2.2.1 102) C dL_law__802 (rfl : 802 + 1 = 803) hL3.2.1 rfl (show ¬ ((0 : Int32) < 0 ∨ 1 ≤ (0 : Int32).toNatClampNeg) by decide) ?_
    refine r_iload C dL_law__803 (rfl : 803 + 2 = 805) rfl ?_
    refine r_i2l C dL_law__805 (rfl : 805 + 1 = 806) ?_
    refine r_lcmp C dL_law__806 (rfl : 806 + 1 = 807) ?_
    refine r_if_eq (tgt := 812) C dL_law__807 (by decide) (rfl : 807 + 3 = 810) (fun _ => ?_) (fun z9 => absurd (by rw [show h3.2.2.1 102 (0 : Int32).toNatClampNeg = b.toInt64 from hv z]; exact k_cmps _) z9)
    refine r_goto (tgt := 2307) C dL_law__812 (by decide) ?_
    exact k_mask [true, true, true, true, true, false, false, false] (kk hL3)
def q_10 (l : Launch) (h : k_H) (a1 a2 a3 a4 a5 : Int32) (P : k_H → Prop) : Prop :=
  ∃ (mc ms : Nat) (Rr : Option Value → k_H → Prop) (Rx : String → k_H → Prop), mc ≤ 85 ∧ ms ≤ 714 ∧ k_CX l yX10_order cX10_order 3 (some .int) 7 111 mc ms [.ref 0, .int a1, .int a2] h Rr Rx ∧ (∀ v h1, Rr v h1 → ∃ (y : Int32) (b : Int32) (h3 : k_H), v = some (.int y) ∧ k_LS h1 ∧ k_MR l yX11_order cX11_order 3 (some .int) 2 45 [.int a1, .int a2] (k_out y.toInt64 h1) (.int b) 0 h3 ∧ h3.2.2.1 102 0 = b.toInt64 ∧ P h3) ∧
    (∀ E h1, Rx E h1 → ∃ (b : Int32) (t : Int32) (h3 : k_H), k_LS h1 ∧ ((E = k_NSE ∧ t = 1) ∨ (E = k_IAE ∧ t = 2)) ∧ k_MR l yX11_order cX11_order 3 (some .int) 2 45 [.int a1, .int a2] h1 (.int b) t h3 ∧ P h3)
set_option maxRecDepth 20000 in
theorem s_k10 {X : k_X} {cells slots N : Nat} {Q : State → Prop} {ad : Nat → Nat} {h : k_H} {i a1 a2 a3 a4 a5 : Int32} {f : Nat → Int32} (C : k_C X cL_law_ RL 8 ad) (hR : X.R.frames = 2048 ∧ X.R.locals = 84000) (hcs : cells + 85 ≤ X.R.cells ∧ slots + 714 ≤ X.R.slots) (hA : va_T .int (ad 5000000) N (fun j => .int (f j)) X.A X.s X.s.heap) (E1 : k_el N f (i + 1) a1) (E2 : k_el N f (i + 2) a2) (E3 : k_el N f (i + 3) a3) (E4 : k_el N f (i + 4) a4) (E5 : k_el N f (i + 5) a5) (hLS : k_LS h) {P : k_H → Prop} (K : q_10 X.l h a1 a2 a3 a4 a5 P)
    (kk : ∀ (ad' : Nat → Nat) (h' : k_H), P h' → k_LS h' → k_sm 0 ad ad' → k_C X cL_law_ RL 8 ad' → k_W X 8 (cells + 85) (slots + 714) Q ad' h' 2307 [some (.ref 5000000), some (.ref 0), some (.ref 70), some (.ref 102), some (.int i), none, none, none] []) : k_W X 8 cells slots Q ad h 747 [some (.ref 5000000), some (.ref 0), some (.ref 70), some (.ref 102), some (.int i), none, none, none] [] := by
  refine r_aload_n C dL_law__747 (rfl : 747 + 1 = 748) rfl ?_
  refine r_aload_n C dL_law__748 (rfl : 748 + 1 = 749) rfl ?_
  refine r_iload C dL_law__749 (rfl : 749 + 2 = 751) rfl ?_
  refine r_iconst (v := (1 : Int32)) C dL_law__751 (rfl : 751 + 1 = 752) rfl ?_
  refine r_iadd C dL_law__752 (rfl : 752 + 1 = 753) ?_
  refine r_argV C hA dL_law__753 (rfl : 753 + 1 = 754) E1 ?_
  refine r_aload_n C dL_law__754 (rfl : 754 + 1 = 755) rfl ?_
  refine r_iload C dL_law__755 (rfl : 755 + 2 = 757) rfl ?_
  refine r_iconst (v := (2 : Int32)) C dL_law__757 (rfl : 757 + 1 = 758) rfl ?_
  refine r_iadd C dL_law__758 (rfl : 758 + 1 = 759) ?_
  refine r_argV C hA dL_law__759 (rfl : 759 + 1 = 760) E2 ?_
  refine r_aload_n C dL_law__760 (rfl : 760 + 1 = 761) rfl ?_
  obtain ⟨mc, ms, Rr, Rx, hmc, hms, K1, hr, hx⟩ := K
  refine c_SH (As := [.ref 0, .int a1, .int a2, .ref 102]) (st := []) C hR ⟨by omega, by omega⟩ mh_L_order (k_me (tm5 (List.mem_of_getElem? (i := 133) rfl)) rfl) dL_law__761 (rfl : 761 + 3 = 764) rfl rfl (c_L_order X.l h K1 hLS.1 hLS.2.1 (fun v h1 z => by obtain ⟨y, b, h3, h4, h5, h6⟩ := hr v h1 z; exact ⟨⟨y, h4⟩, h5.2.1⟩) (fun E h1 z => by obtain ⟨b, t, h3, h4, h5, h6⟩ := hx E h1 z; exact h5.imp (fun z => z.1) (fun z => z.1))) rfl rfl rfl ⟨Or.inr (by decide), k_okv_of hLS.1, Or.inl (k_is70 hLS), k_okv_of hLS.2.1, True.intro, True.intro⟩ True.intro ?_
  intro v ad1 h9 hres hsm C1
  have hA1 := k_argS hsm (by decide : 1000000 ≤ 5000000) hA
  have hs0 : k_sm 0 ad ad1 := fun p hp => hsm p (hp.elim (fun z => absurd z (Nat.not_lt_zero p)) Or.inr)
  rcases hres with ⟨y, h1, hz, rfl, rfl⟩ | ⟨E, h1, hz, ⟨hE, rfl, rfl⟩ | ⟨hE, rfl, rfl⟩⟩
  · obtain ⟨y1, b, h3, hv1, hL1, K2, ho, hP⟩ := hr _ h1 hz
    cases hv1
    change k_W X _ _ _ _ ad1 _ _ _ [.int (0 : Int32)]
    refine r_istore C1 dL_law__764 (rfl : 764 + 2 = 766) (by decide) (Nat.le_of_ble_eq_true rfl) ?_
    show k_W X _ _ _ _ _ _ _ [some (.ref 5000000), some (.ref 0), some (.ref 70), some (.ref 102), some (.int i), some (.int (0 : Int32)), none, none] _
    exact s_t10 C1 hR ⟨by omega, by omega⟩ hA1 E1 E2 E3 E4 E5 (k_LS_out hL1) K2 (fun _ => ho) (fun hL => k_Wup (by omega) (by omega) (kk ad1 _ hP hL hs0 C1))
  · obtain ⟨b, t, h3, hL1, hE1, K2, hP⟩ := hx E _ hz
    obtain rfl : t = 1 := hE1.elim (fun z => z.2) (fun z => absurd (hE.symm.trans z.1) (by decide))
    change k_W X _ _ _ _ ad1 _ _ _ [.int (1 : Int32)]
    refine r_istore C1 dL_law__764 (rfl : 764 + 2 = 766) (by decide) (Nat.le_of_ble_eq_true rfl) ?_
    show k_W X _ _ _ _ _ _ _ [some (.ref 5000000), some (.ref 0), some (.ref 70), some (.ref 102), some (.int i), some (.int (1 : Int32)), none, none] _
    exact s_t10 C1 hR ⟨by omega, by omega⟩ hA1 E1 E2 E3 E4 E5 hL1 K2 (fun z => absurd z (by decide)) (fun hL => k_Wup (by omega) (by omega) (kk ad1 _ hP hL hs0 C1))
  · obtain ⟨b, t, h3, hL1, hE1, K2, hP⟩ := hx E _ hz
    obtain rfl : t = 2 := hE1.elim (fun z => absurd (hE.symm.trans z.1) (by decide)) (fun z => z.2)
    change k_W X _ _ _ _ ad1 _ _ _ [.int (2 : Int32)]
    refine r_istore C1 dL_law__764 (rfl : 764 + 2 = 766) (by decide) (Nat.le_of_ble_eq_true rfl) ?_
    show k_W X _ _ _ _ _ _ _ [some (.ref 5000000), some (.ref 0), some (.ref 70), some (.ref 102), some (.int i), some (.int (2 : Int32)), none, none] _
    exact s_t10 C1 hR ⟨by omega, by omega⟩ hA1 E1 E2 E3 E4 E5 hL1 K2 (fun z => absurd z (by decide)) (fun hL => k_Wup (by omega) (by omega) (kk ad1 _ hP hL hs0 C1))
set_option maxRecDepth 20000 in
theorem s_t11 {X : k_X} {cells slots N : Nat} {Q : State → Prop} {ad : Nat → Nat} {h : k_H} {i a1 a2 a3 a4 a5 : Int32} {f : Nat → Int32} (C : k_C X cL_law_ RL 8 ad) (hR : X.R.frames = 2048 ∧ X.R.locals = 84000) (hcs : cells ≤ X.R.cells ∧ slots ≤ X.R.slots) (hA : va_T .int (ad 5000000) N (fun j => .int (f j)) X.A X.s X.s.heap) (E1 : k_el N f (i + 1) a1) (E2 : k_el N f (i + 2) a2) (E3 : k_el N f (i + 3) a3) (E4 : k_el N f (i + 4) a4) (E5 : k_el N f (i + 5) a5) (hLS : k_LS h) {h3 : k_H} {b : Int32} {t : Int32} (K : k_MR X.l yX11_note cX11_note 3 (some .int) 2 45 [.int a1, .int a2] h (.int b) t h3) (hv : t = 0 → h3.2.2.1 102 0 = b.toInt64) (kk : k_LS h3 → k_W X 8 cells slots Q ad h3 2307 [some (.ref 5000000), some (.ref 0), some (.ref 70), some (.ref 102), some (.int i), none, none, none] []) : k_W X 8 cells slots Q ad h 834 [some (.ref 5000000), some (.ref 0), some (.ref 70), some (.ref 102), some (.int i), some (.int t), none, none] [] := by
  refine r_aload_n C dL_law__834 (rfl : 834 + 1 = 835) rfl ?_
  refine r_aload_n C dL_law__835 (rfl : 835 + 1 = 836) rfl ?_
  refine r_iload C dL_law__836 (rfl : 836 + 2 = 838) rfl ?_
  refine r_iconst (v := (1 : Int32)) C dL_law__838 (rfl : 838 + 1 = 839) rfl ?_
  refine r_iadd C dL_law__839 (rfl : 839 + 1 = 840) ?_
  refine r_argV C hA dL_law__840 (rfl : 840 + 1 = 841) E1 ?_
  refine r_aload_n C dL_law__841 (rfl : 841 + 1 = 842) rfl ?_
  refine r_iload C dL_law__842 (rfl : 842 + 2 = 844) rfl ?_
  refine r_iconst (v := (2 : Int32)) C dL_law__844 (rfl : 844 + 1 = 845) rfl ?_
  refine r_iadd C dL_law__845 (rfl : 845 + 1 = 846) ?_
  refine r_argV C hA dL_law__846 (rfl : 846 + 1 = 847) E2 ?_
  refine c_MR C hR ⟨by omega, by omega⟩ hLS K mv_X11_note lk_L_158 dL_law__847 (rfl : 847 + 3 = 850) rfl rfl rfl (fun _ => rfl) (fun _ => rfl) rfl rfl rfl ?_
  have hL3 := k_MR_LS K hLS
  obtain ⟨-, -, -, -, ht⟩ := K
  refine r_istore C dL_law__850 (rfl : 850 + 2 = 852) (by decide) (Nat.le_of_ble_eq_true rfl) ?_
  show k_W X _ _ _ _ _ _ _ [some (.ref 5000000), some (.ref 0), some (.ref 70), some (.ref 102), some (.int i), some (.int t), some (.int b), none] _
  refine r_aload_n C dL_law__852 (rfl : 852 + 1 = 853) rfl ?_
  refine c_Vp (pi := piM) (shl := shM) (bl := 0) (b := 70) (As := []) (Al := []) (v := some (.int t)) (us := []) (T := TX11) (N := 66) C hR ⟨by omega, by omega⟩ mv_X11_thrown lk_L_121 dL_law__853 (rfl : 853 + 3 = 856) rfl rfl hL3.2.2.1 rfl rfl (k_thr ht) rfl (fun _ => rfl) rfl (fun _ => rfl) rfl rfl rfl ?_
  change k_W X _ _ _ _ ad h3 _ _ [.int t]
  refine r_iload C dL_law__856 (rfl : 856 + 2 = 858) rfl ?_
  refine r_icmp_eq (tgt := 863) C dL_law__858 (by decide) (rfl : 858 + 3 = 861) (fun _ => ?_) (fun z => absurd rfl z)
  refine r_iload C dL_law__863 (rfl : 863 + 2 = 865) rfl ?_
  refine r_if_ne (tgt := 880) C dL_law__865 (by decide) (rfl : 865 + 3 = 868) (fun _ => ?_) (fun z => ?_)
  · refine r_goto (tgt := 2307) C dL_law__880 (by decide) ?_
    exact k_mask [true, true, true, true, true, false, false, false] (kk hL3)
  · refine r_aload_n C dL_law__868 (rfl : 868 + 1 = 869) rfl ?_
    refine r_iconst (v := (0 : Int32)) C dL_law__869 (rfl : 869 + 1 = 870) rfl ?_
    refine r_lald (f := h3.2.2.1 102) C dL_law__870 (rfl : 870 + 1 = 871) hL3.2.1 rfl (show ¬ ((0 : Int32) < 0 ∨ 1 ≤ (0 : Int32).toNatClampNeg) by decide) ?_
    refine r_iload C dL_law__871 (rfl : 871 + 2 = 873) rfl ?_
    refine r_i2l C dL_law__873 (rfl : 873 + 1 = 874) ?_
    refine r_lcmp C dL_law__874 (rfl : 874 + 1 = 875) ?_
    refine r_if_eq (tgt := 880) C dL_law__875 (by decide) (rfl : 875 + 3 = 878) (fun _ => ?_) (fun z9 => absurd (by rw [show h3.2.2.1 102 (0 : Int32).toNatClampNeg = b.toInt64 from hv z]; exact k_cmps _) z9)
    refine r_goto (tgt := 2307) C dL_law__880 (by decide) ?_
    exact k_mask [true, true, true, true, true, false, false, false] (kk hL3)
def q_11 (l : Launch) (h : k_H) (a1 a2 a3 a4 a5 : Int32) (P : k_H → Prop) : Prop :=
  ∃ (mc ms : Nat) (Rr : Option Value → k_H → Prop) (Rx : String → k_H → Prop), mc ≤ 85 ∧ ms ≤ 714 ∧ k_CX l yX10_note cX10_note 3 (some .int) 7 111 mc ms [.ref 0, .int a1, .int a2] h Rr Rx ∧ (∀ v h1, Rr v h1 → ∃ (y : Int32) (b : Int32) (h3 : k_H), v = some (.int y) ∧ k_LS h1 ∧ k_MR l yX11_note cX11_note 3 (some .int) 2 45 [.int a1, .int a2] (k_out y.toInt64 h1) (.int b) 0 h3 ∧ h3.2.2.1 102 0 = b.toInt64 ∧ P h3) ∧
    (∀ E h1, Rx E h1 → ∃ (b : Int32) (t : Int32) (h3 : k_H), k_LS h1 ∧ ((E = k_NSE ∧ t = 1) ∨ (E = k_IAE ∧ t = 2)) ∧ k_MR l yX11_note cX11_note 3 (some .int) 2 45 [.int a1, .int a2] h1 (.int b) t h3 ∧ P h3)
set_option maxRecDepth 20000 in
theorem s_k11 {X : k_X} {cells slots N : Nat} {Q : State → Prop} {ad : Nat → Nat} {h : k_H} {i a1 a2 a3 a4 a5 : Int32} {f : Nat → Int32} (C : k_C X cL_law_ RL 8 ad) (hR : X.R.frames = 2048 ∧ X.R.locals = 84000) (hcs : cells + 85 ≤ X.R.cells ∧ slots + 714 ≤ X.R.slots) (hA : va_T .int (ad 5000000) N (fun j => .int (f j)) X.A X.s X.s.heap) (E1 : k_el N f (i + 1) a1) (E2 : k_el N f (i + 2) a2) (E3 : k_el N f (i + 3) a3) (E4 : k_el N f (i + 4) a4) (E5 : k_el N f (i + 5) a5) (hLS : k_LS h) {P : k_H → Prop} (K : q_11 X.l h a1 a2 a3 a4 a5 P)
    (kk : ∀ (ad' : Nat → Nat) (h' : k_H), P h' → k_LS h' → k_sm 0 ad ad' → k_C X cL_law_ RL 8 ad' → k_W X 8 (cells + 85) (slots + 714) Q ad' h' 2307 [some (.ref 5000000), some (.ref 0), some (.ref 70), some (.ref 102), some (.int i), none, none, none] []) : k_W X 8 cells slots Q ad h 815 [some (.ref 5000000), some (.ref 0), some (.ref 70), some (.ref 102), some (.int i), none, none, none] [] := by
  refine r_aload_n C dL_law__815 (rfl : 815 + 1 = 816) rfl ?_
  refine r_aload_n C dL_law__816 (rfl : 816 + 1 = 817) rfl ?_
  refine r_iload C dL_law__817 (rfl : 817 + 2 = 819) rfl ?_
  refine r_iconst (v := (1 : Int32)) C dL_law__819 (rfl : 819 + 1 = 820) rfl ?_
  refine r_iadd C dL_law__820 (rfl : 820 + 1 = 821) ?_
  refine r_argV C hA dL_law__821 (rfl : 821 + 1 = 822) E1 ?_
  refine r_aload_n C dL_law__822 (rfl : 822 + 1 = 823) rfl ?_
  refine r_iload C dL_law__823 (rfl : 823 + 2 = 825) rfl ?_
  refine r_iconst (v := (2 : Int32)) C dL_law__825 (rfl : 825 + 1 = 826) rfl ?_
  refine r_iadd C dL_law__826 (rfl : 826 + 1 = 827) ?_
  refine r_argV C hA dL_law__827 (rfl : 827 + 1 = 828) E2 ?_
  refine r_aload_n C dL_law__828 (rfl : 828 + 1 = 829) rfl ?_
  obtain ⟨mc, ms, Rr, Rx, hmc, hms, K1, hr, hx⟩ := K
  refine c_SH (As := [.ref 0, .int a1, .int a2, .ref 102]) (st := []) C hR ⟨by omega, by omega⟩ mh_L_note (k_me (tm5 (List.mem_of_getElem? (i := 166) rfl)) rfl) dL_law__829 (rfl : 829 + 3 = 832) rfl rfl (c_L_note X.l h K1 hLS.1 hLS.2.1 (fun v h1 z => by obtain ⟨y, b, h3, h4, h5, h6⟩ := hr v h1 z; exact ⟨⟨y, h4⟩, h5.2.1⟩) (fun E h1 z => by obtain ⟨b, t, h3, h4, h5, h6⟩ := hx E h1 z; exact h5.imp (fun z => z.1) (fun z => z.1))) rfl rfl rfl ⟨Or.inr (by decide), k_okv_of hLS.1, Or.inl (k_is70 hLS), k_okv_of hLS.2.1, True.intro, True.intro⟩ True.intro ?_
  intro v ad1 h9 hres hsm C1
  have hA1 := k_argS hsm (by decide : 1000000 ≤ 5000000) hA
  have hs0 : k_sm 0 ad ad1 := fun p hp => hsm p (hp.elim (fun z => absurd z (Nat.not_lt_zero p)) Or.inr)
  rcases hres with ⟨y, h1, hz, rfl, rfl⟩ | ⟨E, h1, hz, ⟨hE, rfl, rfl⟩ | ⟨hE, rfl, rfl⟩⟩
  · obtain ⟨y1, b, h3, hv1, hL1, K2, ho, hP⟩ := hr _ h1 hz
    cases hv1
    change k_W X _ _ _ _ ad1 _ _ _ [.int (0 : Int32)]
    refine r_istore C1 dL_law__832 (rfl : 832 + 2 = 834) (by decide) (Nat.le_of_ble_eq_true rfl) ?_
    show k_W X _ _ _ _ _ _ _ [some (.ref 5000000), some (.ref 0), some (.ref 70), some (.ref 102), some (.int i), some (.int (0 : Int32)), none, none] _
    exact s_t11 C1 hR ⟨by omega, by omega⟩ hA1 E1 E2 E3 E4 E5 (k_LS_out hL1) K2 (fun _ => ho) (fun hL => k_Wup (by omega) (by omega) (kk ad1 _ hP hL hs0 C1))
  · obtain ⟨b, t, h3, hL1, hE1, K2, hP⟩ := hx E _ hz
    obtain rfl : t = 1 := hE1.elim (fun z => z.2) (fun z => absurd (hE.symm.trans z.1) (by decide))
    change k_W X _ _ _ _ ad1 _ _ _ [.int (1 : Int32)]
    refine r_istore C1 dL_law__832 (rfl : 832 + 2 = 834) (by decide) (Nat.le_of_ble_eq_true rfl) ?_
    show k_W X _ _ _ _ _ _ _ [some (.ref 5000000), some (.ref 0), some (.ref 70), some (.ref 102), some (.int i), some (.int (1 : Int32)), none, none] _
    exact s_t11 C1 hR ⟨by omega, by omega⟩ hA1 E1 E2 E3 E4 E5 hL1 K2 (fun z => absurd z (by decide)) (fun hL => k_Wup (by omega) (by omega) (kk ad1 _ hP hL hs0 C1))
  · obtain ⟨b, t, h3, hL1, hE1, K2, hP⟩ := hx E _ hz
    obtain rfl : t = 2 := hE1.elim (fun z => absurd (hE.symm.trans z.1) (by decide)) (fun z => z.2)
    change k_W X _ _ _ _ ad1 _ _ _ [.int (2 : Int32)]
    refine r_istore C1 dL_law__832 (rfl : 832 + 2 = 834) (by decide) (Nat.le_of_ble_eq_true rfl) ?_
    show k_W X _ _ _ _ _ _ _ [some (.ref 5000000), some (.ref 0), some (.ref 70), some (.ref 102), some (.int i), some (.int (2 : Int32)), none, none] _
    exact s_t11 C1 hR ⟨by omega, by omega⟩ hA1 E1 E2 E3 E4 E5 hL1 K2 (fun z => absurd z (by decide)) (fun hL => k_Wup (by omega) (by omega) (kk ad1 _ hP hL hs0 C1))
set_option maxRecDepth 20000 in
theorem s_t12 {X : k_X} {cells slots N : Nat} {Q : State → Prop} {ad : Nat → Nat} {h : k_H} {i a1 a2 a3 a4 a5 : Int32} {f : Nat → Int32} (C : k_C X cL_law_ RL 8 ad) (hR : X.R.frames = 2048 ∧ X.R.locals = 84000) (hcs : cells ≤ X.R.cells ∧ slots ≤ X.R.slots) (hA : va_T .int (ad 5000000) N (fun j => .int (f j)) X.A X.s X.s.heap) (E1 : k_el N f (i + 1) a1) (E2 : k_el N f (i + 2) a2) (E3 : k_el N f (i + 3) a3) (E4 : k_el N f (i + 4) a4) (E5 : k_el N f (i + 5) a5) (hLS : k_LS h) {h3 : k_H} {b : Int32} {t : Int32} (K : k_MR X.l yX11_lacks cX11_lacks 2 (some .int) 2 45 [.int a1] h (.int b) t h3) (hv : t = 0 → h3.2.2.1 102 0 = b.toInt64) (kk : k_LS h3 → k_W X 8 cells slots Q ad h3 2307 [some (.ref 5000000), some (.ref 0), some (.ref 70), some (.ref 102), some (.int i), none, none, none] []) : k_W X 8 cells slots Q ad h 896 [some (.ref 5000000), some (.ref 0), some (.ref 70), some (.ref 102), some (.int i), some (.int t), none, none] [] := by
  refine r_aload_n C dL_law__896 (rfl : 896 + 1 = 897) rfl ?_
  refine r_aload_n C dL_law__897 (rfl : 897 + 1 = 898) rfl ?_
  refine r_iload C dL_law__898 (rfl : 898 + 2 = 900) rfl ?_
  refine r_iconst (v := (1 : Int32)) C dL_law__900 (rfl : 900 + 1 = 901) rfl ?_
  refine r_iadd C dL_law__901 (rfl : 901 + 1 = 902) ?_
  refine r_argV C hA dL_law__902 (rfl : 902 + 1 = 903) E1 ?_
  refine c_MR C hR ⟨by omega, by omega⟩ hLS K mv_X11_lacks lk_L_161 dL_law__903 (rfl : 903 + 3 = 906) rfl rfl rfl (fun _ => rfl) (fun _ => rfl) rfl rfl rfl ?_
  have hL3 := k_MR_LS K hLS
  obtain ⟨-, -, -, -, ht⟩ := K
  refine r_istore C dL_law__906 (rfl : 906 + 2 = 908) (by decide) (Nat.le_of_ble_eq_true rfl) ?_
  show k_W X _ _ _ _ _ _ _ [some (.ref 5000000), some (.ref 0), some (.ref 70), some (.ref 102), some (.int i), some (.int t), some (.int b), none] _
  refine r_aload_n C dL_law__908 (rfl : 908 + 1 = 909) rfl ?_
  refine c_Vp (pi := piM) (shl := shM) (bl := 0) (b := 70) (As := []) (Al := []) (v := some (.int t)) (us := []) (T := TX11) (N := 66) C hR ⟨by omega, by omega⟩ mv_X11_thrown lk_L_121 dL_law__909 (rfl : 909 + 3 = 912) rfl rfl hL3.2.2.1 rfl rfl (k_thr ht) rfl (fun _ => rfl) rfl (fun _ => rfl) rfl rfl rfl ?_
  change k_W X _ _ _ _ ad h3 _ _ [.int t]
  refine r_iload C dL_law__912 (rfl : 912 + 2 = 914) rfl ?_
  refine r_icmp_eq (tgt := 919) C dL_law__914 (by decide) (rfl : 914 + 3 = 917) (fun _ => ?_) (fun z => absurd rfl z)
  refine r_iload C dL_law__919 (rfl : 919 + 2 = 921) rfl ?_
  refine r_if_ne (tgt := 936) C dL_law__921 (by decide) (rfl : 921 + 3 = 924) (fun _ => ?_) (fun z => ?_)
  · refine r_goto (tgt := 2307) C dL_law__936 (by decide) ?_
    exact k_mask [true, true, true, true, true, false, false, false] (kk hL3)
  · refine r_aload_n C dL_law__924 (rfl : 924 + 1 = 925) rfl ?_
    refine r_iconst (v := (0 : Int32)) C dL_law__925 (rfl : 925 + 1 = 926) rfl ?_
    refine r_lald (f := h3.2.2.1 102) C dL_law__926 (rfl : 926 + 1 = 927) hL3.2.1 rfl (show ¬ ((0 : Int32) < 0 ∨ 1 ≤ (0 : Int32).toNatClampNeg) by decide) ?_
    refine r_iload C dL_law__927 (rfl : 927 + 2 = 929) rfl ?_
    refine r_i2l C dL_law__929 (rfl : 929 + 1 = 930) ?_
    refine r_lcmp C dL_law__930 (rfl : 930 + 1 = 931) ?_
    refine r_if_eq (tgt := 936) C dL_law__931 (by decide) (rfl : 931 + 3 = 934) (fun _ => ?_) (fun z9 => absurd (by rw [show h3.2.2.1 102 (0 : Int32).toNatClampNeg = b.toInt64 from hv z]; exact k_cmps _) z9)
    refine r_goto (tgt := 2307) C dL_law__936 (by decide) ?_
    exact k_mask [true, true, true, true, true, false, false, false] (kk hL3)
def q_12 (l : Launch) (h : k_H) (a1 a2 a3 a4 a5 : Int32) (P : k_H → Prop) : Prop :=
  ∃ (mc ms : Nat) (Rr : Option Value → k_H → Prop) (Rx : String → k_H → Prop), mc ≤ 85 ∧ ms ≤ 714 ∧ k_CX l yX10_lacks cX10_lacks 2 (some .int) 7 111 mc ms [.ref 0, .int a1] h Rr Rx ∧ (∀ v h1, Rr v h1 → ∃ (y : Int32) (b : Int32) (h3 : k_H), v = some (.int y) ∧ k_LS h1 ∧ k_MR l yX11_lacks cX11_lacks 2 (some .int) 2 45 [.int a1] (k_out y.toInt64 h1) (.int b) 0 h3 ∧ h3.2.2.1 102 0 = b.toInt64 ∧ P h3) ∧
    (∀ E h1, Rx E h1 → ∃ (b : Int32) (t : Int32) (h3 : k_H), k_LS h1 ∧ (E = k_NSE ∧ t = 1) ∧ k_MR l yX11_lacks cX11_lacks 2 (some .int) 2 45 [.int a1] h1 (.int b) t h3 ∧ P h3)
set_option maxRecDepth 20000 in
theorem s_k12 {X : k_X} {cells slots N : Nat} {Q : State → Prop} {ad : Nat → Nat} {h : k_H} {i a1 a2 a3 a4 a5 : Int32} {f : Nat → Int32} (C : k_C X cL_law_ RL 8 ad) (hR : X.R.frames = 2048 ∧ X.R.locals = 84000) (hcs : cells + 85 ≤ X.R.cells ∧ slots + 714 ≤ X.R.slots) (hA : va_T .int (ad 5000000) N (fun j => .int (f j)) X.A X.s X.s.heap) (E1 : k_el N f (i + 1) a1) (E2 : k_el N f (i + 2) a2) (E3 : k_el N f (i + 3) a3) (E4 : k_el N f (i + 4) a4) (E5 : k_el N f (i + 5) a5) (hLS : k_LS h) {P : k_H → Prop} (K : q_12 X.l h a1 a2 a3 a4 a5 P)
    (kk : ∀ (ad' : Nat → Nat) (h' : k_H), P h' → k_LS h' → k_sm 0 ad ad' → k_C X cL_law_ RL 8 ad' → k_W X 8 (cells + 85) (slots + 714) Q ad' h' 2307 [some (.ref 5000000), some (.ref 0), some (.ref 70), some (.ref 102), some (.int i), none, none, none] []) : k_W X 8 cells slots Q ad h 883 [some (.ref 5000000), some (.ref 0), some (.ref 70), some (.ref 102), some (.int i), none, none, none] [] := by
  refine r_aload_n C dL_law__883 (rfl : 883 + 1 = 884) rfl ?_
  refine r_aload_n C dL_law__884 (rfl : 884 + 1 = 885) rfl ?_
  refine r_iload C dL_law__885 (rfl : 885 + 2 = 887) rfl ?_
  refine r_iconst (v := (1 : Int32)) C dL_law__887 (rfl : 887 + 1 = 888) rfl ?_
  refine r_iadd C dL_law__888 (rfl : 888 + 1 = 889) ?_
  refine r_argV C hA dL_law__889 (rfl : 889 + 1 = 890) E1 ?_
  refine r_aload_n C dL_law__890 (rfl : 890 + 1 = 891) rfl ?_
  obtain ⟨mc, ms, Rr, Rx, hmc, hms, K1, hr, hx⟩ := K
  refine c_SH (As := [.ref 0, .int a1, .ref 102]) (st := []) C hR ⟨by omega, by omega⟩ mh_L_lacks (k_me (tm5 (List.mem_of_getElem? (i := 173) rfl)) rfl) dL_law__891 (rfl : 891 + 3 = 894) rfl rfl (c_L_lacks X.l h K1 hLS.1 hLS.2.1 (fun v h1 z => by obtain ⟨y, b, h3, h4, h5, h6⟩ := hr v h1 z; exact ⟨⟨y, h4⟩, h5.2.1⟩) (fun E h1 z => by obtain ⟨b, t, h3, h4, h5, h6⟩ := hx E h1 z; exact h5.1)) rfl rfl rfl ⟨Or.inr (by decide), k_okv_of hLS.1, Or.inl (k_is70 hLS), k_okv_of hLS.2.1, True.intro, True.intro⟩ True.intro ?_
  intro v ad1 h9 hres hsm C1
  have hA1 := k_argS hsm (by decide : 1000000 ≤ 5000000) hA
  have hs0 : k_sm 0 ad ad1 := fun p hp => hsm p (hp.elim (fun z => absurd z (Nat.not_lt_zero p)) Or.inr)
  rcases hres with ⟨y, h1, hz, rfl, rfl⟩ | ⟨E, h1, hz, rfl, rfl⟩
  · obtain ⟨y1, b, h3, hv1, hL1, K2, ho, hP⟩ := hr _ h1 hz
    cases hv1
    change k_W X _ _ _ _ ad1 _ _ _ [.int (0 : Int32)]
    refine r_istore C1 dL_law__894 (rfl : 894 + 2 = 896) (by decide) (Nat.le_of_ble_eq_true rfl) ?_
    show k_W X _ _ _ _ _ _ _ [some (.ref 5000000), some (.ref 0), some (.ref 70), some (.ref 102), some (.int i), some (.int (0 : Int32)), none, none] _
    exact s_t12 C1 hR ⟨by omega, by omega⟩ hA1 E1 E2 E3 E4 E5 (k_LS_out hL1) K2 (fun _ => ho) (fun hL => k_Wup (by omega) (by omega) (kk ad1 _ hP hL hs0 C1))
  · obtain ⟨b, t, h3, hL1, ⟨-, rfl⟩, K2, hP⟩ := hx E _ hz
    change k_W X _ _ _ _ ad1 _ _ _ [.int (1 : Int32)]
    refine r_istore C1 dL_law__894 (rfl : 894 + 2 = 896) (by decide) (Nat.le_of_ble_eq_true rfl) ?_
    show k_W X _ _ _ _ _ _ _ [some (.ref 5000000), some (.ref 0), some (.ref 70), some (.ref 102), some (.int i), some (.int (1 : Int32)), none, none] _
    exact s_t12 C1 hR ⟨by omega, by omega⟩ hA1 E1 E2 E3 E4 E5 hL1 K2 (fun z => absurd z (by decide)) (fun hL => k_Wup (by omega) (by omega) (kk ad1 _ hP hL hs0 C1))
set_option maxRecDepth 20000 in
theorem s_t13 {X : k_X} {cells slots N : Nat} {Q : State → Prop} {ad : Nat → Nat} {h : k_H} {i a1 a2 a3 a4 a5 : Int32} {f : Nat → Int32} (C : k_C X cL_law_ RL 8 ad) (hR : X.R.frames = 2048 ∧ X.R.locals = 84000) (hcs : cells ≤ X.R.cells ∧ slots ≤ X.R.slots) (hA : va_T .int (ad 5000000) N (fun j => .int (f j)) X.A X.s X.s.heap) (E1 : k_el N f (i + 1) a1) (E2 : k_el N f (i + 2) a2) (E3 : k_el N f (i + 3) a3) (E4 : k_el N f (i + 4) a4) (E5 : k_el N f (i + 5) a5) (hLS : k_LS h) {h3 : k_H} {b : Int32} {t : Int32} (K : k_MR X.l yX11_can cX11_can 4 (some .int) 4 88 [.int a1, .int a2] h (.int b) t h3) (hv : t = 0 → h3.2.2.1 102 0 = b.toInt64) (kk : k_LS h3 → k_W X 8 cells slots Q ad h3 2307 [some (.ref 5000000), some (.ref 0), some (.ref 70), some (.ref 102), some (.int i), none, none, none] []) : k_W X 8 cells slots Q ad h 958 [some (.ref 5000000), some (.ref 0), some (.ref 70), some (.ref 102), some (.int i), some (.int t), none, none] [] := by
  refine r_aload_n C dL_law__958 (rfl : 958 + 1 = 959) rfl ?_
  refine r_aload_n C dL_law__959 (rfl : 959 + 1 = 960) rfl ?_
  refine r_iload C dL_law__960 (rfl : 960 + 2 = 962) rfl ?_
  refine r_iconst (v := (1 : Int32)) C dL_law__962 (rfl : 962 + 1 = 963) rfl ?_
  refine r_iadd C dL_law__963 (rfl : 963 + 1 = 964) ?_
  refine r_argV C hA dL_law__964 (rfl : 964 + 1 = 965) E1 ?_
  refine r_aload_n C dL_law__965 (rfl : 965 + 1 = 966) rfl ?_
  refine r_iload C dL_law__966 (rfl : 966 + 2 = 968) rfl ?_
  refine r_iconst (v := (2 : Int32)) C dL_law__968 (rfl : 968 + 1 = 969) rfl ?_
  refine r_iadd C dL_law__969 (rfl : 969 + 1 = 970) ?_
  refine r_argV C hA dL_law__970 (rfl : 970 + 1 = 971) E2 ?_
  refine c_MR C hR ⟨by omega, by omega⟩ hLS K mv_X11_can lk_L_164 dL_law__971 (rfl : 971 + 3 = 974) rfl rfl rfl (fun _ => rfl) (fun _ => rfl) rfl rfl rfl ?_
  have hL3 := k_MR_LS K hLS
  obtain ⟨-, -, -, -, ht⟩ := K
  refine r_istore C dL_law__974 (rfl : 974 + 2 = 976) (by decide) (Nat.le_of_ble_eq_true rfl) ?_
  show k_W X _ _ _ _ _ _ _ [some (.ref 5000000), some (.ref 0), some (.ref 70), some (.ref 102), some (.int i), some (.int t), some (.int b), none] _
  refine r_aload_n C dL_law__976 (rfl : 976 + 1 = 977) rfl ?_
  refine c_Vp (pi := piM) (shl := shM) (bl := 0) (b := 70) (As := []) (Al := []) (v := some (.int t)) (us := []) (T := TX11) (N := 66) C hR ⟨by omega, by omega⟩ mv_X11_thrown lk_L_121 dL_law__977 (rfl : 977 + 3 = 980) rfl rfl hL3.2.2.1 rfl rfl (k_thr ht) rfl (fun _ => rfl) rfl (fun _ => rfl) rfl rfl rfl ?_
  change k_W X _ _ _ _ ad h3 _ _ [.int t]
  refine r_iload C dL_law__980 (rfl : 980 + 2 = 982) rfl ?_
  refine r_icmp_eq (tgt := 987) C dL_law__982 (by decide) (rfl : 982 + 3 = 985) (fun _ => ?_) (fun z => absurd rfl z)
  refine r_iload C dL_law__987 (rfl : 987 + 2 = 989) rfl ?_
  refine r_if_ne (tgt := 1004) C dL_law__989 (by decide) (rfl : 989 + 3 = 992) (fun _ => ?_) (fun z => ?_)
  · refine r_goto (tgt := 2307) C dL_law__1004 (by decide) ?_
    exact k_mask [true, true, true, true, true, false, false, false] (kk hL3)
  · refine r_aload_n C dL_law__992 (rfl : 992 + 1 = 993) rfl ?_
    refine r_iconst (v := (0 : Int32)) C dL_law__993 (rfl : 993 + 1 = 994) rfl ?_
    refine r_lald (f := h3.2.2.1 102) C dL_law__994 (rfl : 994 + 1 = 995) hL3.2.1 rfl (show ¬ ((0 : Int32) < 0 ∨ 1 ≤ (0 : Int32).toNatClampNeg) by decide) ?_
    refine r_iload C dL_law__995 (rfl : 995 + 2 = 997) rfl ?_
    refine r_i2l C dL_law__997 (rfl : 997 + 1 = 998) ?_
    refine r_lcmp C dL_law__998 (rfl : 998 + 1 = 999) ?_
    refine r_if_eq (tgt := 1004) C dL_law__999 (by decide) (rfl : 999 + 3 = 1002) (fun _ => ?_) (fun z9 => absurd (by rw [show h3.2.2.1 102 (0 : Int32).toNatClampNeg = b.toInt64 from hv z]; exact k_cmps _) z9)
    refine r_goto (tgt := 2307) C dL_law__1004 (by decide) ?_
    exact k_mask [true, true, true, true, true, false, false, false] (kk hL3)
def q_13 (l : Launch) (h : k_H) (a1 a2 a3 a4 a5 : Int32) (P : k_H → Prop) : Prop :=
  ∃ (mc ms : Nat) (Rr : Option Value → k_H → Prop) (Rx : String → k_H → Prop), mc ≤ 85 ∧ ms ≤ 714 ∧ k_CX l yX10_can cX10_can 3 (some .int) 7 112 mc ms [.ref 0, .int a1, .int a2] h Rr Rx ∧ (∀ v h1, Rr v h1 → ∃ (y : Int32) (b : Int32) (h3 : k_H), v = some (.int y) ∧ k_LS h1 ∧ k_MR l yX11_can cX11_can 4 (some .int) 4 88 [.int a1, .int a2] (k_out y.toInt64 h1) (.int b) 0 h3 ∧ h3.2.2.1 102 0 = b.toInt64 ∧ P h3) ∧
    (∀ E h1, Rx E h1 → ∃ (b : Int32) (t : Int32) (h3 : k_H), k_LS h1 ∧ (E = k_IOO ∧ t = 1) ∧ k_MR l yX11_can cX11_can 4 (some .int) 4 88 [.int a1, .int a2] h1 (.int b) t h3 ∧ P h3)
set_option maxRecDepth 20000 in
theorem s_k13 {X : k_X} {cells slots N : Nat} {Q : State → Prop} {ad : Nat → Nat} {h : k_H} {i a1 a2 a3 a4 a5 : Int32} {f : Nat → Int32} (C : k_C X cL_law_ RL 8 ad) (hR : X.R.frames = 2048 ∧ X.R.locals = 84000) (hcs : cells + 85 ≤ X.R.cells ∧ slots + 714 ≤ X.R.slots) (hA : va_T .int (ad 5000000) N (fun j => .int (f j)) X.A X.s X.s.heap) (E1 : k_el N f (i + 1) a1) (E2 : k_el N f (i + 2) a2) (E3 : k_el N f (i + 3) a3) (E4 : k_el N f (i + 4) a4) (E5 : k_el N f (i + 5) a5) (hLS : k_LS h) {P : k_H → Prop} (K : q_13 X.l h a1 a2 a3 a4 a5 P)
    (kk : ∀ (ad' : Nat → Nat) (h' : k_H), P h' → k_LS h' → k_sm 0 ad ad' → k_C X cL_law_ RL 8 ad' → k_W X 8 (cells + 85) (slots + 714) Q ad' h' 2307 [some (.ref 5000000), some (.ref 0), some (.ref 70), some (.ref 102), some (.int i), none, none, none] []) : k_W X 8 cells slots Q ad h 939 [some (.ref 5000000), some (.ref 0), some (.ref 70), some (.ref 102), some (.int i), none, none, none] [] := by
  refine r_aload_n C dL_law__939 (rfl : 939 + 1 = 940) rfl ?_
  refine r_aload_n C dL_law__940 (rfl : 940 + 1 = 941) rfl ?_
  refine r_iload C dL_law__941 (rfl : 941 + 2 = 943) rfl ?_
  refine r_iconst (v := (1 : Int32)) C dL_law__943 (rfl : 943 + 1 = 944) rfl ?_
  refine r_iadd C dL_law__944 (rfl : 944 + 1 = 945) ?_
  refine r_argV C hA dL_law__945 (rfl : 945 + 1 = 946) E1 ?_
  refine r_aload_n C dL_law__946 (rfl : 946 + 1 = 947) rfl ?_
  refine r_iload C dL_law__947 (rfl : 947 + 2 = 949) rfl ?_
  refine r_iconst (v := (2 : Int32)) C dL_law__949 (rfl : 949 + 1 = 950) rfl ?_
  refine r_iadd C dL_law__950 (rfl : 950 + 1 = 951) ?_
  refine r_argV C hA dL_law__951 (rfl : 951 + 1 = 952) E2 ?_
  refine r_aload_n C dL_law__952 (rfl : 952 + 1 = 953) rfl ?_
  obtain ⟨mc, ms, Rr, Rx, hmc, hms, K1, hr, hx⟩ := K
  refine c_SH (As := [.ref 0, .int a1, .int a2, .ref 102]) (st := []) C hR ⟨by omega, by omega⟩ mh_L_can (k_me (tm5 (List.mem_of_getElem? (i := 181) rfl)) rfl) dL_law__953 (rfl : 953 + 3 = 956) rfl rfl (c_L_can X.l h K1 hLS.1 hLS.2.1 (fun v h1 z => by obtain ⟨y, b, h3, h4, h5, h6⟩ := hr v h1 z; exact ⟨⟨y, h4⟩, h5.2.1⟩) (fun E h1 z => by obtain ⟨b, t, h3, h4, h5, h6⟩ := hx E h1 z; exact h5.1)) rfl rfl rfl ⟨Or.inr (by decide), k_okv_of hLS.1, Or.inl (k_is70 hLS), k_okv_of hLS.2.1, True.intro, True.intro⟩ True.intro ?_
  intro v ad1 h9 hres hsm C1
  have hA1 := k_argS hsm (by decide : 1000000 ≤ 5000000) hA
  have hs0 : k_sm 0 ad ad1 := fun p hp => hsm p (hp.elim (fun z => absurd z (Nat.not_lt_zero p)) Or.inr)
  rcases hres with ⟨y, h1, hz, rfl, rfl⟩ | ⟨E, h1, hz, rfl, rfl⟩
  · obtain ⟨y1, b, h3, hv1, hL1, K2, ho, hP⟩ := hr _ h1 hz
    cases hv1
    change k_W X _ _ _ _ ad1 _ _ _ [.int (0 : Int32)]
    refine r_istore C1 dL_law__956 (rfl : 956 + 2 = 958) (by decide) (Nat.le_of_ble_eq_true rfl) ?_
    show k_W X _ _ _ _ _ _ _ [some (.ref 5000000), some (.ref 0), some (.ref 70), some (.ref 102), some (.int i), some (.int (0 : Int32)), none, none] _
    exact s_t13 C1 hR ⟨by omega, by omega⟩ hA1 E1 E2 E3 E4 E5 (k_LS_out hL1) K2 (fun _ => ho) (fun hL => k_Wup (by omega) (by omega) (kk ad1 _ hP hL hs0 C1))
  · obtain ⟨b, t, h3, hL1, ⟨-, rfl⟩, K2, hP⟩ := hx E _ hz
    change k_W X _ _ _ _ ad1 _ _ _ [.int (1 : Int32)]
    refine r_istore C1 dL_law__956 (rfl : 956 + 2 = 958) (by decide) (Nat.le_of_ble_eq_true rfl) ?_
    show k_W X _ _ _ _ _ _ _ [some (.ref 5000000), some (.ref 0), some (.ref 70), some (.ref 102), some (.int i), some (.int (1 : Int32)), none, none] _
    exact s_t13 C1 hR ⟨by omega, by omega⟩ hA1 E1 E2 E3 E4 E5 hL1 K2 (fun z => absurd z (by decide)) (fun hL => k_Wup (by omega) (by omega) (kk ad1 _ hP hL hs0 C1))
set_option maxRecDepth 20000 in
theorem s_t14 {X : k_X} {cells slots N : Nat} {Q : State → Prop} {ad : Nat → Nat} {h : k_H} {i a1 a2 a3 a4 a5 : Int32} {f : Nat → Int32} (C : k_C X cL_law_ RL 8 ad) (hR : X.R.frames = 2048 ∧ X.R.locals = 84000) (hcs : cells ≤ X.R.cells ∧ slots ≤ X.R.slots) (hA : va_T .int (ad 5000000) N (fun j => .int (f j)) X.A X.s X.s.heap) (E1 : k_el N f (i + 1) a1) (E2 : k_el N f (i + 2) a2) (E3 : k_el N f (i + 3) a3) (E4 : k_el N f (i + 4) a4) (E5 : k_el N f (i + 5) a5) (hLS : k_LS h) {h3 : k_H} {b : Int32} {t : Int32} (K : k_MR X.l yX11_falls cX11_falls 3 (some .boolean) 4 89 [.int a1, .int a2] h (.int b) t h3) (hv : t = 0 → h3.2.2.1 102 0 = (if b = 0 then (0 : Int64) else 1)) (kk : k_LS h3 → k_W X 8 cells slots Q ad h3 2307 [some (.ref 5000000), some (.ref 0), some (.ref 70), some (.ref 102), some (.int i), none, none, none] []) : k_W X 8 cells slots Q ad h 1026 [some (.ref 5000000), some (.ref 0), some (.ref 70), some (.ref 102), some (.int i), some (.int t), none, none] [] := by
  refine r_aload_n C dL_law__1026 (rfl : 1026 + 1 = 1027) rfl ?_
  refine r_aload_n C dL_law__1027 (rfl : 1027 + 1 = 1028) rfl ?_
  refine r_iload C dL_law__1028 (rfl : 1028 + 2 = 1030) rfl ?_
  refine r_iconst (v := (1 : Int32)) C dL_law__1030 (rfl : 1030 + 1 = 1031) rfl ?_
  refine r_iadd C dL_law__1031 (rfl : 1031 + 1 = 1032) ?_
  refine r_argV C hA dL_law__1032 (rfl : 1032 + 1 = 1033) E1 ?_
  refine r_aload_n C dL_law__1033 (rfl : 1033 + 1 = 1034) rfl ?_
  refine r_iload C dL_law__1034 (rfl : 1034 + 2 = 1036) rfl ?_
  refine r_iconst (v := (2 : Int32)) C dL_law__1036 (rfl : 1036 + 1 = 1037) rfl ?_
  refine r_iadd C dL_law__1037 (rfl : 1037 + 1 = 1038) ?_
  refine r_argV C hA dL_law__1038 (rfl : 1038 + 1 = 1039) E2 ?_
  refine c_MR C hR ⟨by omega, by omega⟩ hLS K mv_X11_falls lk_L_167 dL_law__1039 (rfl : 1039 + 3 = 1042) rfl rfl rfl (fun _ => rfl) (fun _ => rfl) rfl rfl rfl ?_
  have hL3 := k_MR_LS K hLS
  obtain ⟨-, -, -, -, ht⟩ := K
  refine r_istore C dL_law__1042 (rfl : 1042 + 2 = 1044) (by decide) (Nat.le_of_ble_eq_true rfl) ?_
  show k_W X _ _ _ _ _ _ _ [some (.ref 5000000), some (.ref 0), some (.ref 70), some (.ref 102), some (.int i), some (.int t), some (.int b), none] _
  refine r_aload_n C dL_law__1044 (rfl : 1044 + 1 = 1045) rfl ?_
  refine c_Vp (pi := piM) (shl := shM) (bl := 0) (b := 70) (As := []) (Al := []) (v := some (.int t)) (us := []) (T := TX11) (N := 66) C hR ⟨by omega, by omega⟩ mv_X11_thrown lk_L_121 dL_law__1045 (rfl : 1045 + 3 = 1048) rfl rfl hL3.2.2.1 rfl rfl (k_thr ht) rfl (fun _ => rfl) rfl (fun _ => rfl) rfl rfl rfl ?_
  change k_W X _ _ _ _ ad h3 _ _ [.int t]
  refine r_iload C dL_law__1048 (rfl : 1048 + 2 = 1050) rfl ?_
  refine r_icmp_eq (tgt := 1055) C dL_law__1050 (by decide) (rfl : 1050 + 3 = 1053) (fun _ => ?_) (fun z => absurd rfl z)
  refine r_iload C dL_law__1055 (rfl : 1055 + 2 = 1057) rfl ?_
  refine r_if_ne (tgt := 1079) C dL_law__1057 (by decide) (rfl : 1057 + 3 = 1060) (fun _ => ?_) (fun z => ?_)
  · refine r_goto (tgt := 2307) C dL_law__1079 (by decide) ?_
    exact k_mask [true, true, true, true, true, false, false, false] (kk hL3)
  · refine r_aload_n C dL_law__1060 (rfl : 1060 + 1 = 1061) rfl ?_
    refine r_iconst (v := (0 : Int32)) C dL_law__1061 (rfl : 1061 + 1 = 1062) rfl ?_
    refine r_lald (f := h3.2.2.1 102) C dL_law__1062 (rfl : 1062 + 1 = 1063) hL3.2.1 rfl (show ¬ ((0 : Int32) < 0 ∨ 1 ≤ (0 : Int32).toNatClampNeg) by decide) ?_
    refine r_iload C dL_law__1063 (rfl : 1063 + 2 = 1065) rfl ?_
    refine r_if_eq (tgt := 1072) C dL_law__1065 (by decide) (rfl : 1065 + 3 = 1068) (fun zb => ?_) (fun zb => ?_)
    · refine r_lconst (v := (0 : Int64)) C dL_law__1072 (rfl : 1072 + 1 = 1073) rfl ?_
      refine r_lcmp C dL_law__1073 (rfl : 1073 + 1 = 1074) ?_
      refine r_if_eq (tgt := 1079) C dL_law__1074 (by decide) (rfl : 1074 + 3 = 1077) (fun _ => ?_) (fun z9 => absurd (by rw [show h3.2.2.1 102 (0 : Int32).toNatClampNeg = (0 : Int64) from (hv z).trans (if_pos zb)]; exact k_cmps _) z9)
      refine r_goto (tgt := 2307) C dL_law__1079 (by decide) ?_
      exact k_mask [true, true, true, true, true, false, false, false] (kk hL3)
    · refine r_lconst (v := (1 : Int64)) C dL_law__1068 (rfl : 1068 + 1 = 1069) rfl ?_
      refine r_goto (tgt := 1073) C dL_law__1069 (by decide) ?_
      refine r_lcmp C dL_law__1073 (rfl : 1073 + 1 = 1074) ?_
      refine r_if_eq (tgt := 1079) C dL_law__1074 (by decide) (rfl : 1074 + 3 = 1077) (fun _ => ?_) (fun z9 => absurd (by rw [show h3.2.2.1 102 (0 : Int32).toNatClampNeg = (1 : Int64) from (hv z).trans (if_neg zb)]; exact k_cmps _) z9)
      refine r_goto (tgt := 2307) C dL_law__1079 (by decide) ?_
      exact k_mask [true, true, true, true, true, false, false, false] (kk hL3)
def q_14 (l : Launch) (h : k_H) (a1 a2 a3 a4 a5 : Int32) (P : k_H → Prop) : Prop :=
  ∃ (mc ms : Nat) (Rr : Option Value → k_H → Prop) (Rx : String → k_H → Prop), mc ≤ 85 ∧ ms ≤ 714 ∧ k_CX l yX10_falls cX10_falls 3 (some .boolean) 7 112 mc ms [.ref 0, .int a1, .int a2] h Rr Rx ∧ (∀ v h1, Rr v h1 → ∃ (y : Int32) (b : Int32) (h3 : k_H), v = some (.int y) ∧ k_LS h1 ∧ k_MR l yX11_falls cX11_falls 3 (some .boolean) 4 89 [.int a1, .int a2] (k_out (if y = 0 then (0 : Int64) else 1) h1) (.int b) 0 h3 ∧ h3.2.2.1 102 0 = (if b = 0 then (0 : Int64) else 1) ∧ P h3) ∧
    (∀ E h1, Rx E h1 → ∃ (b : Int32) (t : Int32) (h3 : k_H), k_LS h1 ∧ (E = k_IOO ∧ t = 1) ∧ k_MR l yX11_falls cX11_falls 3 (some .boolean) 4 89 [.int a1, .int a2] h1 (.int b) t h3 ∧ P h3)
set_option maxRecDepth 20000 in
theorem s_k14 {X : k_X} {cells slots N : Nat} {Q : State → Prop} {ad : Nat → Nat} {h : k_H} {i a1 a2 a3 a4 a5 : Int32} {f : Nat → Int32} (C : k_C X cL_law_ RL 8 ad) (hR : X.R.frames = 2048 ∧ X.R.locals = 84000) (hcs : cells + 85 ≤ X.R.cells ∧ slots + 714 ≤ X.R.slots) (hA : va_T .int (ad 5000000) N (fun j => .int (f j)) X.A X.s X.s.heap) (E1 : k_el N f (i + 1) a1) (E2 : k_el N f (i + 2) a2) (E3 : k_el N f (i + 3) a3) (E4 : k_el N f (i + 4) a4) (E5 : k_el N f (i + 5) a5) (hLS : k_LS h) {P : k_H → Prop} (K : q_14 X.l h a1 a2 a3 a4 a5 P)
    (kk : ∀ (ad' : Nat → Nat) (h' : k_H), P h' → k_LS h' → k_sm 0 ad ad' → k_C X cL_law_ RL 8 ad' → k_W X 8 (cells + 85) (slots + 714) Q ad' h' 2307 [some (.ref 5000000), some (.ref 0), some (.ref 70), some (.ref 102), some (.int i), none, none, none] []) : k_W X 8 cells slots Q ad h 1007 [some (.ref 5000000), some (.ref 0), some (.ref 70), some (.ref 102), some (.int i), none, none, none] [] := by
  refine r_aload_n C dL_law__1007 (rfl : 1007 + 1 = 1008) rfl ?_
  refine r_aload_n C dL_law__1008 (rfl : 1008 + 1 = 1009) rfl ?_
  refine r_iload C dL_law__1009 (rfl : 1009 + 2 = 1011) rfl ?_
  refine r_iconst (v := (1 : Int32)) C dL_law__1011 (rfl : 1011 + 1 = 1012) rfl ?_
  refine r_iadd C dL_law__1012 (rfl : 1012 + 1 = 1013) ?_
  refine r_argV C hA dL_law__1013 (rfl : 1013 + 1 = 1014) E1 ?_
  refine r_aload_n C dL_law__1014 (rfl : 1014 + 1 = 1015) rfl ?_
  refine r_iload C dL_law__1015 (rfl : 1015 + 2 = 1017) rfl ?_
  refine r_iconst (v := (2 : Int32)) C dL_law__1017 (rfl : 1017 + 1 = 1018) rfl ?_
  refine r_iadd C dL_law__1018 (rfl : 1018 + 1 = 1019) ?_
  refine r_argV C hA dL_law__1019 (rfl : 1019 + 1 = 1020) E2 ?_
  refine r_aload_n C dL_law__1020 (rfl : 1020 + 1 = 1021) rfl ?_
  obtain ⟨mc, ms, Rr, Rx, hmc, hms, K1, hr, hx⟩ := K
  refine c_SH (As := [.ref 0, .int a1, .int a2, .ref 102]) (st := []) C hR ⟨by omega, by omega⟩ mh_L_falls (k_me (tm5 (List.mem_of_getElem? (i := 189) rfl)) rfl) dL_law__1021 (rfl : 1021 + 3 = 1024) rfl rfl (c_L_falls X.l h K1 hLS.1 hLS.2.1 (fun v h1 z => by obtain ⟨y, b, h3, h4, h5, h6⟩ := hr v h1 z; exact ⟨⟨y, h4⟩, h5.2.1⟩) (fun E h1 z => by obtain ⟨b, t, h3, h4, h5, h6⟩ := hx E h1 z; exact h5.1)) rfl rfl rfl ⟨Or.inr (by decide), k_okv_of hLS.1, Or.inl (k_is70 hLS), k_okv_of hLS.2.1, True.intro, True.intro⟩ True.intro ?_
  intro v ad1 h9 hres hsm C1
  have hA1 := k_argS hsm (by decide : 1000000 ≤ 5000000) hA
  have hs0 : k_sm 0 ad ad1 := fun p hp => hsm p (hp.elim (fun z => absurd z (Nat.not_lt_zero p)) Or.inr)
  rcases hres with ⟨y, h1, hz, rfl, rfl⟩ | ⟨E, h1, hz, rfl, rfl⟩
  · obtain ⟨y1, b, h3, hv1, hL1, K2, ho, hP⟩ := hr _ h1 hz
    cases hv1
    change k_W X _ _ _ _ ad1 _ _ _ [.int (0 : Int32)]
    refine r_istore C1 dL_law__1024 (rfl : 1024 + 2 = 1026) (by decide) (Nat.le_of_ble_eq_true rfl) ?_
    show k_W X _ _ _ _ _ _ _ [some (.ref 5000000), some (.ref 0), some (.ref 70), some (.ref 102), some (.int i), some (.int (0 : Int32)), none, none] _
    exact s_t14 C1 hR ⟨by omega, by omega⟩ hA1 E1 E2 E3 E4 E5 (k_LS_out hL1) K2 (fun _ => ho) (fun hL => k_Wup (by omega) (by omega) (kk ad1 _ hP hL hs0 C1))
  · obtain ⟨b, t, h3, hL1, ⟨-, rfl⟩, K2, hP⟩ := hx E _ hz
    change k_W X _ _ _ _ ad1 _ _ _ [.int (1 : Int32)]
    refine r_istore C1 dL_law__1024 (rfl : 1024 + 2 = 1026) (by decide) (Nat.le_of_ble_eq_true rfl) ?_
    show k_W X _ _ _ _ _ _ _ [some (.ref 5000000), some (.ref 0), some (.ref 70), some (.ref 102), some (.int i), some (.int (1 : Int32)), none, none] _
    exact s_t14 C1 hR ⟨by omega, by omega⟩ hA1 E1 E2 E3 E4 E5 hL1 K2 (fun z => absurd z (by decide)) (fun hL => k_Wup (by omega) (by omega) (kk ad1 _ hP hL hs0 C1))
set_option maxRecDepth 20000 in
theorem s_t15 {X : k_X} {cells slots N : Nat} {Q : State → Prop} {ad : Nat → Nat} {h : k_H} {i a1 a2 a3 a4 a5 : Int32} {f : Nat → Int32} (C : k_C X cL_law_ RL 8 ad) (hR : X.R.frames = 2048 ∧ X.R.locals = 84000) (hcs : cells ≤ X.R.cells ∧ slots ≤ X.R.slots) (hA : va_T .int (ad 5000000) N (fun j => .int (f j)) X.A X.s X.s.heap) (E1 : k_el N f (i + 1) a1) (E2 : k_el N f (i + 2) a2) (E3 : k_el N f (i + 3) a3) (E4 : k_el N f (i + 4) a4) (E5 : k_el N f (i + 5) a5) (hLS : k_LS h) {h3 : k_H} {b : Int32} {t : Int32} (K : k_MR X.l yX11_risks cX11_risks 4 (some .int) 5 111 [.int a1, .int a2] h (.int b) t h3) (hv : t = 0 → h3.2.2.1 102 0 = b.toInt64) (kk : k_LS h3 → k_W X 8 cells slots Q ad h3 2307 [some (.ref 5000000), some (.ref 0), some (.ref 70), some (.ref 102), some (.int i), none, none, none] []) : k_W X 8 cells slots Q ad h 1101 [some (.ref 5000000), some (.ref 0), some (.ref 70), some (.ref 102), some (.int i), some (.int t), none, none] [] := by
  refine r_aload_n C dL_law__1101 (rfl : 1101 + 1 = 1102) rfl ?_
  refine r_aload_n C dL_law__1102 (rfl : 1102 + 1 = 1103) rfl ?_
  refine r_iload C dL_law__1103 (rfl : 1103 + 2 = 1105) rfl ?_
  refine r_iconst (v := (1 : Int32)) C dL_law__1105 (rfl : 1105 + 1 = 1106) rfl ?_
  refine r_iadd C dL_law__1106 (rfl : 1106 + 1 = 1107) ?_
  refine r_argV C hA dL_law__1107 (rfl : 1107 + 1 = 1108) E1 ?_
  refine r_aload_n C dL_law__1108 (rfl : 1108 + 1 = 1109) rfl ?_
  refine r_iload C dL_law__1109 (rfl : 1109 + 2 = 1111) rfl ?_
  refine r_iconst (v := (2 : Int32)) C dL_law__1111 (rfl : 1111 + 1 = 1112) rfl ?_
  refine r_iadd C dL_law__1112 (rfl : 1112 + 1 = 1113) ?_
  refine r_argV C hA dL_law__1113 (rfl : 1113 + 1 = 1114) E2 ?_
  refine c_MR C hR ⟨by omega, by omega⟩ hLS K mv_X11_risks lk_L_170 dL_law__1114 (rfl : 1114 + 3 = 1117) rfl rfl rfl (fun _ => rfl) (fun _ => rfl) rfl rfl rfl ?_
  have hL3 := k_MR_LS K hLS
  obtain ⟨-, -, -, -, ht⟩ := K
  refine r_istore C dL_law__1117 (rfl : 1117 + 2 = 1119) (by decide) (Nat.le_of_ble_eq_true rfl) ?_
  show k_W X _ _ _ _ _ _ _ [some (.ref 5000000), some (.ref 0), some (.ref 70), some (.ref 102), some (.int i), some (.int t), some (.int b), none] _
  refine r_aload_n C dL_law__1119 (rfl : 1119 + 1 = 1120) rfl ?_
  refine c_Vp (pi := piM) (shl := shM) (bl := 0) (b := 70) (As := []) (Al := []) (v := some (.int t)) (us := []) (T := TX11) (N := 66) C hR ⟨by omega, by omega⟩ mv_X11_thrown lk_L_121 dL_law__1120 (rfl : 1120 + 3 = 1123) rfl rfl hL3.2.2.1 rfl rfl (k_thr ht) rfl (fun _ => rfl) rfl (fun _ => rfl) rfl rfl rfl ?_
  change k_W X _ _ _ _ ad h3 _ _ [.int t]
  refine r_iload C dL_law__1123 (rfl : 1123 + 2 = 1125) rfl ?_
  refine r_icmp_eq (tgt := 1130) C dL_law__1125 (by decide) (rfl : 1125 + 3 = 1128) (fun _ => ?_) (fun z => absurd rfl z)
  refine r_iload C dL_law__1130 (rfl : 1130 + 2 = 1132) rfl ?_
  refine r_if_ne (tgt := 1147) C dL_law__1132 (by decide) (rfl : 1132 + 3 = 1135) (fun _ => ?_) (fun z => ?_)
  · refine r_goto (tgt := 2307) C dL_law__1147 (by decide) ?_
    exact k_mask [true, true, true, true, true, false, false, false] (kk hL3)
  · refine r_aload_n C dL_law__1135 (rfl : 1135 + 1 = 1136) rfl ?_
    refine r_iconst (v := (0 : Int32)) C dL_law__1136 (rfl : 1136 + 1 = 1137) rfl ?_
    refine r_lald (f := h3.2.2.1 102) C dL_law__1137 (rfl : 1137 + 1 = 1138) hL3.2.1 rfl (show ¬ ((0 : Int32) < 0 ∨ 1 ≤ (0 : Int32).toNatClampNeg) by decide) ?_
    refine r_iload C dL_law__1138 (rfl : 1138 + 2 = 1140) rfl ?_
    refine r_i2l C dL_law__1140 (rfl : 1140 + 1 = 1141) ?_
    refine r_lcmp C dL_law__1141 (rfl : 1141 + 1 = 1142) ?_
    refine r_if_eq (tgt := 1147) C dL_law__1142 (by decide) (rfl : 1142 + 3 = 1145) (fun _ => ?_) (fun z9 => absurd (by rw [show h3.2.2.1 102 (0 : Int32).toNatClampNeg = b.toInt64 from hv z]; exact k_cmps _) z9)
    refine r_goto (tgt := 2307) C dL_law__1147 (by decide) ?_
    exact k_mask [true, true, true, true, true, false, false, false] (kk hL3)
def q_15 (l : Launch) (h : k_H) (a1 a2 a3 a4 a5 : Int32) (P : k_H → Prop) : Prop :=
  ∃ (mc ms : Nat) (Rr : Option Value → k_H → Prop) (Rx : String → k_H → Prop), mc ≤ 85 ∧ ms ≤ 714 ∧ k_CX l yX10_risks cX10_risks 5 (some .int) 7 119 mc ms [.ref 0, .int a1, .int a2] h Rr Rx ∧ (∀ v h1, Rr v h1 → ∃ (y : Int32) (b : Int32) (h3 : k_H), v = some (.int y) ∧ k_LS h1 ∧ k_MR l yX11_risks cX11_risks 4 (some .int) 5 111 [.int a1, .int a2] (k_out y.toInt64 h1) (.int b) 0 h3 ∧ h3.2.2.1 102 0 = b.toInt64 ∧ P h3) ∧
    (∀ E h1, Rx E h1 → ∃ (b : Int32) (t : Int32) (h3 : k_H), k_LS h1 ∧ (E = k_IOO ∧ t = 1) ∧ k_MR l yX11_risks cX11_risks 4 (some .int) 5 111 [.int a1, .int a2] h1 (.int b) t h3 ∧ P h3)
set_option maxRecDepth 20000 in
theorem s_k15 {X : k_X} {cells slots N : Nat} {Q : State → Prop} {ad : Nat → Nat} {h : k_H} {i a1 a2 a3 a4 a5 : Int32} {f : Nat → Int32} (C : k_C X cL_law_ RL 8 ad) (hR : X.R.frames = 2048 ∧ X.R.locals = 84000) (hcs : cells + 85 ≤ X.R.cells ∧ slots + 714 ≤ X.R.slots) (hA : va_T .int (ad 5000000) N (fun j => .int (f j)) X.A X.s X.s.heap) (E1 : k_el N f (i + 1) a1) (E2 : k_el N f (i + 2) a2) (E3 : k_el N f (i + 3) a3) (E4 : k_el N f (i + 4) a4) (E5 : k_el N f (i + 5) a5) (hLS : k_LS h) {P : k_H → Prop} (K : q_15 X.l h a1 a2 a3 a4 a5 P)
    (kk : ∀ (ad' : Nat → Nat) (h' : k_H), P h' → k_LS h' → k_sm 0 ad ad' → k_C X cL_law_ RL 8 ad' → k_W X 8 (cells + 85) (slots + 714) Q ad' h' 2307 [some (.ref 5000000), some (.ref 0), some (.ref 70), some (.ref 102), some (.int i), none, none, none] []) : k_W X 8 cells slots Q ad h 1082 [some (.ref 5000000), some (.ref 0), some (.ref 70), some (.ref 102), some (.int i), none, none, none] [] := by
  refine r_aload_n C dL_law__1082 (rfl : 1082 + 1 = 1083) rfl ?_
  refine r_aload_n C dL_law__1083 (rfl : 1083 + 1 = 1084) rfl ?_
  refine r_iload C dL_law__1084 (rfl : 1084 + 2 = 1086) rfl ?_
  refine r_iconst (v := (1 : Int32)) C dL_law__1086 (rfl : 1086 + 1 = 1087) rfl ?_
  refine r_iadd C dL_law__1087 (rfl : 1087 + 1 = 1088) ?_
  refine r_argV C hA dL_law__1088 (rfl : 1088 + 1 = 1089) E1 ?_
  refine r_aload_n C dL_law__1089 (rfl : 1089 + 1 = 1090) rfl ?_
  refine r_iload C dL_law__1090 (rfl : 1090 + 2 = 1092) rfl ?_
  refine r_iconst (v := (2 : Int32)) C dL_law__1092 (rfl : 1092 + 1 = 1093) rfl ?_
  refine r_iadd C dL_law__1093 (rfl : 1093 + 1 = 1094) ?_
  refine r_argV C hA dL_law__1094 (rfl : 1094 + 1 = 1095) E2 ?_
  refine r_aload_n C dL_law__1095 (rfl : 1095 + 1 = 1096) rfl ?_
  obtain ⟨mc, ms, Rr, Rx, hmc, hms, K1, hr, hx⟩ := K
  refine c_SH (As := [.ref 0, .int a1, .int a2, .ref 102]) (st := []) C hR ⟨by omega, by omega⟩ mh_L_risks (k_me (tm5 (List.mem_of_getElem? (i := 200) rfl)) rfl) dL_law__1096 (rfl : 1096 + 3 = 1099) rfl rfl (c_L_risks X.l h K1 hLS.1 hLS.2.1 (fun v h1 z => by obtain ⟨y, b, h3, h4, h5, h6⟩ := hr v h1 z; exact ⟨⟨y, h4⟩, h5.2.1⟩) (fun E h1 z => by obtain ⟨b, t, h3, h4, h5, h6⟩ := hx E h1 z; exact h5.1)) rfl rfl rfl ⟨Or.inr (by decide), k_okv_of hLS.1, Or.inl (k_is70 hLS), k_okv_of hLS.2.1, True.intro, True.intro⟩ True.intro ?_
  intro v ad1 h9 hres hsm C1
  have hA1 := k_argS hsm (by decide : 1000000 ≤ 5000000) hA
  have hs0 : k_sm 0 ad ad1 := fun p hp => hsm p (hp.elim (fun z => absurd z (Nat.not_lt_zero p)) Or.inr)
  rcases hres with ⟨y, h1, hz, rfl, rfl⟩ | ⟨E, h1, hz, rfl, rfl⟩
  · obtain ⟨y1, b, h3, hv1, hL1, K2, ho, hP⟩ := hr _ h1 hz
    cases hv1
    change k_W X _ _ _ _ ad1 _ _ _ [.int (0 : Int32)]
    refine r_istore C1 dL_law__1099 (rfl : 1099 + 2 = 1101) (by decide) (Nat.le_of_ble_eq_true rfl) ?_
    show k_W X _ _ _ _ _ _ _ [some (.ref 5000000), some (.ref 0), some (.ref 70), some (.ref 102), some (.int i), some (.int (0 : Int32)), none, none] _
    exact s_t15 C1 hR ⟨by omega, by omega⟩ hA1 E1 E2 E3 E4 E5 (k_LS_out hL1) K2 (fun _ => ho) (fun hL => k_Wup (by omega) (by omega) (kk ad1 _ hP hL hs0 C1))
  · obtain ⟨b, t, h3, hL1, ⟨-, rfl⟩, K2, hP⟩ := hx E _ hz
    change k_W X _ _ _ _ ad1 _ _ _ [.int (1 : Int32)]
    refine r_istore C1 dL_law__1099 (rfl : 1099 + 2 = 1101) (by decide) (Nat.le_of_ble_eq_true rfl) ?_
    show k_W X _ _ _ _ _ _ _ [some (.ref 5000000), some (.ref 0), some (.ref 70), some (.ref 102), some (.int i), some (.int (1 : Int32)), none, none] _
    exact s_t15 C1 hR ⟨by omega, by omega⟩ hA1 E1 E2 E3 E4 E5 hL1 K2 (fun z => absurd z (by decide)) (fun hL => k_Wup (by omega) (by omega) (kk ad1 _ hP hL hs0 C1))
set_option maxRecDepth 20000 in
theorem s_t16 {X : k_X} {cells slots N : Nat} {Q : State → Prop} {ad : Nat → Nat} {h : k_H} {i a1 a2 a3 a4 a5 : Int32} {f : Nat → Int32} (C : k_C X cL_law_ RL 8 ad) (hR : X.R.frames = 2048 ∧ X.R.locals = 84000) (hcs : cells ≤ X.R.cells ∧ slots ≤ X.R.slots) (hA : va_T .int (ad 5000000) N (fun j => .int (f j)) X.A X.s X.s.heap) (E1 : k_el N f (i + 1) a1) (E2 : k_el N f (i + 2) a2) (E3 : k_el N f (i + 3) a3) (E4 : k_el N f (i + 4) a4) (E5 : k_el N f (i + 5) a5) (hLS : k_LS h) {h3 : k_H} {b : Int32} {t : Int32} (K : k_MR X.l yX11_harm cX11_harm 3 (some .int) 4 90 [.int a1, .int a2] h (.int b) t h3) (hv : t = 0 → h3.2.2.1 102 0 = b.toInt64) (kk : k_LS h3 → k_W X 8 cells slots Q ad h3 2307 [some (.ref 5000000), some (.ref 0), some (.ref 70), some (.ref 102), some (.int i), none, none, none] []) : k_W X 8 cells slots Q ad h 1169 [some (.ref 5000000), some (.ref 0), some (.ref 70), some (.ref 102), some (.int i), some (.int t), none, none] [] := by
  refine r_aload_n C dL_law__1169 (rfl : 1169 + 1 = 1170) rfl ?_
  refine r_aload_n C dL_law__1170 (rfl : 1170 + 1 = 1171) rfl ?_
  refine r_iload C dL_law__1171 (rfl : 1171 + 2 = 1173) rfl ?_
  refine r_iconst (v := (1 : Int32)) C dL_law__1173 (rfl : 1173 + 1 = 1174) rfl ?_
  refine r_iadd C dL_law__1174 (rfl : 1174 + 1 = 1175) ?_
  refine r_argV C hA dL_law__1175 (rfl : 1175 + 1 = 1176) E1 ?_
  refine r_aload_n C dL_law__1176 (rfl : 1176 + 1 = 1177) rfl ?_
  refine r_iload C dL_law__1177 (rfl : 1177 + 2 = 1179) rfl ?_
  refine r_iconst (v := (2 : Int32)) C dL_law__1179 (rfl : 1179 + 1 = 1180) rfl ?_
  refine r_iadd C dL_law__1180 (rfl : 1180 + 1 = 1181) ?_
  refine r_argV C hA dL_law__1181 (rfl : 1181 + 1 = 1182) E2 ?_
  refine c_MR C hR ⟨by omega, by omega⟩ hLS K mv_X11_harm lk_L_173 dL_law__1182 (rfl : 1182 + 3 = 1185) rfl rfl rfl (fun _ => rfl) (fun _ => rfl) rfl rfl rfl ?_
  have hL3 := k_MR_LS K hLS
  obtain ⟨-, -, -, -, ht⟩ := K
  refine r_istore C dL_law__1185 (rfl : 1185 + 2 = 1187) (by decide) (Nat.le_of_ble_eq_true rfl) ?_
  show k_W X _ _ _ _ _ _ _ [some (.ref 5000000), some (.ref 0), some (.ref 70), some (.ref 102), some (.int i), some (.int t), some (.int b), none] _
  refine r_aload_n C dL_law__1187 (rfl : 1187 + 1 = 1188) rfl ?_
  refine c_Vp (pi := piM) (shl := shM) (bl := 0) (b := 70) (As := []) (Al := []) (v := some (.int t)) (us := []) (T := TX11) (N := 66) C hR ⟨by omega, by omega⟩ mv_X11_thrown lk_L_121 dL_law__1188 (rfl : 1188 + 3 = 1191) rfl rfl hL3.2.2.1 rfl rfl (k_thr ht) rfl (fun _ => rfl) rfl (fun _ => rfl) rfl rfl rfl ?_
  change k_W X _ _ _ _ ad h3 _ _ [.int t]
  refine r_iload C dL_law__1191 (rfl : 1191 + 2 = 1193) rfl ?_
  refine r_icmp_eq (tgt := 1198) C dL_law__1193 (by decide) (rfl : 1193 + 3 = 1196) (fun _ => ?_) (fun z => absurd rfl z)
  refine r_iload C dL_law__1198 (rfl : 1198 + 2 = 1200) rfl ?_
  refine r_if_ne (tgt := 1215) C dL_law__1200 (by decide) (rfl : 1200 + 3 = 1203) (fun _ => ?_) (fun z => ?_)
  · refine r_goto (tgt := 2307) C dL_law__1215 (by decide) ?_
    exact k_mask [true, true, true, true, true, false, false, false] (kk hL3)
  · refine r_aload_n C dL_law__1203 (rfl : 1203 + 1 = 1204) rfl ?_
    refine r_iconst (v := (0 : Int32)) C dL_law__1204 (rfl : 1204 + 1 = 1205) rfl ?_
    refine r_lald (f := h3.2.2.1 102) C dL_law__1205 (rfl : 1205 + 1 = 1206) hL3.2.1 rfl (show ¬ ((0 : Int32) < 0 ∨ 1 ≤ (0 : Int32).toNatClampNeg) by decide) ?_
    refine r_iload C dL_law__1206 (rfl : 1206 + 2 = 1208) rfl ?_
    refine r_i2l C dL_law__1208 (rfl : 1208 + 1 = 1209) ?_
    refine r_lcmp C dL_law__1209 (rfl : 1209 + 1 = 1210) ?_
    refine r_if_eq (tgt := 1215) C dL_law__1210 (by decide) (rfl : 1210 + 3 = 1213) (fun _ => ?_) (fun z9 => absurd (by rw [show h3.2.2.1 102 (0 : Int32).toNatClampNeg = b.toInt64 from hv z]; exact k_cmps _) z9)
    refine r_goto (tgt := 2307) C dL_law__1215 (by decide) ?_
    exact k_mask [true, true, true, true, true, false, false, false] (kk hL3)
def q_16 (l : Launch) (h : k_H) (a1 a2 a3 a4 a5 : Int32) (P : k_H → Prop) : Prop :=
  ∃ (mc ms : Nat) (Rr : Option Value → k_H → Prop) (Rx : String → k_H → Prop), mc ≤ 85 ∧ ms ≤ 714 ∧ k_CX l yX10_harm cX10_harm 3 (some .int) 7 112 mc ms [.ref 0, .int a1, .int a2] h Rr Rx ∧ (∀ v h1, Rr v h1 → ∃ (y : Int32) (b : Int32) (h3 : k_H), v = some (.int y) ∧ k_LS h1 ∧ k_MR l yX11_harm cX11_harm 3 (some .int) 4 90 [.int a1, .int a2] (k_out y.toInt64 h1) (.int b) 0 h3 ∧ h3.2.2.1 102 0 = b.toInt64 ∧ P h3) ∧
    (∀ E h1, Rx E h1 → ∃ (b : Int32) (t : Int32) (h3 : k_H), k_LS h1 ∧ (E = k_IOO ∧ t = 1) ∧ k_MR l yX11_harm cX11_harm 3 (some .int) 4 90 [.int a1, .int a2] h1 (.int b) t h3 ∧ P h3)
set_option maxRecDepth 20000 in
theorem s_k16 {X : k_X} {cells slots N : Nat} {Q : State → Prop} {ad : Nat → Nat} {h : k_H} {i a1 a2 a3 a4 a5 : Int32} {f : Nat → Int32} (C : k_C X cL_law_ RL 8 ad) (hR : X.R.frames = 2048 ∧ X.R.locals = 84000) (hcs : cells + 85 ≤ X.R.cells ∧ slots + 714 ≤ X.R.slots) (hA : va_T .int (ad 5000000) N (fun j => .int (f j)) X.A X.s X.s.heap) (E1 : k_el N f (i + 1) a1) (E2 : k_el N f (i + 2) a2) (E3 : k_el N f (i + 3) a3) (E4 : k_el N f (i + 4) a4) (E5 : k_el N f (i + 5) a5) (hLS : k_LS h) {P : k_H → Prop} (K : q_16 X.l h a1 a2 a3 a4 a5 P)
    (kk : ∀ (ad' : Nat → Nat) (h' : k_H), P h' → k_LS h' → k_sm 0 ad ad' → k_C X cL_law_ RL 8 ad' → k_W X 8 (cells + 85) (slots + 714) Q ad' h' 2307 [some (.ref 5000000), some (.ref 0), some (.ref 70), some (.ref 102), some (.int i), none, none, none] []) : k_W X 8 cells slots Q ad h 1150 [some (.ref 5000000), some (.ref 0), some (.ref 70), some (.ref 102), some (.int i), none, none, none] [] := by
  refine r_aload_n C dL_law__1150 (rfl : 1150 + 1 = 1151) rfl ?_
  refine r_aload_n C dL_law__1151 (rfl : 1151 + 1 = 1152) rfl ?_
  refine r_iload C dL_law__1152 (rfl : 1152 + 2 = 1154) rfl ?_
  refine r_iconst (v := (1 : Int32)) C dL_law__1154 (rfl : 1154 + 1 = 1155) rfl ?_
  refine r_iadd C dL_law__1155 (rfl : 1155 + 1 = 1156) ?_
  refine r_argV C hA dL_law__1156 (rfl : 1156 + 1 = 1157) E1 ?_
  refine r_aload_n C dL_law__1157 (rfl : 1157 + 1 = 1158) rfl ?_
  refine r_iload C dL_law__1158 (rfl : 1158 + 2 = 1160) rfl ?_
  refine r_iconst (v := (2 : Int32)) C dL_law__1160 (rfl : 1160 + 1 = 1161) rfl ?_
  refine r_iadd C dL_law__1161 (rfl : 1161 + 1 = 1162) ?_
  refine r_argV C hA dL_law__1162 (rfl : 1162 + 1 = 1163) E2 ?_
  refine r_aload_n C dL_law__1163 (rfl : 1163 + 1 = 1164) rfl ?_
  obtain ⟨mc, ms, Rr, Rx, hmc, hms, K1, hr, hx⟩ := K
  refine c_SH (As := [.ref 0, .int a1, .int a2, .ref 102]) (st := []) C hR ⟨by omega, by omega⟩ mh_L_harm (k_me (tm5 (List.mem_of_getElem? (i := 214) rfl)) rfl) dL_law__1164 (rfl : 1164 + 3 = 1167) rfl rfl (c_L_harm X.l h K1 hLS.1 hLS.2.1 (fun v h1 z => by obtain ⟨y, b, h3, h4, h5, h6⟩ := hr v h1 z; exact ⟨⟨y, h4⟩, h5.2.1⟩) (fun E h1 z => by obtain ⟨b, t, h3, h4, h5, h6⟩ := hx E h1 z; exact h5.1)) rfl rfl rfl ⟨Or.inr (by decide), k_okv_of hLS.1, Or.inl (k_is70 hLS), k_okv_of hLS.2.1, True.intro, True.intro⟩ True.intro ?_
  intro v ad1 h9 hres hsm C1
  have hA1 := k_argS hsm (by decide : 1000000 ≤ 5000000) hA
  have hs0 : k_sm 0 ad ad1 := fun p hp => hsm p (hp.elim (fun z => absurd z (Nat.not_lt_zero p)) Or.inr)
  rcases hres with ⟨y, h1, hz, rfl, rfl⟩ | ⟨E, h1, hz, rfl, rfl⟩
  · obtain ⟨y1, b, h3, hv1, hL1, K2, ho, hP⟩ := hr _ h1 hz
    cases hv1
    change k_W X _ _ _ _ ad1 _ _ _ [.int (0 : Int32)]
    refine r_istore C1 dL_law__1167 (rfl : 1167 + 2 = 1169) (by decide) (Nat.le_of_ble_eq_true rfl) ?_
    show k_W X _ _ _ _ _ _ _ [some (.ref 5000000), some (.ref 0), some (.ref 70), some (.ref 102), some (.int i), some (.int (0 : Int32)), none, none] _
    exact s_t16 C1 hR ⟨by omega, by omega⟩ hA1 E1 E2 E3 E4 E5 (k_LS_out hL1) K2 (fun _ => ho) (fun hL => k_Wup (by omega) (by omega) (kk ad1 _ hP hL hs0 C1))
  · obtain ⟨b, t, h3, hL1, ⟨-, rfl⟩, K2, hP⟩ := hx E _ hz
    change k_W X _ _ _ _ ad1 _ _ _ [.int (1 : Int32)]
    refine r_istore C1 dL_law__1167 (rfl : 1167 + 2 = 1169) (by decide) (Nat.le_of_ble_eq_true rfl) ?_
    show k_W X _ _ _ _ _ _ _ [some (.ref 5000000), some (.ref 0), some (.ref 70), some (.ref 102), some (.int i), some (.int (1 : Int32)), none, none] _
    exact s_t16 C1 hR ⟨by omega, by omega⟩ hA1 E1 E2 E3 E4 E5 hL1 K2 (fun z => absurd z (by decide)) (fun hL => k_Wup (by omega) (by omega) (kk ad1 _ hP hL hs0 C1))
set_option maxRecDepth 20000 in
theorem s_t17 {X : k_X} {cells slots N : Nat} {Q : State → Prop} {ad : Nat → Nat} {h : k_H} {i a1 a2 a3 a4 a5 : Int32} {f : Nat → Int32} (C : k_C X cL_law_ RL 8 ad) (hR : X.R.frames = 2048 ∧ X.R.locals = 84000) (hcs : cells ≤ X.R.cells ∧ slots ≤ X.R.slots) (hA : va_T .int (ad 5000000) N (fun j => .int (f j)) X.A X.s X.s.heap) (E1 : k_el N f (i + 1) a1) (E2 : k_el N f (i + 2) a2) (E3 : k_el N f (i + 3) a3) (E4 : k_el N f (i + 4) a4) (E5 : k_el N f (i + 5) a5) (hLS : k_LS h) {h3 : k_H} {b : Int64} {t : Int32} (K : k_MR X.l yX11_best cX11_best 3 (some .long) 31 693 [.int a1, .int a2] h (.long b) t h3) (hv : t = 0 → h3.2.2.1 102 0 = b) (kk : k_LS h3 → k_W X 8 cells slots Q ad h3 2307 [some (.ref 5000000), some (.ref 0), some (.ref 70), some (.ref 102), some (.int i), none, none, none] []) : k_W X 8 cells slots Q ad h 1237 [some (.ref 5000000), some (.ref 0), some (.ref 70), some (.ref 102), some (.int i), some (.int t), none, none] [] := by
  refine r_aload_n C dL_law__1237 (rfl : 1237 + 1 = 1238) rfl ?_
  refine r_aload_n C dL_law__1238 (rfl : 1238 + 1 = 1239) rfl ?_
  refine r_iload C dL_law__1239 (rfl : 1239 + 2 = 1241) rfl ?_
  refine r_iconst (v := (1 : Int32)) C dL_law__1241 (rfl : 1241 + 1 = 1242) rfl ?_
  refine r_iadd C dL_law__1242 (rfl : 1242 + 1 = 1243) ?_
  refine r_argV C hA dL_law__1243 (rfl : 1243 + 1 = 1244) E1 ?_
  refine r_aload_n C dL_law__1244 (rfl : 1244 + 1 = 1245) rfl ?_
  refine r_iload C dL_law__1245 (rfl : 1245 + 2 = 1247) rfl ?_
  refine r_iconst (v := (2 : Int32)) C dL_law__1247 (rfl : 1247 + 1 = 1248) rfl ?_
  refine r_iadd C dL_law__1248 (rfl : 1248 + 1 = 1249) ?_
  refine r_argV C hA dL_law__1249 (rfl : 1249 + 1 = 1250) E2 ?_
  refine c_MR C hR ⟨by omega, by omega⟩ hLS K mv_X11_best lk_L_176 dL_law__1250 (rfl : 1250 + 3 = 1253) rfl rfl rfl (fun _ => rfl) (fun _ => rfl) rfl rfl rfl ?_
  have hL3 := k_MR_LS K hLS
  obtain ⟨-, -, -, -, ht⟩ := K
  refine r_lstore C dL_law__1253 (rfl : 1253 + 2 = 1255) (by decide) (Nat.le_of_ble_eq_true rfl) ?_
  show k_W X _ _ _ _ _ _ _ [some (.ref 5000000), some (.ref 0), some (.ref 70), some (.ref 102), some (.int i), some (.int t), some (.long b), none] _
  refine r_aload_n C dL_law__1255 (rfl : 1255 + 1 = 1256) rfl ?_
  refine c_Vp (pi := piM) (shl := shM) (bl := 0) (b := 70) (As := []) (Al := []) (v := some (.int t)) (us := []) (T := TX11) (N := 66) C hR ⟨by omega, by omega⟩ mv_X11_thrown lk_L_121 dL_law__1256 (rfl : 1256 + 3 = 1259) rfl rfl hL3.2.2.1 rfl rfl (k_thr ht) rfl (fun _ => rfl) rfl (fun _ => rfl) rfl rfl rfl ?_
  change k_W X _ _ _ _ ad h3 _ _ [.int t]
  refine r_iload C dL_law__1259 (rfl : 1259 + 2 = 1261) rfl ?_
  refine r_icmp_eq (tgt := 1266) C dL_law__1261 (by decide) (rfl : 1261 + 3 = 1264) (fun _ => ?_) (fun z => absurd rfl z)
  refine r_iload C dL_law__1266 (rfl : 1266 + 2 = 1268) rfl ?_
  refine r_if_ne (tgt := 1282) C dL_law__1268 (by decide) (rfl : 1268 + 3 = 1271) (fun _ => ?_) (fun z => ?_)
  · refine r_goto (tgt := 2307) C dL_law__1282 (by decide) ?_
    exact k_mask [true, true, true, true, true, false, false, false] (kk hL3)
  · refine r_aload_n C dL_law__1271 (rfl : 1271 + 1 = 1272) rfl ?_
    refine r_iconst (v := (0 : Int32)) C dL_law__1272 (rfl : 1272 + 1 = 1273) rfl ?_
    refine r_lald (f := h3.2.2.1 102) C dL_law__1273 (rfl : 1273 + 1 = 1274) hL3.2.1 rfl (show ¬ ((0 : Int32) < 0 ∨ 1 ≤ (0 : Int32).toNatClampNeg) by decide) ?_
    refine r_lload C dL_law__1274 (rfl : 1274 + 2 = 1276) rfl ?_
    refine r_lcmp C dL_law__1276 (rfl : 1276 + 1 = 1277) ?_
    refine r_if_eq (tgt := 1282) C dL_law__1277 (by decide) (rfl : 1277 + 3 = 1280) (fun _ => ?_) (fun z9 => absurd (by rw [show h3.2.2.1 102 (0 : Int32).toNatClampNeg = b from hv z]; exact k_cmps _) z9)
    refine r_goto (tgt := 2307) C dL_law__1282 (by decide) ?_
    exact k_mask [true, true, true, true, true, false, false, false] (kk hL3)
def q_17 (l : Launch) (h : k_H) (a1 a2 a3 a4 a5 : Int32) (P : k_H → Prop) : Prop :=
  ∃ (mc ms : Nat) (Rr : Option Value → k_H → Prop) (Rx : String → k_H → Prop), mc ≤ 85 ∧ ms ≤ 714 ∧ k_CX l yX10_best cX10_best 3 (some .long) 9 242 mc ms [.ref 0, .int a1, .int a2] h Rr Rx ∧ (∀ v h1, Rr v h1 → ∃ (y : Int64) (b : Int64) (h3 : k_H), v = some (.long y) ∧ k_LS h1 ∧ k_MR l yX11_best cX11_best 3 (some .long) 31 693 [.int a1, .int a2] (k_out y h1) (.long b) 0 h3 ∧ h3.2.2.1 102 0 = b ∧ P h3) ∧
    (∀ E h1, Rx E h1 → ∃ (b : Int64) (t : Int32) (h3 : k_H), k_LS h1 ∧ (E = k_IAE ∧ t = 1) ∧ k_MR l yX11_best cX11_best 3 (some .long) 31 693 [.int a1, .int a2] h1 (.long b) t h3 ∧ P h3)
set_option maxRecDepth 20000 in
theorem s_k17 {X : k_X} {cells slots N : Nat} {Q : State → Prop} {ad : Nat → Nat} {h : k_H} {i a1 a2 a3 a4 a5 : Int32} {f : Nat → Int32} (C : k_C X cL_law_ RL 8 ad) (hR : X.R.frames = 2048 ∧ X.R.locals = 84000) (hcs : cells + 85 ≤ X.R.cells ∧ slots + 714 ≤ X.R.slots) (hA : va_T .int (ad 5000000) N (fun j => .int (f j)) X.A X.s X.s.heap) (E1 : k_el N f (i + 1) a1) (E2 : k_el N f (i + 2) a2) (E3 : k_el N f (i + 3) a3) (E4 : k_el N f (i + 4) a4) (E5 : k_el N f (i + 5) a5) (hLS : k_LS h) {P : k_H → Prop} (K : q_17 X.l h a1 a2 a3 a4 a5 P)
    (kk : ∀ (ad' : Nat → Nat) (h' : k_H), P h' → k_LS h' → k_sm 0 ad ad' → k_C X cL_law_ RL 8 ad' → k_W X 8 (cells + 85) (slots + 714) Q ad' h' 2307 [some (.ref 5000000), some (.ref 0), some (.ref 70), some (.ref 102), some (.int i), none, none, none] []) : k_W X 8 cells slots Q ad h 1218 [some (.ref 5000000), some (.ref 0), some (.ref 70), some (.ref 102), some (.int i), none, none, none] [] := by
  refine r_aload_n C dL_law__1218 (rfl : 1218 + 1 = 1219) rfl ?_
  refine r_aload_n C dL_law__1219 (rfl : 1219 + 1 = 1220) rfl ?_
  refine r_iload C dL_law__1220 (rfl : 1220 + 2 = 1222) rfl ?_
  refine r_iconst (v := (1 : Int32)) C dL_law__1222 (rfl : 1222 + 1 = 1223) rfl ?_
  refine r_iadd C dL_law__1223 (rfl : 1223 + 1 = 1224) ?_
  refine r_argV C hA dL_law__1224 (rfl : 1224 + 1 = 1225) E1 ?_
  refine r_aload_n C dL_law__1225 (rfl : 1225 + 1 = 1226) rfl ?_
  refine r_iload C dL_law__1226 (rfl : 1226 + 2 = 1228) rfl ?_
  refine r_iconst (v := (2 : Int32)) C dL_law__1228 (rfl : 1228 + 1 = 1229) rfl ?_
  refine r_iadd C dL_law__1229 (rfl : 1229 + 1 = 1230) ?_
  refine r_argV C hA dL_law__1230 (rfl : 1230 + 1 = 1231) E2 ?_
  refine r_aload_n C dL_law__1231 (rfl : 1231 + 1 = 1232) rfl ?_
  obtain ⟨mc, ms, Rr, Rx, hmc, hms, K1, hr, hx⟩ := K
  refine c_SH (As := [.ref 0, .int a1, .int a2, .ref 102]) (st := []) C hR ⟨by omega, by omega⟩ mh_L_best (k_me (tm5 (List.mem_of_getElem? (i := 222) rfl)) rfl) dL_law__1232 (rfl : 1232 + 3 = 1235) rfl rfl (c_L_best X.l h K1 hLS.1 hLS.2.1 (fun v h1 z => by obtain ⟨y, b, h3, h4, h5, h6⟩ := hr v h1 z; exact ⟨⟨y, h4⟩, h5.2.1⟩) (fun E h1 z => by obtain ⟨b, t, h3, h4, h5, h6⟩ := hx E h1 z; exact h5.1)) rfl rfl rfl ⟨Or.inr (by decide), k_okv_of hLS.1, Or.inl (k_is70 hLS), k_okv_of hLS.2.1, True.intro, True.intro⟩ True.intro ?_
  intro v ad1 h9 hres hsm C1
  have hA1 := k_argS hsm (by decide : 1000000 ≤ 5000000) hA
  have hs0 : k_sm 0 ad ad1 := fun p hp => hsm p (hp.elim (fun z => absurd z (Nat.not_lt_zero p)) Or.inr)
  rcases hres with ⟨y, h1, hz, rfl, rfl⟩ | ⟨E, h1, hz, rfl, rfl⟩
  · obtain ⟨y1, b, h3, hv1, hL1, K2, ho, hP⟩ := hr _ h1 hz
    cases hv1
    change k_W X _ _ _ _ ad1 _ _ _ [.int (0 : Int32)]
    refine r_istore C1 dL_law__1235 (rfl : 1235 + 2 = 1237) (by decide) (Nat.le_of_ble_eq_true rfl) ?_
    show k_W X _ _ _ _ _ _ _ [some (.ref 5000000), some (.ref 0), some (.ref 70), some (.ref 102), some (.int i), some (.int (0 : Int32)), none, none] _
    exact s_t17 C1 hR ⟨by omega, by omega⟩ hA1 E1 E2 E3 E4 E5 (k_LS_out hL1) K2 (fun _ => ho) (fun hL => k_Wup (by omega) (by omega) (kk ad1 _ hP hL hs0 C1))
  · obtain ⟨b, t, h3, hL1, ⟨-, rfl⟩, K2, hP⟩ := hx E _ hz
    change k_W X _ _ _ _ ad1 _ _ _ [.int (1 : Int32)]
    refine r_istore C1 dL_law__1235 (rfl : 1235 + 2 = 1237) (by decide) (Nat.le_of_ble_eq_true rfl) ?_
    show k_W X _ _ _ _ _ _ _ [some (.ref 5000000), some (.ref 0), some (.ref 70), some (.ref 102), some (.int i), some (.int (1 : Int32)), none, none] _
    exact s_t17 C1 hR ⟨by omega, by omega⟩ hA1 E1 E2 E3 E4 E5 hL1 K2 (fun z => absurd z (by decide)) (fun hL => k_Wup (by omega) (by omega) (kk ad1 _ hP hL hs0 C1))
set_option maxRecDepth 20000 in
theorem s_t18 {X : k_X} {cells slots N : Nat} {Q : State → Prop} {ad : Nat → Nat} {h : k_H} {i a1 a2 a3 a4 a5 : Int32} {f : Nat → Int32} (C : k_C X cL_law_ RL 8 ad) (hR : X.R.frames = 2048 ∧ X.R.locals = 84000) (hcs : cells ≤ X.R.cells ∧ slots ≤ X.R.slots) (hA : va_T .int (ad 5000000) N (fun j => .int (f j)) X.A X.s X.s.heap) (E1 : k_el N f (i + 1) a1) (E2 : k_el N f (i + 2) a2) (E3 : k_el N f (i + 3) a3) (E4 : k_el N f (i + 4) a4) (E5 : k_el N f (i + 5) a5) (hLS : k_LS h) {h3 : k_H} {b : Int32} {t : Int32} (K : k_MR X.l yX11_way cX11_way 5 (some .int) 4 92 [.int a1, .int a2, .int a3] h (.int b) t h3) (hv : t = 0 → h3.2.2.1 102 0 = b.toInt64) (kk : k_LS h3 → k_W X 8 cells slots Q ad h3 2307 [some (.ref 5000000), some (.ref 0), some (.ref 70), some (.ref 102), some (.int i), none, none, none] []) : k_W X 8 cells slots Q ad h 1310 [some (.ref 5000000), some (.ref 0), some (.ref 70), some (.ref 102), some (.int i), some (.int t), none, none] [] := by
  refine r_aload_n C dL_law__1310 (rfl : 1310 + 1 = 1311) rfl ?_
  refine r_aload_n C dL_law__1311 (rfl : 1311 + 1 = 1312) rfl ?_
  refine r_iload C dL_law__1312 (rfl : 1312 + 2 = 1314) rfl ?_
  refine r_iconst (v := (1 : Int32)) C dL_law__1314 (rfl : 1314 + 1 = 1315) rfl ?_
  refine r_iadd C dL_law__1315 (rfl : 1315 + 1 = 1316) ?_
  refine r_argV C hA dL_law__1316 (rfl : 1316 + 1 = 1317) E1 ?_
  refine r_aload_n C dL_law__1317 (rfl : 1317 + 1 = 1318) rfl ?_
  refine r_iload C dL_law__1318 (rfl : 1318 + 2 = 1320) rfl ?_
  refine r_iconst (v := (2 : Int32)) C dL_law__1320 (rfl : 1320 + 1 = 1321) rfl ?_
  refine r_iadd C dL_law__1321 (rfl : 1321 + 1 = 1322) ?_
  refine r_argV C hA dL_law__1322 (rfl : 1322 + 1 = 1323) E2 ?_
  refine r_aload_n C dL_law__1323 (rfl : 1323 + 1 = 1324) rfl ?_
  refine r_iload C dL_law__1324 (rfl : 1324 + 2 = 1326) rfl ?_
  refine r_iconst (v := (3 : Int32)) C dL_law__1326 (rfl : 1326 + 1 = 1327) rfl ?_
  refine r_iadd C dL_law__1327 (rfl : 1327 + 1 = 1328) ?_
  refine r_argV C hA dL_law__1328 (rfl : 1328 + 1 = 1329) E3 ?_
  refine c_MR C hR ⟨by omega, by omega⟩ hLS K mv_X11_way lk_L_179 dL_law__1329 (rfl : 1329 + 3 = 1332) rfl rfl rfl (fun _ => rfl) (fun _ => rfl) rfl rfl rfl ?_
  have hL3 := k_MR_LS K hLS
  obtain ⟨-, -, -, -, ht⟩ := K
  refine r_istore C dL_law__1332 (rfl : 1332 + 2 = 1334) (by decide) (Nat.le_of_ble_eq_true rfl) ?_
  show k_W X _ _ _ _ _ _ _ [some (.ref 5000000), some (.ref 0), some (.ref 70), some (.ref 102), some (.int i), some (.int t), some (.int b), none] _
  refine r_aload_n C dL_law__1334 (rfl : 1334 + 1 = 1335) rfl ?_
  refine c_Vp (pi := piM) (shl := shM) (bl := 0) (b := 70) (As := []) (Al := []) (v := some (.int t)) (us := []) (T := TX11) (N := 66) C hR ⟨by omega, by omega⟩ mv_X11_thrown lk_L_121 dL_law__1335 (rfl : 1335 + 3 = 1338) rfl rfl hL3.2.2.1 rfl rfl (k_thr ht) rfl (fun _ => rfl) rfl (fun _ => rfl) rfl rfl rfl ?_
  change k_W X _ _ _ _ ad h3 _ _ [.int t]
  refine r_iload C dL_law__1338 (rfl : 1338 + 2 = 1340) rfl ?_
  refine r_icmp_eq (tgt := 1345) C dL_law__1340 (by decide) (rfl : 1340 + 3 = 1343) (fun _ => ?_) (fun z => absurd rfl z)
  refine r_iload C dL_law__1345 (rfl : 1345 + 2 = 1347) rfl ?_
  refine r_if_ne (tgt := 1362) C dL_law__1347 (by decide) (rfl : 1347 + 3 = 1350) (fun _ => ?_) (fun z => ?_)
  · refine r_goto (tgt := 2307) C dL_law__1362 (by decide) ?_
    exact k_mask [true, true, true, true, true, false, false, false] (kk hL3)
  · refine r_aload_n C dL_law__1350 (rfl : 1350 + 1 = 1351) rfl ?_
    refine r_iconst (v := (0 : Int32)) C dL_law__1351 (rfl : 1351 + 1 = 1352) rfl ?_
    refine r_lald (f := h3.2.2.1 102) C dL_law__1352 (rfl : 1352 + 1 = 1353) hL3.2.1 rfl (show ¬ ((0 : Int32) < 0 ∨ 1 ≤ (0 : Int32).toNatClampNeg) by decide) ?_
    refine r_iload C dL_law__1353 (rfl : 1353 + 2 = 1355) rfl ?_
    refine r_i2l C dL_law__1355 (rfl : 1355 + 1 = 1356) ?_
    refine r_lcmp C dL_law__1356 (rfl : 1356 + 1 = 1357) ?_
    refine r_if_eq (tgt := 1362) C dL_law__1357 (by decide) (rfl : 1357 + 3 = 1360) (fun _ => ?_) (fun z9 => absurd (by rw [show h3.2.2.1 102 (0 : Int32).toNatClampNeg = b.toInt64 from hv z]; exact k_cmps _) z9)
    refine r_goto (tgt := 2307) C dL_law__1362 (by decide) ?_
    exact k_mask [true, true, true, true, true, false, false, false] (kk hL3)
def q_18 (l : Launch) (h : k_H) (a1 a2 a3 a4 a5 : Int32) (P : k_H → Prop) : Prop :=
  ∃ (mc ms : Nat) (Rr : Option Value → k_H → Prop) (Rx : String → k_H → Prop), mc ≤ 85 ∧ ms ≤ 714 ∧ k_CX l yX10_way cX10_way 5 (some .int) 7 112 mc ms [.ref 0, .int a1, .int a2, .int a3] h Rr Rx ∧ (∀ v h1, Rr v h1 → ∃ (y : Int32) (b : Int32) (h3 : k_H), v = some (.int y) ∧ k_LS h1 ∧ k_MR l yX11_way cX11_way 5 (some .int) 4 92 [.int a1, .int a2, .int a3] (k_out y.toInt64 h1) (.int b) 0 h3 ∧ h3.2.2.1 102 0 = b.toInt64 ∧ P h3) ∧
    (∀ E h1, Rx E h1 → ∃ (b : Int32) (t : Int32) (h3 : k_H), k_LS h1 ∧ ((E = k_IOO ∧ t = 1) ∨ (E = k_IAE ∧ t = 2)) ∧ k_MR l yX11_way cX11_way 5 (some .int) 4 92 [.int a1, .int a2, .int a3] h1 (.int b) t h3 ∧ P h3)
set_option maxRecDepth 20000 in
theorem s_k18 {X : k_X} {cells slots N : Nat} {Q : State → Prop} {ad : Nat → Nat} {h : k_H} {i a1 a2 a3 a4 a5 : Int32} {f : Nat → Int32} (C : k_C X cL_law_ RL 8 ad) (hR : X.R.frames = 2048 ∧ X.R.locals = 84000) (hcs : cells + 85 ≤ X.R.cells ∧ slots + 714 ≤ X.R.slots) (hA : va_T .int (ad 5000000) N (fun j => .int (f j)) X.A X.s X.s.heap) (E1 : k_el N f (i + 1) a1) (E2 : k_el N f (i + 2) a2) (E3 : k_el N f (i + 3) a3) (E4 : k_el N f (i + 4) a4) (E5 : k_el N f (i + 5) a5) (hLS : k_LS h) {P : k_H → Prop} (K : q_18 X.l h a1 a2 a3 a4 a5 P)
    (kk : ∀ (ad' : Nat → Nat) (h' : k_H), P h' → k_LS h' → k_sm 0 ad ad' → k_C X cL_law_ RL 8 ad' → k_W X 8 (cells + 85) (slots + 714) Q ad' h' 2307 [some (.ref 5000000), some (.ref 0), some (.ref 70), some (.ref 102), some (.int i), none, none, none] []) : k_W X 8 cells slots Q ad h 1285 [some (.ref 5000000), some (.ref 0), some (.ref 70), some (.ref 102), some (.int i), none, none, none] [] := by
  refine r_aload_n C dL_law__1285 (rfl : 1285 + 1 = 1286) rfl ?_
  refine r_aload_n C dL_law__1286 (rfl : 1286 + 1 = 1287) rfl ?_
  refine r_iload C dL_law__1287 (rfl : 1287 + 2 = 1289) rfl ?_
  refine r_iconst (v := (1 : Int32)) C dL_law__1289 (rfl : 1289 + 1 = 1290) rfl ?_
  refine r_iadd C dL_law__1290 (rfl : 1290 + 1 = 1291) ?_
  refine r_argV C hA dL_law__1291 (rfl : 1291 + 1 = 1292) E1 ?_
  refine r_aload_n C dL_law__1292 (rfl : 1292 + 1 = 1293) rfl ?_
  refine r_iload C dL_law__1293 (rfl : 1293 + 2 = 1295) rfl ?_
  refine r_iconst (v := (2 : Int32)) C dL_law__1295 (rfl : 1295 + 1 = 1296) rfl ?_
  refine r_iadd C dL_law__1296 (rfl : 1296 + 1 = 1297) ?_
  refine r_argV C hA dL_law__1297 (rfl : 1297 + 1 = 1298) E2 ?_
  refine r_aload_n C dL_law__1298 (rfl : 1298 + 1 = 1299) rfl ?_
  refine r_iload C dL_law__1299 (rfl : 1299 + 2 = 1301) rfl ?_
  refine r_iconst (v := (3 : Int32)) C dL_law__1301 (rfl : 1301 + 1 = 1302) rfl ?_
  refine r_iadd C dL_law__1302 (rfl : 1302 + 1 = 1303) ?_
  refine r_argV C hA dL_law__1303 (rfl : 1303 + 1 = 1304) E3 ?_
  refine r_aload_n C dL_law__1304 (rfl : 1304 + 1 = 1305) rfl ?_
  obtain ⟨mc, ms, Rr, Rx, hmc, hms, K1, hr, hx⟩ := K
  refine c_SH (As := [.ref 0, .int a1, .int a2, .int a3, .ref 102]) (st := []) C hR ⟨by omega, by omega⟩ mh_L_way (k_me (tm6 (List.mem_of_getElem? (i := 10) rfl)) rfl) dL_law__1305 (rfl : 1305 + 3 = 1308) rfl rfl (c_L_way X.l h K1 hLS.1 hLS.2.1 (fun v h1 z => by obtain ⟨y, b, h3, h4, h5, h6⟩ := hr v h1 z; exact ⟨⟨y, h4⟩, h5.2.1⟩) (fun E h1 z => by obtain ⟨b, t, h3, h4, h5, h6⟩ := hx E h1 z; exact h5.imp (fun z => z.1) (fun z => z.1))) rfl rfl rfl ⟨Or.inr (by decide), k_okv_of hLS.1, Or.inl (k_is70 hLS), k_okv_of hLS.2.1, True.intro, True.intro⟩ True.intro ?_
  intro v ad1 h9 hres hsm C1
  have hA1 := k_argS hsm (by decide : 1000000 ≤ 5000000) hA
  have hs0 : k_sm 0 ad ad1 := fun p hp => hsm p (hp.elim (fun z => absurd z (Nat.not_lt_zero p)) Or.inr)
  rcases hres with ⟨y, h1, hz, rfl, rfl⟩ | ⟨E, h1, hz, ⟨hE, rfl, rfl⟩ | ⟨hE, rfl, rfl⟩⟩
  · obtain ⟨y1, b, h3, hv1, hL1, K2, ho, hP⟩ := hr _ h1 hz
    cases hv1
    change k_W X _ _ _ _ ad1 _ _ _ [.int (0 : Int32)]
    refine r_istore C1 dL_law__1308 (rfl : 1308 + 2 = 1310) (by decide) (Nat.le_of_ble_eq_true rfl) ?_
    show k_W X _ _ _ _ _ _ _ [some (.ref 5000000), some (.ref 0), some (.ref 70), some (.ref 102), some (.int i), some (.int (0 : Int32)), none, none] _
    exact s_t18 C1 hR ⟨by omega, by omega⟩ hA1 E1 E2 E3 E4 E5 (k_LS_out hL1) K2 (fun _ => ho) (fun hL => k_Wup (by omega) (by omega) (kk ad1 _ hP hL hs0 C1))
  · obtain ⟨b, t, h3, hL1, hE1, K2, hP⟩ := hx E _ hz
    obtain rfl : t = 1 := hE1.elim (fun z => z.2) (fun z => absurd (hE.symm.trans z.1) (by decide))
    change k_W X _ _ _ _ ad1 _ _ _ [.int (1 : Int32)]
    refine r_istore C1 dL_law__1308 (rfl : 1308 + 2 = 1310) (by decide) (Nat.le_of_ble_eq_true rfl) ?_
    show k_W X _ _ _ _ _ _ _ [some (.ref 5000000), some (.ref 0), some (.ref 70), some (.ref 102), some (.int i), some (.int (1 : Int32)), none, none] _
    exact s_t18 C1 hR ⟨by omega, by omega⟩ hA1 E1 E2 E3 E4 E5 hL1 K2 (fun z => absurd z (by decide)) (fun hL => k_Wup (by omega) (by omega) (kk ad1 _ hP hL hs0 C1))
  · obtain ⟨b, t, h3, hL1, hE1, K2, hP⟩ := hx E _ hz
    obtain rfl : t = 2 := hE1.elim (fun z => absurd (hE.symm.trans z.1) (by decide)) (fun z => z.2)
    change k_W X _ _ _ _ ad1 _ _ _ [.int (2 : Int32)]
    refine r_istore C1 dL_law__1308 (rfl : 1308 + 2 = 1310) (by decide) (Nat.le_of_ble_eq_true rfl) ?_
    show k_W X _ _ _ _ _ _ _ [some (.ref 5000000), some (.ref 0), some (.ref 70), some (.ref 102), some (.int i), some (.int (2 : Int32)), none, none] _
    exact s_t18 C1 hR ⟨by omega, by omega⟩ hA1 E1 E2 E3 E4 E5 hL1 K2 (fun z => absurd z (by decide)) (fun hL => k_Wup (by omega) (by omega) (kk ad1 _ hP hL hs0 C1))
set_option maxRecDepth 20000 in
theorem s_t19 {X : k_X} {cells slots N : Nat} {Q : State → Prop} {ad : Nat → Nat} {h : k_H} {i a1 a2 a3 a4 a5 : Int32} {f : Nat → Int32} (C : k_C X cL_law_ RL 8 ad) (hR : X.R.frames = 2048 ∧ X.R.locals = 84000) (hcs : cells ≤ X.R.cells ∧ slots ≤ X.R.slots) (hA : va_T .int (ad 5000000) N (fun j => .int (f j)) X.A X.s X.s.heap) (E1 : k_el N f (i + 1) a1) (E2 : k_el N f (i + 2) a2) (E3 : k_el N f (i + 3) a3) (E4 : k_el N f (i + 4) a4) (E5 : k_el N f (i + 5) a5) (hLS : k_LS h) {h3 : k_H} {b : Int64} {t : Int32} (K : k_MR X.l yX11_hold cX11_hold 5 (some .long) 31 693 [.int a1] h (.long b) t h3) (hv : t = 0 → h3.2.2.1 102 0 = b) (kk : k_LS h3 → k_W X 8 cells slots Q ad h3 2307 [some (.ref 5000000), some (.ref 0), some (.ref 70), some (.ref 102), some (.int i), none, none, none] []) : k_W X 8 cells slots Q ad h 1378 [some (.ref 5000000), some (.ref 0), some (.ref 70), some (.ref 102), some (.int i), some (.int t), none, none] [] := by
  refine r_aload_n C dL_law__1378 (rfl : 1378 + 1 = 1379) rfl ?_
  refine r_aload_n C dL_law__1379 (rfl : 1379 + 1 = 1380) rfl ?_
  refine r_iload C dL_law__1380 (rfl : 1380 + 2 = 1382) rfl ?_
  refine r_iconst (v := (1 : Int32)) C dL_law__1382 (rfl : 1382 + 1 = 1383) rfl ?_
  refine r_iadd C dL_law__1383 (rfl : 1383 + 1 = 1384) ?_
  refine r_argV C hA dL_law__1384 (rfl : 1384 + 1 = 1385) E1 ?_
  refine c_MR C hR ⟨by omega, by omega⟩ hLS K mv_X11_hold lk_L_182 dL_law__1385 (rfl : 1385 + 3 = 1388) rfl rfl rfl (fun _ => rfl) (fun _ => rfl) rfl rfl rfl ?_
  have hL3 := k_MR_LS K hLS
  obtain ⟨-, -, -, -, ht⟩ := K
  refine r_lstore C dL_law__1388 (rfl : 1388 + 2 = 1390) (by decide) (Nat.le_of_ble_eq_true rfl) ?_
  show k_W X _ _ _ _ _ _ _ [some (.ref 5000000), some (.ref 0), some (.ref 70), some (.ref 102), some (.int i), some (.int t), some (.long b), none] _
  refine r_aload_n C dL_law__1390 (rfl : 1390 + 1 = 1391) rfl ?_
  refine c_Vp (pi := piM) (shl := shM) (bl := 0) (b := 70) (As := []) (Al := []) (v := some (.int t)) (us := []) (T := TX11) (N := 66) C hR ⟨by omega, by omega⟩ mv_X11_thrown lk_L_121 dL_law__1391 (rfl : 1391 + 3 = 1394) rfl rfl hL3.2.2.1 rfl rfl (k_thr ht) rfl (fun _ => rfl) rfl (fun _ => rfl) rfl rfl rfl ?_
  change k_W X _ _ _ _ ad h3 _ _ [.int t]
  refine r_iload C dL_law__1394 (rfl : 1394 + 2 = 1396) rfl ?_
  refine r_icmp_eq (tgt := 1401) C dL_law__1396 (by decide) (rfl : 1396 + 3 = 1399) (fun _ => ?_) (fun z => absurd rfl z)
  refine r_iload C dL_law__1401 (rfl : 1401 + 2 = 1403) rfl ?_
  refine r_if_ne (tgt := 1417) C dL_law__1403 (by decide) (rfl : 1403 + 3 = 1406) (fun _ => ?_) (fun z => ?_)
  · refine r_goto (tgt := 2307) C dL_law__1417 (by decide) ?_
    exact k_mask [true, true, true, true, true, false, false, false] (kk hL3)
  · refine r_aload_n C dL_law__1406 (rfl : 1406 + 1 = 1407) rfl ?_
    refine r_iconst (v := (0 : Int32)) C dL_law__1407 (rfl : 1407 + 1 = 1408) rfl ?_
    refine r_lald (f := h3.2.2.1 102) C dL_law__1408 (rfl : 1408 + 1 = 1409) hL3.2.1 rfl (show ¬ ((0 : Int32) < 0 ∨ 1 ≤ (0 : Int32).toNatClampNeg) by decide) ?_
    refine r_lload C dL_law__1409 (rfl : 1409 + 2 = 1411) rfl ?_
    refine r_lcmp C dL_law__1411 (rfl : 1411 + 1 = 1412) ?_
    refine r_if_eq (tgt := 1417) C dL_law__1412 (by decide) (rfl : 1412 + 3 = 1415) (fun _ => ?_) (fun z9 => absurd (by rw [show h3.2.2.1 102 (0 : Int32).toNatClampNeg = b from hv z]; exact k_cmps _) z9)
    refine r_goto (tgt := 2307) C dL_law__1417 (by decide) ?_
    exact k_mask [true, true, true, true, true, false, false, false] (kk hL3)
def q_19 (l : Launch) (h : k_H) (a1 a2 a3 a4 a5 : Int32) (P : k_H → Prop) : Prop :=
  ∃ (mc ms : Nat) (Rr : Option Value → k_H → Prop) (Rx : String → k_H → Prop), mc ≤ 85 ∧ ms ≤ 714 ∧ k_CX l yX10_hold cX10_hold 2 (some .long) 7 175 mc ms [.ref 0, .int a1] h Rr Rx ∧ (∀ v h1, Rr v h1 → ∃ (y : Int64) (b : Int64) (h3 : k_H), v = some (.long y) ∧ k_LS h1 ∧ k_MR l yX11_hold cX11_hold 5 (some .long) 31 693 [.int a1] (k_out y h1) (.long b) 0 h3 ∧ h3.2.2.1 102 0 = b ∧ P h3) ∧
    (∀ E h1, Rx E h1 → ∃ (b : Int64) (t : Int32) (h3 : k_H), k_LS h1 ∧ (E = k_IAE ∧ t = 1) ∧ k_MR l yX11_hold cX11_hold 5 (some .long) 31 693 [.int a1] h1 (.long b) t h3 ∧ P h3)
set_option maxRecDepth 20000 in
theorem s_k19 {X : k_X} {cells slots N : Nat} {Q : State → Prop} {ad : Nat → Nat} {h : k_H} {i a1 a2 a3 a4 a5 : Int32} {f : Nat → Int32} (C : k_C X cL_law_ RL 8 ad) (hR : X.R.frames = 2048 ∧ X.R.locals = 84000) (hcs : cells + 85 ≤ X.R.cells ∧ slots + 714 ≤ X.R.slots) (hA : va_T .int (ad 5000000) N (fun j => .int (f j)) X.A X.s X.s.heap) (E1 : k_el N f (i + 1) a1) (E2 : k_el N f (i + 2) a2) (E3 : k_el N f (i + 3) a3) (E4 : k_el N f (i + 4) a4) (E5 : k_el N f (i + 5) a5) (hLS : k_LS h) {P : k_H → Prop} (K : q_19 X.l h a1 a2 a3 a4 a5 P)
    (kk : ∀ (ad' : Nat → Nat) (h' : k_H), P h' → k_LS h' → k_sm 0 ad ad' → k_C X cL_law_ RL 8 ad' → k_W X 8 (cells + 85) (slots + 714) Q ad' h' 2307 [some (.ref 5000000), some (.ref 0), some (.ref 70), some (.ref 102), some (.int i), none, none, none] []) : k_W X 8 cells slots Q ad h 1365 [some (.ref 5000000), some (.ref 0), some (.ref 70), some (.ref 102), some (.int i), none, none, none] [] := by
  refine r_aload_n C dL_law__1365 (rfl : 1365 + 1 = 1366) rfl ?_
  refine r_aload_n C dL_law__1366 (rfl : 1366 + 1 = 1367) rfl ?_
  refine r_iload C dL_law__1367 (rfl : 1367 + 2 = 1369) rfl ?_
  refine r_iconst (v := (1 : Int32)) C dL_law__1369 (rfl : 1369 + 1 = 1370) rfl ?_
  refine r_iadd C dL_law__1370 (rfl : 1370 + 1 = 1371) ?_
  refine r_argV C hA dL_law__1371 (rfl : 1371 + 1 = 1372) E1 ?_
  refine r_aload_n C dL_law__1372 (rfl : 1372 + 1 = 1373) rfl ?_
  obtain ⟨mc, ms, Rr, Rx, hmc, hms, K1, hr, hx⟩ := K
  refine c_SH (As := [.ref 0, .int a1, .ref 102]) (st := []) C hR ⟨by omega, by omega⟩ mh_L_hold (k_me (tm6 (List.mem_of_getElem? (i := 37) rfl)) rfl) dL_law__1373 (rfl : 1373 + 3 = 1376) rfl rfl (c_L_hold X.l h K1 hLS.1 hLS.2.1 (fun v h1 z => by obtain ⟨y, b, h3, h4, h5, h6⟩ := hr v h1 z; exact ⟨⟨y, h4⟩, h5.2.1⟩) (fun E h1 z => by obtain ⟨b, t, h3, h4, h5, h6⟩ := hx E h1 z; exact h5.1)) rfl rfl rfl ⟨Or.inr (by decide), k_okv_of hLS.1, Or.inl (k_is70 hLS), k_okv_of hLS.2.1, True.intro, True.intro⟩ True.intro ?_
  intro v ad1 h9 hres hsm C1
  have hA1 := k_argS hsm (by decide : 1000000 ≤ 5000000) hA
  have hs0 : k_sm 0 ad ad1 := fun p hp => hsm p (hp.elim (fun z => absurd z (Nat.not_lt_zero p)) Or.inr)
  rcases hres with ⟨y, h1, hz, rfl, rfl⟩ | ⟨E, h1, hz, rfl, rfl⟩
  · obtain ⟨y1, b, h3, hv1, hL1, K2, ho, hP⟩ := hr _ h1 hz
    cases hv1
    change k_W X _ _ _ _ ad1 _ _ _ [.int (0 : Int32)]
    refine r_istore C1 dL_law__1376 (rfl : 1376 + 2 = 1378) (by decide) (Nat.le_of_ble_eq_true rfl) ?_
    show k_W X _ _ _ _ _ _ _ [some (.ref 5000000), some (.ref 0), some (.ref 70), some (.ref 102), some (.int i), some (.int (0 : Int32)), none, none] _
    exact s_t19 C1 hR ⟨by omega, by omega⟩ hA1 E1 E2 E3 E4 E5 (k_LS_out hL1) K2 (fun _ => ho) (fun hL => k_Wup (by omega) (by omega) (kk ad1 _ hP hL hs0 C1))
  · obtain ⟨b, t, h3, hL1, ⟨-, rfl⟩, K2, hP⟩ := hx E _ hz
    change k_W X _ _ _ _ ad1 _ _ _ [.int (1 : Int32)]
    refine r_istore C1 dL_law__1376 (rfl : 1376 + 2 = 1378) (by decide) (Nat.le_of_ble_eq_true rfl) ?_
    show k_W X _ _ _ _ _ _ _ [some (.ref 5000000), some (.ref 0), some (.ref 70), some (.ref 102), some (.int i), some (.int (1 : Int32)), none, none] _
    exact s_t19 C1 hR ⟨by omega, by omega⟩ hA1 E1 E2 E3 E4 E5 hL1 K2 (fun z => absurd z (by decide)) (fun hL => k_Wup (by omega) (by omega) (kk ad1 _ hP hL hs0 C1))
set_option maxRecDepth 20000 in
theorem s_t20 {X : k_X} {cells slots N : Nat} {Q : State → Prop} {ad : Nat → Nat} {h : k_H} {i a1 a2 a3 a4 a5 : Int32} {f : Nat → Int32} (C : k_C X cL_law_ RL 8 ad) (hR : X.R.frames = 2048 ∧ X.R.locals = 84000) (hcs : cells ≤ X.R.cells ∧ slots ≤ X.R.slots) (hA : va_T .int (ad 5000000) N (fun j => .int (f j)) X.A X.s X.s.heap) (E1 : k_el N f (i + 1) a1) (E2 : k_el N f (i + 2) a2) (E3 : k_el N f (i + 3) a3) (E4 : k_el N f (i + 4) a4) (E5 : k_el N f (i + 5) a5) (hLS : k_LS h) {h3 : k_H} {b : Int32} {t : Int32} (K : k_MR X.l yX11_fill cX11_fill 8 (some .int) 2 44 [.int a1] h (.int b) t h3) (hv : t = 0 → h3.2.2.1 102 0 = b.toInt64) (kk : k_LS h3 → k_W X 8 cells slots Q ad h3 2307 [some (.ref 5000000), some (.ref 0), some (.ref 70), some (.ref 102), some (.int i), none, none, none] []) : k_W X 8 cells slots Q ad h 1433 [some (.ref 5000000), some (.ref 0), some (.ref 70), some (.ref 102), some (.int i), some (.int t), none, none] [] := by
  refine r_aload_n C dL_law__1433 (rfl : 1433 + 1 = 1434) rfl ?_
  refine r_aload_n C dL_law__1434 (rfl : 1434 + 1 = 1435) rfl ?_
  refine r_iload C dL_law__1435 (rfl : 1435 + 2 = 1437) rfl ?_
  refine r_iconst (v := (1 : Int32)) C dL_law__1437 (rfl : 1437 + 1 = 1438) rfl ?_
  refine r_iadd C dL_law__1438 (rfl : 1438 + 1 = 1439) ?_
  refine r_argV C hA dL_law__1439 (rfl : 1439 + 1 = 1440) E1 ?_
  refine c_MR C hR ⟨by omega, by omega⟩ hLS K mv_X11_fill lk_L_185 dL_law__1440 (rfl : 1440 + 3 = 1443) rfl rfl rfl (fun _ => rfl) (fun _ => rfl) rfl rfl rfl ?_
  have hL3 := k_MR_LS K hLS
  obtain ⟨-, -, -, -, ht⟩ := K
  refine r_istore C dL_law__1443 (rfl : 1443 + 2 = 1445) (by decide) (Nat.le_of_ble_eq_true rfl) ?_
  show k_W X _ _ _ _ _ _ _ [some (.ref 5000000), some (.ref 0), some (.ref 70), some (.ref 102), some (.int i), some (.int t), some (.int b), none] _
  refine r_aload_n C dL_law__1445 (rfl : 1445 + 1 = 1446) rfl ?_
  refine c_Vp (pi := piM) (shl := shM) (bl := 0) (b := 70) (As := []) (Al := []) (v := some (.int t)) (us := []) (T := TX11) (N := 66) C hR ⟨by omega, by omega⟩ mv_X11_thrown lk_L_121 dL_law__1446 (rfl : 1446 + 3 = 1449) rfl rfl hL3.2.2.1 rfl rfl (k_thr ht) rfl (fun _ => rfl) rfl (fun _ => rfl) rfl rfl rfl ?_
  change k_W X _ _ _ _ ad h3 _ _ [.int t]
  refine r_iload C dL_law__1449 (rfl : 1449 + 2 = 1451) rfl ?_
  refine r_icmp_eq (tgt := 1456) C dL_law__1451 (by decide) (rfl : 1451 + 3 = 1454) (fun _ => ?_) (fun z => absurd rfl z)
  refine r_iload C dL_law__1456 (rfl : 1456 + 2 = 1458) rfl ?_
  refine r_if_ne (tgt := 1473) C dL_law__1458 (by decide) (rfl : 1458 + 3 = 1461) (fun _ => ?_) (fun z => ?_)
  · refine r_goto (tgt := 2307) C dL_law__1473 (by decide) ?_
    exact k_mask [true, true, true, true, true, false, false, false] (kk hL3)
  · refine r_aload_n C dL_law__1461 (rfl : 1461 + 1 = 1462) rfl ?_
    refine r_iconst (v := (0 : Int32)) C dL_law__1462 (rfl : 1462 + 1 = 1463) rfl ?_
    refine r_lald (f := h3.2.2.1 102) C dL_law__1463 (rfl : 1463 + 1 = 1464) hL3.2.1 rfl (show ¬ ((0 : Int32) < 0 ∨ 1 ≤ (0 : Int32).toNatClampNeg) by decide) ?_
    refine r_iload C dL_law__1464 (rfl : 1464 + 2 = 1466) rfl ?_
    refine r_i2l C dL_law__1466 (rfl : 1466 + 1 = 1467) ?_
    refine r_lcmp C dL_law__1467 (rfl : 1467 + 1 = 1468) ?_
    refine r_if_eq (tgt := 1473) C dL_law__1468 (by decide) (rfl : 1468 + 3 = 1471) (fun _ => ?_) (fun z9 => absurd (by rw [show h3.2.2.1 102 (0 : Int32).toNatClampNeg = b.toInt64 from hv z]; exact k_cmps _) z9)
    refine r_goto (tgt := 2307) C dL_law__1473 (by decide) ?_
    exact k_mask [true, true, true, true, true, false, false, false] (kk hL3)
def q_20 (l : Launch) (h : k_H) (a1 a2 a3 a4 a5 : Int32) (P : k_H → Prop) : Prop :=
  ∃ (mc ms : Nat) (Rr : Option Value → k_H → Prop) (Rx : String → k_H → Prop), mc ≤ 85 ∧ ms ≤ 714 ∧ k_CX l yX10_fill cX10_fill 2 (some .int) 7 111 mc ms [.ref 0, .int a1] h Rr Rx ∧ (∀ v h1, Rr v h1 → ∃ (y : Int32) (b : Int32) (h3 : k_H), v = some (.int y) ∧ k_LS h1 ∧ k_MR l yX11_fill cX11_fill 8 (some .int) 2 44 [.int a1] (k_out y.toInt64 h1) (.int b) 0 h3 ∧ h3.2.2.1 102 0 = b.toInt64 ∧ P h3) ∧
    (∀ E h1, Rx E h1 → ∃ (b : Int32) (t : Int32) (h3 : k_H), k_LS h1 ∧ (E = k_IAE ∧ t = 1) ∧ k_MR l yX11_fill cX11_fill 8 (some .int) 2 44 [.int a1] h1 (.int b) t h3 ∧ P h3)
set_option maxRecDepth 20000 in
theorem s_k20 {X : k_X} {cells slots N : Nat} {Q : State → Prop} {ad : Nat → Nat} {h : k_H} {i a1 a2 a3 a4 a5 : Int32} {f : Nat → Int32} (C : k_C X cL_law_ RL 8 ad) (hR : X.R.frames = 2048 ∧ X.R.locals = 84000) (hcs : cells + 85 ≤ X.R.cells ∧ slots + 714 ≤ X.R.slots) (hA : va_T .int (ad 5000000) N (fun j => .int (f j)) X.A X.s X.s.heap) (E1 : k_el N f (i + 1) a1) (E2 : k_el N f (i + 2) a2) (E3 : k_el N f (i + 3) a3) (E4 : k_el N f (i + 4) a4) (E5 : k_el N f (i + 5) a5) (hLS : k_LS h) {P : k_H → Prop} (K : q_20 X.l h a1 a2 a3 a4 a5 P)
    (kk : ∀ (ad' : Nat → Nat) (h' : k_H), P h' → k_LS h' → k_sm 0 ad ad' → k_C X cL_law_ RL 8 ad' → k_W X 8 (cells + 85) (slots + 714) Q ad' h' 2307 [some (.ref 5000000), some (.ref 0), some (.ref 70), some (.ref 102), some (.int i), none, none, none] []) : k_W X 8 cells slots Q ad h 1420 [some (.ref 5000000), some (.ref 0), some (.ref 70), some (.ref 102), some (.int i), none, none, none] [] := by
  refine r_aload_n C dL_law__1420 (rfl : 1420 + 1 = 1421) rfl ?_
  refine r_aload_n C dL_law__1421 (rfl : 1421 + 1 = 1422) rfl ?_
  refine r_iload C dL_law__1422 (rfl : 1422 + 2 = 1424) rfl ?_
  refine r_iconst (v := (1 : Int32)) C dL_law__1424 (rfl : 1424 + 1 = 1425) rfl ?_
  refine r_iadd C dL_law__1425 (rfl : 1425 + 1 = 1426) ?_
  refine r_argV C hA dL_law__1426 (rfl : 1426 + 1 = 1427) E1 ?_
  refine r_aload_n C dL_law__1427 (rfl : 1427 + 1 = 1428) rfl ?_
  obtain ⟨mc, ms, Rr, Rx, hmc, hms, K1, hr, hx⟩ := K
  refine c_SH (As := [.ref 0, .int a1, .ref 102]) (st := []) C hR ⟨by omega, by omega⟩ mh_L_fill (k_me (tm6 (List.mem_of_getElem? (i := 67) rfl)) rfl) dL_law__1428 (rfl : 1428 + 3 = 1431) rfl rfl (c_L_fill X.l h K1 hLS.1 hLS.2.1 (fun v h1 z => by obtain ⟨y, b, h3, h4, h5, h6⟩ := hr v h1 z; exact ⟨⟨y, h4⟩, h5.2.1⟩) (fun E h1 z => by obtain ⟨b, t, h3, h4, h5, h6⟩ := hx E h1 z; exact h5.1)) rfl rfl rfl ⟨Or.inr (by decide), k_okv_of hLS.1, Or.inl (k_is70 hLS), k_okv_of hLS.2.1, True.intro, True.intro⟩ True.intro ?_
  intro v ad1 h9 hres hsm C1
  have hA1 := k_argS hsm (by decide : 1000000 ≤ 5000000) hA
  have hs0 : k_sm 0 ad ad1 := fun p hp => hsm p (hp.elim (fun z => absurd z (Nat.not_lt_zero p)) Or.inr)
  rcases hres with ⟨y, h1, hz, rfl, rfl⟩ | ⟨E, h1, hz, rfl, rfl⟩
  · obtain ⟨y1, b, h3, hv1, hL1, K2, ho, hP⟩ := hr _ h1 hz
    cases hv1
    change k_W X _ _ _ _ ad1 _ _ _ [.int (0 : Int32)]
    refine r_istore C1 dL_law__1431 (rfl : 1431 + 2 = 1433) (by decide) (Nat.le_of_ble_eq_true rfl) ?_
    show k_W X _ _ _ _ _ _ _ [some (.ref 5000000), some (.ref 0), some (.ref 70), some (.ref 102), some (.int i), some (.int (0 : Int32)), none, none] _
    exact s_t20 C1 hR ⟨by omega, by omega⟩ hA1 E1 E2 E3 E4 E5 (k_LS_out hL1) K2 (fun _ => ho) (fun hL => k_Wup (by omega) (by omega) (kk ad1 _ hP hL hs0 C1))
  · obtain ⟨b, t, h3, hL1, ⟨-, rfl⟩, K2, hP⟩ := hx E _ hz
    change k_W X _ _ _ _ ad1 _ _ _ [.int (1 : Int32)]
    refine r_istore C1 dL_law__1431 (rfl : 1431 + 2 = 1433) (by decide) (Nat.le_of_ble_eq_true rfl) ?_
    show k_W X _ _ _ _ _ _ _ [some (.ref 5000000), some (.ref 0), some (.ref 70), some (.ref 102), some (.int i), some (.int (1 : Int32)), none, none] _
    exact s_t20 C1 hR ⟨by omega, by omega⟩ hA1 E1 E2 E3 E4 E5 hL1 K2 (fun z => absurd z (by decide)) (fun hL => k_Wup (by omega) (by omega) (kk ad1 _ hP hL hs0 C1))
set_option maxRecDepth 20000 in
theorem s_t21 {X : k_X} {cells slots N : Nat} {Q : State → Prop} {ad : Nat → Nat} {h : k_H} {i a1 a2 a3 a4 a5 : Int32} {f : Nat → Int32} (C : k_C X cL_law_ RL 8 ad) (hR : X.R.frames = 2048 ∧ X.R.locals = 84000) (hcs : cells ≤ X.R.cells ∧ slots ≤ X.R.slots) (hA : va_T .int (ad 5000000) N (fun j => .int (f j)) X.A X.s X.s.heap) (E1 : k_el N f (i + 1) a1) (E2 : k_el N f (i + 2) a2) (E3 : k_el N f (i + 3) a3) (E4 : k_el N f (i + 4) a4) (E5 : k_el N f (i + 5) a5) (hLS : k_LS h) {h3 : k_H} {b : Int32} {t : Int32} (K : k_MR X.l yX11_tap cX11_tap 2 (some .int) 1 23 [.int a1] h (.int b) t h3) (hv : t = 0 → h3.2.2.1 102 0 = b.toInt64) (kk : k_LS h3 → k_W X 8 cells slots Q ad h3 2307 [some (.ref 5000000), some (.ref 0), some (.ref 70), some (.ref 102), some (.int i), none, none, none] []) : k_W X 8 cells slots Q ad h 1489 [some (.ref 5000000), some (.ref 0), some (.ref 70), some (.ref 102), some (.int i), some (.int t), none, none] [] := by
  refine r_aload_n C dL_law__1489 (rfl : 1489 + 1 = 1490) rfl ?_
  refine r_aload_n C dL_law__1490 (rfl : 1490 + 1 = 1491) rfl ?_
  refine r_iload C dL_law__1491 (rfl : 1491 + 2 = 1493) rfl ?_
  refine r_iconst (v := (1 : Int32)) C dL_law__1493 (rfl : 1493 + 1 = 1494) rfl ?_
  refine r_iadd C dL_law__1494 (rfl : 1494 + 1 = 1495) ?_
  refine r_argV C hA dL_law__1495 (rfl : 1495 + 1 = 1496) E1 ?_
  refine c_MR C hR ⟨by omega, by omega⟩ hLS K mv_X11_tap lk_L_188 dL_law__1496 (rfl : 1496 + 3 = 1499) rfl rfl rfl (fun _ => rfl) (fun _ => rfl) rfl rfl rfl ?_
  have hL3 := k_MR_LS K hLS
  obtain ⟨-, -, -, -, ht⟩ := K
  refine r_istore C dL_law__1499 (rfl : 1499 + 2 = 1501) (by decide) (Nat.le_of_ble_eq_true rfl) ?_
  show k_W X _ _ _ _ _ _ _ [some (.ref 5000000), some (.ref 0), some (.ref 70), some (.ref 102), some (.int i), some (.int t), some (.int b), none] _
  refine r_aload_n C dL_law__1501 (rfl : 1501 + 1 = 1502) rfl ?_
  refine c_Vp (pi := piM) (shl := shM) (bl := 0) (b := 70) (As := []) (Al := []) (v := some (.int t)) (us := []) (T := TX11) (N := 66) C hR ⟨by omega, by omega⟩ mv_X11_thrown lk_L_121 dL_law__1502 (rfl : 1502 + 3 = 1505) rfl rfl hL3.2.2.1 rfl rfl (k_thr ht) rfl (fun _ => rfl) rfl (fun _ => rfl) rfl rfl rfl ?_
  change k_W X _ _ _ _ ad h3 _ _ [.int t]
  refine r_iload C dL_law__1505 (rfl : 1505 + 2 = 1507) rfl ?_
  refine r_icmp_eq (tgt := 1512) C dL_law__1507 (by decide) (rfl : 1507 + 3 = 1510) (fun _ => ?_) (fun z => absurd rfl z)
  refine r_iload C dL_law__1512 (rfl : 1512 + 2 = 1514) rfl ?_
  refine r_if_ne (tgt := 1529) C dL_law__1514 (by decide) (rfl : 1514 + 3 = 1517) (fun _ => ?_) (fun z => ?_)
  · refine r_goto (tgt := 2307) C dL_law__1529 (by decide) ?_
    exact k_mask [true, true, true, true, true, false, false, false] (kk hL3)
  · refine r_aload_n C dL_law__1517 (rfl : 1517 + 1 = 1518) rfl ?_
    refine r_iconst (v := (0 : Int32)) C dL_law__1518 (rfl : 1518 + 1 = 1519) rfl ?_
    refine r_lald (f := h3.2.2.1 102) C dL_law__1519 (rfl : 1519 + 1 = 1520) hL3.2.1 rfl (show ¬ ((0 : Int32) < 0 ∨ 1 ≤ (0 : Int32).toNatClampNeg) by decide) ?_
    refine r_iload C dL_law__1520 (rfl : 1520 + 2 = 1522) rfl ?_
    refine r_i2l C dL_law__1522 (rfl : 1522 + 1 = 1523) ?_
    refine r_lcmp C dL_law__1523 (rfl : 1523 + 1 = 1524) ?_
    refine r_if_eq (tgt := 1529) C dL_law__1524 (by decide) (rfl : 1524 + 3 = 1527) (fun _ => ?_) (fun z9 => absurd (by rw [show h3.2.2.1 102 (0 : Int32).toNatClampNeg = b.toInt64 from hv z]; exact k_cmps _) z9)
    refine r_goto (tgt := 2307) C dL_law__1529 (by decide) ?_
    exact k_mask [true, true, true, true, true, false, false, false] (kk hL3)
def q_21 (l : Launch) (h : k_H) (a1 a2 a3 a4 a5 : Int32) (P : k_H → Prop) : Prop :=
  ∃ (mc ms : Nat) (Rr : Option Value → k_H → Prop) (Rx : String → k_H → Prop), mc ≤ 85 ∧ ms ≤ 714 ∧ k_CX l yX10_tap cX10_tap 2 (some .int) 7 111 mc ms [.ref 0, .int a1] h Rr Rx ∧ (∀ v h1, Rr v h1 → ∃ (y : Int32) (b : Int32) (h3 : k_H), v = some (.int y) ∧ k_LS h1 ∧ k_MR l yX11_tap cX11_tap 2 (some .int) 1 23 [.int a1] (k_out y.toInt64 h1) (.int b) 0 h3 ∧ h3.2.2.1 102 0 = b.toInt64 ∧ P h3) ∧
    (∀ E h1, Rx E h1 → ∃ (b : Int32) (t : Int32) (h3 : k_H), k_LS h1 ∧ (E = k_IAE ∧ t = 1) ∧ k_MR l yX11_tap cX11_tap 2 (some .int) 1 23 [.int a1] h1 (.int b) t h3 ∧ P h3)
set_option maxRecDepth 20000 in
theorem s_k21 {X : k_X} {cells slots N : Nat} {Q : State → Prop} {ad : Nat → Nat} {h : k_H} {i a1 a2 a3 a4 a5 : Int32} {f : Nat → Int32} (C : k_C X cL_law_ RL 8 ad) (hR : X.R.frames = 2048 ∧ X.R.locals = 84000) (hcs : cells + 85 ≤ X.R.cells ∧ slots + 714 ≤ X.R.slots) (hA : va_T .int (ad 5000000) N (fun j => .int (f j)) X.A X.s X.s.heap) (E1 : k_el N f (i + 1) a1) (E2 : k_el N f (i + 2) a2) (E3 : k_el N f (i + 3) a3) (E4 : k_el N f (i + 4) a4) (E5 : k_el N f (i + 5) a5) (hLS : k_LS h) {P : k_H → Prop} (K : q_21 X.l h a1 a2 a3 a4 a5 P)
    (kk : ∀ (ad' : Nat → Nat) (h' : k_H), P h' → k_LS h' → k_sm 0 ad ad' → k_C X cL_law_ RL 8 ad' → k_W X 8 (cells + 85) (slots + 714) Q ad' h' 2307 [some (.ref 5000000), some (.ref 0), some (.ref 70), some (.ref 102), some (.int i), none, none, none] []) : k_W X 8 cells slots Q ad h 1476 [some (.ref 5000000), some (.ref 0), some (.ref 70), some (.ref 102), some (.int i), none, none, none] [] := by
  refine r_aload_n C dL_law__1476 (rfl : 1476 + 1 = 1477) rfl ?_
  refine r_aload_n C dL_law__1477 (rfl : 1477 + 1 = 1478) rfl ?_
  refine r_iload C dL_law__1478 (rfl : 1478 + 2 = 1480) rfl ?_
  refine r_iconst (v := (1 : Int32)) C dL_law__1480 (rfl : 1480 + 1 = 1481) rfl ?_
  refine r_iadd C dL_law__1481 (rfl : 1481 + 1 = 1482) ?_
  refine r_argV C hA dL_law__1482 (rfl : 1482 + 1 = 1483) E1 ?_
  refine r_aload_n C dL_law__1483 (rfl : 1483 + 1 = 1484) rfl ?_
  obtain ⟨mc, ms, Rr, Rx, hmc, hms, K1, hr, hx⟩ := K
  refine c_SH (As := [.ref 0, .int a1, .ref 102]) (st := []) C hR ⟨by omega, by omega⟩ mh_L_tap (k_me (tm6 (List.mem_of_getElem? (i := 84) rfl)) rfl) dL_law__1484 (rfl : 1484 + 3 = 1487) rfl rfl (c_L_tap X.l h K1 hLS.1 hLS.2.1 (fun v h1 z => by obtain ⟨y, b, h3, h4, h5, h6⟩ := hr v h1 z; exact ⟨⟨y, h4⟩, h5.2.1⟩) (fun E h1 z => by obtain ⟨b, t, h3, h4, h5, h6⟩ := hx E h1 z; exact h5.1)) rfl rfl rfl ⟨Or.inr (by decide), k_okv_of hLS.1, Or.inl (k_is70 hLS), k_okv_of hLS.2.1, True.intro, True.intro⟩ True.intro ?_
  intro v ad1 h9 hres hsm C1
  have hA1 := k_argS hsm (by decide : 1000000 ≤ 5000000) hA
  have hs0 : k_sm 0 ad ad1 := fun p hp => hsm p (hp.elim (fun z => absurd z (Nat.not_lt_zero p)) Or.inr)
  rcases hres with ⟨y, h1, hz, rfl, rfl⟩ | ⟨E, h1, hz, rfl, rfl⟩
  · obtain ⟨y1, b, h3, hv1, hL1, K2, ho, hP⟩ := hr _ h1 hz
    cases hv1
    change k_W X _ _ _ _ ad1 _ _ _ [.int (0 : Int32)]
    refine r_istore C1 dL_law__1487 (rfl : 1487 + 2 = 1489) (by decide) (Nat.le_of_ble_eq_true rfl) ?_
    show k_W X _ _ _ _ _ _ _ [some (.ref 5000000), some (.ref 0), some (.ref 70), some (.ref 102), some (.int i), some (.int (0 : Int32)), none, none] _
    exact s_t21 C1 hR ⟨by omega, by omega⟩ hA1 E1 E2 E3 E4 E5 (k_LS_out hL1) K2 (fun _ => ho) (fun hL => k_Wup (by omega) (by omega) (kk ad1 _ hP hL hs0 C1))
  · obtain ⟨b, t, h3, hL1, ⟨-, rfl⟩, K2, hP⟩ := hx E _ hz
    change k_W X _ _ _ _ ad1 _ _ _ [.int (1 : Int32)]
    refine r_istore C1 dL_law__1487 (rfl : 1487 + 2 = 1489) (by decide) (Nat.le_of_ble_eq_true rfl) ?_
    show k_W X _ _ _ _ _ _ _ [some (.ref 5000000), some (.ref 0), some (.ref 70), some (.ref 102), some (.int i), some (.int (1 : Int32)), none, none] _
    exact s_t21 C1 hR ⟨by omega, by omega⟩ hA1 E1 E2 E3 E4 E5 hL1 K2 (fun z => absurd z (by decide)) (fun hL => k_Wup (by omega) (by omega) (kk ad1 _ hP hL hs0 C1))
set_option maxRecDepth 20000 in
theorem s_t22 {X : k_X} {cells slots N : Nat} {Q : State → Prop} {ad : Nat → Nat} {h : k_H} {i a1 a2 a3 a4 a5 : Int32} {f : Nat → Int32} (C : k_C X cL_law_ RL 8 ad) (hR : X.R.frames = 2048 ∧ X.R.locals = 84000) (hcs : cells ≤ X.R.cells ∧ slots ≤ X.R.slots) (hA : va_T .int (ad 5000000) N (fun j => .int (f j)) X.A X.s X.s.heap) (E1 : k_el N f (i + 1) a1) (E2 : k_el N f (i + 2) a2) (E3 : k_el N f (i + 3) a3) (E4 : k_el N f (i + 4) a4) (E5 : k_el N f (i + 5) a5) (hLS : k_LS h) {h3 : k_H} {b : Int32} {t : Int32} (K : k_MR X.l yX11_moved cX11_moved 3 (some .int) 1 23 [.int a1, .int a2] h (.int b) t h3) (hv : t = 0 → h3.2.2.1 102 0 = b.toInt64) (kk : k_LS h3 → k_W X 8 cells slots Q ad h3 2307 [some (.ref 5000000), some (.ref 0), some (.ref 70), some (.ref 102), some (.int i), none, none, none] []) : k_W X 8 cells slots Q ad h 1551 [some (.ref 5000000), some (.ref 0), some (.ref 70), some (.ref 102), some (.int i), some (.int t), none, none] [] := by
  refine r_aload_n C dL_law__1551 (rfl : 1551 + 1 = 1552) rfl ?_
  refine r_aload_n C dL_law__1552 (rfl : 1552 + 1 = 1553) rfl ?_
  refine r_iload C dL_law__1553 (rfl : 1553 + 2 = 1555) rfl ?_
  refine r_iconst (v := (1 : Int32)) C dL_law__1555 (rfl : 1555 + 1 = 1556) rfl ?_
  refine r_iadd C dL_law__1556 (rfl : 1556 + 1 = 1557) ?_
  refine r_argV C hA dL_law__1557 (rfl : 1557 + 1 = 1558) E1 ?_
  refine r_aload_n C dL_law__1558 (rfl : 1558 + 1 = 1559) rfl ?_
  refine r_iload C dL_law__1559 (rfl : 1559 + 2 = 1561) rfl ?_
  refine r_iconst (v := (2 : Int32)) C dL_law__1561 (rfl : 1561 + 1 = 1562) rfl ?_
  refine r_iadd C dL_law__1562 (rfl : 1562 + 1 = 1563) ?_
  refine r_argV C hA dL_law__1563 (rfl : 1563 + 1 = 1564) E2 ?_
  refine c_MR C hR ⟨by omega, by omega⟩ hLS K mv_X11_moved lk_L_191 dL_law__1564 (rfl : 1564 + 3 = 1567) rfl rfl rfl (fun _ => rfl) (fun _ => rfl) rfl rfl rfl ?_
  have hL3 := k_MR_LS K hLS
  obtain ⟨-, -, -, -, ht⟩ := K
  refine r_istore C dL_law__1567 (rfl : 1567 + 2 = 1569) (by decide) (Nat.le_of_ble_eq_true rfl) ?_
  show k_W X _ _ _ _ _ _ _ [some (.ref 5000000), some (.ref 0), some (.ref 70), some (.ref 102), some (.int i), some (.int t), some (.int b), none] _
  refine r_aload_n C dL_law__1569 (rfl : 1569 + 1 = 1570) rfl ?_
  refine c_Vp (pi := piM) (shl := shM) (bl := 0) (b := 70) (As := []) (Al := []) (v := some (.int t)) (us := []) (T := TX11) (N := 66) C hR ⟨by omega, by omega⟩ mv_X11_thrown lk_L_121 dL_law__1570 (rfl : 1570 + 3 = 1573) rfl rfl hL3.2.2.1 rfl rfl (k_thr ht) rfl (fun _ => rfl) rfl (fun _ => rfl) rfl rfl rfl ?_
  change k_W X _ _ _ _ ad h3 _ _ [.int t]
  refine r_iload C dL_law__1573 (rfl : 1573 + 2 = 1575) rfl ?_
  refine r_icmp_eq (tgt := 1580) C dL_law__1575 (by decide) (rfl : 1575 + 3 = 1578) (fun _ => ?_) (fun z => absurd rfl z)
  refine r_iload C dL_law__1580 (rfl : 1580 + 2 = 1582) rfl ?_
  refine r_if_ne (tgt := 1597) C dL_law__1582 (by decide) (rfl : 1582 + 3 = 1585) (fun _ => ?_) (fun z => ?_)
  · refine r_goto (tgt := 2307) C dL_law__1597 (by decide) ?_
    exact k_mask [true, true, true, true, true, false, false, false] (kk hL3)
  · refine r_aload_n C dL_law__1585 (rfl : 1585 + 1 = 1586) rfl ?_
    refine r_iconst (v := (0 : Int32)) C dL_law__1586 (rfl : 1586 + 1 = 1587) rfl ?_
    refine r_lald (f := h3.2.2.1 102) C dL_law__1587 (rfl : 1587 + 1 = 1588) hL3.2.1 rfl (show ¬ ((0 : Int32) < 0 ∨ 1 ≤ (0 : Int32).toNatClampNeg) by decide) ?_
    refine r_iload C dL_law__1588 (rfl : 1588 + 2 = 1590) rfl ?_
    refine r_i2l C dL_law__1590 (rfl : 1590 + 1 = 1591) ?_
    refine r_lcmp C dL_law__1591 (rfl : 1591 + 1 = 1592) ?_
    refine r_if_eq (tgt := 1597) C dL_law__1592 (by decide) (rfl : 1592 + 3 = 1595) (fun _ => ?_) (fun z9 => absurd (by rw [show h3.2.2.1 102 (0 : Int32).toNatClampNeg = b.toInt64 from hv z]; exact k_cmps _) z9)
    refine r_goto (tgt := 2307) C dL_law__1597 (by decide) ?_
    exact k_mask [true, true, true, true, true, false, false, false] (kk hL3)
def q_22 (l : Launch) (h : k_H) (a1 a2 a3 a4 a5 : Int32) (P : k_H → Prop) : Prop :=
  ∃ (mc ms : Nat) (Rr : Option Value → k_H → Prop) (Rx : String → k_H → Prop), mc ≤ 85 ∧ ms ≤ 714 ∧ k_CX l yX10_moved cX10_moved 3 (some .int) 7 111 mc ms [.ref 0, .int a1, .int a2] h Rr Rx ∧ (∀ v h1, Rr v h1 → ∃ (y : Int32) (b : Int32) (h3 : k_H), v = some (.int y) ∧ k_LS h1 ∧ k_MR l yX11_moved cX11_moved 3 (some .int) 1 23 [.int a1, .int a2] (k_out y.toInt64 h1) (.int b) 0 h3 ∧ h3.2.2.1 102 0 = b.toInt64 ∧ P h3) ∧
    (∀ E h1, Rx E h1 → ∃ (b : Int32) (t : Int32) (h3 : k_H), k_LS h1 ∧ (E = k_IAE ∧ t = 1) ∧ k_MR l yX11_moved cX11_moved 3 (some .int) 1 23 [.int a1, .int a2] h1 (.int b) t h3 ∧ P h3)
set_option maxRecDepth 20000 in
theorem s_k22 {X : k_X} {cells slots N : Nat} {Q : State → Prop} {ad : Nat → Nat} {h : k_H} {i a1 a2 a3 a4 a5 : Int32} {f : Nat → Int32} (C : k_C X cL_law_ RL 8 ad) (hR : X.R.frames = 2048 ∧ X.R.locals = 84000) (hcs : cells + 85 ≤ X.R.cells ∧ slots + 714 ≤ X.R.slots) (hA : va_T .int (ad 5000000) N (fun j => .int (f j)) X.A X.s X.s.heap) (E1 : k_el N f (i + 1) a1) (E2 : k_el N f (i + 2) a2) (E3 : k_el N f (i + 3) a3) (E4 : k_el N f (i + 4) a4) (E5 : k_el N f (i + 5) a5) (hLS : k_LS h) {P : k_H → Prop} (K : q_22 X.l h a1 a2 a3 a4 a5 P)
    (kk : ∀ (ad' : Nat → Nat) (h' : k_H), P h' → k_LS h' → k_sm 0 ad ad' → k_C X cL_law_ RL 8 ad' → k_W X 8 (cells + 85) (slots + 714) Q ad' h' 2307 [some (.ref 5000000), some (.ref 0), some (.ref 70), some (.ref 102), some (.int i), none, none, none] []) : k_W X 8 cells slots Q ad h 1532 [some (.ref 5000000), some (.ref 0), some (.ref 70), some (.ref 102), some (.int i), none, none, none] [] := by
  refine r_aload_n C dL_law__1532 (rfl : 1532 + 1 = 1533) rfl ?_
  refine r_aload_n C dL_law__1533 (rfl : 1533 + 1 = 1534) rfl ?_
  refine r_iload C dL_law__1534 (rfl : 1534 + 2 = 1536) rfl ?_
  refine r_iconst (v := (1 : Int32)) C dL_law__1536 (rfl : 1536 + 1 = 1537) rfl ?_
  refine r_iadd C dL_law__1537 (rfl : 1537 + 1 = 1538) ?_
  refine r_argV C hA dL_law__1538 (rfl : 1538 + 1 = 1539) E1 ?_
  refine r_aload_n C dL_law__1539 (rfl : 1539 + 1 = 1540) rfl ?_
  refine r_iload C dL_law__1540 (rfl : 1540 + 2 = 1542) rfl ?_
  refine r_iconst (v := (2 : Int32)) C dL_law__1542 (rfl : 1542 + 1 = 1543) rfl ?_
  refine r_iadd C dL_law__1543 (rfl : 1543 + 1 = 1544) ?_
  refine r_argV C hA dL_law__1544 (rfl : 1544 + 1 = 1545) E2 ?_
  refine r_aload_n C dL_law__1545 (rfl : 1545 + 1 = 1546) rfl ?_
  obtain ⟨mc, ms, Rr, Rx, hmc, hms, K1, hr, hx⟩ := K
  refine c_SH (As := [.ref 0, .int a1, .int a2, .ref 102]) (st := []) C hR ⟨by omega, by omega⟩ mh_L_moved (k_me (tm6 (List.mem_of_getElem? (i := 96) rfl)) rfl) dL_law__1546 (rfl : 1546 + 3 = 1549) rfl rfl (c_L_moved X.l h K1 hLS.1 hLS.2.1 (fun v h1 z => by obtain ⟨y, b, h3, h4, h5, h6⟩ := hr v h1 z; exact ⟨⟨y, h4⟩, h5.2.1⟩) (fun E h1 z => by obtain ⟨b, t, h3, h4, h5, h6⟩ := hx E h1 z; exact h5.1)) rfl rfl rfl ⟨Or.inr (by decide), k_okv_of hLS.1, Or.inl (k_is70 hLS), k_okv_of hLS.2.1, True.intro, True.intro⟩ True.intro ?_
  intro v ad1 h9 hres hsm C1
  have hA1 := k_argS hsm (by decide : 1000000 ≤ 5000000) hA
  have hs0 : k_sm 0 ad ad1 := fun p hp => hsm p (hp.elim (fun z => absurd z (Nat.not_lt_zero p)) Or.inr)
  rcases hres with ⟨y, h1, hz, rfl, rfl⟩ | ⟨E, h1, hz, rfl, rfl⟩
  · obtain ⟨y1, b, h3, hv1, hL1, K2, ho, hP⟩ := hr _ h1 hz
    cases hv1
    change k_W X _ _ _ _ ad1 _ _ _ [.int (0 : Int32)]
    refine r_istore C1 dL_law__1549 (rfl : 1549 + 2 = 1551) (by decide) (Nat.le_of_ble_eq_true rfl) ?_
    show k_W X _ _ _ _ _ _ _ [some (.ref 5000000), some (.ref 0), some (.ref 70), some (.ref 102), some (.int i), some (.int (0 : Int32)), none, none] _
    exact s_t22 C1 hR ⟨by omega, by omega⟩ hA1 E1 E2 E3 E4 E5 (k_LS_out hL1) K2 (fun _ => ho) (fun hL => k_Wup (by omega) (by omega) (kk ad1 _ hP hL hs0 C1))
  · obtain ⟨b, t, h3, hL1, ⟨-, rfl⟩, K2, hP⟩ := hx E _ hz
    change k_W X _ _ _ _ ad1 _ _ _ [.int (1 : Int32)]
    refine r_istore C1 dL_law__1549 (rfl : 1549 + 2 = 1551) (by decide) (Nat.le_of_ble_eq_true rfl) ?_
    show k_W X _ _ _ _ _ _ _ [some (.ref 5000000), some (.ref 0), some (.ref 70), some (.ref 102), some (.int i), some (.int (1 : Int32)), none, none] _
    exact s_t22 C1 hR ⟨by omega, by omega⟩ hA1 E1 E2 E3 E4 E5 hL1 K2 (fun z => absurd z (by decide)) (fun hL => k_Wup (by omega) (by omega) (kk ad1 _ hP hL hs0 C1))
def q_23 (l : Launch) (h : k_H) (a1 a2 a3 a4 a5 : Int32) (P : k_H → Prop) : Prop :=
  ∃ (y t : Int32) (us : List k_U) (h3 : k_H), k_CT l yX10_fits cX10_fits 1 (some .int) 4 88 [.ref 0] h (some (.int y)) us ∧ k_MR l yX11_fits cX11_fits 1 (some .int) 2 46 [] (k_ap us h) (.int y) t h3 ∧ P h3
set_option maxRecDepth 20000 in
theorem s_k23 {X : k_X} {cells slots N : Nat} {Q : State → Prop} {ad : Nat → Nat} {h : k_H} {i a1 a2 a3 a4 a5 : Int32} {f : Nat → Int32} (C : k_C X cL_law_ RL 8 ad) (hR : X.R.frames = 2048 ∧ X.R.locals = 84000) (hcs : cells + 85 ≤ X.R.cells ∧ slots + 714 ≤ X.R.slots) (hA : va_T .int (ad 5000000) N (fun j => .int (f j)) X.A X.s X.s.heap) (E1 : k_el N f (i + 1) a1) (E2 : k_el N f (i + 2) a2) (E3 : k_el N f (i + 3) a3) (E4 : k_el N f (i + 4) a4) (E5 : k_el N f (i + 5) a5) (hLS : k_LS h) {P : k_H → Prop} (K : q_23 X.l h a1 a2 a3 a4 a5 P)
    (kk : ∀ (ad' : Nat → Nat) (h' : k_H), P h' → k_LS h' → k_sm 0 ad ad' → k_C X cL_law_ RL 8 ad' → k_W X 8 (cells + 85) (slots + 714) Q ad' h' 2307 [some (.ref 5000000), some (.ref 0), some (.ref 70), some (.ref 102), some (.int i), none, none, none] []) : k_W X 8 cells slots Q ad h 1600 [some (.ref 5000000), some (.ref 0), some (.ref 70), some (.ref 102), some (.int i), none, none, none] [] := by
  refine r_aload_n C dL_law__1600 (rfl : 1600 + 1 = 1601) rfl ?_
  obtain ⟨y, t, us, h3, K1, K2, hP⟩ := K
  refine c_V (As := []) (st := []) (b := 0) C hR ⟨by omega, by omega⟩ mv_X10_fits lk_L_192 dL_law__1601 (rfl : 1601 + 3 = 1604) rfl rfl hLS.1 rfl K1 rfl rfl rfl ?_
  have hL1 : k_LS (k_ap us h) := by unfold k_LS; rw [k_ap_sh]; exact hLS
  change k_W X _ _ _ _ ad _ _ _ [.int y]
  refine r_aload_n C dL_law__1604 (rfl : 1604 + 1 = 1605) rfl ?_
  refine c_MR C hR ⟨by omega, by omega⟩ hL1 K2 mv_X11_fits lk_L_195 dL_law__1605 (rfl : 1605 + 3 = 1608) rfl rfl rfl (fun _ => rfl) (fun _ => rfl) rfl rfl rfl ?_
  have hL3 := k_MR_LS K2 hL1
  refine r_icmp_eq (tgt := 2307) C dL_law__1608 (by decide) (rfl : 1608 + 3 = 1611) (fun _ => ?_) (fun z => absurd rfl z)
  exact k_Wup (by omega) (by omega) (kk ad _ hP hL3 (fun _ _ => rfl) C)
set_option maxRecDepth 20000 in
theorem s_t24 {X : k_X} {cells slots N : Nat} {Q : State → Prop} {ad : Nat → Nat} {h : k_H} {i a1 a2 a3 a4 a5 : Int32} {f : Nat → Int32} (C : k_C X cL_law_ RL 8 ad) (hR : X.R.frames = 2048 ∧ X.R.locals = 84000) (hcs : cells ≤ X.R.cells ∧ slots ≤ X.R.slots) (hA : va_T .int (ad 5000000) N (fun j => .int (f j)) X.A X.s X.s.heap) (E1 : k_el N f (i + 1) a1) (E2 : k_el N f (i + 2) a2) (E3 : k_el N f (i + 3) a3) (E4 : k_el N f (i + 4) a4) (E5 : k_el N f (i + 5) a5) (hLS : k_LS h) {h3 : k_H} {b : Int32} {t : Int32} (K : k_MR X.l yX11_next_ cX11_next_ 7 (some .int) 2 47 [.int a1] h (.int b) t h3) (hv : t = 0 → h3.2.2.1 102 0 = b.toInt64) (kk : k_LS h3 → k_W X 8 cells slots Q ad h3 2307 [some (.ref 5000000), some (.ref 0), some (.ref 70), some (.ref 102), some (.int i), none, none, none] []) : k_W X 8 cells slots Q ad h 1626 [some (.ref 5000000), some (.ref 0), some (.ref 70), some (.ref 102), some (.int i), some (.int t), none, none] [] := by
  refine r_aload_n C dL_law__1626 (rfl : 1626 + 1 = 1627) rfl ?_
  refine r_aload_n C dL_law__1627 (rfl : 1627 + 1 = 1628) rfl ?_
  refine r_iload C dL_law__1628 (rfl : 1628 + 2 = 1630) rfl ?_
  refine r_iconst (v := (1 : Int32)) C dL_law__1630 (rfl : 1630 + 1 = 1631) rfl ?_
  refine r_iadd C dL_law__1631 (rfl : 1631 + 1 = 1632) ?_
  refine r_argV C hA dL_law__1632 (rfl : 1632 + 1 = 1633) E1 ?_
  refine c_MR C hR ⟨by omega, by omega⟩ hLS K mv_X11_next_ lk_L_198 dL_law__1633 (rfl : 1633 + 3 = 1636) rfl rfl rfl (fun _ => rfl) (fun _ => rfl) rfl rfl rfl ?_
  have hL3 := k_MR_LS K hLS
  obtain ⟨-, -, -, -, ht⟩ := K
  refine r_istore C dL_law__1636 (rfl : 1636 + 2 = 1638) (by decide) (Nat.le_of_ble_eq_true rfl) ?_
  show k_W X _ _ _ _ _ _ _ [some (.ref 5000000), some (.ref 0), some (.ref 70), some (.ref 102), some (.int i), some (.int t), some (.int b), none] _
  refine r_aload_n C dL_law__1638 (rfl : 1638 + 1 = 1639) rfl ?_
  refine c_Vp (pi := piM) (shl := shM) (bl := 0) (b := 70) (As := []) (Al := []) (v := some (.int t)) (us := []) (T := TX11) (N := 66) C hR ⟨by omega, by omega⟩ mv_X11_thrown lk_L_121 dL_law__1639 (rfl : 1639 + 3 = 1642) rfl rfl hL3.2.2.1 rfl rfl (k_thr ht) rfl (fun _ => rfl) rfl (fun _ => rfl) rfl rfl rfl ?_
  change k_W X _ _ _ _ ad h3 _ _ [.int t]
  refine r_iload C dL_law__1642 (rfl : 1642 + 2 = 1644) rfl ?_
  refine r_icmp_eq (tgt := 1649) C dL_law__1644 (by decide) (rfl : 1644 + 3 = 1647) (fun _ => ?_) (fun z => absurd rfl z)
  refine r_iload C dL_law__1649 (rfl : 1649 + 2 = 1651) rfl ?_
  refine r_if_ne (tgt := 1666) C dL_law__1651 (by decide) (rfl : 1651 + 3 = 1654) (fun _ => ?_) (fun z => ?_)
  · refine r_goto (tgt := 2307) C dL_law__1666 (by decide) ?_
    exact k_mask [true, true, true, true, true, false, false, false] (kk hL3)
  · refine r_aload_n C dL_law__1654 (rfl : 1654 + 1 = 1655) rfl ?_
    refine r_iconst (v := (0 : Int32)) C dL_law__1655 (rfl : 1655 + 1 = 1656) rfl ?_
    refine r_lald (f := h3.2.2.1 102) C dL_law__1656 (rfl : 1656 + 1 = 1657) hL3.2.1 rfl (show ¬ ((0 : Int32) < 0 ∨ 1 ≤ (0 : Int32).toNatClampNeg) by decide) ?_
    refine r_iload C dL_law__1657 (rfl : 1657 + 2 = 1659) rfl ?_
    refine r_i2l C dL_law__1659 (rfl : 1659 + 1 = 1660) ?_
    refine r_lcmp C dL_law__1660 (rfl : 1660 + 1 = 1661) ?_
    refine r_if_eq (tgt := 1666) C dL_law__1661 (by decide) (rfl : 1661 + 3 = 1664) (fun _ => ?_) (fun z9 => absurd (by rw [show h3.2.2.1 102 (0 : Int32).toNatClampNeg = b.toInt64 from hv z]; exact k_cmps _) z9)
    refine r_goto (tgt := 2307) C dL_law__1666 (by decide) ?_
    exact k_mask [true, true, true, true, true, false, false, false] (kk hL3)
def q_24 (l : Launch) (h : k_H) (a1 a2 a3 a4 a5 : Int32) (P : k_H → Prop) : Prop :=
  ∃ (mc ms : Nat) (Rr : Option Value → k_H → Prop) (Rx : String → k_H → Prop), mc ≤ 85 ∧ ms ≤ 714 ∧ k_CX l yX10_next cX10_next 2 (some .int) 7 114 mc ms [.ref 0, .int a1] h Rr Rx ∧ (∀ v h1, Rr v h1 → ∃ (y : Int32) (b : Int32) (h3 : k_H), v = some (.int y) ∧ k_LS h1 ∧ k_MR l yX11_next_ cX11_next_ 7 (some .int) 2 47 [.int a1] (k_out y.toInt64 h1) (.int b) 0 h3 ∧ h3.2.2.1 102 0 = b.toInt64 ∧ P h3) ∧
    (∀ E h1, Rx E h1 → ∃ (b : Int32) (t : Int32) (h3 : k_H), k_LS h1 ∧ (E = k_IAE ∧ t = 1) ∧ k_MR l yX11_next_ cX11_next_ 7 (some .int) 2 47 [.int a1] h1 (.int b) t h3 ∧ P h3)
set_option maxRecDepth 20000 in
theorem s_k24 {X : k_X} {cells slots N : Nat} {Q : State → Prop} {ad : Nat → Nat} {h : k_H} {i a1 a2 a3 a4 a5 : Int32} {f : Nat → Int32} (C : k_C X cL_law_ RL 8 ad) (hR : X.R.frames = 2048 ∧ X.R.locals = 84000) (hcs : cells + 85 ≤ X.R.cells ∧ slots + 714 ≤ X.R.slots) (hA : va_T .int (ad 5000000) N (fun j => .int (f j)) X.A X.s X.s.heap) (E1 : k_el N f (i + 1) a1) (E2 : k_el N f (i + 2) a2) (E3 : k_el N f (i + 3) a3) (E4 : k_el N f (i + 4) a4) (E5 : k_el N f (i + 5) a5) (hLS : k_LS h) {P : k_H → Prop} (K : q_24 X.l h a1 a2 a3 a4 a5 P)
    (kk : ∀ (ad' : Nat → Nat) (h' : k_H), P h' → k_LS h' → k_sm 0 ad ad' → k_C X cL_law_ RL 8 ad' → k_W X 8 (cells + 85) (slots + 714) Q ad' h' 2307 [some (.ref 5000000), some (.ref 0), some (.ref 70), some (.ref 102), some (.int i), none, none, none] []) : k_W X 8 cells slots Q ad h 1613 [some (.ref 5000000), some (.ref 0), some (.ref 70), some (.ref 102), some (.int i), none, none, none] [] := by
  refine r_aload_n C dL_law__1613 (rfl : 1613 + 1 = 1614) rfl ?_
  refine r_aload_n C dL_law__1614 (rfl : 1614 + 1 = 1615) rfl ?_
  refine r_iload C dL_law__1615 (rfl : 1615 + 2 = 1617) rfl ?_
  refine r_iconst (v := (1 : Int32)) C dL_law__1617 (rfl : 1617 + 1 = 1618) rfl ?_
  refine r_iadd C dL_law__1618 (rfl : 1618 + 1 = 1619) ?_
  refine r_argV C hA dL_law__1619 (rfl : 1619 + 1 = 1620) E1 ?_
  refine r_aload_n C dL_law__1620 (rfl : 1620 + 1 = 1621) rfl ?_
  obtain ⟨mc, ms, Rr, Rx, hmc, hms, K1, hr, hx⟩ := K
  refine c_SH (As := [.ref 0, .int a1, .ref 102]) (st := []) C hR ⟨by omega, by omega⟩ mh_L_next (k_me (tm6 (List.mem_of_getElem? (i := 103) rfl)) rfl) dL_law__1621 (rfl : 1621 + 3 = 1624) rfl rfl (c_L_next X.l h K1 hLS.1 hLS.2.1 (fun v h1 z => by obtain ⟨y, b, h3, h4, h5, h6⟩ := hr v h1 z; exact ⟨⟨y, h4⟩, h5.2.1⟩) (fun E h1 z => by obtain ⟨b, t, h3, h4, h5, h6⟩ := hx E h1 z; exact h5.1)) rfl rfl rfl ⟨Or.inr (by decide), k_okv_of hLS.1, Or.inl (k_is70 hLS), k_okv_of hLS.2.1, True.intro, True.intro⟩ True.intro ?_
  intro v ad1 h9 hres hsm C1
  have hA1 := k_argS hsm (by decide : 1000000 ≤ 5000000) hA
  have hs0 : k_sm 0 ad ad1 := fun p hp => hsm p (hp.elim (fun z => absurd z (Nat.not_lt_zero p)) Or.inr)
  rcases hres with ⟨y, h1, hz, rfl, rfl⟩ | ⟨E, h1, hz, rfl, rfl⟩
  · obtain ⟨y1, b, h3, hv1, hL1, K2, ho, hP⟩ := hr _ h1 hz
    cases hv1
    change k_W X _ _ _ _ ad1 _ _ _ [.int (0 : Int32)]
    refine r_istore C1 dL_law__1624 (rfl : 1624 + 2 = 1626) (by decide) (Nat.le_of_ble_eq_true rfl) ?_
    show k_W X _ _ _ _ _ _ _ [some (.ref 5000000), some (.ref 0), some (.ref 70), some (.ref 102), some (.int i), some (.int (0 : Int32)), none, none] _
    exact s_t24 C1 hR ⟨by omega, by omega⟩ hA1 E1 E2 E3 E4 E5 (k_LS_out hL1) K2 (fun _ => ho) (fun hL => k_Wup (by omega) (by omega) (kk ad1 _ hP hL hs0 C1))
  · obtain ⟨b, t, h3, hL1, ⟨-, rfl⟩, K2, hP⟩ := hx E _ hz
    change k_W X _ _ _ _ ad1 _ _ _ [.int (1 : Int32)]
    refine r_istore C1 dL_law__1624 (rfl : 1624 + 2 = 1626) (by decide) (Nat.le_of_ble_eq_true rfl) ?_
    show k_W X _ _ _ _ _ _ _ [some (.ref 5000000), some (.ref 0), some (.ref 70), some (.ref 102), some (.int i), some (.int (1 : Int32)), none, none] _
    exact s_t24 C1 hR ⟨by omega, by omega⟩ hA1 E1 E2 E3 E4 E5 hL1 K2 (fun z => absurd z (by decide)) (fun hL => k_Wup (by omega) (by omega) (kk ad1 _ hP hL hs0 C1))
set_option maxRecDepth 20000 in
theorem s_t25 {X : k_X} {cells slots N : Nat} {Q : State → Prop} {ad : Nat → Nat} {h : k_H} {i a1 a2 a3 a4 a5 : Int32} {f : Nat → Int32} (C : k_C X cL_law_ RL 8 ad) (hR : X.R.frames = 2048 ∧ X.R.locals = 84000) (hcs : cells ≤ X.R.cells ∧ slots ≤ X.R.slots) (hA : va_T .int (ad 5000000) N (fun j => .int (f j)) X.A X.s X.s.heap) (E1 : k_el N f (i + 1) a1) (E2 : k_el N f (i + 2) a2) (E3 : k_el N f (i + 3) a3) (E4 : k_el N f (i + 4) a4) (E5 : k_el N f (i + 5) a5) (hLS : k_LS h) {h3 : k_H} {b : Int32} {t : Int32} (K : k_MR X.l yX11_canon cX11_canon 10 (some .int) 1 23 [.int a1, .int a2, .int a3] h (.int b) t h3) (hv : t = 0 → h3.2.2.1 102 0 = b.toInt64) (kk : k_LS h3 → k_W X 8 cells slots Q ad h3 2307 [some (.ref 5000000), some (.ref 0), some (.ref 70), some (.ref 102), some (.int i), none, none, none] []) : k_W X 8 cells slots Q ad h 1694 [some (.ref 5000000), some (.ref 0), some (.ref 70), some (.ref 102), some (.int i), some (.int t), none, none] [] := by
  refine r_aload_n C dL_law__1694 (rfl : 1694 + 1 = 1695) rfl ?_
  refine r_aload_n C dL_law__1695 (rfl : 1695 + 1 = 1696) rfl ?_
  refine r_iload C dL_law__1696 (rfl : 1696 + 2 = 1698) rfl ?_
  refine r_iconst (v := (1 : Int32)) C dL_law__1698 (rfl : 1698 + 1 = 1699) rfl ?_
  refine r_iadd C dL_law__1699 (rfl : 1699 + 1 = 1700) ?_
  refine r_argV C hA dL_law__1700 (rfl : 1700 + 1 = 1701) E1 ?_
  refine r_aload_n C dL_law__1701 (rfl : 1701 + 1 = 1702) rfl ?_
  refine r_iload C dL_law__1702 (rfl : 1702 + 2 = 1704) rfl ?_
  refine r_iconst (v := (2 : Int32)) C dL_law__1704 (rfl : 1704 + 1 = 1705) rfl ?_
  refine r_iadd C dL_law__1705 (rfl : 1705 + 1 = 1706) ?_
  refine r_argV C hA dL_law__1706 (rfl : 1706 + 1 = 1707) E2 ?_
  refine r_aload_n C dL_law__1707 (rfl : 1707 + 1 = 1708) rfl ?_
  refine r_iload C dL_law__1708 (rfl : 1708 + 2 = 1710) rfl ?_
  refine r_iconst (v := (3 : Int32)) C dL_law__1710 (rfl : 1710 + 1 = 1711) rfl ?_
  refine r_iadd C dL_law__1711 (rfl : 1711 + 1 = 1712) ?_
  refine r_argV C hA dL_law__1712 (rfl : 1712 + 1 = 1713) E3 ?_
  refine c_MR C hR ⟨by omega, by omega⟩ hLS K mv_X11_canon lk_L_201 dL_law__1713 (rfl : 1713 + 3 = 1716) rfl rfl rfl (fun _ => rfl) (fun _ => rfl) rfl rfl rfl ?_
  have hL3 := k_MR_LS K hLS
  obtain ⟨-, -, -, -, ht⟩ := K
  refine r_istore C dL_law__1716 (rfl : 1716 + 2 = 1718) (by decide) (Nat.le_of_ble_eq_true rfl) ?_
  show k_W X _ _ _ _ _ _ _ [some (.ref 5000000), some (.ref 0), some (.ref 70), some (.ref 102), some (.int i), some (.int t), some (.int b), none] _
  refine r_aload_n C dL_law__1718 (rfl : 1718 + 1 = 1719) rfl ?_
  refine c_Vp (pi := piM) (shl := shM) (bl := 0) (b := 70) (As := []) (Al := []) (v := some (.int t)) (us := []) (T := TX11) (N := 66) C hR ⟨by omega, by omega⟩ mv_X11_thrown lk_L_121 dL_law__1719 (rfl : 1719 + 3 = 1722) rfl rfl hL3.2.2.1 rfl rfl (k_thr ht) rfl (fun _ => rfl) rfl (fun _ => rfl) rfl rfl rfl ?_
  change k_W X _ _ _ _ ad h3 _ _ [.int t]
  refine r_iload C dL_law__1722 (rfl : 1722 + 2 = 1724) rfl ?_
  refine r_icmp_eq (tgt := 1729) C dL_law__1724 (by decide) (rfl : 1724 + 3 = 1727) (fun _ => ?_) (fun z => absurd rfl z)
  refine r_iload C dL_law__1729 (rfl : 1729 + 2 = 1731) rfl ?_
  refine r_if_ne (tgt := 1746) C dL_law__1731 (by decide) (rfl : 1731 + 3 = 1734) (fun _ => ?_) (fun z => ?_)
  · refine r_goto (tgt := 2307) C dL_law__1746 (by decide) ?_
    exact k_mask [true, true, true, true, true, false, false, false] (kk hL3)
  · refine r_aload_n C dL_law__1734 (rfl : 1734 + 1 = 1735) rfl ?_
    refine r_iconst (v := (0 : Int32)) C dL_law__1735 (rfl : 1735 + 1 = 1736) rfl ?_
    refine r_lald (f := h3.2.2.1 102) C dL_law__1736 (rfl : 1736 + 1 = 1737) hL3.2.1 rfl (show ¬ ((0 : Int32) < 0 ∨ 1 ≤ (0 : Int32).toNatClampNeg) by decide) ?_
    refine r_iload C dL_law__1737 (rfl : 1737 + 2 = 1739) rfl ?_
    refine r_i2l C dL_law__1739 (rfl : 1739 + 1 = 1740) ?_
    refine r_lcmp C dL_law__1740 (rfl : 1740 + 1 = 1741) ?_
    refine r_if_eq (tgt := 1746) C dL_law__1741 (by decide) (rfl : 1741 + 3 = 1744) (fun _ => ?_) (fun z9 => absurd (by rw [show h3.2.2.1 102 (0 : Int32).toNatClampNeg = b.toInt64 from hv z]; exact k_cmps _) z9)
    refine r_goto (tgt := 2307) C dL_law__1746 (by decide) ?_
    exact k_mask [true, true, true, true, true, false, false, false] (kk hL3)
def q_25 (l : Launch) (h : k_H) (a1 a2 a3 a4 a5 : Int32) (P : k_H → Prop) : Prop :=
  ∃ (mc ms : Nat) (Rr : Option Value → k_H → Prop) (Rx : String → k_H → Prop), mc ≤ 85 ∧ ms ≤ 714 ∧ k_CX l yX10_canon cX10_canon 4 (some .int) 7 111 mc ms [.ref 0, .int a1, .int a2, .int a3] h Rr Rx ∧ (∀ v h1, Rr v h1 → ∃ (y : Int32) (b : Int32) (h3 : k_H), v = some (.int y) ∧ k_LS h1 ∧ k_MR l yX11_canon cX11_canon 10 (some .int) 1 23 [.int a1, .int a2, .int a3] (k_out y.toInt64 h1) (.int b) 0 h3 ∧ h3.2.2.1 102 0 = b.toInt64 ∧ P h3) ∧
    (∀ E h1, Rx E h1 → ∃ (b : Int32) (t : Int32) (h3 : k_H), k_LS h1 ∧ (E = k_IAE ∧ t = 1) ∧ k_MR l yX11_canon cX11_canon 10 (some .int) 1 23 [.int a1, .int a2, .int a3] h1 (.int b) t h3 ∧ P h3)
set_option maxRecDepth 20000 in
theorem s_k25 {X : k_X} {cells slots N : Nat} {Q : State → Prop} {ad : Nat → Nat} {h : k_H} {i a1 a2 a3 a4 a5 : Int32} {f : Nat → Int32} (C : k_C X cL_law_ RL 8 ad) (hR : X.R.frames = 2048 ∧ X.R.locals = 84000) (hcs : cells + 85 ≤ X.R.cells ∧ slots + 714 ≤ X.R.slots) (hA : va_T .int (ad 5000000) N (fun j => .int (f j)) X.A X.s X.s.heap) (E1 : k_el N f (i + 1) a1) (E2 : k_el N f (i + 2) a2) (E3 : k_el N f (i + 3) a3) (E4 : k_el N f (i + 4) a4) (E5 : k_el N f (i + 5) a5) (hLS : k_LS h) {P : k_H → Prop} (K : q_25 X.l h a1 a2 a3 a4 a5 P)
    (kk : ∀ (ad' : Nat → Nat) (h' : k_H), P h' → k_LS h' → k_sm 0 ad ad' → k_C X cL_law_ RL 8 ad' → k_W X 8 (cells + 85) (slots + 714) Q ad' h' 2307 [some (.ref 5000000), some (.ref 0), some (.ref 70), some (.ref 102), some (.int i), none, none, none] []) : k_W X 8 cells slots Q ad h 1669 [some (.ref 5000000), some (.ref 0), some (.ref 70), some (.ref 102), some (.int i), none, none, none] [] := by
  refine r_aload_n C dL_law__1669 (rfl : 1669 + 1 = 1670) rfl ?_
  refine r_aload_n C dL_law__1670 (rfl : 1670 + 1 = 1671) rfl ?_
  refine r_iload C dL_law__1671 (rfl : 1671 + 2 = 1673) rfl ?_
  refine r_iconst (v := (1 : Int32)) C dL_law__1673 (rfl : 1673 + 1 = 1674) rfl ?_
  refine r_iadd C dL_law__1674 (rfl : 1674 + 1 = 1675) ?_
  refine r_argV C hA dL_law__1675 (rfl : 1675 + 1 = 1676) E1 ?_
  refine r_aload_n C dL_law__1676 (rfl : 1676 + 1 = 1677) rfl ?_
  refine r_iload C dL_law__1677 (rfl : 1677 + 2 = 1679) rfl ?_
  refine r_iconst (v := (2 : Int32)) C dL_law__1679 (rfl : 1679 + 1 = 1680) rfl ?_
  refine r_iadd C dL_law__1680 (rfl : 1680 + 1 = 1681) ?_
  refine r_argV C hA dL_law__1681 (rfl : 1681 + 1 = 1682) E2 ?_
  refine r_aload_n C dL_law__1682 (rfl : 1682 + 1 = 1683) rfl ?_
  refine r_iload C dL_law__1683 (rfl : 1683 + 2 = 1685) rfl ?_
  refine r_iconst (v := (3 : Int32)) C dL_law__1685 (rfl : 1685 + 1 = 1686) rfl ?_
  refine r_iadd C dL_law__1686 (rfl : 1686 + 1 = 1687) ?_
  refine r_argV C hA dL_law__1687 (rfl : 1687 + 1 = 1688) E3 ?_
  refine r_aload_n C dL_law__1688 (rfl : 1688 + 1 = 1689) rfl ?_
  obtain ⟨mc, ms, Rr, Rx, hmc, hms, K1, hr, hx⟩ := K
  refine c_SH (As := [.ref 0, .int a1, .int a2, .int a3, .ref 102]) (st := []) C hR ⟨by omega, by omega⟩ mh_L_canon (k_me (tm6 (List.mem_of_getElem? (i := 120) rfl)) rfl) dL_law__1689 (rfl : 1689 + 3 = 1692) rfl rfl (c_L_canon X.l h K1 hLS.1 hLS.2.1 (fun v h1 z => by obtain ⟨y, b, h3, h4, h5, h6⟩ := hr v h1 z; exact ⟨⟨y, h4⟩, h5.2.1⟩) (fun E h1 z => by obtain ⟨b, t, h3, h4, h5, h6⟩ := hx E h1 z; exact h5.1)) rfl rfl rfl ⟨Or.inr (by decide), k_okv_of hLS.1, Or.inl (k_is70 hLS), k_okv_of hLS.2.1, True.intro, True.intro⟩ True.intro ?_
  intro v ad1 h9 hres hsm C1
  have hA1 := k_argS hsm (by decide : 1000000 ≤ 5000000) hA
  have hs0 : k_sm 0 ad ad1 := fun p hp => hsm p (hp.elim (fun z => absurd z (Nat.not_lt_zero p)) Or.inr)
  rcases hres with ⟨y, h1, hz, rfl, rfl⟩ | ⟨E, h1, hz, rfl, rfl⟩
  · obtain ⟨y1, b, h3, hv1, hL1, K2, ho, hP⟩ := hr _ h1 hz
    cases hv1
    change k_W X _ _ _ _ ad1 _ _ _ [.int (0 : Int32)]
    refine r_istore C1 dL_law__1692 (rfl : 1692 + 2 = 1694) (by decide) (Nat.le_of_ble_eq_true rfl) ?_
    show k_W X _ _ _ _ _ _ _ [some (.ref 5000000), some (.ref 0), some (.ref 70), some (.ref 102), some (.int i), some (.int (0 : Int32)), none, none] _
    exact s_t25 C1 hR ⟨by omega, by omega⟩ hA1 E1 E2 E3 E4 E5 (k_LS_out hL1) K2 (fun _ => ho) (fun hL => k_Wup (by omega) (by omega) (kk ad1 _ hP hL hs0 C1))
  · obtain ⟨b, t, h3, hL1, ⟨-, rfl⟩, K2, hP⟩ := hx E _ hz
    change k_W X _ _ _ _ ad1 _ _ _ [.int (1 : Int32)]
    refine r_istore C1 dL_law__1692 (rfl : 1692 + 2 = 1694) (by decide) (Nat.le_of_ble_eq_true rfl) ?_
    show k_W X _ _ _ _ _ _ _ [some (.ref 5000000), some (.ref 0), some (.ref 70), some (.ref 102), some (.int i), some (.int (1 : Int32)), none, none] _
    exact s_t25 C1 hR ⟨by omega, by omega⟩ hA1 E1 E2 E3 E4 E5 hL1 K2 (fun z => absurd z (by decide)) (fun hL => k_Wup (by omega) (by omega) (kk ad1 _ hP hL hs0 C1))
set_option maxRecDepth 20000 in
theorem s_t26 {X : k_X} {cells slots N : Nat} {Q : State → Prop} {ad : Nat → Nat} {h : k_H} {i a1 a2 a3 a4 a5 : Int32} {f : Nat → Int32} (C : k_C X cL_law_ RL 8 ad) (hR : X.R.frames = 2048 ∧ X.R.locals = 84000) (hcs : cells ≤ X.R.cells ∧ slots ≤ X.R.slots) (hA : va_T .int (ad 5000000) N (fun j => .int (f j)) X.A X.s X.s.heap) (E1 : k_el N f (i + 1) a1) (E2 : k_el N f (i + 2) a2) (E3 : k_el N f (i + 3) a3) (E4 : k_el N f (i + 4) a4) (E5 : k_el N f (i + 5) a5) (hLS : k_LS h) {h3 : k_H} {b : Int32} {t : Int32} (K : k_MR X.l yX11_owners cX11_owners 8 (some .int) 2 49 [.int a1, .int a2, .int a3] h (.int b) t h3) (hv : t = 0 → h3.2.2.1 102 0 = b.toInt64) (kk : k_LS h3 → k_W X 8 cells slots Q ad h3 2307 [some (.ref 5000000), some (.ref 0), some (.ref 70), some (.ref 102), some (.int i), none, none, none] []) : k_W X 8 cells slots Q ad h 1774 [some (.ref 5000000), some (.ref 0), some (.ref 70), some (.ref 102), some (.int i), some (.int t), none, none] [] := by
  refine r_aload_n C dL_law__1774 (rfl : 1774 + 1 = 1775) rfl ?_
  refine r_aload_n C dL_law__1775 (rfl : 1775 + 1 = 1776) rfl ?_
  refine r_iload C dL_law__1776 (rfl : 1776 + 2 = 1778) rfl ?_
  refine r_iconst (v := (1 : Int32)) C dL_law__1778 (rfl : 1778 + 1 = 1779) rfl ?_
  refine r_iadd C dL_law__1779 (rfl : 1779 + 1 = 1780) ?_
  refine r_argV C hA dL_law__1780 (rfl : 1780 + 1 = 1781) E1 ?_
  refine r_aload_n C dL_law__1781 (rfl : 1781 + 1 = 1782) rfl ?_
  refine r_iload C dL_law__1782 (rfl : 1782 + 2 = 1784) rfl ?_
  refine r_iconst (v := (2 : Int32)) C dL_law__1784 (rfl : 1784 + 1 = 1785) rfl ?_
  refine r_iadd C dL_law__1785 (rfl : 1785 + 1 = 1786) ?_
  refine r_argV C hA dL_law__1786 (rfl : 1786 + 1 = 1787) E2 ?_
  refine r_aload_n C dL_law__1787 (rfl : 1787 + 1 = 1788) rfl ?_
  refine r_iload C dL_law__1788 (rfl : 1788 + 2 = 1790) rfl ?_
  refine r_iconst (v := (3 : Int32)) C dL_law__1790 (rfl : 1790 + 1 = 1791) rfl ?_
  refine r_iadd C dL_law__1791 (rfl : 1791 + 1 = 1792) ?_
  refine r_argV C hA dL_law__1792 (rfl : 1792 + 1 = 1793) E3 ?_
  refine c_MR C hR ⟨by omega, by omega⟩ hLS K mv_X11_owners lk_L_204 dL_law__1793 (rfl : 1793 + 3 = 1796) rfl rfl rfl (fun _ => rfl) (fun _ => rfl) rfl rfl rfl ?_
  have hL3 := k_MR_LS K hLS
  obtain ⟨-, -, -, -, ht⟩ := K
  refine r_istore C dL_law__1796 (rfl : 1796 + 2 = 1798) (by decide) (Nat.le_of_ble_eq_true rfl) ?_
  show k_W X _ _ _ _ _ _ _ [some (.ref 5000000), some (.ref 0), some (.ref 70), some (.ref 102), some (.int i), some (.int t), some (.int b), none] _
  refine r_aload_n C dL_law__1798 (rfl : 1798 + 1 = 1799) rfl ?_
  refine c_Vp (pi := piM) (shl := shM) (bl := 0) (b := 70) (As := []) (Al := []) (v := some (.int t)) (us := []) (T := TX11) (N := 66) C hR ⟨by omega, by omega⟩ mv_X11_thrown lk_L_121 dL_law__1799 (rfl : 1799 + 3 = 1802) rfl rfl hL3.2.2.1 rfl rfl (k_thr ht) rfl (fun _ => rfl) rfl (fun _ => rfl) rfl rfl rfl ?_
  change k_W X _ _ _ _ ad h3 _ _ [.int t]
  refine r_iload C dL_law__1802 (rfl : 1802 + 2 = 1804) rfl ?_
  refine r_icmp_eq (tgt := 1809) C dL_law__1804 (by decide) (rfl : 1804 + 3 = 1807) (fun _ => ?_) (fun z => absurd rfl z)
  refine r_iload C dL_law__1809 (rfl : 1809 + 2 = 1811) rfl ?_
  refine r_if_ne (tgt := 1826) C dL_law__1811 (by decide) (rfl : 1811 + 3 = 1814) (fun _ => ?_) (fun z => ?_)
  · refine r_goto (tgt := 2307) C dL_law__1826 (by decide) ?_
    exact k_mask [true, true, true, true, true, false, false, false] (kk hL3)
  · refine r_aload_n C dL_law__1814 (rfl : 1814 + 1 = 1815) rfl ?_
    refine r_iconst (v := (0 : Int32)) C dL_law__1815 (rfl : 1815 + 1 = 1816) rfl ?_
    refine r_lald (f := h3.2.2.1 102) C dL_law__1816 (rfl : 1816 + 1 = 1817) hL3.2.1 rfl (show ¬ ((0 : Int32) < 0 ∨ 1 ≤ (0 : Int32).toNatClampNeg) by decide) ?_
    refine r_iload C dL_law__1817 (rfl : 1817 + 2 = 1819) rfl ?_
    refine r_i2l C dL_law__1819 (rfl : 1819 + 1 = 1820) ?_
    refine r_lcmp C dL_law__1820 (rfl : 1820 + 1 = 1821) ?_
    refine r_if_eq (tgt := 1826) C dL_law__1821 (by decide) (rfl : 1821 + 3 = 1824) (fun _ => ?_) (fun z9 => absurd (by rw [show h3.2.2.1 102 (0 : Int32).toNatClampNeg = b.toInt64 from hv z]; exact k_cmps _) z9)
    refine r_goto (tgt := 2307) C dL_law__1826 (by decide) ?_
    exact k_mask [true, true, true, true, true, false, false, false] (kk hL3)
def q_26 (l : Launch) (h : k_H) (a1 a2 a3 a4 a5 : Int32) (P : k_H → Prop) : Prop :=
  ∃ (mc ms : Nat) (Rr : Option Value → k_H → Prop) (Rx : String → k_H → Prop), mc ≤ 85 ∧ ms ≤ 714 ∧ k_CX l yX10_owners cX10_owners 4 (some .int) 7 111 mc ms [.ref 0, .int a1, .int a2, .int a3] h Rr Rx ∧ (∀ v h1, Rr v h1 → ∃ (y : Int32) (b : Int32) (h3 : k_H), v = some (.int y) ∧ k_LS h1 ∧ k_MR l yX11_owners cX11_owners 8 (some .int) 2 49 [.int a1, .int a2, .int a3] (k_out y.toInt64 h1) (.int b) 0 h3 ∧ h3.2.2.1 102 0 = b.toInt64 ∧ P h3) ∧
    (∀ E h1, Rx E h1 → ∃ (b : Int32) (t : Int32) (h3 : k_H), k_LS h1 ∧ (E = k_IAE ∧ t = 1) ∧ k_MR l yX11_owners cX11_owners 8 (some .int) 2 49 [.int a1, .int a2, .int a3] h1 (.int b) t h3 ∧ P h3)
set_option maxRecDepth 20000 in
theorem s_k26 {X : k_X} {cells slots N : Nat} {Q : State → Prop} {ad : Nat → Nat} {h : k_H} {i a1 a2 a3 a4 a5 : Int32} {f : Nat → Int32} (C : k_C X cL_law_ RL 8 ad) (hR : X.R.frames = 2048 ∧ X.R.locals = 84000) (hcs : cells + 85 ≤ X.R.cells ∧ slots + 714 ≤ X.R.slots) (hA : va_T .int (ad 5000000) N (fun j => .int (f j)) X.A X.s X.s.heap) (E1 : k_el N f (i + 1) a1) (E2 : k_el N f (i + 2) a2) (E3 : k_el N f (i + 3) a3) (E4 : k_el N f (i + 4) a4) (E5 : k_el N f (i + 5) a5) (hLS : k_LS h) {P : k_H → Prop} (K : q_26 X.l h a1 a2 a3 a4 a5 P)
    (kk : ∀ (ad' : Nat → Nat) (h' : k_H), P h' → k_LS h' → k_sm 0 ad ad' → k_C X cL_law_ RL 8 ad' → k_W X 8 (cells + 85) (slots + 714) Q ad' h' 2307 [some (.ref 5000000), some (.ref 0), some (.ref 70), some (.ref 102), some (.int i), none, none, none] []) : k_W X 8 cells slots Q ad h 1749 [some (.ref 5000000), some (.ref 0), some (.ref 70), some (.ref 102), some (.int i), none, none, none] [] := by
  refine r_aload_n C dL_law__1749 (rfl : 1749 + 1 = 1750) rfl ?_
  refine r_aload_n C dL_law__1750 (rfl : 1750 + 1 = 1751) rfl ?_
  refine r_iload C dL_law__1751 (rfl : 1751 + 2 = 1753) rfl ?_
  refine r_iconst (v := (1 : Int32)) C dL_law__1753 (rfl : 1753 + 1 = 1754) rfl ?_
  refine r_iadd C dL_law__1754 (rfl : 1754 + 1 = 1755) ?_
  refine r_argV C hA dL_law__1755 (rfl : 1755 + 1 = 1756) E1 ?_
  refine r_aload_n C dL_law__1756 (rfl : 1756 + 1 = 1757) rfl ?_
  refine r_iload C dL_law__1757 (rfl : 1757 + 2 = 1759) rfl ?_
  refine r_iconst (v := (2 : Int32)) C dL_law__1759 (rfl : 1759 + 1 = 1760) rfl ?_
  refine r_iadd C dL_law__1760 (rfl : 1760 + 1 = 1761) ?_
  refine r_argV C hA dL_law__1761 (rfl : 1761 + 1 = 1762) E2 ?_
  refine r_aload_n C dL_law__1762 (rfl : 1762 + 1 = 1763) rfl ?_
  refine r_iload C dL_law__1763 (rfl : 1763 + 2 = 1765) rfl ?_
  refine r_iconst (v := (3 : Int32)) C dL_law__1765 (rfl : 1765 + 1 = 1766) rfl ?_
  refine r_iadd C dL_law__1766 (rfl : 1766 + 1 = 1767) ?_
  refine r_argV C hA dL_law__1767 (rfl : 1767 + 1 = 1768) E3 ?_
  refine r_aload_n C dL_law__1768 (rfl : 1768 + 1 = 1769) rfl ?_
  obtain ⟨mc, ms, Rr, Rx, hmc, hms, K1, hr, hx⟩ := K
  refine c_SH (As := [.ref 0, .int a1, .int a2, .int a3, .ref 102]) (st := []) C hR ⟨by omega, by omega⟩ mh_L_owners (k_me (tm6 (List.mem_of_getElem? (i := 131) rfl)) rfl) dL_law__1769 (rfl : 1769 + 3 = 1772) rfl rfl (c_L_owners X.l h K1 hLS.1 hLS.2.1 (fun v h1 z => by obtain ⟨y, b, h3, h4, h5, h6⟩ := hr v h1 z; exact ⟨⟨y, h4⟩, h5.2.1⟩) (fun E h1 z => by obtain ⟨b, t, h3, h4, h5, h6⟩ := hx E h1 z; exact h5.1)) rfl rfl rfl ⟨Or.inr (by decide), k_okv_of hLS.1, Or.inl (k_is70 hLS), k_okv_of hLS.2.1, True.intro, True.intro⟩ True.intro ?_
  intro v ad1 h9 hres hsm C1
  have hA1 := k_argS hsm (by decide : 1000000 ≤ 5000000) hA
  have hs0 : k_sm 0 ad ad1 := fun p hp => hsm p (hp.elim (fun z => absurd z (Nat.not_lt_zero p)) Or.inr)
  rcases hres with ⟨y, h1, hz, rfl, rfl⟩ | ⟨E, h1, hz, rfl, rfl⟩
  · obtain ⟨y1, b, h3, hv1, hL1, K2, ho, hP⟩ := hr _ h1 hz
    cases hv1
    change k_W X _ _ _ _ ad1 _ _ _ [.int (0 : Int32)]
    refine r_istore C1 dL_law__1772 (rfl : 1772 + 2 = 1774) (by decide) (Nat.le_of_ble_eq_true rfl) ?_
    show k_W X _ _ _ _ _ _ _ [some (.ref 5000000), some (.ref 0), some (.ref 70), some (.ref 102), some (.int i), some (.int (0 : Int32)), none, none] _
    exact s_t26 C1 hR ⟨by omega, by omega⟩ hA1 E1 E2 E3 E4 E5 (k_LS_out hL1) K2 (fun _ => ho) (fun hL => k_Wup (by omega) (by omega) (kk ad1 _ hP hL hs0 C1))
  · obtain ⟨b, t, h3, hL1, ⟨-, rfl⟩, K2, hP⟩ := hx E _ hz
    change k_W X _ _ _ _ ad1 _ _ _ [.int (1 : Int32)]
    refine r_istore C1 dL_law__1772 (rfl : 1772 + 2 = 1774) (by decide) (Nat.le_of_ble_eq_true rfl) ?_
    show k_W X _ _ _ _ _ _ _ [some (.ref 5000000), some (.ref 0), some (.ref 70), some (.ref 102), some (.int i), some (.int (1 : Int32)), none, none] _
    exact s_t26 C1 hR ⟨by omega, by omega⟩ hA1 E1 E2 E3 E4 E5 hL1 K2 (fun z => absurd z (by decide)) (fun hL => k_Wup (by omega) (by omega) (kk ad1 _ hP hL hs0 C1))
set_option maxRecDepth 20000 in
theorem s_t27 {X : k_X} {cells slots N : Nat} {Q : State → Prop} {ad : Nat → Nat} {h : k_H} {i a1 a2 a3 a4 a5 : Int32} {f : Nat → Int32} (C : k_C X cL_law_ RL 8 ad) (hR : X.R.frames = 2048 ∧ X.R.locals = 84000) (hcs : cells ≤ X.R.cells ∧ slots ≤ X.R.slots) (hA : va_T .int (ad 5000000) N (fun j => .int (f j)) X.A X.s X.s.heap) (E1 : k_el N f (i + 1) a1) (E2 : k_el N f (i + 2) a2) (E3 : k_el N f (i + 3) a3) (E4 : k_el N f (i + 4) a4) (E5 : k_el N f (i + 5) a5) (hLS : k_LS h) {h3 : k_H} {b : Int32} {t : Int32} (K : k_MR X.l yX11_face cX11_face 7 (some .int) 1 23 [.int a1, .int a2] h (.int b) t h3) (hv : t = 0 → h3.2.2.1 102 0 = b.toInt64) (kk : k_LS h3 → k_W X 8 cells slots Q ad h3 2307 [some (.ref 5000000), some (.ref 0), some (.ref 70), some (.ref 102), some (.int i), none, none, none] []) : k_W X 8 cells slots Q ad h 1848 [some (.ref 5000000), some (.ref 0), some (.ref 70), some (.ref 102), some (.int i), some (.int t), none, none] [] := by
  refine r_aload_n C dL_law__1848 (rfl : 1848 + 1 = 1849) rfl ?_
  refine r_aload_n C dL_law__1849 (rfl : 1849 + 1 = 1850) rfl ?_
  refine r_iload C dL_law__1850 (rfl : 1850 + 2 = 1852) rfl ?_
  refine r_iconst (v := (1 : Int32)) C dL_law__1852 (rfl : 1852 + 1 = 1853) rfl ?_
  refine r_iadd C dL_law__1853 (rfl : 1853 + 1 = 1854) ?_
  refine r_argV C hA dL_law__1854 (rfl : 1854 + 1 = 1855) E1 ?_
  refine r_aload_n C dL_law__1855 (rfl : 1855 + 1 = 1856) rfl ?_
  refine r_iload C dL_law__1856 (rfl : 1856 + 2 = 1858) rfl ?_
  refine r_iconst (v := (2 : Int32)) C dL_law__1858 (rfl : 1858 + 1 = 1859) rfl ?_
  refine r_iadd C dL_law__1859 (rfl : 1859 + 1 = 1860) ?_
  refine r_argV C hA dL_law__1860 (rfl : 1860 + 1 = 1861) E2 ?_
  refine c_MR C hR ⟨by omega, by omega⟩ hLS K mv_X11_face lk_L_207 dL_law__1861 (rfl : 1861 + 3 = 1864) rfl rfl rfl (fun _ => rfl) (fun _ => rfl) rfl rfl rfl ?_
  have hL3 := k_MR_LS K hLS
  obtain ⟨-, -, -, -, ht⟩ := K
  refine r_istore C dL_law__1864 (rfl : 1864 + 2 = 1866) (by decide) (Nat.le_of_ble_eq_true rfl) ?_
  show k_W X _ _ _ _ _ _ _ [some (.ref 5000000), some (.ref 0), some (.ref 70), some (.ref 102), some (.int i), some (.int t), some (.int b), none] _
  refine r_aload_n C dL_law__1866 (rfl : 1866 + 1 = 1867) rfl ?_
  refine c_Vp (pi := piM) (shl := shM) (bl := 0) (b := 70) (As := []) (Al := []) (v := some (.int t)) (us := []) (T := TX11) (N := 66) C hR ⟨by omega, by omega⟩ mv_X11_thrown lk_L_121 dL_law__1867 (rfl : 1867 + 3 = 1870) rfl rfl hL3.2.2.1 rfl rfl (k_thr ht) rfl (fun _ => rfl) rfl (fun _ => rfl) rfl rfl rfl ?_
  change k_W X _ _ _ _ ad h3 _ _ [.int t]
  refine r_iload C dL_law__1870 (rfl : 1870 + 2 = 1872) rfl ?_
  refine r_icmp_eq (tgt := 1877) C dL_law__1872 (by decide) (rfl : 1872 + 3 = 1875) (fun _ => ?_) (fun z => absurd rfl z)
  refine r_iload C dL_law__1877 (rfl : 1877 + 2 = 1879) rfl ?_
  refine r_if_ne (tgt := 1894) C dL_law__1879 (by decide) (rfl : 1879 + 3 = 1882) (fun _ => ?_) (fun z => ?_)
  · refine r_goto (tgt := 2307) C dL_law__1894 (by decide) ?_
    exact k_mask [true, true, true, true, true, false, false, false] (kk hL3)
  · refine r_aload_n C dL_law__1882 (rfl : 1882 + 1 = 1883) rfl ?_
    refine r_iconst (v := (0 : Int32)) C dL_law__1883 (rfl : 1883 + 1 = 1884) rfl ?_
    refine r_lald (f := h3.2.2.1 102) C dL_law__1884 (rfl : 1884 + 1 = 1885) hL3.2.1 rfl (show ¬ ((0 : Int32) < 0 ∨ 1 ≤ (0 : Int32).toNatClampNeg) by decide) ?_
    refine r_iload C dL_law__1885 (rfl : 1885 + 2 = 1887) rfl ?_
    refine r_i2l C dL_law__1887 (rfl : 1887 + 1 = 1888) ?_
    refine r_lcmp C dL_law__1888 (rfl : 1888 + 1 = 1889) ?_
    refine r_if_eq (tgt := 1894) C dL_law__1889 (by decide) (rfl : 1889 + 3 = 1892) (fun _ => ?_) (fun z9 => absurd (by rw [show h3.2.2.1 102 (0 : Int32).toNatClampNeg = b.toInt64 from hv z]; exact k_cmps _) z9)
    refine r_goto (tgt := 2307) C dL_law__1894 (by decide) ?_
    exact k_mask [true, true, true, true, true, false, false, false] (kk hL3)
def q_27 (l : Launch) (h : k_H) (a1 a2 a3 a4 a5 : Int32) (P : k_H → Prop) : Prop :=
  ∃ (mc ms : Nat) (Rr : Option Value → k_H → Prop) (Rx : String → k_H → Prop), mc ≤ 85 ∧ ms ≤ 714 ∧ k_CX l yX10_face cX10_face 3 (some .int) 7 111 mc ms [.ref 0, .int a1, .int a2] h Rr Rx ∧ (∀ v h1, Rr v h1 → ∃ (y : Int32) (b : Int32) (h3 : k_H), v = some (.int y) ∧ k_LS h1 ∧ k_MR l yX11_face cX11_face 7 (some .int) 1 23 [.int a1, .int a2] (k_out y.toInt64 h1) (.int b) 0 h3 ∧ h3.2.2.1 102 0 = b.toInt64 ∧ P h3) ∧
    (∀ E h1, Rx E h1 → ∃ (b : Int32) (t : Int32) (h3 : k_H), k_LS h1 ∧ (E = k_IAE ∧ t = 1) ∧ k_MR l yX11_face cX11_face 7 (some .int) 1 23 [.int a1, .int a2] h1 (.int b) t h3 ∧ P h3)
set_option maxRecDepth 20000 in
theorem s_k27 {X : k_X} {cells slots N : Nat} {Q : State → Prop} {ad : Nat → Nat} {h : k_H} {i a1 a2 a3 a4 a5 : Int32} {f : Nat → Int32} (C : k_C X cL_law_ RL 8 ad) (hR : X.R.frames = 2048 ∧ X.R.locals = 84000) (hcs : cells + 85 ≤ X.R.cells ∧ slots + 714 ≤ X.R.slots) (hA : va_T .int (ad 5000000) N (fun j => .int (f j)) X.A X.s X.s.heap) (E1 : k_el N f (i + 1) a1) (E2 : k_el N f (i + 2) a2) (E3 : k_el N f (i + 3) a3) (E4 : k_el N f (i + 4) a4) (E5 : k_el N f (i + 5) a5) (hLS : k_LS h) {P : k_H → Prop} (K : q_27 X.l h a1 a2 a3 a4 a5 P)
    (kk : ∀ (ad' : Nat → Nat) (h' : k_H), P h' → k_LS h' → k_sm 0 ad ad' → k_C X cL_law_ RL 8 ad' → k_W X 8 (cells + 85) (slots + 714) Q ad' h' 2307 [some (.ref 5000000), some (.ref 0), some (.ref 70), some (.ref 102), some (.int i), none, none, none] []) : k_W X 8 cells slots Q ad h 1829 [some (.ref 5000000), some (.ref 0), some (.ref 70), some (.ref 102), some (.int i), none, none, none] [] := by
  refine r_aload_n C dL_law__1829 (rfl : 1829 + 1 = 1830) rfl ?_
  refine r_aload_n C dL_law__1830 (rfl : 1830 + 1 = 1831) rfl ?_
  refine r_iload C dL_law__1831 (rfl : 1831 + 2 = 1833) rfl ?_
  refine r_iconst (v := (1 : Int32)) C dL_law__1833 (rfl : 1833 + 1 = 1834) rfl ?_
  refine r_iadd C dL_law__1834 (rfl : 1834 + 1 = 1835) ?_
  refine r_argV C hA dL_law__1835 (rfl : 1835 + 1 = 1836) E1 ?_
  refine r_aload_n C dL_law__1836 (rfl : 1836 + 1 = 1837) rfl ?_
  refine r_iload C dL_law__1837 (rfl : 1837 + 2 = 1839) rfl ?_
  refine r_iconst (v := (2 : Int32)) C dL_law__1839 (rfl : 1839 + 1 = 1840) rfl ?_
  refine r_iadd C dL_law__1840 (rfl : 1840 + 1 = 1841) ?_
  refine r_argV C hA dL_law__1841 (rfl : 1841 + 1 = 1842) E2 ?_
  refine r_aload_n C dL_law__1842 (rfl : 1842 + 1 = 1843) rfl ?_
  obtain ⟨mc, ms, Rr, Rx, hmc, hms, K1, hr, hx⟩ := K
  refine c_SH (As := [.ref 0, .int a1, .int a2, .ref 102]) (st := []) C hR ⟨by omega, by omega⟩ mh_L_face (k_me (tm6 (List.mem_of_getElem? (i := 151) rfl)) rfl) dL_law__1843 (rfl : 1843 + 3 = 1846) rfl rfl (c_L_face X.l h K1 hLS.1 hLS.2.1 (fun v h1 z => by obtain ⟨y, b, h3, h4, h5, h6⟩ := hr v h1 z; exact ⟨⟨y, h4⟩, h5.2.1⟩) (fun E h1 z => by obtain ⟨b, t, h3, h4, h5, h6⟩ := hx E h1 z; exact h5.1)) rfl rfl rfl ⟨Or.inr (by decide), k_okv_of hLS.1, Or.inl (k_is70 hLS), k_okv_of hLS.2.1, True.intro, True.intro⟩ True.intro ?_
  intro v ad1 h9 hres hsm C1
  have hA1 := k_argS hsm (by decide : 1000000 ≤ 5000000) hA
  have hs0 : k_sm 0 ad ad1 := fun p hp => hsm p (hp.elim (fun z => absurd z (Nat.not_lt_zero p)) Or.inr)
  rcases hres with ⟨y, h1, hz, rfl, rfl⟩ | ⟨E, h1, hz, rfl, rfl⟩
  · obtain ⟨y1, b, h3, hv1, hL1, K2, ho, hP⟩ := hr _ h1 hz
    cases hv1
    change k_W X _ _ _ _ ad1 _ _ _ [.int (0 : Int32)]
    refine r_istore C1 dL_law__1846 (rfl : 1846 + 2 = 1848) (by decide) (Nat.le_of_ble_eq_true rfl) ?_
    show k_W X _ _ _ _ _ _ _ [some (.ref 5000000), some (.ref 0), some (.ref 70), some (.ref 102), some (.int i), some (.int (0 : Int32)), none, none] _
    exact s_t27 C1 hR ⟨by omega, by omega⟩ hA1 E1 E2 E3 E4 E5 (k_LS_out hL1) K2 (fun _ => ho) (fun hL => k_Wup (by omega) (by omega) (kk ad1 _ hP hL hs0 C1))
  · obtain ⟨b, t, h3, hL1, ⟨-, rfl⟩, K2, hP⟩ := hx E _ hz
    change k_W X _ _ _ _ ad1 _ _ _ [.int (1 : Int32)]
    refine r_istore C1 dL_law__1846 (rfl : 1846 + 2 = 1848) (by decide) (Nat.le_of_ble_eq_true rfl) ?_
    show k_W X _ _ _ _ _ _ _ [some (.ref 5000000), some (.ref 0), some (.ref 70), some (.ref 102), some (.int i), some (.int (1 : Int32)), none, none] _
    exact s_t27 C1 hR ⟨by omega, by omega⟩ hA1 E1 E2 E3 E4 E5 hL1 K2 (fun z => absurd z (by decide)) (fun hL => k_Wup (by omega) (by omega) (kk ad1 _ hP hL hs0 C1))
def q_28 (l : Launch) (h : k_H) (a1 a2 a3 a4 a5 : Int32) (P : k_H → Prop) : Prop :=
  ∃ (y t : Int32) (us : List k_U) (h3 : k_H), k_CT l yX10_level cX10_level 1 (some .int) 3 67 [.ref 0] h (some (.int y)) us ∧ k_MR l yX11_level cX11_level 6 (some .int) 2 44 [] (k_ap us h) (.int y) t h3 ∧ P h3
set_option maxRecDepth 20000 in
theorem s_k28 {X : k_X} {cells slots N : Nat} {Q : State → Prop} {ad : Nat → Nat} {h : k_H} {i a1 a2 a3 a4 a5 : Int32} {f : Nat → Int32} (C : k_C X cL_law_ RL 8 ad) (hR : X.R.frames = 2048 ∧ X.R.locals = 84000) (hcs : cells + 85 ≤ X.R.cells ∧ slots + 714 ≤ X.R.slots) (hA : va_T .int (ad 5000000) N (fun j => .int (f j)) X.A X.s X.s.heap) (E1 : k_el N f (i + 1) a1) (E2 : k_el N f (i + 2) a2) (E3 : k_el N f (i + 3) a3) (E4 : k_el N f (i + 4) a4) (E5 : k_el N f (i + 5) a5) (hLS : k_LS h) {P : k_H → Prop} (K : q_28 X.l h a1 a2 a3 a4 a5 P)
    (kk : ∀ (ad' : Nat → Nat) (h' : k_H), P h' → k_LS h' → k_sm 0 ad ad' → k_C X cL_law_ RL 8 ad' → k_W X 8 (cells + 85) (slots + 714) Q ad' h' 2307 [some (.ref 5000000), some (.ref 0), some (.ref 70), some (.ref 102), some (.int i), none, none, none] []) : k_W X 8 cells slots Q ad h 1897 [some (.ref 5000000), some (.ref 0), some (.ref 70), some (.ref 102), some (.int i), none, none, none] [] := by
  refine r_aload_n C dL_law__1897 (rfl : 1897 + 1 = 1898) rfl ?_
  obtain ⟨y, t, us, h3, K1, K2, hP⟩ := K
  refine c_V (As := []) (st := []) (b := 0) C hR ⟨by omega, by omega⟩ mv_X10_level lk_L_208 dL_law__1898 (rfl : 1898 + 3 = 1901) rfl rfl hLS.1 rfl K1 rfl rfl rfl ?_
  have hL1 : k_LS (k_ap us h) := by unfold k_LS; rw [k_ap_sh]; exact hLS
  change k_W X _ _ _ _ ad _ _ _ [.int y]
  refine r_aload_n C dL_law__1901 (rfl : 1901 + 1 = 1902) rfl ?_
  refine c_MR C hR ⟨by omega, by omega⟩ hL1 K2 mv_X11_level lk_L_211 dL_law__1902 (rfl : 1902 + 3 = 1905) rfl rfl rfl (fun _ => rfl) (fun _ => rfl) rfl rfl rfl ?_
  have hL3 := k_MR_LS K2 hL1
  refine r_icmp_eq (tgt := 2307) C dL_law__1905 (by decide) (rfl : 1905 + 3 = 1908) (fun _ => ?_) (fun z => absurd rfl z)
  exact k_Wup (by omega) (by omega) (kk ad _ hP hL3 (fun _ _ => rfl) C)
def q_29 (l : Launch) (h : k_H) (a1 a2 a3 a4 a5 : Int32) (P : k_H → Prop) : Prop :=
  ∃ (y t : Int32) (us : List k_U) (h3 : k_H), k_CT l yX10_pick cX10_pick 1 (some .int) 4 86 [.ref 0] h (some (.int y)) us ∧ k_MR l yX11_pick cX11_pick 1 (some .int) 5 110 [] (k_ap us h) (.int y) t h3 ∧ P h3
set_option maxRecDepth 20000 in
theorem s_k29 {X : k_X} {cells slots N : Nat} {Q : State → Prop} {ad : Nat → Nat} {h : k_H} {i a1 a2 a3 a4 a5 : Int32} {f : Nat → Int32} (C : k_C X cL_law_ RL 8 ad) (hR : X.R.frames = 2048 ∧ X.R.locals = 84000) (hcs : cells + 85 ≤ X.R.cells ∧ slots + 714 ≤ X.R.slots) (hA : va_T .int (ad 5000000) N (fun j => .int (f j)) X.A X.s X.s.heap) (E1 : k_el N f (i + 1) a1) (E2 : k_el N f (i + 2) a2) (E3 : k_el N f (i + 3) a3) (E4 : k_el N f (i + 4) a4) (E5 : k_el N f (i + 5) a5) (hLS : k_LS h) {P : k_H → Prop} (K : q_29 X.l h a1 a2 a3 a4 a5 P)
    (kk : ∀ (ad' : Nat → Nat) (h' : k_H), P h' → k_LS h' → k_sm 0 ad ad' → k_C X cL_law_ RL 8 ad' → k_W X 8 (cells + 85) (slots + 714) Q ad' h' 2307 [some (.ref 5000000), some (.ref 0), some (.ref 70), some (.ref 102), some (.int i), none, none, none] []) : k_W X 8 cells slots Q ad h 1910 [some (.ref 5000000), some (.ref 0), some (.ref 70), some (.ref 102), some (.int i), none, none, none] [] := by
  refine r_aload_n C dL_law__1910 (rfl : 1910 + 1 = 1911) rfl ?_
  obtain ⟨y, t, us, h3, K1, K2, hP⟩ := K
  refine c_V (As := []) (st := []) (b := 0) C hR ⟨by omega, by omega⟩ mv_X10_pick lk_L_212 dL_law__1911 (rfl : 1911 + 3 = 1914) rfl rfl hLS.1 rfl K1 rfl rfl rfl ?_
  have hL1 : k_LS (k_ap us h) := by unfold k_LS; rw [k_ap_sh]; exact hLS
  change k_W X _ _ _ _ ad _ _ _ [.int y]
  refine r_aload_n C dL_law__1914 (rfl : 1914 + 1 = 1915) rfl ?_
  refine c_MR C hR ⟨by omega, by omega⟩ hL1 K2 mv_X11_pick lk_L_215 dL_law__1915 (rfl : 1915 + 3 = 1918) rfl rfl rfl (fun _ => rfl) (fun _ => rfl) rfl rfl rfl ?_
  have hL3 := k_MR_LS K2 hL1
  refine r_icmp_eq (tgt := 2307) C dL_law__1918 (by decide) (rfl : 1918 + 3 = 1921) (fun _ => ?_) (fun z => absurd rfl z)
  exact k_Wup (by omega) (by omega) (kk ad _ hP hL3 (fun _ _ => rfl) C)
set_option maxRecDepth 20000 in
theorem s_t30 {X : k_X} {cells slots N : Nat} {Q : State → Prop} {ad : Nat → Nat} {h : k_H} {i a1 a2 a3 a4 a5 : Int32} {f : Nat → Int32} (C : k_C X cL_law_ RL 8 ad) (hR : X.R.frames = 2048 ∧ X.R.locals = 84000) (hcs : cells ≤ X.R.cells ∧ slots ≤ X.R.slots) (hA : va_T .int (ad 5000000) N (fun j => .int (f j)) X.A X.s X.s.heap) (E1 : k_el N f (i + 1) a1) (E2 : k_el N f (i + 2) a2) (E3 : k_el N f (i + 3) a3) (E4 : k_el N f (i + 4) a4) (E5 : k_el N f (i + 5) a5) (hLS : k_LS h) {h3 : k_H} {b : Int32} {t : Int32} (K : k_MR X.l yX11_decade cX11_decade 5 (some .int) 7 158 [.int a1, .int a2, .int a3, .int a4] h (.int b) t h3) (hv : t = 0 → h3.2.2.1 102 0 = b.toInt64) (kk : k_LS h3 → k_W X 8 cells slots Q ad h3 2307 [some (.ref 5000000), some (.ref 0), some (.ref 70), some (.ref 102), some (.int i), none, none, none] []) : k_W X 8 cells slots Q ad h 1954 [some (.ref 5000000), some (.ref 0), some (.ref 70), some (.ref 102), some (.int i), some (.int t), none, none] [] := by
  refine r_aload_n C dL_law__1954 (rfl : 1954 + 1 = 1955) rfl ?_
  refine r_aload_n C dL_law__1955 (rfl : 1955 + 1 = 1956) rfl ?_
  refine r_iload C dL_law__1956 (rfl : 1956 + 2 = 1958) rfl ?_
  refine r_iconst (v := (1 : Int32)) C dL_law__1958 (rfl : 1958 + 1 = 1959) rfl ?_
  refine r_iadd C dL_law__1959 (rfl : 1959 + 1 = 1960) ?_
  refine r_argV C hA dL_law__1960 (rfl : 1960 + 1 = 1961) E1 ?_
  refine r_aload_n C dL_law__1961 (rfl : 1961 + 1 = 1962) rfl ?_
  refine r_iload C dL_law__1962 (rfl : 1962 + 2 = 1964) rfl ?_
  refine r_iconst (v := (2 : Int32)) C dL_law__1964 (rfl : 1964 + 1 = 1965) rfl ?_
  refine r_iadd C dL_law__1965 (rfl : 1965 + 1 = 1966) ?_
  refine r_argV C hA dL_law__1966 (rfl : 1966 + 1 = 1967) E2 ?_
  refine r_aload_n C dL_law__1967 (rfl : 1967 + 1 = 1968) rfl ?_
  refine r_iload C dL_law__1968 (rfl : 1968 + 2 = 1970) rfl ?_
  refine r_iconst (v := (3 : Int32)) C dL_law__1970 (rfl : 1970 + 1 = 1971) rfl ?_
  refine r_iadd C dL_law__1971 (rfl : 1971 + 1 = 1972) ?_
  refine r_argV C hA dL_law__1972 (rfl : 1972 + 1 = 1973) E3 ?_
  refine r_aload_n C dL_law__1973 (rfl : 1973 + 1 = 1974) rfl ?_
  refine r_iload C dL_law__1974 (rfl : 1974 + 2 = 1976) rfl ?_
  refine r_iconst (v := (4 : Int32)) C dL_law__1976 (rfl : 1976 + 1 = 1977) rfl ?_
  refine r_iadd C dL_law__1977 (rfl : 1977 + 1 = 1978) ?_
  refine r_argV C hA dL_law__1978 (rfl : 1978 + 1 = 1979) E4 ?_
  refine c_MR C hR ⟨by omega, by omega⟩ hLS K mv_X11_decade lk_L_219 dL_law__1979 (rfl : 1979 + 3 = 1982) rfl rfl rfl (fun _ => rfl) (fun _ => rfl) rfl rfl rfl ?_
  have hL3 := k_MR_LS K hLS
  obtain ⟨-, -, -, -, ht⟩ := K
  refine r_istore C dL_law__1982 (rfl : 1982 + 2 = 1984) (by decide) (Nat.le_of_ble_eq_true rfl) ?_
  show k_W X _ _ _ _ _ _ _ [some (.ref 5000000), some (.ref 0), some (.ref 70), some (.ref 102), some (.int i), some (.int t), some (.int b), none] _
  refine r_aload_n C dL_law__1984 (rfl : 1984 + 1 = 1985) rfl ?_
  refine c_Vp (pi := piM) (shl := shM) (bl := 0) (b := 70) (As := []) (Al := []) (v := some (.int t)) (us := []) (T := TX11) (N := 66) C hR ⟨by omega, by omega⟩ mv_X11_thrown lk_L_121 dL_law__1985 (rfl : 1985 + 3 = 1988) rfl rfl hL3.2.2.1 rfl rfl (k_thr ht) rfl (fun _ => rfl) rfl (fun _ => rfl) rfl rfl rfl ?_
  change k_W X _ _ _ _ ad h3 _ _ [.int t]
  refine r_iload C dL_law__1988 (rfl : 1988 + 2 = 1990) rfl ?_
  refine r_icmp_eq (tgt := 1995) C dL_law__1990 (by decide) (rfl : 1990 + 3 = 1993) (fun _ => ?_) (fun z => absurd rfl z)
  refine r_iload C dL_law__1995 (rfl : 1995 + 2 = 1997) rfl ?_
  refine r_if_ne (tgt := 2012) C dL_law__1997 (by decide) (rfl : 1997 + 3 = 2000) (fun _ => ?_) (fun z => ?_)
  · refine r_goto (tgt := 2307) C dL_law__2012 (by decide) ?_
    exact k_mask [true, true, true, true, true, false, false, false] (kk hL3)
  · refine r_aload_n C dL_law__2000 (rfl : 2000 + 1 = 2001) rfl ?_
    refine r_iconst (v := (0 : Int32)) C dL_law__2001 (rfl : 2001 + 1 = 2002) rfl ?_
    refine r_lald (f := h3.2.2.1 102) C dL_law__2002 (rfl : 2002 + 1 = 2003) hL3.2.1 rfl (show ¬ ((0 : Int32) < 0 ∨ 1 ≤ (0 : Int32).toNatClampNeg) by decide) ?_
    refine r_iload C dL_law__2003 (rfl : 2003 + 2 = 2005) rfl ?_
    refine r_i2l C dL_law__2005 (rfl : 2005 + 1 = 2006) ?_
    refine r_lcmp C dL_law__2006 (rfl : 2006 + 1 = 2007) ?_
    refine r_if_eq (tgt := 2012) C dL_law__2007 (by decide) (rfl : 2007 + 3 = 2010) (fun _ => ?_) (fun z9 => absurd (by rw [show h3.2.2.1 102 (0 : Int32).toNatClampNeg = b.toInt64 from hv z]; exact k_cmps _) z9)
    refine r_goto (tgt := 2307) C dL_law__2012 (by decide) ?_
    exact k_mask [true, true, true, true, true, false, false, false] (kk hL3)
def q_30 (l : Launch) (h : k_H) (a1 a2 a3 a4 a5 : Int32) (P : k_H → Prop) : Prop :=
  ∃ (mc ms : Nat) (Rr : Option Value → k_H → Prop) (Rx : String → k_H → Prop), mc ≤ 85 ∧ ms ≤ 714 ∧ k_CX l yX10_decade cX10_decade 5 (some .int) 7 170 mc ms [.ref 0, .int a1, .int a2, .int a3, .int a4] h Rr Rx ∧ (∀ v h1, Rr v h1 → ∃ (y : Int32) (b : Int32) (h3 : k_H), v = some (.int y) ∧ k_LS h1 ∧ k_MR l yX11_decade cX11_decade 5 (some .int) 7 158 [.int a1, .int a2, .int a3, .int a4] (k_out y.toInt64 h1) (.int b) 0 h3 ∧ h3.2.2.1 102 0 = b.toInt64 ∧ P h3) ∧
    (∀ E h1, Rx E h1 → ∃ (b : Int32) (t : Int32) (h3 : k_H), k_LS h1 ∧ (E = k_IAE ∧ t = 1) ∧ k_MR l yX11_decade cX11_decade 5 (some .int) 7 158 [.int a1, .int a2, .int a3, .int a4] h1 (.int b) t h3 ∧ P h3)
set_option maxRecDepth 20000 in
theorem s_k30 {X : k_X} {cells slots N : Nat} {Q : State → Prop} {ad : Nat → Nat} {h : k_H} {i a1 a2 a3 a4 a5 : Int32} {f : Nat → Int32} (C : k_C X cL_law_ RL 8 ad) (hR : X.R.frames = 2048 ∧ X.R.locals = 84000) (hcs : cells + 85 ≤ X.R.cells ∧ slots + 714 ≤ X.R.slots) (hA : va_T .int (ad 5000000) N (fun j => .int (f j)) X.A X.s X.s.heap) (E1 : k_el N f (i + 1) a1) (E2 : k_el N f (i + 2) a2) (E3 : k_el N f (i + 3) a3) (E4 : k_el N f (i + 4) a4) (E5 : k_el N f (i + 5) a5) (hLS : k_LS h) {P : k_H → Prop} (K : q_30 X.l h a1 a2 a3 a4 a5 P)
    (kk : ∀ (ad' : Nat → Nat) (h' : k_H), P h' → k_LS h' → k_sm 0 ad ad' → k_C X cL_law_ RL 8 ad' → k_W X 8 (cells + 85) (slots + 714) Q ad' h' 2307 [some (.ref 5000000), some (.ref 0), some (.ref 70), some (.ref 102), some (.int i), none, none, none] []) : k_W X 8 cells slots Q ad h 1923 [some (.ref 5000000), some (.ref 0), some (.ref 70), some (.ref 102), some (.int i), none, none, none] [] := by
  refine r_aload_n C dL_law__1923 (rfl : 1923 + 1 = 1924) rfl ?_
  refine r_aload_n C dL_law__1924 (rfl : 1924 + 1 = 1925) rfl ?_
  refine r_iload C dL_law__1925 (rfl : 1925 + 2 = 1927) rfl ?_
  refine r_iconst (v := (1 : Int32)) C dL_law__1927 (rfl : 1927 + 1 = 1928) rfl ?_
  refine r_iadd C dL_law__1928 (rfl : 1928 + 1 = 1929) ?_
  refine r_argV C hA dL_law__1929 (rfl : 1929 + 1 = 1930) E1 ?_
  refine r_aload_n C dL_law__1930 (rfl : 1930 + 1 = 1931) rfl ?_
  refine r_iload C dL_law__1931 (rfl : 1931 + 2 = 1933) rfl ?_
  refine r_iconst (v := (2 : Int32)) C dL_law__1933 (rfl : 1933 + 1 = 1934) rfl ?_
  refine r_iadd C dL_law__1934 (rfl : 1934 + 1 = 1935) ?_
  refine r_argV C hA dL_law__1935 (rfl : 1935 + 1 = 1936) E2 ?_
  refine r_aload_n C dL_law__1936 (rfl : 1936 + 1 = 1937) rfl ?_
  refine r_iload C dL_law__1937 (rfl : 1937 + 2 = 1939) rfl ?_
  refine r_iconst (v := (3 : Int32)) C dL_law__1939 (rfl : 1939 + 1 = 1940) rfl ?_
  refine r_iadd C dL_law__1940 (rfl : 1940 + 1 = 1941) ?_
  refine r_argV C hA dL_law__1941 (rfl : 1941 + 1 = 1942) E3 ?_
  refine r_aload_n C dL_law__1942 (rfl : 1942 + 1 = 1943) rfl ?_
  refine r_iload C dL_law__1943 (rfl : 1943 + 2 = 1945) rfl ?_
  refine r_iconst (v := (4 : Int32)) C dL_law__1945 (rfl : 1945 + 1 = 1946) rfl ?_
  refine r_iadd C dL_law__1946 (rfl : 1946 + 1 = 1947) ?_
  refine r_argV C hA dL_law__1947 (rfl : 1947 + 1 = 1948) E4 ?_
  refine r_aload_n C dL_law__1948 (rfl : 1948 + 1 = 1949) rfl ?_
  obtain ⟨mc, ms, Rr, Rx, hmc, hms, K1, hr, hx⟩ := K
  refine c_SH (As := [.ref 0, .int a1, .int a2, .int a3, .int a4, .ref 102]) (st := []) C hR ⟨by omega, by omega⟩ mh_L_decade (k_me (tm6 (List.mem_of_getElem? (i := 162) rfl)) rfl) dL_law__1949 (rfl : 1949 + 3 = 1952) rfl rfl (c_L_decade X.l h K1 hLS.1 hLS.2.1 (fun v h1 z => by obtain ⟨y, b, h3, h4, h5, h6⟩ := hr v h1 z; exact ⟨⟨y, h4⟩, h5.2.1⟩) (fun E h1 z => by obtain ⟨b, t, h3, h4, h5, h6⟩ := hx E h1 z; exact h5.1)) rfl rfl rfl ⟨Or.inr (by decide), k_okv_of hLS.1, Or.inl (k_is70 hLS), k_okv_of hLS.2.1, True.intro, True.intro⟩ True.intro ?_
  intro v ad1 h9 hres hsm C1
  have hA1 := k_argS hsm (by decide : 1000000 ≤ 5000000) hA
  have hs0 : k_sm 0 ad ad1 := fun p hp => hsm p (hp.elim (fun z => absurd z (Nat.not_lt_zero p)) Or.inr)
  rcases hres with ⟨y, h1, hz, rfl, rfl⟩ | ⟨E, h1, hz, rfl, rfl⟩
  · obtain ⟨y1, b, h3, hv1, hL1, K2, ho, hP⟩ := hr _ h1 hz
    cases hv1
    change k_W X _ _ _ _ ad1 _ _ _ [.int (0 : Int32)]
    refine r_istore C1 dL_law__1952 (rfl : 1952 + 2 = 1954) (by decide) (Nat.le_of_ble_eq_true rfl) ?_
    show k_W X _ _ _ _ _ _ _ [some (.ref 5000000), some (.ref 0), some (.ref 70), some (.ref 102), some (.int i), some (.int (0 : Int32)), none, none] _
    exact s_t30 C1 hR ⟨by omega, by omega⟩ hA1 E1 E2 E3 E4 E5 (k_LS_out hL1) K2 (fun _ => ho) (fun hL => k_Wup (by omega) (by omega) (kk ad1 _ hP hL hs0 C1))
  · obtain ⟨b, t, h3, hL1, ⟨-, rfl⟩, K2, hP⟩ := hx E _ hz
    change k_W X _ _ _ _ ad1 _ _ _ [.int (1 : Int32)]
    refine r_istore C1 dL_law__1952 (rfl : 1952 + 2 = 1954) (by decide) (Nat.le_of_ble_eq_true rfl) ?_
    show k_W X _ _ _ _ _ _ _ [some (.ref 5000000), some (.ref 0), some (.ref 70), some (.ref 102), some (.int i), some (.int (1 : Int32)), none, none] _
    exact s_t30 C1 hR ⟨by omega, by omega⟩ hA1 E1 E2 E3 E4 E5 hL1 K2 (fun z => absurd z (by decide)) (fun hL => k_Wup (by omega) (by omega) (kk ad1 _ hP hL hs0 C1))
set_option maxRecDepth 20000 in
theorem s_t31 {X : k_X} {cells slots N : Nat} {Q : State → Prop} {ad : Nat → Nat} {h : k_H} {i a1 a2 a3 a4 a5 : Int32} {f : Nat → Int32} (C : k_C X cL_law_ RL 8 ad) (hR : X.R.frames = 2048 ∧ X.R.locals = 84000) (hcs : cells ≤ X.R.cells ∧ slots ≤ X.R.slots) (hA : va_T .int (ad 5000000) N (fun j => .int (f j)) X.A X.s X.s.heap) (E1 : k_el N f (i + 1) a1) (E2 : k_el N f (i + 2) a2) (E3 : k_el N f (i + 3) a3) (E4 : k_el N f (i + 4) a4) (E5 : k_el N f (i + 5) a5) (hLS : k_LS h) {h3 : k_H} {b : Int32} {t : Int32} (K : k_MR X.l yX11_span cX11_span 11 (some .int) 7 158 [.int a1, .int a2, .int a3, .int a4, .int a5] h (.int b) t h3) (hv : t = 0 → h3.2.2.1 102 0 = b.toInt64) (kk : k_LS h3 → k_W X 8 cells slots Q ad h3 2307 [some (.ref 5000000), some (.ref 0), some (.ref 70), some (.ref 102), some (.int i), none, none, none] []) : k_W X 8 cells slots Q ad h 2052 [some (.ref 5000000), some (.ref 0), some (.ref 70), some (.ref 102), some (.int i), some (.int t), none, none] [] := by
  refine r_aload_n C dL_law__2052 (rfl : 2052 + 1 = 2053) rfl ?_
  refine r_aload_n C dL_law__2053 (rfl : 2053 + 1 = 2054) rfl ?_
  refine r_iload C dL_law__2054 (rfl : 2054 + 2 = 2056) rfl ?_
  refine r_iconst (v := (1 : Int32)) C dL_law__2056 (rfl : 2056 + 1 = 2057) rfl ?_
  refine r_iadd C dL_law__2057 (rfl : 2057 + 1 = 2058) ?_
  refine r_argV C hA dL_law__2058 (rfl : 2058 + 1 = 2059) E1 ?_
  refine r_aload_n C dL_law__2059 (rfl : 2059 + 1 = 2060) rfl ?_
  refine r_iload C dL_law__2060 (rfl : 2060 + 2 = 2062) rfl ?_
  refine r_iconst (v := (2 : Int32)) C dL_law__2062 (rfl : 2062 + 1 = 2063) rfl ?_
  refine r_iadd C dL_law__2063 (rfl : 2063 + 1 = 2064) ?_
  refine r_argV C hA dL_law__2064 (rfl : 2064 + 1 = 2065) E2 ?_
  refine r_aload_n C dL_law__2065 (rfl : 2065 + 1 = 2066) rfl ?_
  refine r_iload C dL_law__2066 (rfl : 2066 + 2 = 2068) rfl ?_
  refine r_iconst (v := (3 : Int32)) C dL_law__2068 (rfl : 2068 + 1 = 2069) rfl ?_
  refine r_iadd C dL_law__2069 (rfl : 2069 + 1 = 2070) ?_
  refine r_argV C hA dL_law__2070 (rfl : 2070 + 1 = 2071) E3 ?_
  refine r_aload_n C dL_law__2071 (rfl : 2071 + 1 = 2072) rfl ?_
  refine r_iload C dL_law__2072 (rfl : 2072 + 2 = 2074) rfl ?_
  refine r_iconst (v := (4 : Int32)) C dL_law__2074 (rfl : 2074 + 1 = 2075) rfl ?_
  refine r_iadd C dL_law__2075 (rfl : 2075 + 1 = 2076) ?_
  refine r_argV C hA dL_law__2076 (rfl : 2076 + 1 = 2077) E4 ?_
  refine r_aload_n C dL_law__2077 (rfl : 2077 + 1 = 2078) rfl ?_
  refine r_iload C dL_law__2078 (rfl : 2078 + 2 = 2080) rfl ?_
  refine r_iconst (v := (5 : Int32)) C dL_law__2080 (rfl : 2080 + 1 = 2081) rfl ?_
  refine r_iadd C dL_law__2081 (rfl : 2081 + 1 = 2082) ?_
  refine r_argV C hA dL_law__2082 (rfl : 2082 + 1 = 2083) E5 ?_
  refine c_MR C hR ⟨by omega, by omega⟩ hLS K mv_X11_span lk_L_223 dL_law__2083 (rfl : 2083 + 3 = 2086) rfl rfl rfl (fun _ => rfl) (fun _ => rfl) rfl rfl rfl ?_
  have hL3 := k_MR_LS K hLS
  obtain ⟨-, -, -, -, ht⟩ := K
  refine r_istore C dL_law__2086 (rfl : 2086 + 2 = 2088) (by decide) (Nat.le_of_ble_eq_true rfl) ?_
  show k_W X _ _ _ _ _ _ _ [some (.ref 5000000), some (.ref 0), some (.ref 70), some (.ref 102), some (.int i), some (.int t), some (.int b), none] _
  refine r_aload_n C dL_law__2088 (rfl : 2088 + 1 = 2089) rfl ?_
  refine c_Vp (pi := piM) (shl := shM) (bl := 0) (b := 70) (As := []) (Al := []) (v := some (.int t)) (us := []) (T := TX11) (N := 66) C hR ⟨by omega, by omega⟩ mv_X11_thrown lk_L_121 dL_law__2089 (rfl : 2089 + 3 = 2092) rfl rfl hL3.2.2.1 rfl rfl (k_thr ht) rfl (fun _ => rfl) rfl (fun _ => rfl) rfl rfl rfl ?_
  change k_W X _ _ _ _ ad h3 _ _ [.int t]
  refine r_iload C dL_law__2092 (rfl : 2092 + 2 = 2094) rfl ?_
  refine r_icmp_eq (tgt := 2099) C dL_law__2094 (by decide) (rfl : 2094 + 3 = 2097) (fun _ => ?_) (fun z => absurd rfl z)
  refine r_iload C dL_law__2099 (rfl : 2099 + 2 = 2101) rfl ?_
  refine r_if_ne (tgt := 2116) C dL_law__2101 (by decide) (rfl : 2101 + 3 = 2104) (fun _ => ?_) (fun z => ?_)
  · refine r_goto (tgt := 2307) C dL_law__2116 (by decide) ?_
    exact k_mask [true, true, true, true, true, false, false, false] (kk hL3)
  · refine r_aload_n C dL_law__2104 (rfl : 2104 + 1 = 2105) rfl ?_
    refine r_iconst (v := (0 : Int32)) C dL_law__2105 (rfl : 2105 + 1 = 2106) rfl ?_
    refine r_lald (f := h3.2.2.1 102) C dL_law__2106 (rfl : 2106 + 1 = 2107) hL3.2.1 rfl (show ¬ ((0 : Int32) < 0 ∨ 1 ≤ (0 : Int32).toNatClampNeg) by decide) ?_
    refine r_iload C dL_law__2107 (rfl : 2107 + 2 = 2109) rfl ?_
    refine r_i2l C dL_law__2109 (rfl : 2109 + 1 = 2110) ?_
    refine r_lcmp C dL_law__2110 (rfl : 2110 + 1 = 2111) ?_
    refine r_if_eq (tgt := 2116) C dL_law__2111 (by decide) (rfl : 2111 + 3 = 2114) (fun _ => ?_) (fun z9 => absurd (by rw [show h3.2.2.1 102 (0 : Int32).toNatClampNeg = b.toInt64 from hv z]; exact k_cmps _) z9)
    refine r_goto (tgt := 2307) C dL_law__2116 (by decide) ?_
    exact k_mask [true, true, true, true, true, false, false, false] (kk hL3)
def q_31 (l : Launch) (h : k_H) (a1 a2 a3 a4 a5 : Int32) (P : k_H → Prop) : Prop :=
  ∃ (mc ms : Nat) (Rr : Option Value → k_H → Prop) (Rx : String → k_H → Prop), mc ≤ 85 ∧ ms ≤ 714 ∧ k_CX l yX10_span cX10_span 10 (some .int) 7 170 mc ms [.ref 0, .int a1, .int a2, .int a3, .int a4, .int a5] h Rr Rx ∧ (∀ v h1, Rr v h1 → ∃ (y : Int32) (b : Int32) (h3 : k_H), v = some (.int y) ∧ k_LS h1 ∧ k_MR l yX11_span cX11_span 11 (some .int) 7 158 [.int a1, .int a2, .int a3, .int a4, .int a5] (k_out y.toInt64 h1) (.int b) 0 h3 ∧ h3.2.2.1 102 0 = b.toInt64 ∧ P h3) ∧
    (∀ E h1, Rx E h1 → ∃ (b : Int32) (t : Int32) (h3 : k_H), k_LS h1 ∧ (E = k_IAE ∧ t = 1) ∧ k_MR l yX11_span cX11_span 11 (some .int) 7 158 [.int a1, .int a2, .int a3, .int a4, .int a5] h1 (.int b) t h3 ∧ P h3)
set_option maxRecDepth 20000 in
theorem s_k31 {X : k_X} {cells slots N : Nat} {Q : State → Prop} {ad : Nat → Nat} {h : k_H} {i a1 a2 a3 a4 a5 : Int32} {f : Nat → Int32} (C : k_C X cL_law_ RL 8 ad) (hR : X.R.frames = 2048 ∧ X.R.locals = 84000) (hcs : cells + 85 ≤ X.R.cells ∧ slots + 714 ≤ X.R.slots) (hA : va_T .int (ad 5000000) N (fun j => .int (f j)) X.A X.s X.s.heap) (E1 : k_el N f (i + 1) a1) (E2 : k_el N f (i + 2) a2) (E3 : k_el N f (i + 3) a3) (E4 : k_el N f (i + 4) a4) (E5 : k_el N f (i + 5) a5) (hLS : k_LS h) {P : k_H → Prop} (K : q_31 X.l h a1 a2 a3 a4 a5 P)
    (kk : ∀ (ad' : Nat → Nat) (h' : k_H), P h' → k_LS h' → k_sm 0 ad ad' → k_C X cL_law_ RL 8 ad' → k_W X 8 (cells + 85) (slots + 714) Q ad' h' 2307 [some (.ref 5000000), some (.ref 0), some (.ref 70), some (.ref 102), some (.int i), none, none, none] []) : k_W X 8 cells slots Q ad h 2015 [some (.ref 5000000), some (.ref 0), some (.ref 70), some (.ref 102), some (.int i), none, none, none] [] := by
  refine r_aload_n C dL_law__2015 (rfl : 2015 + 1 = 2016) rfl ?_
  refine r_aload_n C dL_law__2016 (rfl : 2016 + 1 = 2017) rfl ?_
  refine r_iload C dL_law__2017 (rfl : 2017 + 2 = 2019) rfl ?_
  refine r_iconst (v := (1 : Int32)) C dL_law__2019 (rfl : 2019 + 1 = 2020) rfl ?_
  refine r_iadd C dL_law__2020 (rfl : 2020 + 1 = 2021) ?_
  refine r_argV C hA dL_law__2021 (rfl : 2021 + 1 = 2022) E1 ?_
  refine r_aload_n C dL_law__2022 (rfl : 2022 + 1 = 2023) rfl ?_
  refine r_iload C dL_law__2023 (rfl : 2023 + 2 = 2025) rfl ?_
  refine r_iconst (v := (2 : Int32)) C dL_law__2025 (rfl : 2025 + 1 = 2026) rfl ?_
  refine r_iadd C dL_law__2026 (rfl : 2026 + 1 = 2027) ?_
  refine r_argV C hA dL_law__2027 (rfl : 2027 + 1 = 2028) E2 ?_
  refine r_aload_n C dL_law__2028 (rfl : 2028 + 1 = 2029) rfl ?_
  refine r_iload C dL_law__2029 (rfl : 2029 + 2 = 2031) rfl ?_
  refine r_iconst (v := (3 : Int32)) C dL_law__2031 (rfl : 2031 + 1 = 2032) rfl ?_
  refine r_iadd C dL_law__2032 (rfl : 2032 + 1 = 2033) ?_
  refine r_argV C hA dL_law__2033 (rfl : 2033 + 1 = 2034) E3 ?_
  refine r_aload_n C dL_law__2034 (rfl : 2034 + 1 = 2035) rfl ?_
  refine r_iload C dL_law__2035 (rfl : 2035 + 2 = 2037) rfl ?_
  refine r_iconst (v := (4 : Int32)) C dL_law__2037 (rfl : 2037 + 1 = 2038) rfl ?_
  refine r_iadd C dL_law__2038 (rfl : 2038 + 1 = 2039) ?_
  refine r_argV C hA dL_law__2039 (rfl : 2039 + 1 = 2040) E4 ?_
  refine r_aload_n C dL_law__2040 (rfl : 2040 + 1 = 2041) rfl ?_
  refine r_iload C dL_law__2041 (rfl : 2041 + 2 = 2043) rfl ?_
  refine r_iconst (v := (5 : Int32)) C dL_law__2043 (rfl : 2043 + 1 = 2044) rfl ?_
  refine r_iadd C dL_law__2044 (rfl : 2044 + 1 = 2045) ?_
  refine r_argV C hA dL_law__2045 (rfl : 2045 + 1 = 2046) E5 ?_
  refine r_aload_n C dL_law__2046 (rfl : 2046 + 1 = 2047) rfl ?_
  obtain ⟨mc, ms, Rr, Rx, hmc, hms, K1, hr, hx⟩ := K
  refine c_SH (As := [.ref 0, .int a1, .int a2, .int a3, .int a4, .int a5, .ref 102]) (st := []) C hR ⟨by omega, by omega⟩ mh_L_span (k_me (tm6 (List.mem_of_getElem? (i := 185) rfl)) rfl) dL_law__2047 (rfl : 2047 + 3 = 2050) rfl rfl (c_L_span X.l h K1 hLS.1 hLS.2.1 (fun v h1 z => by obtain ⟨y, b, h3, h4, h5, h6⟩ := hr v h1 z; exact ⟨⟨y, h4⟩, h5.2.1⟩) (fun E h1 z => by obtain ⟨b, t, h3, h4, h5, h6⟩ := hx E h1 z; exact h5.1)) rfl rfl rfl ⟨Or.inr (by decide), k_okv_of hLS.1, Or.inl (k_is70 hLS), k_okv_of hLS.2.1, True.intro, True.intro⟩ True.intro ?_
  intro v ad1 h9 hres hsm C1
  have hA1 := k_argS hsm (by decide : 1000000 ≤ 5000000) hA
  have hs0 : k_sm 0 ad ad1 := fun p hp => hsm p (hp.elim (fun z => absurd z (Nat.not_lt_zero p)) Or.inr)
  rcases hres with ⟨y, h1, hz, rfl, rfl⟩ | ⟨E, h1, hz, rfl, rfl⟩
  · obtain ⟨y1, b, h3, hv1, hL1, K2, ho, hP⟩ := hr _ h1 hz
    cases hv1
    change k_W X _ _ _ _ ad1 _ _ _ [.int (0 : Int32)]
    refine r_istore C1 dL_law__2050 (rfl : 2050 + 2 = 2052) (by decide) (Nat.le_of_ble_eq_true rfl) ?_
    show k_W X _ _ _ _ _ _ _ [some (.ref 5000000), some (.ref 0), some (.ref 70), some (.ref 102), some (.int i), some (.int (0 : Int32)), none, none] _
    exact s_t31 C1 hR ⟨by omega, by omega⟩ hA1 E1 E2 E3 E4 E5 (k_LS_out hL1) K2 (fun _ => ho) (fun hL => k_Wup (by omega) (by omega) (kk ad1 _ hP hL hs0 C1))
  · obtain ⟨b, t, h3, hL1, ⟨-, rfl⟩, K2, hP⟩ := hx E _ hz
    change k_W X _ _ _ _ ad1 _ _ _ [.int (1 : Int32)]
    refine r_istore C1 dL_law__2050 (rfl : 2050 + 2 = 2052) (by decide) (Nat.le_of_ble_eq_true rfl) ?_
    show k_W X _ _ _ _ _ _ _ [some (.ref 5000000), some (.ref 0), some (.ref 70), some (.ref 102), some (.int i), some (.int (1 : Int32)), none, none] _
    exact s_t31 C1 hR ⟨by omega, by omega⟩ hA1 E1 E2 E3 E4 E5 hL1 K2 (fun z => absurd z (by decide)) (fun hL => k_Wup (by omega) (by omega) (kk ad1 _ hP hL hs0 C1))
set_option maxRecDepth 20000 in
theorem s_t32 {X : k_X} {cells slots N : Nat} {Q : State → Prop} {ad : Nat → Nat} {h : k_H} {i a1 a2 a3 a4 a5 : Int32} {f : Nat → Int32} (C : k_C X cL_law_ RL 8 ad) (hR : X.R.frames = 2048 ∧ X.R.locals = 84000) (hcs : cells ≤ X.R.cells ∧ slots ≤ X.R.slots) (hA : va_T .int (ad 5000000) N (fun j => .int (f j)) X.A X.s X.s.heap) (E1 : k_el N f (i + 1) a1) (E2 : k_el N f (i + 2) a2) (E3 : k_el N f (i + 3) a3) (E4 : k_el N f (i + 4) a4) (E5 : k_el N f (i + 5) a5) (hLS : k_LS h) {h3 : k_H} {b : Int32} {t : Int32} (K : k_MR X.l yX11_sums cX11_sums 5 (some .int) 3 67 [.int a1] h (.int b) t h3) (hv : t = 0 → h3.2.2.1 102 0 = b.toInt64) (kk : k_LS h3 → k_W X 8 cells slots Q ad h3 2307 [some (.ref 5000000), some (.ref 0), some (.ref 70), some (.ref 102), some (.int i), none, none, none] []) : k_W X 8 cells slots Q ad h 2132 [some (.ref 5000000), some (.ref 0), some (.ref 70), some (.ref 102), some (.int i), some (.int t), none, none] [] := by
  refine r_aload_n C dL_law__2132 (rfl : 2132 + 1 = 2133) rfl ?_
  refine r_aload_n C dL_law__2133 (rfl : 2133 + 1 = 2134) rfl ?_
  refine r_iload C dL_law__2134 (rfl : 2134 + 2 = 2136) rfl ?_
  refine r_iconst (v := (1 : Int32)) C dL_law__2136 (rfl : 2136 + 1 = 2137) rfl ?_
  refine r_iadd C dL_law__2137 (rfl : 2137 + 1 = 2138) ?_
  refine r_argV C hA dL_law__2138 (rfl : 2138 + 1 = 2139) E1 ?_
  refine c_MR C hR ⟨by omega, by omega⟩ hLS K mv_X11_sums lk_L_226 dL_law__2139 (rfl : 2139 + 3 = 2142) rfl rfl rfl (fun _ => rfl) (fun _ => rfl) rfl rfl rfl ?_
  have hL3 := k_MR_LS K hLS
  obtain ⟨-, -, -, -, ht⟩ := K
  refine r_istore C dL_law__2142 (rfl : 2142 + 2 = 2144) (by decide) (Nat.le_of_ble_eq_true rfl) ?_
  show k_W X _ _ _ _ _ _ _ [some (.ref 5000000), some (.ref 0), some (.ref 70), some (.ref 102), some (.int i), some (.int t), some (.int b), none] _
  refine r_aload_n C dL_law__2144 (rfl : 2144 + 1 = 2145) rfl ?_
  refine c_Vp (pi := piM) (shl := shM) (bl := 0) (b := 70) (As := []) (Al := []) (v := some (.int t)) (us := []) (T := TX11) (N := 66) C hR ⟨by omega, by omega⟩ mv_X11_thrown lk_L_121 dL_law__2145 (rfl : 2145 + 3 = 2148) rfl rfl hL3.2.2.1 rfl rfl (k_thr ht) rfl (fun _ => rfl) rfl (fun _ => rfl) rfl rfl rfl ?_
  change k_W X _ _ _ _ ad h3 _ _ [.int t]
  refine r_iload C dL_law__2148 (rfl : 2148 + 2 = 2150) rfl ?_
  refine r_icmp_eq (tgt := 2155) C dL_law__2150 (by decide) (rfl : 2150 + 3 = 2153) (fun _ => ?_) (fun z => absurd rfl z)
  refine r_iload C dL_law__2155 (rfl : 2155 + 2 = 2157) rfl ?_
  refine r_if_ne (tgt := 2172) C dL_law__2157 (by decide) (rfl : 2157 + 3 = 2160) (fun _ => ?_) (fun z => ?_)
  · refine r_goto (tgt := 2307) C dL_law__2172 (by decide) ?_
    exact k_mask [true, true, true, true, true, false, false, false] (kk hL3)
  · refine r_aload_n C dL_law__2160 (rfl : 2160 + 1 = 2161) rfl ?_
    refine r_iconst (v := (0 : Int32)) C dL_law__2161 (rfl : 2161 + 1 = 2162) rfl ?_
    refine r_lald (f := h3.2.2.1 102) C dL_law__2162 (rfl : 2162 + 1 = 2163) hL3.2.1 rfl (show ¬ ((0 : Int32) < 0 ∨ 1 ≤ (0 : Int32).toNatClampNeg) by decide) ?_
    refine r_iload C dL_law__2163 (rfl : 2163 + 2 = 2165) rfl ?_
    refine r_i2l C dL_law__2165 (rfl : 2165 + 1 = 2166) ?_
    refine r_lcmp C dL_law__2166 (rfl : 2166 + 1 = 2167) ?_
    refine r_if_eq (tgt := 2172) C dL_law__2167 (by decide) (rfl : 2167 + 3 = 2170) (fun _ => ?_) (fun z9 => absurd (by rw [show h3.2.2.1 102 (0 : Int32).toNatClampNeg = b.toInt64 from hv z]; exact k_cmps _) z9)
    refine r_goto (tgt := 2307) C dL_law__2172 (by decide) ?_
    exact k_mask [true, true, true, true, true, false, false, false] (kk hL3)
def q_32 (l : Launch) (h : k_H) (a1 a2 a3 a4 a5 : Int32) (P : k_H → Prop) : Prop :=
  ∃ (mc ms : Nat) (Rr : Option Value → k_H → Prop) (Rx : String → k_H → Prop), mc ≤ 85 ∧ ms ≤ 714 ∧ k_CX l yX10_sums cX10_sums 2 (some .int) 7 111 mc ms [.ref 0, .int a1] h Rr Rx ∧ (∀ v h1, Rr v h1 → ∃ (y : Int32) (b : Int32) (h3 : k_H), v = some (.int y) ∧ k_LS h1 ∧ k_MR l yX11_sums cX11_sums 5 (some .int) 3 67 [.int a1] (k_out y.toInt64 h1) (.int b) 0 h3 ∧ h3.2.2.1 102 0 = b.toInt64 ∧ P h3) ∧
    (∀ E h1, Rx E h1 → ∃ (b : Int32) (t : Int32) (h3 : k_H), k_LS h1 ∧ (E = k_IAE ∧ t = 1) ∧ k_MR l yX11_sums cX11_sums 5 (some .int) 3 67 [.int a1] h1 (.int b) t h3 ∧ P h3)
set_option maxRecDepth 20000 in
theorem s_k32 {X : k_X} {cells slots N : Nat} {Q : State → Prop} {ad : Nat → Nat} {h : k_H} {i a1 a2 a3 a4 a5 : Int32} {f : Nat → Int32} (C : k_C X cL_law_ RL 8 ad) (hR : X.R.frames = 2048 ∧ X.R.locals = 84000) (hcs : cells + 85 ≤ X.R.cells ∧ slots + 714 ≤ X.R.slots) (hA : va_T .int (ad 5000000) N (fun j => .int (f j)) X.A X.s X.s.heap) (E1 : k_el N f (i + 1) a1) (E2 : k_el N f (i + 2) a2) (E3 : k_el N f (i + 3) a3) (E4 : k_el N f (i + 4) a4) (E5 : k_el N f (i + 5) a5) (hLS : k_LS h) {P : k_H → Prop} (K : q_32 X.l h a1 a2 a3 a4 a5 P)
    (kk : ∀ (ad' : Nat → Nat) (h' : k_H), P h' → k_LS h' → k_sm 0 ad ad' → k_C X cL_law_ RL 8 ad' → k_W X 8 (cells + 85) (slots + 714) Q ad' h' 2307 [some (.ref 5000000), some (.ref 0), some (.ref 70), some (.ref 102), some (.int i), none, none, none] []) : k_W X 8 cells slots Q ad h 2119 [some (.ref 5000000), some (.ref 0), some (.ref 70), some (.ref 102), some (.int i), none, none, none] [] := by
  refine r_aload_n C dL_law__2119 (rfl : 2119 + 1 = 2120) rfl ?_
  refine r_aload_n C dL_law__2120 (rfl : 2120 + 1 = 2121) rfl ?_
  refine r_iload C dL_law__2121 (rfl : 2121 + 2 = 2123) rfl ?_
  refine r_iconst (v := (1 : Int32)) C dL_law__2123 (rfl : 2123 + 1 = 2124) rfl ?_
  refine r_iadd C dL_law__2124 (rfl : 2124 + 1 = 2125) ?_
  refine r_argV C hA dL_law__2125 (rfl : 2125 + 1 = 2126) E1 ?_
  refine r_aload_n C dL_law__2126 (rfl : 2126 + 1 = 2127) rfl ?_
  obtain ⟨mc, ms, Rr, Rx, hmc, hms, K1, hr, hx⟩ := K
  refine c_SH (As := [.ref 0, .int a1, .ref 102]) (st := []) C hR ⟨by omega, by omega⟩ mh_L_sums (k_me (tm6 (List.mem_of_getElem? (i := 194) rfl)) rfl) dL_law__2127 (rfl : 2127 + 3 = 2130) rfl rfl (c_L_sums X.l h K1 hLS.1 hLS.2.1 (fun v h1 z => by obtain ⟨y, b, h3, h4, h5, h6⟩ := hr v h1 z; exact ⟨⟨y, h4⟩, h5.2.1⟩) (fun E h1 z => by obtain ⟨b, t, h3, h4, h5, h6⟩ := hx E h1 z; exact h5.1)) rfl rfl rfl ⟨Or.inr (by decide), k_okv_of hLS.1, Or.inl (k_is70 hLS), k_okv_of hLS.2.1, True.intro, True.intro⟩ True.intro ?_
  intro v ad1 h9 hres hsm C1
  have hA1 := k_argS hsm (by decide : 1000000 ≤ 5000000) hA
  have hs0 : k_sm 0 ad ad1 := fun p hp => hsm p (hp.elim (fun z => absurd z (Nat.not_lt_zero p)) Or.inr)
  rcases hres with ⟨y, h1, hz, rfl, rfl⟩ | ⟨E, h1, hz, rfl, rfl⟩
  · obtain ⟨y1, b, h3, hv1, hL1, K2, ho, hP⟩ := hr _ h1 hz
    cases hv1
    change k_W X _ _ _ _ ad1 _ _ _ [.int (0 : Int32)]
    refine r_istore C1 dL_law__2130 (rfl : 2130 + 2 = 2132) (by decide) (Nat.le_of_ble_eq_true rfl) ?_
    show k_W X _ _ _ _ _ _ _ [some (.ref 5000000), some (.ref 0), some (.ref 70), some (.ref 102), some (.int i), some (.int (0 : Int32)), none, none] _
    exact s_t32 C1 hR ⟨by omega, by omega⟩ hA1 E1 E2 E3 E4 E5 (k_LS_out hL1) K2 (fun _ => ho) (fun hL => k_Wup (by omega) (by omega) (kk ad1 _ hP hL hs0 C1))
  · obtain ⟨b, t, h3, hL1, ⟨-, rfl⟩, K2, hP⟩ := hx E _ hz
    change k_W X _ _ _ _ ad1 _ _ _ [.int (1 : Int32)]
    refine r_istore C1 dL_law__2130 (rfl : 2130 + 2 = 2132) (by decide) (Nat.le_of_ble_eq_true rfl) ?_
    show k_W X _ _ _ _ _ _ _ [some (.ref 5000000), some (.ref 0), some (.ref 70), some (.ref 102), some (.int i), some (.int (1 : Int32)), none, none] _
    exact s_t32 C1 hR ⟨by omega, by omega⟩ hA1 E1 E2 E3 E4 E5 hL1 K2 (fun z => absurd z (by decide)) (fun hL => k_Wup (by omega) (by omega) (kk ad1 _ hP hL hs0 C1))
set_option maxRecDepth 20000 in
theorem s_t33 {X : k_X} {cells slots N : Nat} {Q : State → Prop} {ad : Nat → Nat} {h : k_H} {i a1 a2 a3 a4 a5 : Int32} {f : Nat → Int32} (C : k_C X cL_law_ RL 8 ad) (hR : X.R.frames = 2048 ∧ X.R.locals = 84000) (hcs : cells ≤ X.R.cells ∧ slots ≤ X.R.slots) (hA : va_T .int (ad 5000000) N (fun j => .int (f j)) X.A X.s X.s.heap) (E1 : k_el N f (i + 1) a1) (E2 : k_el N f (i + 2) a2) (E3 : k_el N f (i + 3) a3) (E4 : k_el N f (i + 4) a4) (E5 : k_el N f (i + 5) a5) (hLS : k_LS h) {h3 : k_H} {b : Int32} {t : Int32} (K : k_MR X.l yX11_open cX11_open 4 (some .int) 2 44 [.int a1] h (.int b) t h3) (hv : t = 0 → h3.2.2.1 102 0 = b.toInt64) (kk : k_LS h3 → k_W X 8 cells slots Q ad h3 2307 [some (.ref 5000000), some (.ref 0), some (.ref 70), some (.ref 102), some (.int i), none, none, none] []) : k_W X 8 cells slots Q ad h 2188 [some (.ref 5000000), some (.ref 0), some (.ref 70), some (.ref 102), some (.int i), some (.int t), none, none] [] := by
  refine r_aload_n C dL_law__2188 (rfl : 2188 + 1 = 2189) rfl ?_
  refine r_aload_n C dL_law__2189 (rfl : 2189 + 1 = 2190) rfl ?_
  refine r_iload C dL_law__2190 (rfl : 2190 + 2 = 2192) rfl ?_
  refine r_iconst (v := (1 : Int32)) C dL_law__2192 (rfl : 2192 + 1 = 2193) rfl ?_
  refine r_iadd C dL_law__2193 (rfl : 2193 + 1 = 2194) ?_
  refine r_argV C hA dL_law__2194 (rfl : 2194 + 1 = 2195) E1 ?_
  refine c_MR C hR ⟨by omega, by omega⟩ hLS K mv_X11_open lk_L_229 dL_law__2195 (rfl : 2195 + 3 = 2198) rfl rfl rfl (fun _ => rfl) (fun _ => rfl) rfl rfl rfl ?_
  have hL3 := k_MR_LS K hLS
  obtain ⟨-, -, -, -, ht⟩ := K
  refine r_istore C dL_law__2198 (rfl : 2198 + 2 = 2200) (by decide) (Nat.le_of_ble_eq_true rfl) ?_
  show k_W X _ _ _ _ _ _ _ [some (.ref 5000000), some (.ref 0), some (.ref 70), some (.ref 102), some (.int i), some (.int t), some (.int b), none] _
  refine r_aload_n C dL_law__2200 (rfl : 2200 + 1 = 2201) rfl ?_
  refine c_Vp (pi := piM) (shl := shM) (bl := 0) (b := 70) (As := []) (Al := []) (v := some (.int t)) (us := []) (T := TX11) (N := 66) C hR ⟨by omega, by omega⟩ mv_X11_thrown lk_L_121 dL_law__2201 (rfl : 2201 + 3 = 2204) rfl rfl hL3.2.2.1 rfl rfl (k_thr ht) rfl (fun _ => rfl) rfl (fun _ => rfl) rfl rfl rfl ?_
  change k_W X _ _ _ _ ad h3 _ _ [.int t]
  refine r_iload C dL_law__2204 (rfl : 2204 + 2 = 2206) rfl ?_
  refine r_icmp_eq (tgt := 2211) C dL_law__2206 (by decide) (rfl : 2206 + 3 = 2209) (fun _ => ?_) (fun z => absurd rfl z)
  refine r_iload C dL_law__2211 (rfl : 2211 + 2 = 2213) rfl ?_
  refine r_if_ne (tgt := 2228) C dL_law__2213 (by decide) (rfl : 2213 + 3 = 2216) (fun _ => ?_) (fun z => ?_)
  · refine r_goto (tgt := 2307) C dL_law__2228 (by decide) ?_
    exact k_mask [true, true, true, true, true, false, false, false] (kk hL3)
  · refine r_aload_n C dL_law__2216 (rfl : 2216 + 1 = 2217) rfl ?_
    refine r_iconst (v := (0 : Int32)) C dL_law__2217 (rfl : 2217 + 1 = 2218) rfl ?_
    refine r_lald (f := h3.2.2.1 102) C dL_law__2218 (rfl : 2218 + 1 = 2219) hL3.2.1 rfl (show ¬ ((0 : Int32) < 0 ∨ 1 ≤ (0 : Int32).toNatClampNeg) by decide) ?_
    refine r_iload C dL_law__2219 (rfl : 2219 + 2 = 2221) rfl ?_
    refine r_i2l C dL_law__2221 (rfl : 2221 + 1 = 2222) ?_
    refine r_lcmp C dL_law__2222 (rfl : 2222 + 1 = 2223) ?_
    refine r_if_eq (tgt := 2228) C dL_law__2223 (by decide) (rfl : 2223 + 3 = 2226) (fun _ => ?_) (fun z9 => absurd (by rw [show h3.2.2.1 102 (0 : Int32).toNatClampNeg = b.toInt64 from hv z]; exact k_cmps _) z9)
    refine r_goto (tgt := 2307) C dL_law__2228 (by decide) ?_
    exact k_mask [true, true, true, true, true, false, false, false] (kk hL3)
def q_33 (l : Launch) (h : k_H) (a1 a2 a3 a4 a5 : Int32) (P : k_H → Prop) : Prop :=
  ∃ (mc ms : Nat) (Rr : Option Value → k_H → Prop) (Rx : String → k_H → Prop), mc ≤ 85 ∧ ms ≤ 714 ∧ k_CX l yX10_open cX10_open 2 (some .int) 7 111 mc ms [.ref 0, .int a1] h Rr Rx ∧ (∀ v h1, Rr v h1 → ∃ (y : Int32) (b : Int32) (h3 : k_H), v = some (.int y) ∧ k_LS h1 ∧ k_MR l yX11_open cX11_open 4 (some .int) 2 44 [.int a1] (k_out y.toInt64 h1) (.int b) 0 h3 ∧ h3.2.2.1 102 0 = b.toInt64 ∧ P h3) ∧
    (∀ E h1, Rx E h1 → ∃ (b : Int32) (t : Int32) (h3 : k_H), k_LS h1 ∧ (E = k_IAE ∧ t = 1) ∧ k_MR l yX11_open cX11_open 4 (some .int) 2 44 [.int a1] h1 (.int b) t h3 ∧ P h3)
set_option maxRecDepth 20000 in
theorem s_k33 {X : k_X} {cells slots N : Nat} {Q : State → Prop} {ad : Nat → Nat} {h : k_H} {i a1 a2 a3 a4 a5 : Int32} {f : Nat → Int32} (C : k_C X cL_law_ RL 8 ad) (hR : X.R.frames = 2048 ∧ X.R.locals = 84000) (hcs : cells + 85 ≤ X.R.cells ∧ slots + 714 ≤ X.R.slots) (hA : va_T .int (ad 5000000) N (fun j => .int (f j)) X.A X.s X.s.heap) (E1 : k_el N f (i + 1) a1) (E2 : k_el N f (i + 2) a2) (E3 : k_el N f (i + 3) a3) (E4 : k_el N f (i + 4) a4) (E5 : k_el N f (i + 5) a5) (hLS : k_LS h) {P : k_H → Prop} (K : q_33 X.l h a1 a2 a3 a4 a5 P)
    (kk : ∀ (ad' : Nat → Nat) (h' : k_H), P h' → k_LS h' → k_sm 0 ad ad' → k_C X cL_law_ RL 8 ad' → k_W X 8 (cells + 85) (slots + 714) Q ad' h' 2307 [some (.ref 5000000), some (.ref 0), some (.ref 70), some (.ref 102), some (.int i), none, none, none] []) : k_W X 8 cells slots Q ad h 2175 [some (.ref 5000000), some (.ref 0), some (.ref 70), some (.ref 102), some (.int i), none, none, none] [] := by
  refine r_aload_n C dL_law__2175 (rfl : 2175 + 1 = 2176) rfl ?_
  refine r_aload_n C dL_law__2176 (rfl : 2176 + 1 = 2177) rfl ?_
  refine r_iload C dL_law__2177 (rfl : 2177 + 2 = 2179) rfl ?_
  refine r_iconst (v := (1 : Int32)) C dL_law__2179 (rfl : 2179 + 1 = 2180) rfl ?_
  refine r_iadd C dL_law__2180 (rfl : 2180 + 1 = 2181) ?_
  refine r_argV C hA dL_law__2181 (rfl : 2181 + 1 = 2182) E1 ?_
  refine r_aload_n C dL_law__2182 (rfl : 2182 + 1 = 2183) rfl ?_
  obtain ⟨mc, ms, Rr, Rx, hmc, hms, K1, hr, hx⟩ := K
  refine c_SH (As := [.ref 0, .int a1, .ref 102]) (st := []) C hR ⟨by omega, by omega⟩ mh_L_open (k_me (tm6 (List.mem_of_getElem? (i := 205) rfl)) rfl) dL_law__2183 (rfl : 2183 + 3 = 2186) rfl rfl (c_L_open X.l h K1 hLS.1 hLS.2.1 (fun v h1 z => by obtain ⟨y, b, h3, h4, h5, h6⟩ := hr v h1 z; exact ⟨⟨y, h4⟩, h5.2.1⟩) (fun E h1 z => by obtain ⟨b, t, h3, h4, h5, h6⟩ := hx E h1 z; exact h5.1)) rfl rfl rfl ⟨Or.inr (by decide), k_okv_of hLS.1, Or.inl (k_is70 hLS), k_okv_of hLS.2.1, True.intro, True.intro⟩ True.intro ?_
  intro v ad1 h9 hres hsm C1
  have hA1 := k_argS hsm (by decide : 1000000 ≤ 5000000) hA
  have hs0 : k_sm 0 ad ad1 := fun p hp => hsm p (hp.elim (fun z => absurd z (Nat.not_lt_zero p)) Or.inr)
  rcases hres with ⟨y, h1, hz, rfl, rfl⟩ | ⟨E, h1, hz, rfl, rfl⟩
  · obtain ⟨y1, b, h3, hv1, hL1, K2, ho, hP⟩ := hr _ h1 hz
    cases hv1
    change k_W X _ _ _ _ ad1 _ _ _ [.int (0 : Int32)]
    refine r_istore C1 dL_law__2186 (rfl : 2186 + 2 = 2188) (by decide) (Nat.le_of_ble_eq_true rfl) ?_
    show k_W X _ _ _ _ _ _ _ [some (.ref 5000000), some (.ref 0), some (.ref 70), some (.ref 102), some (.int i), some (.int (0 : Int32)), none, none] _
    exact s_t33 C1 hR ⟨by omega, by omega⟩ hA1 E1 E2 E3 E4 E5 (k_LS_out hL1) K2 (fun _ => ho) (fun hL => k_Wup (by omega) (by omega) (kk ad1 _ hP hL hs0 C1))
  · obtain ⟨b, t, h3, hL1, ⟨-, rfl⟩, K2, hP⟩ := hx E _ hz
    change k_W X _ _ _ _ ad1 _ _ _ [.int (1 : Int32)]
    refine r_istore C1 dL_law__2186 (rfl : 2186 + 2 = 2188) (by decide) (Nat.le_of_ble_eq_true rfl) ?_
    show k_W X _ _ _ _ _ _ _ [some (.ref 5000000), some (.ref 0), some (.ref 70), some (.ref 102), some (.int i), some (.int (1 : Int32)), none, none] _
    exact s_t33 C1 hR ⟨by omega, by omega⟩ hA1 E1 E2 E3 E4 E5 hL1 K2 (fun z => absurd z (by decide)) (fun hL => k_Wup (by omega) (by omega) (kk ad1 _ hP hL hs0 C1))
def q_34 (l : Launch) (h : k_H) (a1 a2 a3 a4 a5 : Int32) (P : k_H → Prop) : Prop :=
  ∃ (mc ms : Nat) (Rr : Option Value → k_H → Prop), mc ≤ 85 ∧ ms ≤ 714 ∧ k_CG l yX10_image cX10_image 1 (some .int) 6 220 mc ms [.ref 0] h Rr ∧ (∀ v h1, Rr v h1 → ∃ (y t : Int32) (h3 : k_H), v = some (.int y) ∧ k_LS h1 ∧ k_MR l yX11_image cX11_image 1 (some .int) 2 48 [] h1 (.int y) t h3 ∧ P h3)
set_option maxRecDepth 20000 in
theorem s_k34 {X : k_X} {cells slots N : Nat} {Q : State → Prop} {ad : Nat → Nat} {h : k_H} {i a1 a2 a3 a4 a5 : Int32} {f : Nat → Int32} (C : k_C X cL_law_ RL 8 ad) (hR : X.R.frames = 2048 ∧ X.R.locals = 84000) (hcs : cells + 85 ≤ X.R.cells ∧ slots + 714 ≤ X.R.slots) (hA : va_T .int (ad 5000000) N (fun j => .int (f j)) X.A X.s X.s.heap) (E1 : k_el N f (i + 1) a1) (E2 : k_el N f (i + 2) a2) (E3 : k_el N f (i + 3) a3) (E4 : k_el N f (i + 4) a4) (E5 : k_el N f (i + 5) a5) (hLS : k_LS h) {P : k_H → Prop} (K : q_34 X.l h a1 a2 a3 a4 a5 P)
    (kk : ∀ (ad' : Nat → Nat) (h' : k_H), P h' → k_LS h' → k_sm 0 ad ad' → k_C X cL_law_ RL 8 ad' → k_W X 8 (cells + 85) (slots + 714) Q ad' h' 2307 [some (.ref 5000000), some (.ref 0), some (.ref 70), some (.ref 102), some (.int i), none, none, none] []) : k_W X 8 cells slots Q ad h 2231 [some (.ref 5000000), some (.ref 0), some (.ref 70), some (.ref 102), some (.int i), none, none, none] [] := by
  refine r_aload_n C dL_law__2231 (rfl : 2231 + 1 = 2232) rfl ?_
  obtain ⟨mc, ms, Rr, hmc, hms, K1, hr⟩ := K
  refine c_VG (As := []) (st := []) (b := 0) C hR ⟨by omega, by omega⟩ mv_X10_image (k_me (tm3 (List.mem_of_getElem? (i := 101) rfl)) rfl) dL_law__2232 (rfl : 2232 + 3 = 2235) rfl rfl hLS.1 rfl K1 rfl rfl rfl ⟨Or.inr (by decide), k_okv_of hLS.1, Or.inl (k_is70 hLS), k_okv_of hLS.2.1, True.intro, True.intro⟩ True.intro ?_
  intro v ad1 h1 hz hsm C1
  have hA1 := k_argS hsm (by decide : 1000000 ≤ 5000000) hA
  have hs0 : k_sm 0 ad ad1 := fun p hp => hsm p (hp.elim (fun z => absurd z (Nat.not_lt_zero p)) Or.inr)
  obtain ⟨y, t, h3, rfl, hL1, K2, hP⟩ := hr _ _ hz
  change k_W X _ _ _ _ ad1 _ _ _ [.int y]
  refine r_aload_n C1 dL_law__2235 (rfl : 2235 + 1 = 2236) rfl ?_
  refine c_MR C1 hR ⟨by omega, by omega⟩ hL1 K2 mv_X11_image lk_L_233 dL_law__2236 (rfl : 2236 + 3 = 2239) rfl rfl rfl (fun _ => rfl) (fun _ => rfl) rfl rfl rfl ?_
  have hL3 := k_MR_LS K2 hL1
  refine r_icmp_eq (tgt := 2307) C1 dL_law__2239 (by decide) (rfl : 2239 + 3 = 2242) (fun _ => ?_) (fun z => absurd rfl z)
  exact k_Wup (by omega) (by omega) (kk ad1 _ hP hL3 hs0 C1)
def q_35 (l : Launch) (h : k_H) (a1 a2 a3 a4 a5 : Int32) (P : k_H → Prop) : Prop :=
  ∃ (mc ms : Nat) (Rr : Option Value → k_H → Prop), mc ≤ 85 ∧ ms ≤ 714 ∧ k_CG l yX10_restore cX10_restore 1 (some .int) 6 220 mc ms [.ref 0] h Rr ∧ (∀ v h1, Rr v h1 → ∃ (y t : Int32) (h3 : k_H), v = some (.int y) ∧ k_LS h1 ∧ k_MR l yX11_restore cX11_restore 1 (some .int) 2 48 [] h1 (.int y) t h3 ∧ P h3)
set_option maxRecDepth 20000 in
theorem s_k35 {X : k_X} {cells slots N : Nat} {Q : State → Prop} {ad : Nat → Nat} {h : k_H} {i a1 a2 a3 a4 a5 : Int32} {f : Nat → Int32} (C : k_C X cL_law_ RL 8 ad) (hR : X.R.frames = 2048 ∧ X.R.locals = 84000) (hcs : cells + 85 ≤ X.R.cells ∧ slots + 714 ≤ X.R.slots) (hA : va_T .int (ad 5000000) N (fun j => .int (f j)) X.A X.s X.s.heap) (E1 : k_el N f (i + 1) a1) (E2 : k_el N f (i + 2) a2) (E3 : k_el N f (i + 3) a3) (E4 : k_el N f (i + 4) a4) (E5 : k_el N f (i + 5) a5) (hLS : k_LS h) {P : k_H → Prop} (K : q_35 X.l h a1 a2 a3 a4 a5 P)
    (kk : ∀ (ad' : Nat → Nat) (h' : k_H), P h' → k_LS h' → k_sm 0 ad ad' → k_C X cL_law_ RL 8 ad' → k_W X 8 (cells + 85) (slots + 714) Q ad' h' 2307 [some (.ref 5000000), some (.ref 0), some (.ref 70), some (.ref 102), some (.int i), none, none, none] []) : k_W X 8 cells slots Q ad h 2244 [some (.ref 5000000), some (.ref 0), some (.ref 70), some (.ref 102), some (.int i), none, none, none] [] := by
  refine r_aload_n C dL_law__2244 (rfl : 2244 + 1 = 2245) rfl ?_
  obtain ⟨mc, ms, Rr, hmc, hms, K1, hr⟩ := K
  refine c_VG (As := []) (st := []) (b := 0) C hR ⟨by omega, by omega⟩ mv_X10_restore (k_me (tm3 (List.mem_of_getElem? (i := 113) rfl)) rfl) dL_law__2245 (rfl : 2245 + 3 = 2248) rfl rfl hLS.1 rfl K1 rfl rfl rfl ⟨Or.inr (by decide), k_okv_of hLS.1, Or.inl (k_is70 hLS), k_okv_of hLS.2.1, True.intro, True.intro⟩ True.intro ?_
  intro v ad1 h1 hz hsm C1
  have hA1 := k_argS hsm (by decide : 1000000 ≤ 5000000) hA
  have hs0 : k_sm 0 ad ad1 := fun p hp => hsm p (hp.elim (fun z => absurd z (Nat.not_lt_zero p)) Or.inr)
  obtain ⟨y, t, h3, rfl, hL1, K2, hP⟩ := hr _ _ hz
  change k_W X _ _ _ _ ad1 _ _ _ [.int y]
  refine r_aload_n C1 dL_law__2248 (rfl : 2248 + 1 = 2249) rfl ?_
  refine c_MR C1 hR ⟨by omega, by omega⟩ hL1 K2 mv_X11_restore lk_L_237 dL_law__2249 (rfl : 2249 + 3 = 2252) rfl rfl rfl (fun _ => rfl) (fun _ => rfl) rfl rfl rfl ?_
  have hL3 := k_MR_LS K2 hL1
  refine r_icmp_eq (tgt := 2307) C1 dL_law__2252 (by decide) (rfl : 2252 + 3 = 2255) (fun _ => ?_) (fun z => absurd rfl z)
  exact k_Wup (by omega) (by omega) (kk ad1 _ hP hL3 hs0 C1)
def q_36 (l : Launch) (h : k_H) (a1 a2 a3 a4 a5 : Int32) (P : k_H → Prop) : Prop :=
  ∃ (y t : Int32) (us : List k_U) (h3 : k_H), k_CT l yX10_status cX10_status 2 (some .int) 0 0 [.ref 0, .int a1] h (some (.int y)) us ∧ k_MR l yX11_status cX11_status 2 (some .int) 1 22 [.int a1] (k_ap us h) (.int y) t h3 ∧ P h3
set_option maxRecDepth 20000 in
theorem s_k36 {X : k_X} {cells slots N : Nat} {Q : State → Prop} {ad : Nat → Nat} {h : k_H} {i a1 a2 a3 a4 a5 : Int32} {f : Nat → Int32} (C : k_C X cL_law_ RL 8 ad) (hR : X.R.frames = 2048 ∧ X.R.locals = 84000) (hcs : cells + 85 ≤ X.R.cells ∧ slots + 714 ≤ X.R.slots) (hA : va_T .int (ad 5000000) N (fun j => .int (f j)) X.A X.s X.s.heap) (E1 : k_el N f (i + 1) a1) (E2 : k_el N f (i + 2) a2) (E3 : k_el N f (i + 3) a3) (E4 : k_el N f (i + 4) a4) (E5 : k_el N f (i + 5) a5) (hLS : k_LS h) {P : k_H → Prop} (K : q_36 X.l h a1 a2 a3 a4 a5 P)
    (kk : ∀ (ad' : Nat → Nat) (h' : k_H), P h' → k_LS h' → k_sm 0 ad ad' → k_C X cL_law_ RL 8 ad' → k_W X 8 (cells + 85) (slots + 714) Q ad' h' 2307 [some (.ref 5000000), some (.ref 0), some (.ref 70), some (.ref 102), some (.int i), none, none, none] []) : k_W X 8 cells slots Q ad h 2257 [some (.ref 5000000), some (.ref 0), some (.ref 70), some (.ref 102), some (.int i), none, none, none] [] := by
  refine r_aload_n C dL_law__2257 (rfl : 2257 + 1 = 2258) rfl ?_
  refine r_aload_n C dL_law__2258 (rfl : 2258 + 1 = 2259) rfl ?_
  refine r_iload C dL_law__2259 (rfl : 2259 + 2 = 2261) rfl ?_
  refine r_iconst (v := (1 : Int32)) C dL_law__2261 (rfl : 2261 + 1 = 2262) rfl ?_
  refine r_iadd C dL_law__2262 (rfl : 2262 + 1 = 2263) ?_
  refine r_argV C hA dL_law__2263 (rfl : 2263 + 1 = 2264) E1 ?_
  obtain ⟨y, t, us, h3, K1, K2, hP⟩ := K
  refine c_V (As := [.int a1]) (st := []) (b := 0) C hR ⟨by omega, by omega⟩ mv_X10_status lk_L_238 dL_law__2264 (rfl : 2264 + 3 = 2267) rfl rfl hLS.1 rfl K1 rfl rfl rfl ?_
  have hL1 : k_LS (k_ap us h) := by unfold k_LS; rw [k_ap_sh]; exact hLS
  change k_W X _ _ _ _ ad _ _ _ [.int y]
  refine r_aload_n C dL_law__2267 (rfl : 2267 + 1 = 2268) rfl ?_
  refine r_aload_n C dL_law__2268 (rfl : 2268 + 1 = 2269) rfl ?_
  refine r_iload C dL_law__2269 (rfl : 2269 + 2 = 2271) rfl ?_
  refine r_iconst (v := (1 : Int32)) C dL_law__2271 (rfl : 2271 + 1 = 2272) rfl ?_
  refine r_iadd C dL_law__2272 (rfl : 2272 + 1 = 2273) ?_
  refine r_argV C hA dL_law__2273 (rfl : 2273 + 1 = 2274) E1 ?_
  refine c_MR C hR ⟨by omega, by omega⟩ hL1 K2 mv_X11_status lk_L_241 dL_law__2274 (rfl : 2274 + 3 = 2277) rfl rfl rfl (fun _ => rfl) (fun _ => rfl) rfl rfl rfl ?_
  have hL3 := k_MR_LS K2 hL1
  refine r_icmp_eq (tgt := 2307) C dL_law__2277 (by decide) (rfl : 2277 + 3 = 2280) (fun _ => ?_) (fun z => absurd rfl z)
  exact k_Wup (by omega) (by omega) (kk ad _ hP hL3 (fun _ _ => rfl) C)
def q_37 (l : Launch) (h : k_H) (a1 a2 a3 a4 a5 : Int32) (P : k_H → Prop) : Prop :=
  ∃ (y t : Int32) (us : List k_U) (h3 : k_H), k_CT l yX10_count cX10_count 2 (some .int) 0 0 [.ref 0, .int a1] h (some (.int y)) us ∧ k_MR l yX11_count cX11_count 2 (some .int) 0 0 [.int a1] (k_ap us h) (.int y) t h3 ∧ P h3
set_option maxRecDepth 20000 in
theorem s_k37 {X : k_X} {cells slots N : Nat} {Q : State → Prop} {ad : Nat → Nat} {h : k_H} {i a1 a2 a3 a4 a5 : Int32} {f : Nat → Int32} (C : k_C X cL_law_ RL 8 ad) (hR : X.R.frames = 2048 ∧ X.R.locals = 84000) (hcs : cells + 85 ≤ X.R.cells ∧ slots + 714 ≤ X.R.slots) (hA : va_T .int (ad 5000000) N (fun j => .int (f j)) X.A X.s X.s.heap) (E1 : k_el N f (i + 1) a1) (E2 : k_el N f (i + 2) a2) (E3 : k_el N f (i + 3) a3) (E4 : k_el N f (i + 4) a4) (E5 : k_el N f (i + 5) a5) (hLS : k_LS h) {P : k_H → Prop} (K : q_37 X.l h a1 a2 a3 a4 a5 P)
    (kk : ∀ (ad' : Nat → Nat) (h' : k_H), P h' → k_LS h' → k_sm 0 ad ad' → k_C X cL_law_ RL 8 ad' → k_W X 8 (cells + 85) (slots + 714) Q ad' h' 2307 [some (.ref 5000000), some (.ref 0), some (.ref 70), some (.ref 102), some (.int i), none, none, none] []) : k_W X 8 cells slots Q ad h 2282 [some (.ref 5000000), some (.ref 0), some (.ref 70), some (.ref 102), some (.int i), none, none, none] [] := by
  refine r_aload_n C dL_law__2282 (rfl : 2282 + 1 = 2283) rfl ?_
  refine r_aload_n C dL_law__2283 (rfl : 2283 + 1 = 2284) rfl ?_
  refine r_iload C dL_law__2284 (rfl : 2284 + 2 = 2286) rfl ?_
  refine r_iconst (v := (1 : Int32)) C dL_law__2286 (rfl : 2286 + 1 = 2287) rfl ?_
  refine r_iadd C dL_law__2287 (rfl : 2287 + 1 = 2288) ?_
  refine r_argV C hA dL_law__2288 (rfl : 2288 + 1 = 2289) E1 ?_
  obtain ⟨y, t, us, h3, K1, K2, hP⟩ := K
  refine c_V (As := [.int a1]) (st := []) (b := 0) C hR ⟨by omega, by omega⟩ mv_X10_count lk_L_242 dL_law__2289 (rfl : 2289 + 3 = 2292) rfl rfl hLS.1 rfl K1 rfl rfl rfl ?_
  have hL1 : k_LS (k_ap us h) := by unfold k_LS; rw [k_ap_sh]; exact hLS
  change k_W X _ _ _ _ ad _ _ _ [.int y]
  refine r_aload_n C dL_law__2292 (rfl : 2292 + 1 = 2293) rfl ?_
  refine r_aload_n C dL_law__2293 (rfl : 2293 + 1 = 2294) rfl ?_
  refine r_iload C dL_law__2294 (rfl : 2294 + 2 = 2296) rfl ?_
  refine r_iconst (v := (1 : Int32)) C dL_law__2296 (rfl : 2296 + 1 = 2297) rfl ?_
  refine r_iadd C dL_law__2297 (rfl : 2297 + 1 = 2298) ?_
  refine r_argV C hA dL_law__2298 (rfl : 2298 + 1 = 2299) E1 ?_
  refine c_MR C hR ⟨by omega, by omega⟩ hL1 K2 mv_X11_count lk_L_245 dL_law__2299 (rfl : 2299 + 3 = 2302) rfl rfl rfl (fun _ => rfl) (fun _ => rfl) rfl rfl rfl ?_
  have hL3 := k_MR_LS K2 hL1
  refine r_icmp_eq (tgt := 2307) C dL_law__2302 (by decide) (rfl : 2302 + 3 = 2305) (fun _ => ?_) (fun z => absurd rfl z)
  exact k_Wup (by omega) (by omega) (kk ad _ hP hL3 (fun _ _ => rfl) C)
