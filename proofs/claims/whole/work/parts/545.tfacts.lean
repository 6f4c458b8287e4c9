def k_Ex (k : Int32) : String := if k = 1 then k_IOO else if k = 2 then k_NSE else k_IAE
def k_R1 (k : Int32) (v : Option Value) (h : k_H) : Option Value → k_H → Prop := fun v' h' => k = 0 ∧ v' = v ∧ h' = h
def k_R2 (k : Int32) (h : k_H) : String → k_H → Prop := fun E h' => ¬ k = 0 ∧ E = k_Ex k ∧ h' = h
theorem k_ox {us : List k_U} {rest : List k_Sh} {I : Nat → Nat → Int32} {L : Nat → Nat → Int64} {Rf : Nat → Nat → Option Nat} (p : Nat) (hp : Nat.ble (p + 1) 70 = true) : p < (k_ap us ((shX ++ rest, I, L, Rf) : k_H)).1.length ∨ 1000000 ≤ p := by
  refine Or.inl (Nat.lt_of_lt_of_le (Nat.le_of_ble_eq_true hp) ?_)
  rw [k_ap_sh]
  show 70 ≤ (shX ++ rest).length
  rw [List.length_append]
  exact Nat.le_add_right 70 _
section MM
variable {X : k_X} {cc : ByteArray} {own : String} {nL cells slots : Nat} {Q : State → Prop} {ad : Nat → Nat} {h : k_H} {pc pc' : Nat} {lv : List (Option Value)} {st : List Value} {F NN ix : Nat}
theorem r_maxc (C : k_C X cc own nL ad) (hR : X.R.frames = F ∧ X.R.locals = NN) (hcs : cells ≤ X.R.cells ∧ slots ≤ X.R.slots) {x y : Int32} (hd : decode cc pc = .ok (.invokestatic ix, 3)) (hn : pc + 3 = pc') (hl : Cond.methodLink own ix Lib.Math.max.name ∈ k_tb) (h1 : Nat.ble 1 F = true) (h2 : Nat.ble 21 NN = true) (h3 : Nat.ble ((st.map fun v => v.category).sum) 8 = true) (k : k_W X nL cells slots Q ad h pc' lv (.int (if x < y then y else x) :: st)) : k_W X nL cells slots Q ad h pc lv (.int y :: .int x :: st) := by
  subst hn
  intro H locs ls hw hP hD hS hll
  have h3' := Nat.le_of_ble_eq_true h3
  have h2' := Nat.le_of_ble_eq_true h2
  refine va_mmax C.1 C.2.1 (by rw [C.2.2.1]; exact hll.1.symm) C.2.2.2.1 (C.2.2.2.2.1 _ hl) (C.2.2.2.2.1 _ w_maxS) (C.2.2.2.2.1 _ w_mathI) (C.2.2.2.2.1 _ w_maxC) (by rw [hR.1]; exact Nat.le_of_ble_eq_true h1) ?_ hcs.1 hcs.2 hd (k H locs ls hw hP hD hS hll)
  have := k_cats ad st
  show ((st.map (k_rl ad)).map fun v => v.category).sum + 13 ≤ X.R.locals
  rw [this, hR.2]; omega
theorem r_minc (C : k_C X cc own nL ad) (hR : X.R.frames = F ∧ X.R.locals = NN) (hcs : cells ≤ X.R.cells ∧ slots ≤ X.R.slots) {x y : Int32} (hd : decode cc pc = .ok (.invokestatic ix, 3)) (hn : pc + 3 = pc') (hl : Cond.methodLink own ix Lib.Math.min.name ∈ k_tb) (h1 : Nat.ble 1 F = true) (h2 : Nat.ble 21 NN = true) (h3 : Nat.ble ((st.map fun v => v.category).sum) 8 = true) (k : k_W X nL cells slots Q ad h pc' lv (.int (if y < x then y else x) :: st)) : k_W X nL cells slots Q ad h pc lv (.int y :: .int x :: st) := by
  subst hn
  intro H locs ls hw hP hD hS hll
  have h3' := Nat.le_of_ble_eq_true h3
  have h2' := Nat.le_of_ble_eq_true h2
  refine va_mmin C.1 C.2.1 (by rw [C.2.2.1]; exact hll.1.symm) C.2.2.2.1 (C.2.2.2.2.1 _ hl) (C.2.2.2.2.1 _ w_minS) (C.2.2.2.2.1 _ w_mathI) (C.2.2.2.2.1 _ w_minC) (by rw [hR.1]; exact Nat.le_of_ble_eq_true h1) ?_ hcs.1 hcs.2 hd (k H locs ls hw hP hD hS hll)
  have := k_cats ad st
  show ((st.map (k_rl ad)).map fun v => v.category).sum + 13 ≤ X.R.locals
  rw [this, hR.2]; omega
end MM
def k_nms : List String := ["java/lang/RuntimeException", "java/lang/Exception"]
theorem t_iae : ∀ w ∈ (vx_atS "LullabyPit" 418 k_IAE k_nms).filter goodWord, w ∈ k_tb := by decide +kernel
theorem t_ioo : ∀ w ∈ (vx_atS "LullabyPit" 430 k_IOO k_nms).filter goodWord, w ∈ k_tb := by decide +kernel
theorem t_iae2 : ∀ w ∈ (vx_atS "LullabyPit" 418 k_IAE k_nms).filter (fun w => !goodWord w), w ∈ k_xw k_IAE := by decide +kernel
theorem t_ioo2 : ∀ w ∈ (vx_atS "LullabyPit" 430 k_IOO k_nms).filter (fun w => !goodWord w), w ∈ k_xw k_IOO := by decide +kernel
theorem t_iae3 : ∀ w ∈ vx_atS "LullabyPit" 418 k_IAE k_nms, vx_ot w = true := by decide +kernel
theorem t_ioo3 : ∀ w ∈ vx_atS "LullabyPit" 430 k_IOO k_nms, vx_ot w = true := by decide +kernel
theorem t_nse : ∀ w ∈ (n_atN "LullabyPit" 425 k_NSE 13 prog_32_method_4_code "java/lang/RuntimeException" ["java/lang/Exception"]).filter goodWord, w ∈ k_tb := by decide +kernel
theorem t_nse2 : ∀ w ∈ (n_atN "LullabyPit" 425 k_NSE 13 prog_32_method_4_code "java/lang/RuntimeException" ["java/lang/Exception"]).filter (fun w => !goodWord w), w ∈ k_xw k_NSE := by decide +kernel
theorem t_nse3 : ∀ w ∈ n_atN "LullabyPit" 425 k_NSE 13 prog_32_method_4_code "java/lang/RuntimeException" ["java/lang/Exception"], vx_ot w = true := by decide +kernel
theorem dJN_init_0 : decode prog_32_method_4_code 0 = .ok (.aload_n 0, 1) := by decide +kernel
theorem dJN_init_1 : decode prog_32_method_4_code 1 = .ok (.aload_n 1, 1) := by decide +kernel
theorem dJN_init_2 : decode prog_32_method_4_code 2 = .ok (.invokespecial 13, 3) := by decide +kernel
theorem dJN_init_5 : decode prog_32_method_4_code 5 = .ok (.return_, 1) := by decide +kernel
theorem in_X10 : ∀ w ∈ u_ws RX10 TX10 15, w ∈ k_tb := by decide +kernel
theorem fl_X10_105 : k_FL RX10 105 10 13 := ⟨_, _, _, rfl, in_X10, by decide, Or.inl (k_me (tm2 (List.mem_of_getElem? (i := 219) rfl)) rfl)⟩
theorem fl_X10_19 : k_FL RX10 19 10 1 := ⟨_, _, _, rfl, in_X10, by decide, Or.inl (k_me (tm2 (List.mem_of_getElem? (i := 207) rfl)) rfl)⟩
theorem fl_X10_195 : k_FL RX10 195 5 10 := ⟨_, _, _, rfl, in_X5, by decide, Or.inl (k_me (tm1 (List.mem_of_getElem? (i := 122) rfl)) rfl)⟩
theorem fl_X10_189 : k_FL RX10 189 5 0 := ⟨_, _, _, rfl, in_X5, by decide, Or.inl (k_me (tm1 (List.mem_of_getElem? (i := 92) rfl)) rfl)⟩
theorem fl_X10_192 : k_FL RX10 192 5 1 := ⟨_, _, _, rfl, in_X5, by decide, Or.inl (k_me (tm1 (List.mem_of_getElem? (i := 98) rfl)) rfl)⟩
theorem fl_X10_10 : k_FL RX10 10 10 0 := ⟨_, _, _, rfl, in_X10, by decide, Or.inl (k_me (tm2 (List.mem_of_getElem? (i := 206) rfl)) rfl)⟩
theorem fl_X10_109 : k_FL RX10 109 8 1 := ⟨_, _, _, rfl, in_X8, by decide, Or.inl (k_me (tm1 (List.mem_of_getElem? (i := 43) rfl)) rfl)⟩
theorem fl_X10_50 : k_FL RX10 50 10 6 := ⟨_, _, _, rfl, in_X10, by decide, Or.inl (k_me (tm2 (List.mem_of_getElem? (i := 212) rfl)) rfl)⟩
theorem fl_X10_198 : k_FL RX10 198 3 10 := ⟨_, _, _, rfl, in_X3, by decide, Or.inl (k_me (tm1 (List.mem_of_getElem? (i := 215) rfl)) rfl)⟩
theorem fl_X10_201 : k_FL RX10 201 5 8 := ⟨_, _, _, rfl, in_X5, by decide, Or.inl (k_me (tm1 (List.mem_of_getElem? (i := 117) rfl)) rfl)⟩
theorem fl_X10_204 : k_FL RX10 204 3 11 := ⟨_, _, _, rfl, in_X3, by decide, Or.inl (k_me (tm1 (List.mem_of_getElem? (i := 217) rfl)) rfl)⟩
theorem fl_X10_207 : k_FL RX10 207 3 12 := ⟨_, _, _, rfl, in_X3, by decide, Or.inl (k_me (tm1 (List.mem_of_getElem? (i := 219) rfl)) rfl)⟩
theorem fl_X10_210 : k_FL RX10 210 3 13 := ⟨_, _, _, rfl, in_X3, by decide, Or.inl (k_me (tm1 (List.mem_of_getElem? (i := 221) rfl)) rfl)⟩
theorem fl_X10_213 : k_FL RX10 213 3 14 := ⟨_, _, _, rfl, in_X3, by decide, Or.inl (k_me (tm1 (List.mem_of_getElem? (i := 224) rfl)) rfl)⟩
theorem fl_X10_216 : k_FL RX10 216 3 15 := ⟨_, _, _, rfl, in_X3, by decide, Or.inl (k_me (tm1 (List.mem_of_getElem? (i := 226) rfl)) rfl)⟩
theorem fl_X10_139 : k_FL RX10 139 10 14 := ⟨_, _, _, rfl, in_X10, by decide, Or.inl (k_me (tm2 (List.mem_of_getElem? (i := 220) rfl)) rfl)⟩
theorem fl_X10_85 : k_FL RX10 85 10 10 := ⟨_, _, _, rfl, in_X10, by decide, Or.inl (k_me (tm2 (List.mem_of_getElem? (i := 216) rfl)) rfl)⟩
theorem fl_X10_177 : k_FL RX10 177 9 3 := ⟨_, _, _, rfl, in_X9, by decide, Or.inl (k_me (tm2 (List.mem_of_getElem? (i := 147) rfl)) rfl)⟩
theorem fl_X10_223 : k_FL RX10 223 5 2 := ⟨_, _, _, rfl, in_X5, by decide, Or.inl (k_me (tm1 (List.mem_of_getElem? (i := 102) rfl)) rfl)⟩
theorem fl_X10_226 : k_FL RX10 226 5 3 := ⟨_, _, _, rfl, in_X5, by decide, Or.inl (k_me (tm1 (List.mem_of_getElem? (i := 105) rfl)) rfl)⟩
theorem fl_X10_243 : k_FL RX10 243 3 6 := ⟨_, _, _, rfl, in_X3, by decide, Or.inl (k_me (tm1 (List.mem_of_getElem? (i := 205) rfl)) rfl)⟩
theorem fl_X10_246 : k_FL RX10 246 3 7 := ⟨_, _, _, rfl, in_X3, by decide, Or.inl (k_me (tm1 (List.mem_of_getElem? (i := 208) rfl)) rfl)⟩
theorem fl_X10_249 : k_FL RX10 249 3 8 := ⟨_, _, _, rfl, in_X3, by decide, Or.inl (k_me (tm1 (List.mem_of_getElem? (i := 210) rfl)) rfl)⟩
theorem fl_X10_252 : k_FL RX10 252 5 4 := ⟨_, _, _, rfl, in_X5, by decide, Or.inl (k_me (tm1 (List.mem_of_getElem? (i := 108) rfl)) rfl)⟩
theorem fl_X10_258 : k_FL RX10 258 5 11 := ⟨_, _, _, rfl, in_X5, by decide, Or.inl (k_me (tm1 (List.mem_of_getElem? (i := 126) rfl)) rfl)⟩
theorem fl_X10_261 : k_FL RX10 261 5 12 := ⟨_, _, _, rfl, in_X5, by decide, Or.inl (k_me (tm1 (List.mem_of_getElem? (i := 129) rfl)) rfl)⟩
theorem fl_X10_267 : k_FL RX10 267 3 9 := ⟨_, _, _, rfl, in_X3, by decide, Or.inl (k_me (tm1 (List.mem_of_getElem? (i := 212) rfl)) rfl)⟩
theorem fl_X10_270 : k_FL RX10 270 5 13 := ⟨_, _, _, rfl, in_X5, by decide, Or.inl (k_me (tm1 (List.mem_of_getElem? (i := 131) rfl)) rfl)⟩
theorem fl_X10_76 : k_FL RX10 76 10 9 := ⟨_, _, _, rfl, in_X10, by decide, Or.inl (k_me (tm2 (List.mem_of_getElem? (i := 215) rfl)) rfl)⟩
theorem fl_X10_101 : k_FL RX10 101 10 12 := ⟨_, _, _, rfl, in_X10, by decide, Or.inl (k_me (tm2 (List.mem_of_getElem? (i := 218) rfl)) rfl)⟩
theorem fl_X10_335 : k_FL RX10 335 2 1 := ⟨_, _, _, rfl, in_X2, by decide, Or.inl (k_me (tm2 (List.mem_of_getElem? (i := 192) rfl)) rfl)⟩
theorem fl_X10_338 : k_FL RX10 338 2 2 := ⟨_, _, _, rfl, in_X2, by decide, Or.inl (k_me (tm2 (List.mem_of_getElem? (i := 194) rfl)) rfl)⟩
theorem fl_X10_341 : k_FL RX10 341 2 3 := ⟨_, _, _, rfl, in_X2, by decide, Or.inl (k_me (tm2 (List.mem_of_getElem? (i := 196) rfl)) rfl)⟩
theorem fl_X10_94 : k_FL RX10 94 10 11 := ⟨_, _, _, rfl, in_X10, by decide, Or.inl (k_me (tm2 (List.mem_of_getElem? (i := 217) rfl)) rfl)⟩
theorem fl_X10_362 : k_FL RX10 362 0 1 := ⟨_, _, _, rfl, in_X0, by decide, Or.inl (k_me (tm2 (List.mem_of_getElem? (i := 166) rfl)) rfl)⟩
theorem fl_X10_364 : k_FL RX10 364 0 2 := ⟨_, _, _, rfl, in_X0, by decide, Or.inl (k_me (tm2 (List.mem_of_getElem? (i := 168) rfl)) rfl)⟩
theorem fl_X10_367 : k_FL RX10 367 0 3 := ⟨_, _, _, rfl, in_X0, by decide, Or.inl (k_me (tm2 (List.mem_of_getElem? (i := 170) rfl)) rfl)⟩
theorem fl_X10_370 : k_FL RX10 370 0 4 := ⟨_, _, _, rfl, in_X0, by decide, Or.inl (k_me (tm2 (List.mem_of_getElem? (i := 172) rfl)) rfl)⟩
theorem lk_X10_371 : k_lk RX10 371 yJ9_min_7cf53 := Or.inl (k_me (tm6 (List.mem_of_getElem? (i := 192) rfl)) rfl)
theorem lm_X10_371 : Cond.methodLink RX10 371 Lib.Math.min.name ∈ k_tb := (k_me (tm6 (List.mem_of_getElem? (i := 192) rfl)) rfl)
theorem lk_X10_376 : k_lk RX10 376 yJ9_max_7cf53 := Or.inl (k_me (tm6 (List.mem_of_getElem? (i := 193) rfl)) rfl)
theorem lm_X10_376 : Cond.methodLink RX10 376 Lib.Math.max.name ∈ k_tb := (k_me (tm6 (List.mem_of_getElem? (i := 193) rfl)) rfl)
theorem fl_X10_379 : k_FL RX10 379 3 16 := ⟨_, _, _, rfl, in_X3, by decide, Or.inl (k_me (tm1 (List.mem_of_getElem? (i := 229) rfl)) rfl)⟩
theorem fl_X10_382 : k_FL RX10 382 3 17 := ⟨_, _, _, rfl, in_X3, by decide, Or.inl (k_me (tm1 (List.mem_of_getElem? (i := 232) rfl)) rfl)⟩
theorem ct_X10_396 : Cond.constantLong RX10 396 (-1) ∈ k_tb := (k_me (tm6 (List.mem_of_getElem? (i := 204) rfl)) rfl)
theorem fl_X10_23 : k_FL RX10 23 10 2 := ⟨_, _, _, rfl, in_X10, by decide, Or.inl (k_me (tm2 (List.mem_of_getElem? (i := 208) rfl)) rfl)⟩
theorem fl_X10_29 : k_FL RX10 29 10 3 := ⟨_, _, _, rfl, in_X10, by decide, Or.inl (k_me (tm2 (List.mem_of_getElem? (i := 209) rfl)) rfl)⟩
theorem fl_X10_33 : k_FL RX10 33 10 4 := ⟨_, _, _, rfl, in_X10, by decide, Or.inl (k_me (tm2 (List.mem_of_getElem? (i := 210) rfl)) rfl)⟩
theorem fl_X10_67 : k_FL RX10 67 10 8 := ⟨_, _, _, rfl, in_X10, by decide, Or.inl (k_me (tm2 (List.mem_of_getElem? (i := 214) rfl)) rfl)⟩
theorem fp_X4_25 : k_FP RX4 25 4 1 .int := ⟨_, _, _, tyX4, rfl, in_X4, tyX4_ok, nmX4, by decide, rfl, by decide +kernel, Or.inl (k_me (tm2 (List.mem_of_getElem? (i := 75) rfl)) rfl)⟩
theorem fp_X4_29 : k_FP RX4 29 4 5 .int := ⟨_, _, _, tyX4, rfl, in_X4, tyX4_ok, nmX4, by decide, rfl, by decide +kernel, Or.inl (k_me (tm2 (List.mem_of_getElem? (i := 80) rfl)) rfl)⟩
theorem fp_X10_139 : k_FP RX10 139 10 14 .int := ⟨_, _, _, tyX10, rfl, in_X10, tyX10_ok, nmX10, by decide, rfl, by decide +kernel, Or.inl (k_me (tm2 (List.mem_of_getElem? (i := 220) rfl)) rfl)⟩
theorem fl_X10_129 : k_FL RX10 129 8 5 := ⟨_, _, _, rfl, in_X8, by decide, Or.inl (k_me (tm1 (List.mem_of_getElem? (i := 53) rfl)) rfl)⟩
theorem fl_X10_299 : k_FL RX10 299 7 5 := ⟨_, _, _, rfl, in_X7, by decide, Or.inl (k_me (tm2 (List.mem_of_getElem? (i := 122) rfl)) rfl)⟩
theorem fl_X10_296 : k_FL RX10 296 7 3 := ⟨_, _, _, rfl, in_X7, by decide, Or.inl (k_me (tm2 (List.mem_of_getElem? (i := 119) rfl)) rfl)⟩
theorem fl_X10_36 : k_FL RX10 36 10 5 := ⟨_, _, _, rfl, in_X10, by decide, Or.inl (k_me (tm2 (List.mem_of_getElem? (i := 211) rfl)) rfl)⟩
theorem fl_X4_25 : k_FL RX4 25 4 1 := ⟨_, _, _, rfl, in_X4, by decide, Or.inl (k_me (tm2 (List.mem_of_getElem? (i := 75) rfl)) rfl)⟩
theorem fl_X10_180 : k_FL RX10 180 8 6 := ⟨_, _, _, rfl, in_X8, by decide, Or.inl (k_me (tm1 (List.mem_of_getElem? (i := 55) rfl)) rfl)⟩
theorem fl_X10_406 : k_FL RX10 406 4 5 := ⟨_, _, _, rfl, in_X4, by decide, Or.inl (k_me (tm2 (List.mem_of_getElem? (i := 81) rfl)) rfl)⟩
theorem fl_X10_183 : k_FL RX10 183 4 1 := ⟨_, _, _, rfl, in_X4, by decide, Or.inl (k_me (tm2 (List.mem_of_getElem? (i := 76) rfl)) rfl)⟩
theorem fl_X10_60 : k_FL RX10 60 10 7 := ⟨_, _, _, rfl, in_X10, by decide, Or.inl (k_me (tm2 (List.mem_of_getElem? (i := 213) rfl)) rfl)⟩
theorem fl_X10_163 : k_FL RX10 163 6 3 := ⟨_, _, _, rfl, in_X6, by decide, Or.inl (k_me (tm2 (List.mem_of_getElem? (i := 45) rfl)) rfl)⟩
theorem fl_X10_170 : k_FL RX10 170 6 6 := ⟨_, _, _, rfl, in_X6, by decide, Or.inl (k_me (tm2 (List.mem_of_getElem? (i := 50) rfl)) rfl)⟩
theorem fl_X10_173 : k_FL RX10 173 6 5 := ⟨_, _, _, rfl, in_X6, by decide, Or.inl (k_me (tm2 (List.mem_of_getElem? (i := 48) rfl)) rfl)⟩
theorem lk_X10_146 : k_lk RX10 146 yX10_need := Or.inl (k_me (tm3 (List.mem_of_getElem? (i := 141) rfl)) rfl)
theorem mv_X10_need : k_MV yX10_need cX10_need 2 none 1 := ⟨(k_me (tm3 (List.mem_of_getElem? (i := 143) rfl)) rfl), (k_me (tmp 15 (List.mem_of_getElem? (i := 7) rfl)) rfl), (k_me (tm1 (List.mem_of_getElem? (i := 1) rfl)) rfl), (k_me (tm3 (List.mem_of_getElem? (i := 144) rfl)) rfl), by decide, by decide, by decide +kernel⟩
theorem lk_X10_412 : k_lk RX10 412 yX8_begin := Or.inl (k_me (tm3 (List.mem_of_getElem? (i := 212) rfl)) rfl)
theorem mv_X8_begin : k_MV yX8_begin cX8_begin 2 none 1 := ⟨(k_me (tm3 (List.mem_of_getElem? (i := 213) rfl)) rfl), (k_me (tm3 (List.mem_of_getElem? (i := 214) rfl)) rfl), (k_me (tm1 (List.mem_of_getElem? (i := 2) rfl)) rfl), (k_me (tm3 (List.mem_of_getElem? (i := 215) rfl)) rfl), by decide, by decide, by decide +kernel⟩
theorem ck_shX_shTape_1 {rest : List k_Sh} : k_ck [1, 2] shTape (shX ++ rest) = true := k_ck_app (by decide +kernel)
theorem lk_X10_219 : k_lk RX10 219 yX10_cellAt := Or.inl (k_me (tm5 (List.mem_of_getElem? (i := 96) rfl)) rfl)
theorem mv_X10_cellAt : k_MV yX10_cellAt cX10_cellAt 3 (some .int) 2 := ⟨(k_me (tm5 (List.mem_of_getElem? (i := 98) rfl)) rfl), (k_me (tmp 15 (List.mem_of_getElem? (i := 30) rfl)) rfl), (k_me (tm1 (List.mem_of_getElem? (i := 1) rfl)) rfl), (k_me (tm5 (List.mem_of_getElem? (i := 99) rfl)) rfl), by decide, by decide, by decide +kernel⟩
theorem lk_X10_229 : k_lk RX10 229 yX3_stateOf := Or.inl (k_me (tm5 (List.mem_of_getElem? (i := 116) rfl)) rfl)
theorem mv_X3_stateOf : k_MV yX3_stateOf cX3_stateOf 2 (some .int) 1 := ⟨(k_me (tm5 (List.mem_of_getElem? (i := 117) rfl)) rfl), (k_me (tm5 (List.mem_of_getElem? (i := 118) rfl)) rfl), (k_me (tm1 (List.mem_of_getElem? (i := 6) rfl)) rfl), (k_me (tm5 (List.mem_of_getElem? (i := 119) rfl)) rfl), by decide, by decide, by decide +kernel⟩
theorem lk_X10_233 : k_lk RX10 233 yX3_wide := Or.inl (k_me (tm5 (List.mem_of_getElem? (i := 120) rfl)) rfl)
theorem lk_X10_236 : k_lk RX10 236 yX10_isMusic := Or.inl (k_me (tm5 (List.mem_of_getElem? (i := 128) rfl)) rfl)
theorem lk_X10_240 : k_lk RX10 240 yX3_wholeBars := Or.inl (k_me (tm5 (List.mem_of_getElem? (i := 129) rfl)) rfl)
theorem mv_X3_wholeBars : k_MV yX3_wholeBars cX3_wholeBars 4 (some .int) 1 := ⟨(k_me (tm5 (List.mem_of_getElem? (i := 130) rfl)) rfl), (k_me (tm5 (List.mem_of_getElem? (i := 131) rfl)) rfl), (k_me (tm1 (List.mem_of_getElem? (i := 6) rfl)) rfl), (k_me (tm5 (List.mem_of_getElem? (i := 132) rfl)) rfl), by decide, by decide, by decide +kernel⟩
theorem lk_X10_255 : k_lk RX10 255 yX10_needOrder := Or.inl (k_me (tm5 (List.mem_of_getElem? (i := 141) rfl)) rfl)
theorem mv_X10_needOrder : k_MV yX10_needOrder cX10_needOrder 2 none 1 := ⟨(k_me (tm5 (List.mem_of_getElem? (i := 143) rfl)) rfl), (k_me (tmp 15 (List.mem_of_getElem? (i := 31) rfl)) rfl), (k_me (tm1 (List.mem_of_getElem? (i := 1) rfl)) rfl), (k_me (tm5 (List.mem_of_getElem? (i := 144) rfl)) rfl), by decide, by decide, by decide +kernel⟩
theorem lk_X10_264 : k_lk RX10 264 yX5_orderWorth := Or.inl (k_me (tm5 (List.mem_of_getElem? (i := 161) rfl)) rfl)
theorem lk_X10_273 : k_lk RX10 273 yX3_lacking := Or.inl (k_me (tm5 (List.mem_of_getElem? (i := 180) rfl)) rfl)
theorem lk_X10_276 : k_lk RX10 276 yX3_obstacle := Or.inl (k_me (tm5 (List.mem_of_getElem? (i := 188) rfl)) rfl)
theorem lk_X10_279 : k_lk RX10 279 yX3_wouldFall := Or.inl (k_me (tm5 (List.mem_of_getElem? (i := 196) rfl)) rfl)
theorem lk_X10_282 : k_lk RX10 282 yX7_risksOf := Or.inl (k_me (tm5 (List.mem_of_getElem? (i := 207) rfl)) rfl)
theorem mv_X7_risksOf : k_MV yX7_risksOf cX7_risksOf 4 (some .int) 2 := ⟨(k_me (tm5 (List.mem_of_getElem? (i := 208) rfl)) rfl), (k_me (tm5 (List.mem_of_getElem? (i := 209) rfl)) rfl), (k_me (tm1 (List.mem_of_getElem? (i := 9) rfl)) rfl), (k_me (tm5 (List.mem_of_getElem? (i := 210) rfl)) rfl), by decide, by decide, by decide +kernel⟩
theorem lk_X10_286 : k_lk RX10 286 yX3_harmOf := Or.inl (k_me (tm5 (List.mem_of_getElem? (i := 221) rfl)) rfl)
theorem lk_X10_289 : k_lk RX10 289 yX10_isEither := Or.inl (k_me (tm5 (List.mem_of_getElem? (i := 229) rfl)) rfl)
theorem ms_X10_isEither : k_MS yX10_isEither cX10_isEither 1 (some .boolean) 1 := ⟨(k_me (tm5 (List.mem_of_getElem? (i := 230) rfl)) rfl), (k_me (tm1 (List.mem_of_getElem? (i := 1) rfl)) rfl), (k_me (tm5 (List.mem_of_getElem? (i := 231) rfl)) rfl), by decide, by decide, by decide +kernel⟩
theorem lk_X10_303 : k_lk RX10 303 yX7_wayTo := Or.inl (k_me (tm6 (List.mem_of_getElem? (i := 17) rfl)) rfl)
theorem mv_X7_wayTo : k_MV yX7_wayTo cX7_wayTo 15 (some .int) 3 := ⟨(k_me (tm6 (List.mem_of_getElem? (i := 18) rfl)) rfl), (k_me (tm6 (List.mem_of_getElem? (i := 19) rfl)) rfl), (k_me (tm1 (List.mem_of_getElem? (i := 9) rfl)) rfl), (k_me (tm6 (List.mem_of_getElem? (i := 20) rfl)) rfl), by decide, by decide, by decide +kernel⟩
theorem lk_X10_311 : k_lk RX10 311 yX7_ordersToFill := Or.inl (k_me (tm6 (List.mem_of_getElem? (i := 74) rfl)) rfl)
theorem mv_X7_ordersToFill : k_MV yX7_ordersToFill cX7_ordersToFill 7 (some .int) 2 := ⟨(k_me (tm6 (List.mem_of_getElem? (i := 75) rfl)) rfl), (k_me (tm6 (List.mem_of_getElem? (i := 76) rfl)) rfl), (k_me (tm1 (List.mem_of_getElem? (i := 9) rfl)) rfl), (k_me (tm6 (List.mem_of_getElem? (i := 77) rfl)) rfl), by decide, by decide, by decide +kernel⟩
theorem lk_X10_315 : k_lk RX10 315 yX10_isColumn := Or.inl (k_me (tm6 (List.mem_of_getElem? (i := 91) rfl)) rfl)
theorem mv_X10_isColumn : k_MV yX10_isColumn cX10_isColumn 2 (some .boolean) 1 := ⟨(k_me (tm6 (List.mem_of_getElem? (i := 93) rfl)) rfl), (k_me (tmp 15 (List.mem_of_getElem? (i := 36) rfl)) rfl), (k_me (tm1 (List.mem_of_getElem? (i := 1) rfl)) rfl), (k_me (tm6 (List.mem_of_getElem? (i := 94) rfl)) rfl), by decide, by decide, by decide +kernel⟩
theorem lk_X10_318 : k_lk RX10 318 yX9_heard := Or.inl (k_me (tm6 (List.mem_of_getElem? (i := 95) rfl)) rfl)
theorem ck_shX_shTaps_58_5 {rest : List k_Sh} : k_ck [58, 59, 60, 3, 4, 5, 6, 7, 8, 9] shTaps (shX ++ rest) = true := k_ck_app (by decide +kernel)
theorem lk_X10_324 : k_lk RX10 324 yX9_nextTap := Or.inl (k_me (tm6 (List.mem_of_getElem? (i := 110) rfl)) rfl)
theorem mv_X9_nextTap : k_MV yX9_nextTap cX9_nextTap 7 (some .int) 1 := ⟨(k_me (tm6 (List.mem_of_getElem? (i := 111) rfl)) rfl), (k_me (tm6 (List.mem_of_getElem? (i := 112) rfl)) rfl), (k_me (tm1 (List.mem_of_getElem? (i := 11) rfl)) rfl), (k_me (tm6 (List.mem_of_getElem? (i := 113) rfl)) rfl), by decide, by decide, by decide +kernel⟩
theorem lk_X10_328 : k_lk RX10 328 yX9_canonOf := Or.inl (k_me (tm6 (List.mem_of_getElem? (i := 127) rfl)) rfl)
theorem mv_X9_canonOf : k_MV yX9_canonOf cX9_canonOf 10 (some .int) 3 := ⟨(k_me (tm6 (List.mem_of_getElem? (i := 128) rfl)) rfl), (k_me (tm6 (List.mem_of_getElem? (i := 129) rfl)) rfl), (k_me (tm1 (List.mem_of_getElem? (i := 11) rfl)) rfl), (k_me (tm6 (List.mem_of_getElem? (i := 130) rfl)) rfl), by decide, by decide, by decide +kernel⟩
theorem lk_X10_332 : k_lk RX10 332 yX2_findRests := Or.inl (k_me (tm6 (List.mem_of_getElem? (i := 138) rfl)) rfl)
theorem mv_X2_findRests : k_MV yX2_findRests cX2_findRests 6 none 2 := ⟨(k_me (tm6 (List.mem_of_getElem? (i := 139) rfl)) rfl), (k_me (tm6 (List.mem_of_getElem? (i := 140) rfl)) rfl), (k_me (tm1 (List.mem_of_getElem? (i := 13) rfl)) rfl), (k_me (tm6 (List.mem_of_getElem? (i := 141) rfl)) rfl), by decide, by decide, by decide +kernel⟩
theorem ck_shX_shMkt_67 {rest : List k_Sh} : k_ck [67, 68] shMkt (shX ++ rest) = true := k_ck_app (by decide +kernel)
theorem lk_X10_344 : k_lk RX10 344 yX3_longestFace := Or.inl (k_me (tm6 (List.mem_of_getElem? (i := 158) rfl)) rfl)
theorem mv_X3_longestFace : k_MV yX3_longestFace cX3_longestFace 7 (some .int) 2 := ⟨(k_me (tm6 (List.mem_of_getElem? (i := 159) rfl)) rfl), (k_me (tm6 (List.mem_of_getElem? (i := 160) rfl)) rfl), (k_me (tm1 (List.mem_of_getElem? (i := 6) rfl)) rfl), (k_me (tm6 (List.mem_of_getElem? (i := 161) rfl)) rfl), by decide, by decide, by decide +kernel⟩
theorem lk_X10_354 : k_lk RX10 354 yX10_isDecade := Or.inl (k_me (tm6 (List.mem_of_getElem? (i := 169) rfl)) rfl)
theorem ms_X10_isDecade : k_MS yX10_isDecade cX10_isDecade 2 (some .boolean) 2 := ⟨(k_me (tm6 (List.mem_of_getElem? (i := 170) rfl)) rfl), (k_me (tm1 (List.mem_of_getElem? (i := 1) rfl)) rfl), (k_me (tm6 (List.mem_of_getElem? (i := 171) rfl)) rfl), by decide, by decide, by decide +kernel⟩
theorem lk_X10_358 : k_lk RX10 358 yX0_play := Or.inl (k_me (tm6 (List.mem_of_getElem? (i := 172) rfl)) rfl)
theorem mv_X0_play : k_MV yX0_play cX0_play 7 none 4 := ⟨(k_me (tm6 (List.mem_of_getElem? (i := 173) rfl)) rfl), (k_me (tm6 (List.mem_of_getElem? (i := 174) rfl)) rfl), (k_me (tm1 (List.mem_of_getElem? (i := 12) rfl)) rfl), (k_me (tm6 (List.mem_of_getElem? (i := 175) rfl)) rfl), by decide, by decide, by decide +kernel⟩
theorem ck_shX_shDec_61_66 {rest : List k_Sh} : k_ck [61, 62, 63, 64, 65, 66, 3, 4, 5, 6, 7, 8, 9, 17, 18, 19, 20, 21, 22, 26, 27, 28, 29, 30] shDec (shX ++ rest) = true := k_ck_app (by decide +kernel)
theorem lk_X10_383 : k_lk RX10 383 yX3_openCells := Or.inl (k_me (tm6 (List.mem_of_getElem? (i := 201) rfl)) rfl)
theorem lk_X10_387 : k_lk RX10 387 yJ13_bitCount_95d88 := Or.inl (k_me (tm6 (List.mem_of_getElem? (i := 202) rfl)) rfl)
theorem lk_X10_393 : k_lk RX10 393 yX3_handCells := Or.inl (k_me (tm6 (List.mem_of_getElem? (i := 203) rfl)) rfl)
theorem lk_X10_398 : k_lk RX10 398 yX10_rowOf := Or.inl (k_me (tm6 (List.mem_of_getElem? (i := 212) rfl)) rfl)
theorem lk_X10_117 : k_lk RX10 117 yX10_takeText := Or.inl (k_me (tm3 (List.mem_of_getElem? (i := 137) rfl)) rfl)
theorem mv_X10_takeText : k_MV yX10_takeText cX10_takeText 3 none 2 := ⟨(k_me (tm3 (List.mem_of_getElem? (i := 139) rfl)) rfl), (k_me (tmp 15 (List.mem_of_getElem? (i := 6) rfl)) rfl), (k_me (tm1 (List.mem_of_getElem? (i := 1) rfl)) rfl), (k_me (tm3 (List.mem_of_getElem? (i := 140) rfl)) rfl), by decide, by decide, by decide +kernel⟩
theorem lk_X10_121 : k_lk RX10 121 yX5_read := Or.inl (k_me (tm3 (List.mem_of_getElem? (i := 219) rfl)) rfl)
theorem mv_X5_read : k_MV yX5_read cX5_read 3 none 1 := ⟨(k_me (tm3 (List.mem_of_getElem? (i := 220) rfl)) rfl), (k_me (tm3 (List.mem_of_getElem? (i := 221) rfl)) rfl), (k_me (tm1 (List.mem_of_getElem? (i := 3) rfl)) rfl), (k_me (tm3 (List.mem_of_getElem? (i := 222) rfl)) rfl), by decide, by decide, by decide +kernel⟩
theorem ck_shX_shPitTape_10_15 {rest : List k_Sh} : k_ck [10, 11, 12, 13, 14, 15, 16, 1, 2] shPitTape (shX ++ rest) = true := k_ck_app (by decide +kernel)
theorem lk_X10_125 : k_lk RX10 125 yX8_good := Or.inl (k_me (tm4 (List.mem_of_getElem? (i := 103) rfl)) rfl)
theorem lk_X10_132 : k_lk RX10 132 yX5_copyFrom := Or.inl (k_me (tm4 (List.mem_of_getElem? (i := 104) rfl)) rfl)
theorem mv_X5_copyFrom : k_MV yX5_copyFrom cX5_copyFrom 2 none 1 := ⟨(k_me (tm4 (List.mem_of_getElem? (i := 105) rfl)) rfl), (k_me (tm4 (List.mem_of_getElem? (i := 106) rfl)) rfl), (k_me (tm1 (List.mem_of_getElem? (i := 3) rfl)) rfl), (k_me (tm4 (List.mem_of_getElem? (i := 107) rfl)) rfl), by decide, by decide, by decide +kernel⟩
theorem ck_shX_shPit2_3_8 {rest : List k_Sh} : k_ck [3, 4, 5, 6, 7, 8, 9, 10, 11, 12, 13, 14, 15, 16] shPit2 (shX ++ rest) = true := k_ck_app (by decide +kernel)
theorem lk_X10_39 : k_lk RX10 39 yX1_beFall := Or.inl (k_me (tm1 (List.mem_of_getElem? (i := 178) rfl)) rfl)
theorem mv_X1_beFall : k_MV yX1_beFall cX1_beFall 1 none 0 := ⟨(k_me (tm1 (List.mem_of_getElem? (i := 179) rfl)) rfl), (k_me (tm1 (List.mem_of_getElem? (i := 180) rfl)) rfl), (k_me (tm1 (List.mem_of_getElem? (i := 5) rfl)) rfl), (k_me (tm1 (List.mem_of_getElem? (i := 181) rfl)) rfl), by decide, by decide, by decide +kernel⟩
theorem ck_shX_shLaw_17 {rest : List k_Sh} : k_ck [17, 18, 19] shLaw (shX ++ rest) = true := k_ck_app (by decide +kernel)
theorem lk_X10_42 : k_lk RX10 42 yX1_beHarm := Or.inl (k_me (tm1 (List.mem_of_getElem? (i := 186) rfl)) rfl)
theorem mv_X1_beHarm : k_MV yX1_beHarm cX1_beHarm 1 none 0 := ⟨(k_me (tm1 (List.mem_of_getElem? (i := 187) rfl)) rfl), (k_me (tm1 (List.mem_of_getElem? (i := 188) rfl)) rfl), (k_me (tm1 (List.mem_of_getElem? (i := 5) rfl)) rfl), (k_me (tm1 (List.mem_of_getElem? (i := 189) rfl)) rfl), by decide, by decide, by decide +kernel⟩
theorem ck_shX_shLaw_20 {rest : List k_Sh} : k_ck [20, 21, 22] shLaw (shX ++ rest) = true := k_ck_app (by decide +kernel)
theorem lk_X10_54 : k_lk RX10 54 yX3_begin := Or.inl (k_me (tm2 (List.mem_of_getElem? (i := 30) rfl)) rfl)
theorem mv_X3_begin : k_MV yX3_begin cX3_begin 1 none 0 := ⟨(k_me (tm2 (List.mem_of_getElem? (i := 31) rfl)) rfl), (k_me (tm2 (List.mem_of_getElem? (i := 32) rfl)) rfl), (k_me (tm1 (List.mem_of_getElem? (i := 6) rfl)) rfl), (k_me (tm2 (List.mem_of_getElem? (i := 33) rfl)) rfl), by decide, by decide, by decide +kernel⟩
theorem lk_X10_135 : k_lk RX10 135 yX4_forget := Or.inl (k_me (tm4 (List.mem_of_getElem? (i := 109) rfl)) rfl)
theorem mv_X4_forget : k_MV yX4_forget cX4_forget 1 none 0 := ⟨(k_me (tm4 (List.mem_of_getElem? (i := 110) rfl)) rfl), (k_me (tm4 (List.mem_of_getElem? (i := 111) rfl)) rfl), (k_me (tm1 (List.mem_of_getElem? (i := 8) rfl)) rfl), (k_me (tm4 (List.mem_of_getElem? (i := 112) rfl)) rfl), by decide, by decide, by decide +kernel⟩
theorem lk_X10_138 : k_lk RX10 138 yX9_forget := Or.inl (k_me (tm4 (List.mem_of_getElem? (i := 113) rfl)) rfl)
theorem mv_X9_forget : k_MV yX9_forget cX9_forget 1 none 0 := ⟨(k_me (tm4 (List.mem_of_getElem? (i := 114) rfl)) rfl), (k_me (tm4 (List.mem_of_getElem? (i := 115) rfl)) rfl), (k_me (tm1 (List.mem_of_getElem? (i := 11) rfl)) rfl), (k_me (tm4 (List.mem_of_getElem? (i := 116) rfl)) rfl), by decide, by decide, by decide +kernel⟩
theorem lk_X10_142 : k_lk RX10 142 yX5_allBars := Or.inl (k_me (tm4 (List.mem_of_getElem? (i := 117) rfl)) rfl)
theorem mv_X5_allBars : k_MV yX5_allBars cX5_allBars 3 (some .int) 0 := ⟨(k_me (tm4 (List.mem_of_getElem? (i := 118) rfl)) rfl), (k_me (tm4 (List.mem_of_getElem? (i := 119) rfl)) rfl), (k_me (tm1 (List.mem_of_getElem? (i := 3) rfl)) rfl), (k_me (tm4 (List.mem_of_getElem? (i := 120) rfl)) rfl), by decide, by decide, by decide +kernel⟩
theorem lk_X10_176 : k_lk RX10 176 yX9_read := Or.inl (k_me (tm5 (List.mem_of_getElem? (i := 71) rfl)) rfl)
theorem mv_X9_read : k_MV yX9_read cX9_read 5 none 1 := ⟨(k_me (tm5 (List.mem_of_getElem? (i := 72) rfl)) rfl), (k_me (tm5 (List.mem_of_getElem? (i := 73) rfl)) rfl), (k_me (tm1 (List.mem_of_getElem? (i := 11) rfl)) rfl), (k_me (tm5 (List.mem_of_getElem? (i := 74) rfl)) rfl), by decide, by decide, by decide +kernel⟩
theorem ck_shX_shTapsTape_58_5 {rest : List k_Sh} : k_ck [58, 59, 60, 3, 4, 5, 6, 7, 8, 9, 1, 2] shTapsTape (shX ++ rest) = true := k_ck_app (by decide +kernel)
theorem lk_X10_292 : k_lk RX10 292 yX7_findBest := Or.inl (k_me (tm5 (List.mem_of_getElem? (i := 232) rfl)) rfl)
theorem mv_X7_findBest : k_MV yX7_findBest cX7_findBest 3 none 2 := ⟨(k_me (tm5 (List.mem_of_getElem? (i := 233) rfl)) rfl), (k_me (tm5 (List.mem_of_getElem? (i := 234) rfl)) rfl), (k_me (tm1 (List.mem_of_getElem? (i := 9) rfl)) rfl), (k_me (tm5 (List.mem_of_getElem? (i := 235) rfl)) rfl), by decide, by decide, by decide +kernel⟩
theorem lk_X10_307 : k_lk RX10 307 yX7_propsToHold := Or.inl (k_me (tm6 (List.mem_of_getElem? (i := 44) rfl)) rfl)
theorem mv_X7_propsToHold : k_MV yX7_propsToHold cX7_propsToHold 10 (some .long) 2 := ⟨(k_me (tm6 (List.mem_of_getElem? (i := 45) rfl)) rfl), (k_me (tm6 (List.mem_of_getElem? (i := 46) rfl)) rfl), (k_me (tm1 (List.mem_of_getElem? (i := 9) rfl)) rfl), (k_me (tm6 (List.mem_of_getElem? (i := 47) rfl)) rfl), by decide, by decide, by decide +kernel⟩
theorem lk_X10_150 : k_lk RX10 150 yX1_read := Or.inl (k_me (tm4 (List.mem_of_getElem? (i := 128) rfl)) rfl)
theorem mv_X1_read : k_MV yX1_read cX1_read 2 none 1 := ⟨(k_me (tm4 (List.mem_of_getElem? (i := 129) rfl)) rfl), (k_me (tm4 (List.mem_of_getElem? (i := 130) rfl)) rfl), (k_me (tm1 (List.mem_of_getElem? (i := 5) rfl)) rfl), (k_me (tm4 (List.mem_of_getElem? (i := 131) rfl)) rfl), by decide, by decide, by decide +kernel⟩
theorem ck_shX_shLawTape_23 {rest : List k_Sh} : k_ck [23, 24, 25, 1, 2] shLawTape (shX ++ rest) = true := k_ck_app (by decide +kernel)
theorem lk_X10_151 : k_lk RX10 151 yX1_copyFrom := Or.inl (k_me (tm4 (List.mem_of_getElem? (i := 171) rfl)) rfl)
theorem mv_X1_copyFrom : k_MV yX1_copyFrom cX1_copyFrom 2 none 1 := ⟨(k_me (tm4 (List.mem_of_getElem? (i := 172) rfl)) rfl), (k_me (tm4 (List.mem_of_getElem? (i := 173) rfl)) rfl), (k_me (tm1 (List.mem_of_getElem? (i := 5) rfl)) rfl), (k_me (tm4 (List.mem_of_getElem? (i := 174) rfl)) rfl), by decide, by decide, by decide +kernel⟩
theorem ck_shX_shLaw2_20_25 {rest : List k_Sh} : k_ck [20, 21, 22, 23, 24, 25] shLaw2 (shX ++ rest) = true := k_ck_app (by decide +kernel)
theorem ck_shX_shLaw2_17_25 {rest : List k_Sh} : k_ck [17, 18, 19, 23, 24, 25] shLaw2 (shX ++ rest) = true := k_ck_app (by decide +kernel)
theorem lk_X10_113 : k_lk RX10 113 yX8_put := Or.inl (k_me (tm3 (List.mem_of_getElem? (i := 16) rfl)) rfl)
theorem mv_X8_put : k_MV yX8_put cX8_put 3 none 1 := ⟨(k_me (tm3 (List.mem_of_getElem? (i := 17) rfl)) rfl), (k_me (tm3 (List.mem_of_getElem? (i := 18) rfl)) rfl), (k_me (tm1 (List.mem_of_getElem? (i := 2) rfl)) rfl), (k_me (tm3 (List.mem_of_getElem? (i := 19) rfl)) rfl), by decide, by decide, by decide +kernel⟩
theorem lk_X10_321 : k_lk RX10 321 yX9_fitting := Or.inl (k_me (tm3 (List.mem_of_getElem? (i := 40) rfl)) rfl)
theorem lk_X10_348 : k_lk RX10 348 yX3_richestRow := Or.inl (k_me (tm3 (List.mem_of_getElem? (i := 59) rfl)) rfl)
theorem mv_X3_richestRow : k_MV yX3_richestRow cX3_richestRow 6 (some .int) 0 := ⟨(k_me (tm3 (List.mem_of_getElem? (i := 60) rfl)) rfl), (k_me (tm3 (List.mem_of_getElem? (i := 61) rfl)) rfl), (k_me (tm1 (List.mem_of_getElem? (i := 6) rfl)) rfl), (k_me (tm3 (List.mem_of_getElem? (i := 62) rfl)) rfl), by decide, by decide, by decide +kernel⟩
theorem lk_X10_351 : k_lk RX10 351 yX3_richestCell := Or.inl (k_me (tm3 (List.mem_of_getElem? (i := 75) rfl)) rfl)
