theorem mv_J0_coder_7d493 : k_MV yJ0_coder_7d493 cJ0_coder_7d493 1 (some .byte) 0 := ⟨(k_me (tm4 (List.mem_of_getElem? (i := 5) rfl)) rfl), (k_me (tm4 (List.mem_of_getElem? (i := 6) rfl)) rfl), (k_me (tm1 (List.mem_of_getElem? (i := 20) rfl)) rfl), (k_me (tm4 (List.mem_of_getElem? (i := 7) rfl)) rfl), by decide, by decide, by decide +kernel⟩
theorem mv_J0_isLatin1_aae02 : k_MV yJ0_isLatin1_aae02 cJ0_isLatin1_aae02 1 (some .boolean) 0 := ⟨(k_me (tm4 (List.mem_of_getElem? (i := 15) rfl)) rfl), (k_me (tm4 (List.mem_of_getElem? (i := 16) rfl)) rfl), (k_me (tm1 (List.mem_of_getElem? (i := 20) rfl)) rfl), (k_me (tm4 (List.mem_of_getElem? (i := 17) rfl)) rfl), by decide, by decide, by decide +kernel⟩
theorem mv_J0_length_8abf5 : k_MV yJ0_length_8abf5 cJ0_length_8abf5 1 (some .int) 0 := ⟨(k_me (tm4 (List.mem_of_getElem? (i := 1) rfl)) rfl), (k_me (tm4 (List.mem_of_getElem? (i := 2) rfl)) rfl), (k_me (tm1 (List.mem_of_getElem? (i := 20) rfl)) rfl), (k_me (tm4 (List.mem_of_getElem? (i := 3) rfl)) rfl), by decide, by decide, by decide +kernel⟩
theorem ms_J3_checkIndex_8e157 : k_MS yJ3_checkIndex_8e157 cJ3_checkIndex_8e157 3 (some .int) 3 := ⟨(k_me (tm4 (List.mem_of_getElem? (i := 27) rfl)) rfl), (k_me (tm1 (List.mem_of_getElem? (i := 22) rfl)) rfl), (k_me (tm4 (List.mem_of_getElem? (i := 28) rfl)) rfl), by decide, by decide, by decide +kernel⟩
theorem ms_J0_checkIndex_df160 : k_MS yJ0_checkIndex_df160 cJ0_checkIndex_df160 2 none 2 := ⟨(k_me (tm4 (List.mem_of_getElem? (i := 22) rfl)) rfl), (k_me (tm1 (List.mem_of_getElem? (i := 20) rfl)) rfl), (k_me (tm4 (List.mem_of_getElem? (i := 23) rfl)) rfl), by decide, by decide, by decide +kernel⟩
theorem ms_J1_charAt_3b067 : k_MS yJ1_charAt_3b067 cJ1_charAt_3b067 2 (some .char) 2 := ⟨(k_me (tm4 (List.mem_of_getElem? (i := 19) rfl)) rfl), (k_me (tm1 (List.mem_of_getElem? (i := 21) rfl)) rfl), (k_me (tm4 (List.mem_of_getElem? (i := 20) rfl)) rfl), by decide, by decide, by decide +kernel⟩
theorem mv_J0_charAt_5068e : k_MV yJ0_charAt_5068e cJ0_charAt_5068e 2 (some .char) 1 := ⟨(k_me (tm4 (List.mem_of_getElem? (i := 11) rfl)) rfl), (k_me (tm4 (List.mem_of_getElem? (i := 12) rfl)) rfl), (k_me (tm1 (List.mem_of_getElem? (i := 20) rfl)) rfl), (k_me (tm4 (List.mem_of_getElem? (i := 13) rfl)) rfl), by decide, by decide, by decide +kernel⟩
theorem fw_38 : Cond.fieldLink "java/lang/String" 38 "java/lang/String" "COMPACT_STRINGS" "Z" ∈ k_tb := (k_me (tm4 (List.mem_of_getElem? (i := 8) rfl)) rfl)
theorem fw_15 : Cond.fieldLink "java/lang/String" 15 "java/lang/String" "coder" "B" ∈ k_tb := (k_me (tm9 (List.mem_of_getElem? (i := 185) rfl)) rfl)
theorem fw_9 : Cond.fieldLink "java/lang/String" 9 "java/lang/String" "value" "[B" ∈ k_tb := (k_me (tm9 (List.mem_of_getElem? (i := 184) rfl)) rfl)
theorem fw_1053 : Cond.fieldLink "java/lang/String" 1053 "jdk/internal/util/Preconditions" "SIOOBE_FORMATTER" "Ljava/util/function/BiFunction;" ∈ k_tb := (k_me (tm4 (List.mem_of_getElem? (i := 24) rfl)) rfl)
theorem lk_J0_335 : k_lk RJ0 335 yJ0_coder_7d493 := Or.inl (k_me (tm4 (List.mem_of_getElem? (i := 4) rfl)) rfl)
theorem lk_J0_492 : k_lk RJ0 492 yJ0_isLatin1_aae02 := Or.inl (k_me (tm4 (List.mem_of_getElem? (i := 14) rfl)) rfl)
theorem lk_J0_495 : k_lk RJ0 495 yJ1_charAt_3b067 := Or.inl (k_me (tm4 (List.mem_of_getElem? (i := 18) rfl)) rfl)
theorem lk_J1_9 : k_lk RJ1 9 yJ0_checkIndex_df160 := Or.inl (k_me (tm4 (List.mem_of_getElem? (i := 21) rfl)) rfl)
theorem lk_J0_1059 : k_lk RJ0 1059 yJ3_checkIndex_8e157 := Or.inl (k_me (tm4 (List.mem_of_getElem? (i := 26) rfl)) rfl)
set_option maxHeartbeats 400000 in
set_option maxRecDepth 100000 in
theorem c_coder (l : Launch) (h : k_H) {i : Nat} (hi : i < 31) : k_CT l yJ0_coder_7d493 cJ0_coder_7d493 1 (some .byte) 0 0 [.ref (1000000 + i)] h (some (.int 0)) [] := by
  obtain ⟨sh, I, L, Rf⟩ := h
  refine k_ofW (by decide) (Nat.le_of_ble_eq_true rfl) ?_
  intro X ad hl hR0 hr C
  have hR : X.R.frames = 0 ∧ X.R.locals = 0 := by rw [hR0]; exact ⟨rfl, rfl⟩
  refine k_start (us := []) k_ap_0 ?_
  show k_W X 1 0 0 _ ad (k_ap [] (sh, I, L, Rf)) 0 [some (.ref (1000000 + i))] []
  refine r_gsC C dJ0_coder_7d493_0 (rfl : 0 + 3 = 3) fw_38 ?_
  refine r_if_eq (tgt := 13) C dJ0_coder_7d493_3 (by decide) (rfl : 3 + 3 = 6) (fun c => absurd c (by decide)) (fun _ => ?_)
  refine r_aload_n C dJ0_coder_7d493_6 (rfl : 6 + 1 = 7) rfl ?_
  refine r_strC C hi dJ0_coder_7d493_7 (rfl : 7 + 3 = 10) fw_15 ?_
  refine r_goto (tgt := 14) C dJ0_coder_7d493_10 (by decide) ?_
  exact r_nret C hr rfl dJ0_coder_7d493_14
set_option maxHeartbeats 400000 in
set_option maxRecDepth 100000 in
theorem c_isLatin1 (l : Launch) (h : k_H) {i : Nat} (hi : i < 31) : k_CT l yJ0_isLatin1_aae02 cJ0_isLatin1_aae02 1 (some .boolean) 0 0 [.ref (1000000 + i)] h (some (.int 1)) [] := by
  obtain ⟨sh, I, L, Rf⟩ := h
  refine k_ofW (by decide) (Nat.le_of_ble_eq_true rfl) ?_
  intro X ad hl hR0 hr C
  have hR : X.R.frames = 0 ∧ X.R.locals = 0 := by rw [hR0]; exact ⟨rfl, rfl⟩
  refine k_start (us := []) k_ap_0 ?_
  show k_W X 1 0 0 _ ad (k_ap [] (sh, I, L, Rf)) 0 [some (.ref (1000000 + i))] []
  refine r_gsC C dJ0_isLatin1_aae02_0 (rfl : 0 + 3 = 3) fw_38 ?_
  refine r_if_eq (tgt := 17) C dJ0_isLatin1_aae02_3 (by decide) (rfl : 3 + 3 = 6) (fun c => absurd c (by decide)) (fun _ => ?_)
  refine r_aload_n C dJ0_isLatin1_aae02_6 (rfl : 6 + 1 = 7) rfl ?_
  refine r_strC C hi dJ0_isLatin1_aae02_7 (rfl : 7 + 3 = 10) fw_15 ?_
  refine r_if_ne (tgt := 17) C dJ0_isLatin1_aae02_10 (by decide) (rfl : 10 + 3 = 13) (fun c => absurd rfl c) (fun _ => ?_)
  refine r_iconst (v := 1) C dJ0_isLatin1_aae02_13 (rfl : 13 + 1 = 14) rfl ?_
  refine r_goto (tgt := 18) C dJ0_isLatin1_aae02_14 (by decide) ?_
  exact r_zret C hr (Or.inr rfl) dJ0_isLatin1_aae02_18
set_option maxHeartbeats 400000 in
set_option maxRecDepth 100000 in
theorem c_length (l : Launch) (h : k_H) {i : Nat} (hi : i < 31) : k_CT l yJ0_length_8abf5 cJ0_length_8abf5 1 (some .int) 1 20 [.ref (1000000 + i)] h (some (.int (nI (k_bs i).length))) [] := by
  obtain ⟨sh, I, L, Rf⟩ := h
  refine k_ofW (by decide) (Nat.le_of_ble_eq_true rfl) ?_
  intro X ad hl hR0 hr C
  have hR : X.R.frames = 1 ∧ X.R.locals = 20 := by rw [hR0]; exact ⟨rfl, rfl⟩
  refine k_start (us := []) k_ap_0 ?_
  show k_W X 1 0 0 _ ad (k_ap [] (sh, I, L, Rf)) 0 [some (.ref (1000000 + i))] []
  refine r_aload_n C dJ0_length_8abf5_0 (rfl : 0 + 1 = 1) rfl ?_
  refine r_strV C hi dJ0_length_8abf5_1 (rfl : 1 + 3 = 4) fw_9 ?_
  refine r_strL C hi dJ0_length_8abf5_4 (rfl : 4 + 1 = 5) ?_
  refine r_aload_n C dJ0_length_8abf5_5 (rfl : 5 + 1 = 6) rfl ?_
  refine d_Vs (i := i) (As := []) (st := [.int (nI (k_bs i).length)]) (st' := [.int 0, .int (nI (k_bs i).length)]) (h' := k_ap [] (sh, I, L, Rf)) C hR ⟨Nat.zero_le _, Nat.zero_le _⟩ mv_J0_coder_7d493 lk_J0_335 dJ0_length_8abf5_6 (rfl : 6 + 3 = 9) rfl rfl hi rfl (c_coder X.l (k_ap [] (sh, I, L, Rf)) hi) rfl rfl rfl rfl rfl ?_
  refine r_ishr C dJ0_length_8abf5_9 (rfl : 9 + 1 = 10) ?_
  rw [sc_shr0 (by have := k_bs_len i hi; omega)]
  exact r_iret C hr dJ0_length_8abf5_10
set_option maxHeartbeats 400000 in
set_option maxRecDepth 100000 in
theorem c_chk3n (l : Launch) (h : k_H) {x y : Int32} (h1 : ¬ x < 0) (h2 : x < y) : k_CT l yJ3_checkIndex_8e157 cJ3_checkIndex_8e157 3 (some .int) 0 0 [.int x, .int y, .null] h (some (.int x)) [] := by
  obtain ⟨sh, I, L, Rf⟩ := h
  refine k_ofW (by decide) (Nat.le_of_ble_eq_true rfl) ?_
  intro X ad hl hR0 hr C
  have hR : X.R.frames = 0 ∧ X.R.locals = 0 := by rw [hR0]; exact ⟨rfl, rfl⟩
  refine k_start (us := []) k_ap_0 ?_
  show k_W X 3 0 0 _ ad (k_ap [] (sh, I, L, Rf)) 0 [some (.int x), some (.int y), some (.null)] []
  refine r_iload_n C dJ3_checkIndex_8e157_0 (rfl : 0 + 1 = 1) rfl ?_
  refine r_if_lt (tgt := 9) C dJ3_checkIndex_8e157_1 (by decide) (rfl : 1 + 3 = 4) (fun c => absurd c h1) (fun _ => ?_)
  refine r_iload_n C dJ3_checkIndex_8e157_4 (rfl : 4 + 1 = 5) rfl ?_
  refine r_iload_n C dJ3_checkIndex_8e157_5 (rfl : 5 + 1 = 6) rfl ?_
  refine r_icmp_lt (tgt := 16) C dJ3_checkIndex_8e157_6 (by decide) (rfl : 6 + 3 = 9) (fun _ => ?_) (fun c => absurd h2 c)
  refine r_iload_n C dJ3_checkIndex_8e157_16 (rfl : 16 + 1 = 17) rfl ?_
  exact r_iret C hr dJ3_checkIndex_8e157_17
set_option maxHeartbeats 400000 in
set_option maxRecDepth 100000 in
theorem c_chk3r (l : Launch) (h : k_H) {x y : Int32} (h1 : ¬ x < 0) (h2 : x < y) : k_CT l yJ3_checkIndex_8e157 cJ3_checkIndex_8e157 3 (some .int) 0 0 [.int x, .int y, .ref 1000200] h (some (.int x)) [] := by
  obtain ⟨sh, I, L, Rf⟩ := h
  refine k_ofW (by decide) (Nat.le_of_ble_eq_true rfl) ?_
  intro X ad hl hR0 hr C
  have hR : X.R.frames = 0 ∧ X.R.locals = 0 := by rw [hR0]; exact ⟨rfl, rfl⟩
  refine k_start (us := []) k_ap_0 ?_
  show k_W X 3 0 0 _ ad (k_ap [] (sh, I, L, Rf)) 0 [some (.int x), some (.int y), some (.ref 1000200)] []
  refine r_iload_n C dJ3_checkIndex_8e157_0 (rfl : 0 + 1 = 1) rfl ?_
  refine r_if_lt (tgt := 9) C dJ3_checkIndex_8e157_1 (by decide) (rfl : 1 + 3 = 4) (fun c => absurd c h1) (fun _ => ?_)
  refine r_iload_n C dJ3_checkIndex_8e157_4 (rfl : 4 + 1 = 5) rfl ?_
  refine r_iload_n C dJ3_checkIndex_8e157_5 (rfl : 5 + 1 = 6) rfl ?_
  refine r_icmp_lt (tgt := 16) C dJ3_checkIndex_8e157_6 (by decide) (rfl : 6 + 3 = 9) (fun _ => ?_) (fun c => absurd h2 c)
  refine r_iload_n C dJ3_checkIndex_8e157_16 (rfl : 16 + 1 = 17) rfl ?_
  exact r_iret C hr dJ3_checkIndex_8e157_17
set_option maxHeartbeats 400000 in
set_option maxRecDepth 100000 in
theorem c_chk0 (l : Launch) (h : k_H) {x y : Int32} (h1 : ¬ x < 0) (h2 : x < y) : k_CT l yJ0_checkIndex_df160 cJ0_checkIndex_df160 2 none 1 22 [.int x, .int y] h none [] := by
  obtain ⟨sh, I, L, Rf⟩ := h
  refine k_ofW (by decide) (Nat.le_of_ble_eq_true rfl) ?_
  intro X ad hl hR0 hr C
  have hR : X.R.frames = 1 ∧ X.R.locals = 22 := by rw [hR0]; exact ⟨rfl, rfl⟩
  refine k_start (us := []) k_ap_0 ?_
  show k_W X 2 0 0 _ ad (k_ap [] (sh, I, L, Rf)) 0 [some (.int x), some (.int y)] []
  refine r_iload_n C dJ0_checkIndex_df160_0 (rfl : 0 + 1 = 1) rfl ?_
  refine r_iload_n C dJ0_checkIndex_df160_1 (rfl : 1 + 1 = 2) rfl ?_
  refine r_gsF C dJ0_checkIndex_df160_2 (rfl : 2 + 3 = 5) fw_1053 ?_ ?_
  · refine d_S (As := [.int x, .int y, .null]) (st := []) (st' := [.int x]) (h' := k_ap [] (sh, I, L, Rf)) C hR ⟨Nat.zero_le _, Nat.zero_le _⟩ ms_J3_checkIndex_8e157 lk_J0_1059 dJ0_checkIndex_df160_5 (rfl : 5 + 3 = 8) rfl rfl (c_chk3n X.l (k_ap [] (sh, I, L, Rf)) h1 h2) rfl rfl rfl rfl rfl ?_
    refine r_pop C dJ0_checkIndex_df160_8 (rfl : 8 + 1 = 9) rfl ?_
    exact r_vret C hr dJ0_checkIndex_df160_9
  · refine d_S (As := [.int x, .int y, .ref 1000200]) (st := []) (st' := [.int x]) (h' := k_ap [] (sh, I, L, Rf)) C hR ⟨Nat.zero_le _, Nat.zero_le _⟩ ms_J3_checkIndex_8e157 lk_J0_1059 dJ0_checkIndex_df160_5 (rfl : 5 + 3 = 8) rfl rfl (c_chk3r X.l (k_ap [] (sh, I, L, Rf)) h1 h2) rfl rfl rfl rfl rfl ?_
    refine r_pop C dJ0_checkIndex_df160_8 (rfl : 8 + 1 = 9) rfl ?_
    exact r_vret C hr dJ0_checkIndex_df160_9
set_option maxHeartbeats 400000 in
set_option maxRecDepth 100000 in
theorem c_lat (l : Launch) (h : k_H) {i : Nat} (hi : i < 31) {x : Int32} (hx : vp_in x (k_bs i).length) : k_CT l yJ1_charAt_3b067 cJ1_charAt_3b067 2 (some .char) 2 43 [.ref (2000000 + i), .int x] h (some (.int (k_ch i x.toNatClampNeg))) [] := by
  obtain ⟨sh, I, L, Rf⟩ := h
  refine k_ofW (by decide) (Nat.le_of_ble_eq_true rfl) ?_
  intro X ad hl hR0 hr C
  have hR : X.R.frames = 2 ∧ X.R.locals = 43 := by rw [hR0]; exact ⟨rfl, rfl⟩
  have h1 : ¬ x < 0 := fun z => hx (Or.inl z)
  have h2 : x < nI (k_bs i).length := by
    obtain ⟨j, hj, rfl⟩ := vp_in_of hx (by have := k_bs_len i hi; omega)
    exact nI_lt hj (by have := k_bs_len i hi; omega)
  refine k_start (us := []) k_ap_0 ?_
  show k_W X 2 0 0 _ ad (k_ap [] (sh, I, L, Rf)) 0 [some (.ref (2000000 + i)), some (.int x)] []
  refine r_iload_n C dJ1_charAt_3b067_0 (rfl : 0 + 1 = 1) rfl ?_
  refine r_aload_n C dJ1_charAt_3b067_1 (rfl : 1 + 1 = 2) rfl ?_
  refine r_strL C hi dJ1_charAt_3b067_2 (rfl : 2 + 1 = 3) ?_
  refine d_S (As := [.int x, .int (nI (k_bs i).length)]) (st := []) (st' := []) (h' := k_ap [] (sh, I, L, Rf)) C hR ⟨Nat.zero_le _, Nat.zero_le _⟩ ms_J0_checkIndex_df160 lk_J1_9 dJ1_charAt_3b067_3 (rfl : 3 + 3 = 6) rfl rfl (c_chk0 X.l (k_ap [] (sh, I, L, Rf)) h1 h2) rfl rfl rfl rfl rfl ?_
  refine r_aload_n C dJ1_charAt_3b067_6 (rfl : 6 + 1 = 7) rfl ?_
  refine r_iload_n C dJ1_charAt_3b067_7 (rfl : 7 + 1 = 8) rfl ?_
  refine r_strB C hi hx dJ1_charAt_3b067_8 (rfl : 8 + 1 = 9) ?_
  refine r_sipush (v := 255) C dJ1_charAt_3b067_9 (rfl : 9 + 3 = 12) rfl ?_
  refine r_iand C dJ1_charAt_3b067_12 (rfl : 12 + 1 = 13) ?_
  refine r_i2c C dJ1_charAt_3b067_13 (rfl : 13 + 1 = 14) ?_
  rw [sc_c2]
  exact r_nret C hr (sc_nar _) dJ1_charAt_3b067_14
set_option maxHeartbeats 400000 in
set_option maxRecDepth 100000 in
theorem c_charAt (l : Launch) (h : k_H) {i : Nat} (hi : i < 31) {x : Int32} (hx : vp_in x (k_bs i).length) : k_CT l yJ0_charAt_5068e cJ0_charAt_5068e 2 (some .char) 3 64 [.ref (1000000 + i), .int x] h (some (.int (k_ch i x.toNatClampNeg))) [] := by
  obtain ⟨sh, I, L, Rf⟩ := h
  refine k_ofW (by decide) (Nat.le_of_ble_eq_true rfl) ?_
  intro X ad hl hR0 hr C
  have hR : X.R.frames = 3 ∧ X.R.locals = 64 := by rw [hR0]; exact ⟨rfl, rfl⟩
  refine k_start (us := []) k_ap_0 ?_
  show k_W X 2 0 0 _ ad (k_ap [] (sh, I, L, Rf)) 0 [some (.ref (1000000 + i)), some (.int x)] []
  refine r_aload_n C dJ0_charAt_5068e_0 (rfl : 0 + 1 = 1) rfl ?_
  refine d_Vs (i := i) (As := []) (st := []) (st' := [.int 1]) (h' := k_ap [] (sh, I, L, Rf)) C hR ⟨Nat.zero_le _, Nat.zero_le _⟩ mv_J0_isLatin1_aae02 lk_J0_492 dJ0_charAt_5068e_1 (rfl : 1 + 3 = 4) rfl rfl hi rfl (c_isLatin1 X.l (k_ap [] (sh, I, L, Rf)) hi) rfl rfl rfl rfl rfl ?_
  refine r_if_eq (tgt := 16) C dJ0_charAt_5068e_4 (by decide) (rfl : 4 + 3 = 7) (fun c => absurd c (by decide)) (fun _ => ?_)
  refine r_aload_n C dJ0_charAt_5068e_7 (rfl : 7 + 1 = 8) rfl ?_
  refine r_strV C hi dJ0_charAt_5068e_8 (rfl : 8 + 3 = 11) fw_9 ?_
  refine r_iload_n C dJ0_charAt_5068e_11 (rfl : 11 + 1 = 12) rfl ?_
  refine d_S (As := [.ref (2000000 + i), .int x]) (st := []) (st' := [.int (k_ch i x.toNatClampNeg)]) (h' := k_ap [] (sh, I, L, Rf)) C hR ⟨Nat.zero_le _, Nat.zero_le _⟩ ms_J1_charAt_3b067 lk_J0_495 dJ0_charAt_5068e_12 (rfl : 12 + 3 = 15) rfl rfl (c_lat X.l (k_ap [] (sh, I, L, Rf)) hi hx) rfl rfl rfl rfl rfl ?_
  exact r_nret C hr (sc_nar _) dJ0_charAt_5068e_15
