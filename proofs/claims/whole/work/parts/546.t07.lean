/-! LullabyPit.book(I)I -/
theorem ds_X10_book : k_ds [(1, 0, 1), (1, 0, 2), (1, 0, 3), (1, 0, 4), (1, 0, 5), (1, 0, 6), (58, 0, 3), (59, 2, 0), (60, 2, 0), (69, 2, 0)] = true := by decide +kernel
set_option maxHeartbeats 1000000 in
set_option maxRecDepth 100000 in
theorem sX10_book_0 (u : Nat) {X : k_X} {ad0 ad : Nat → Nat} {rest : List k_Sh} (C : k_C X cX10_book RX10 2 ad) (hr : X.meth.sig.returnType = (some .int)) (hR : X.R.frames = 8 ∧ X.R.locals = 133) (hx : ∀ x ∈ X.c.exceptionTable.toList, False) (hRc : X.R.cells = 1) (hRs : X.R.slots = 6) (hT : X.l.stackTraces = false) (hsm : k_sm (shX ++ rest).length ad0 ad) {I : Nat → Nat → Int32} {L : Nat → Nat → Int64} {Rf : Nat → Nat → Option Nat} {a2 : (Nat → Int32)} (ea2 : I 2 = a2) {out : Int32 × Int32 × Int32 × Int32 × Int32 × Int32 × Int32 × Int32 × Int32 × (Nat → Int32) × (Nat → Int32) × (Nat → Int32)} : ∀ (c1_1 : Int32) (c1_2 : Int32) (c1_3 : Int32) (c1_4 : Int32) (c1_5 : Int32) (c1_6 : Int32) (c58_3 : Int32) (a59 : (Nat → Int32)) (a60 : (Nat → Int32)) (a69 : (Nat → Int32)) (v1 : Int32), bX10_book_0 u a2 c1_1 c1_2 c1_3 c1_4 c1_5 c1_6 c58_3 a59 a60 a69 v1 = some out → k_W X 2 0 0 (k_QX X ad0 (shX ++ rest).length (k_R1 out.1 (some (.int out.2.1)) (k_ap [(1, .inl (1, out.2.2.1)), (1, .inl (2, out.2.2.2.1)), (1, .inl (3, out.2.2.2.2.1)), (1, .inl (4, out.2.2.2.2.2.1)), (1, .inl (5, out.2.2.2.2.2.2.1)), (1, .inl (6, out.2.2.2.2.2.2.2.1)), (58, .inl (3, out.2.2.2.2.2.2.2.2.1)), (59, .inr (.inr (.inl out.2.2.2.2.2.2.2.2.2.1))), (60, .inr (.inr (.inl out.2.2.2.2.2.2.2.2.2.2.1))), (69, .inr (.inr (.inl out.2.2.2.2.2.2.2.2.2.2.2)))] ((shX ++ rest), I, L, Rf))) (k_R2 out.1 (k_ap [(1, .inl (1, out.2.2.1)), (1, .inl (2, out.2.2.2.1)), (1, .inl (3, out.2.2.2.2.1)), (1, .inl (4, out.2.2.2.2.2.1)), (1, .inl (5, out.2.2.2.2.2.2.1)), (1, .inl (6, out.2.2.2.2.2.2.2.1)), (58, .inl (3, out.2.2.2.2.2.2.2.2.1)), (59, .inr (.inr (.inl out.2.2.2.2.2.2.2.2.2.1))), (60, .inr (.inr (.inl out.2.2.2.2.2.2.2.2.2.2.1))), (69, .inr (.inr (.inl out.2.2.2.2.2.2.2.2.2.2.2)))] ((shX ++ rest), I, L, Rf))) 1 6) ad (k_ap [(1, .inl (1, c1_1)), (1, .inl (2, c1_2)), (1, .inl (3, c1_3)), (1, .inl (4, c1_4)), (1, .inl (5, c1_5)), (1, .inl (6, c1_6)), (58, .inl (3, c58_3)), (59, .inr (.inr (.inl a59))), (60, .inr (.inr (.inl a60))), (69, .inr (.inr (.inl a69)))] ((shX ++ rest), I, L, Rf)) 0 [some (.ref 0), some (.int v1)] [] := by
  intro c1_1 c1_2 c1_3 c1_4 c1_5 c1_6 c58_3 a59 a60 a69 v1 h
  unfold bX10_book_0 at h
  refine r_aload_n C dX10_book_0 (rfl : 0 + 1 = 1) rfl ?_
  refine r_iload_n C dX10_book_1 (rfl : 1 + 1 = 2) rfl ?_
  refine r_bipush (v := (100 : Int32)) C dX10_book_2 (rfl : 2 + 2 = 4) rfl ?_
  obtain ⟨r4, q4, h⟩ := k_b_of h
  refine c_VX (As := [.int v1, .int (100 : Int32)]) (st := []) C hR (k_csl hRc hRs rfl rfl) mv_X10_takeText (k_me (tm3 (List.mem_of_getElem? (i := 137) rfl)) rfl) dX10_book_4 (rfl : 4 + 3 = 7) rfl rfl (k_gS rfl) rfl (c_X10_takeText X.l u hT (k_ap [(1, .inl (1, c1_1)), (1, .inl (2, c1_2)), (1, .inl (3, c1_3)), (1, .inl (4, c1_4)), (1, .inl (5, c1_5)), (1, .inl (6, c1_6)), (58, .inl (3, c58_3)), (59, .inr (.inr (.inl a59))), (60, .inr (.inr (.inl a60))), (69, .inr (.inr (.inl a69)))] ((shX ++ rest), I, L, Rf)) (k_gH rfl) rfl rfl rfl rfl rfl rfl rfl q4) rfl rfl rfl ⟨(k_ox 0 rfl), True.intro, True.intro⟩ True.intro ?_ ?_
  · rintro E ad1 h1 ⟨hk0, rfl, rfl⟩ hsm1 C1
    have h := k_f hk0 h
    cases h
    exact x_out C1 hx (Nat.le_of_ble_eq_true rfl) (Nat.le_of_ble_eq_true rfl) ⟨hk0, rfl, (k_jn (us' := [(1, .inl (1, r4.2.1)), (1, .inl (2, r4.2.2.1)), (1, .inl (3, r4.2.2.2.1)), (1, .inl (4, r4.2.2.2.2.1)), (1, .inl (5, r4.2.2.2.2.2.1)), (1, .inl (6, r4.2.2.2.2.2.2.1)), (58, .inl (3, c58_3)), (59, .inr (.inr (.inl a59))), (60, .inr (.inr (.inl a60))), (69, .inr (.inr (.inl r4.2.2.2.2.2.2.2)))]) ds_X10_book rfl rfl rfl)⟩ (k_sm_tr hsm hsm1 (Nat.le_of_eq (by rw [k_ap_sh])))
  rintro v ad4 h1 ⟨hk0, rfl, rfl⟩ hsm1 C
  have h := k_t hk0 h
  have hsm := k_sm_tr hsm hsm1 (Nat.le_of_eq (by rw [k_ap_sh]))
  refine k_eqh (k_jn (us' := [(1, .inl (1, r4.2.1)), (1, .inl (2, r4.2.2.1)), (1, .inl (3, r4.2.2.2.1)), (1, .inl (4, r4.2.2.2.2.1)), (1, .inl (5, r4.2.2.2.2.2.1)), (1, .inl (6, r4.2.2.2.2.2.2.1)), (58, .inl (3, c58_3)), (59, .inr (.inr (.inl a59))), (60, .inr (.inr (.inl a60))), (69, .inr (.inr (.inl r4.2.2.2.2.2.2.2)))]) ds_X10_book rfl rfl rfl) ?_
  show k_W _ _ _ _ _ _ _ _ _ []
  refine r_aload_n C dX10_book_7 (rfl : 7 + 1 = 8) rfl ?_
  refine r_getR (q := 58) C dX10_book_8 (rfl : 8 + 3 = 11) fl_X10_85 rfl rfl ?_
  refine r_aload_n C dX10_book_11 (rfl : 11 + 1 = 12) rfl ?_
  refine r_getR (q := 1) C dX10_book_12 (rfl : 12 + 3 = 15) fl_X10_10 rfl rfl ?_
  obtain ⟨r15, q15, h⟩ := k_b_of h
  refine d_Vp (pi := [58, 59, 60, 3, 4, 5, 6, 7, 8, 9, 1, 2]) (shl := shTapsTape) (bl := 0) (As := [.ref 1]) (Al := [.ref 10]) (st := []) (st' := []) (h' := k_ap [(1, .inl (1, r4.2.1)), (1, .inl (2, r4.2.2.1)), (1, .inl (3, r15.2.2.2.1)), (1, .inl (4, r15.2.2.2.2.1)), (1, .inl (5, r15.2.2.2.2.2.1)), (1, .inl (6, r15.2.2.2.2.2.2)), (58, .inl (3, r15.1)), (59, .inr (.inr (.inl r15.2.1))), (60, .inr (.inr (.inl r15.2.2.1))), (69, .inr (.inr (.inl r4.2.2.2.2.2.2.2)))] ((shX ++ rest), I, L, Rf)) C hR (k_csl hRc hRs rfl rfl) mv_X9_read lk_X10_176 dX10_book_15 (rfl : 15 + 3 = 18) rfl rfl ck_shX_shTapsTape_58_5 rfl rfl (c_X9_read X.l u (k_pl [58, 59, 60, 3, 4, 5, 6, 7, 8, 9, 1, 2] shTapsTape (k_ap [(1, .inl (1, r4.2.1)), (1, .inl (2, r4.2.2.1)), (1, .inl (3, r4.2.2.2.1)), (1, .inl (4, r4.2.2.2.2.1)), (1, .inl (5, r4.2.2.2.2.2.1)), (1, .inl (6, r4.2.2.2.2.2.2.1)), (58, .inl (3, c58_3)), (59, .inr (.inr (.inl a59))), (60, .inr (.inr (.inl a60))), (69, .inr (.inr (.inl r4.2.2.2.2.2.2.2)))] ((shX ++ rest), I, L, Rf))) rfl rfl rfl rfl rfl rfl rfl rfl rfl ea2 q15) rfl (fun _ => rfl) rfl (fun _ => rfl) rfl rfl rfl (k_jn (us' := [(1, .inl (1, r4.2.1)), (1, .inl (2, r4.2.2.1)), (1, .inl (3, r15.2.2.2.1)), (1, .inl (4, r15.2.2.2.2.1)), (1, .inl (5, r15.2.2.2.2.2.1)), (1, .inl (6, r15.2.2.2.2.2.2)), (58, .inl (3, r15.1)), (59, .inr (.inr (.inl r15.2.1))), (60, .inr (.inr (.inl r15.2.2.1))), (69, .inr (.inr (.inl r4.2.2.2.2.2.2.2)))]) ds_X10_book rfl rfl rfl) rfl ?_
  refine r_aload_n C dX10_book_18 (rfl : 18 + 1 = 19) rfl ?_
  refine r_getR (q := 1) C dX10_book_19 (rfl : 19 + 3 = 22) fl_X10_10 rfl rfl ?_
  obtain ⟨r22, q22, h⟩ := k_b_of h
  refine d_Vp (pi := [1, 2]) (shl := shTape) (bl := 0) (As := []) (Al := []) (st := []) (st' := [.int r22]) (h' := k_ap [(1, .inl (1, r4.2.1)), (1, .inl (2, r4.2.2.1)), (1, .inl (3, r15.2.2.2.1)), (1, .inl (4, r15.2.2.2.2.1)), (1, .inl (5, r15.2.2.2.2.2.1)), (1, .inl (6, r15.2.2.2.2.2.2)), (58, .inl (3, r15.1)), (59, .inr (.inr (.inl r15.2.1))), (60, .inr (.inr (.inl r15.2.2.1))), (69, .inr (.inr (.inl r4.2.2.2.2.2.2.2)))] ((shX ++ rest), I, L, Rf)) C hR (k_csl hRc hRs rfl rfl) mv_X8_good lk_X10_125 dX10_book_22 (rfl : 22 + 3 = 25) rfl rfl ck_shX_shTape_1 rfl rfl (c_X8_good X.l u (k_pl [1, 2] shTape (k_ap [(1, .inl (1, r4.2.1)), (1, .inl (2, r4.2.2.1)), (1, .inl (3, r15.2.2.2.1)), (1, .inl (4, r15.2.2.2.2.1)), (1, .inl (5, r15.2.2.2.2.2.1)), (1, .inl (6, r15.2.2.2.2.2.2)), (58, .inl (3, r15.1)), (59, .inr (.inr (.inl r15.2.1))), (60, .inr (.inr (.inl r15.2.2.1))), (69, .inr (.inr (.inl r4.2.2.2.2.2.2.2)))] ((shX ++ rest), I, L, Rf))) rfl rfl q22) rfl (fun _ => rfl) rfl (fun _ => rfl) rfl rfl rfl rfl rfl ?_
  refine r_if_eq (tgt := 38) C dX10_book_25 (by decide) (rfl : 25 + 3 = 28) (fun c25 => ?_) (fun c25 => ?_)
  · have h := k_t c25 h
    refine r_aload_n C dX10_book_38 (rfl : 38 + 1 = 39) rfl ?_
    refine r_getR (q := 1) C dX10_book_39 (rfl : 39 + 3 = 42) fl_X10_10 rfl rfl ?_
    refine r_getI (v := r15.2.2.2.2.2.1) C dX10_book_42 (rfl : 42 + 3 = 45) fl_X10_129 rfl rfl rfl ?_
    refine r_bipush (v := (10 : Int32)) C dX10_book_45 (rfl : 45 + 2 = 47) rfl ?_
    refine r_isub C dX10_book_47 (rfl : 47 + 1 = 48) ?_
    cases h
    exact x_of_g (g_iret C hr (Nat.le_of_ble_eq_true rfl) (Nat.le_of_ble_eq_true rfl) ⟨rfl, rfl, rfl⟩ hsm dX10_book_48)
  · have h := k_f c25 h
    refine r_aload_n C dX10_book_28 (rfl : 28 + 1 = 29) rfl ?_
    refine r_getR (q := 58) C dX10_book_29 (rfl : 29 + 3 = 32) fl_X10_85 rfl rfl ?_
    refine r_getI (v := r15.1) C dX10_book_32 (rfl : 32 + 3 = 35) fl_X10_177 rfl rfl rfl ?_
    refine r_goto (tgt := 48) C dX10_book_35 (by decide) ?_
    cases h
    exact x_of_g (g_iret C hr (Nat.le_of_ble_eq_true rfl) (Nat.le_of_ble_eq_true rfl) ⟨rfl, rfl, rfl⟩ hsm dX10_book_48)
set_option maxHeartbeats 1000000 in
set_option maxRecDepth 100000 in
theorem c_X10_book (l : Launch) (u : Nat) (hT : l.stackTraces = false) (h : k_H) {rest : List k_Sh} (hsh : h.1 = shX ++ rest) {c1_1 : Int32} (ec1_1 : h.2.1 1 1 = c1_1) {c1_2 : Int32} (ec1_2 : h.2.1 1 2 = c1_2) {c1_3 : Int32} (ec1_3 : h.2.1 1 3 = c1_3) {c1_4 : Int32} (ec1_4 : h.2.1 1 4 = c1_4) {c1_5 : Int32} (ec1_5 : h.2.1 1 5 = c1_5) {c1_6 : Int32} (ec1_6 : h.2.1 1 6 = c1_6) {a2 : (Nat → Int32)} (ea2 : h.2.1 2 = a2) {c58_3 : Int32} (ec58_3 : h.2.1 58 3 = c58_3) {a59 : (Nat → Int32)} (ea59 : h.2.1 59 = a59) {a60 : (Nat → Int32)} (ea60 : h.2.1 60 = a60) {a69 : (Nat → Int32)} (ea69 : h.2.1 69 = a69) {x0 : Int32} {out : Int32 × Int32 × Int32 × Int32 × Int32 × Int32 × Int32 × Int32 × Int32 × (Nat → Int32) × (Nat → Int32) × (Nat → Int32)} (hf : f_X10_book u c1_1 c1_2 c1_3 c1_4 c1_5 c1_6 a2 c58_3 a59 a60 a69 x0 = some out) : k_CX l yX10_book cX10_book 2 (some .int) 8 133 1 6 [.ref 0, .int x0] h (k_R1 out.1 (some (.int out.2.1)) (k_ap [(1, .inl (1, out.2.2.1)), (1, .inl (2, out.2.2.2.1)), (1, .inl (3, out.2.2.2.2.1)), (1, .inl (4, out.2.2.2.2.2.1)), (1, .inl (5, out.2.2.2.2.2.2.1)), (1, .inl (6, out.2.2.2.2.2.2.2.1)), (58, .inl (3, out.2.2.2.2.2.2.2.2.1)), (59, .inr (.inr (.inl out.2.2.2.2.2.2.2.2.2.1))), (60, .inr (.inr (.inl out.2.2.2.2.2.2.2.2.2.2.1))), (69, .inr (.inr (.inl out.2.2.2.2.2.2.2.2.2.2.2)))] h)) (k_R2 out.1 (k_ap [(1, .inl (1, out.2.2.1)), (1, .inl (2, out.2.2.2.1)), (1, .inl (3, out.2.2.2.2.1)), (1, .inl (4, out.2.2.2.2.2.1)), (1, .inl (5, out.2.2.2.2.2.2.1)), (1, .inl (6, out.2.2.2.2.2.2.2.1)), (58, .inl (3, out.2.2.2.2.2.2.2.2.1)), (59, .inr (.inr (.inl out.2.2.2.2.2.2.2.2.2.1))), (60, .inr (.inr (.inl out.2.2.2.2.2.2.2.2.2.2.1))), (69, .inr (.inr (.inl out.2.2.2.2.2.2.2.2.2.2.2)))] h)) := by
  obtain ⟨sh, I, L, Rf⟩ := h
  try dsimp only
  obtain rfl : sh = shX ++ rest := hsh
  refine k_ofWX (by decide) (Nat.le_of_ble_eq_true rfl) ?_
  intro X ad hl hR0 hr C hx
  have hR : X.R.frames = 8 ∧ X.R.locals = 133 := by rw [hR0]; exact ⟨rfl, rfl⟩
  have hRc : X.R.cells = 1 := by rw [hR0]
  have hRs : X.R.slots = 6 := by rw [hR0]
  have hT : X.l.stackTraces = false := by rw [hl]; exact hT
  have hsm := k_sm_rf (shX ++ rest).length ad
  have h := hf
  unfold f_X10_book at h
  refine k_start (us := [(1, .inl (1, c1_1)), (1, .inl (2, c1_2)), (1, .inl (3, c1_3)), (1, .inl (4, c1_4)), (1, .inl (5, c1_5)), (1, .inl (6, c1_6)), (58, .inl (3, c58_3)), (59, .inr (.inr (.inl a59))), (60, .inr (.inr (.inl a60))), (69, .inr (.inr (.inl a69)))]) (k_ao_I ec1_1 (k_ao_I ec1_2 (k_ao_I ec1_3 (k_ao_I ec1_4 (k_ao_I ec1_5 (k_ao_I ec1_6 (k_ao_I ec58_3 (k_ao_A ea59 (k_ao_A ea60 (k_ao_A ea69 k_ap_0)))))))))) ?_
  show k_W X 2 0 0 (k_QX X ad (shX ++ rest).length (k_R1 out.1 (some (.int out.2.1)) (k_ap [(1, .inl (1, out.2.2.1)), (1, .inl (2, out.2.2.2.1)), (1, .inl (3, out.2.2.2.2.1)), (1, .inl (4, out.2.2.2.2.2.1)), (1, .inl (5, out.2.2.2.2.2.2.1)), (1, .inl (6, out.2.2.2.2.2.2.2.1)), (58, .inl (3, out.2.2.2.2.2.2.2.2.1)), (59, .inr (.inr (.inl out.2.2.2.2.2.2.2.2.2.1))), (60, .inr (.inr (.inl out.2.2.2.2.2.2.2.2.2.2.1))), (69, .inr (.inr (.inl out.2.2.2.2.2.2.2.2.2.2.2)))] ((shX ++ rest), I, L, Rf))) (k_R2 out.1 (k_ap [(1, .inl (1, out.2.2.1)), (1, .inl (2, out.2.2.2.1)), (1, .inl (3, out.2.2.2.2.1)), (1, .inl (4, out.2.2.2.2.2.1)), (1, .inl (5, out.2.2.2.2.2.2.1)), (1, .inl (6, out.2.2.2.2.2.2.2.1)), (58, .inl (3, out.2.2.2.2.2.2.2.2.1)), (59, .inr (.inr (.inl out.2.2.2.2.2.2.2.2.2.1))), (60, .inr (.inr (.inl out.2.2.2.2.2.2.2.2.2.2.1))), (69, .inr (.inr (.inl out.2.2.2.2.2.2.2.2.2.2.2)))] ((shX ++ rest), I, L, Rf))) 1 6) ad (k_ap [(1, .inl (1, c1_1)), (1, .inl (2, c1_2)), (1, .inl (3, c1_3)), (1, .inl (4, c1_4)), (1, .inl (5, c1_5)), (1, .inl (6, c1_6)), (58, .inl (3, c58_3)), (59, .inr (.inr (.inl a59))), (60, .inr (.inr (.inl a60))), (69, .inr (.inr (.inl a69)))] ((shX ++ rest), I, L, Rf)) 0 [some (.ref 0), some (.int x0)] []
  refine k_mask [true, true] ?_
  exact sX10_book_0 u C hr hR hx hRc hRs hT hsm ea2 c1_1 c1_2 c1_3 c1_4 c1_5 c1_6 c58_3 a59 a60 a69 x0 h
