/-! LullabyPit.can(II)I -/
theorem ds_X10_can : k_ds [(69, 2, 0)] = true := by decide +kernel
set_option maxHeartbeats 1000000 in
set_option maxRecDepth 100000 in
theorem sX10_can_0 (u : Nat) {X : k_X} {ad0 ad : Nat → Nat} {rest : List k_Sh} (C : k_C X cX10_can RX10 3 ad) (hr : X.meth.sig.returnType = (some .int)) (hR : X.R.frames = 7 ∧ X.R.locals = 112) (hx : ∀ x ∈ X.c.exceptionTable.toList, False) (hRc : X.R.cells = 1) (hRs : X.R.slots = 6) (hT : X.l.stackTraces = false) (hsm : k_sm (shX ++ rest).length ad0 ad) {I : Nat → Nat → Int32} {L : Nat → Nat → Int64} {Rf : Nat → Nat → Option Nat} {c3_0 : Int32} (ec3_0 : I 3 0 = c3_0) {c3_1 : Int32} (ec3_1 : I 3 1 = c3_1) {c3_8 : Int32} (ec3_8 : I 3 8 = c3_8) {c3_5 : Int64} (ec3_5 : L 3 5 = c3_5) {c3_6 : Int64} (ec3_6 : L 3 6 = c3_6) {c26_11 : Int32} (ec26_11 : I 26 11 = c26_11) {c26_15 : Int32} (ec26_15 : I 26 15 = c26_15) {c26_3 : Int64} (ec26_3 : L 26 3 = c26_3) {c26_4 : Int64} (ec26_4 : L 26 4 = c26_4) {out : Int32 × Int32 × (Nat → Int32)} : ∀ (a69 : (Nat → Int32)) (v1 : Int32) (v2 : Int32), bX10_can_0 u c3_0 c3_1 c3_8 c3_5 c3_6 c26_11 c26_15 c26_3 c26_4 a69 v1 v2 = some out → k_W X 3 0 0 (k_QX X ad0 (shX ++ rest).length (k_R1 out.1 (some (.int out.2.1)) (k_ap [(69, .inr (.inr (.inl out.2.2)))] ((shX ++ rest), I, L, Rf))) (k_R2 out.1 (k_ap [(69, .inr (.inr (.inl out.2.2)))] ((shX ++ rest), I, L, Rf))) 1 6) ad (k_ap [(69, .inr (.inr (.inl a69)))] ((shX ++ rest), I, L, Rf)) 0 [some (.ref 0), some (.int v1), some (.int v2)] [] := by
  intro a69 v1 v2 h
  unfold bX10_can_0 at h
  refine r_aload_n C dX10_can_0 (rfl : 0 + 1 = 1) rfl ?_
  refine r_getR (q := 26) C dX10_can_1 (rfl : 1 + 3 = 4) fl_X10_50 rfl rfl ?_
  refine r_aload_n C dX10_can_4 (rfl : 4 + 1 = 5) rfl ?_
  refine r_iload_n C dX10_can_5 (rfl : 5 + 1 = 6) rfl ?_
  refine r_iload_n C dX10_can_6 (rfl : 6 + 1 = 7) rfl ?_
  obtain ⟨r7, q7, h⟩ := k_b_of h
  refine c_VX (As := [.int v1, .int v2]) (st := [.ref 26]) C hR (k_csl hRc hRs rfl rfl) mv_X10_cellAt (k_me (tm5 (List.mem_of_getElem? (i := 96) rfl)) rfl) dX10_can_7 (rfl : 7 + 3 = 10) rfl rfl (k_gS rfl) rfl (c_X10_cellAt X.l u hT (k_ap [(69, .inr (.inr (.inl a69)))] ((shX ++ rest), I, L, Rf)) (k_gH rfl) ec3_0 ec3_1 rfl q7) rfl rfl rfl ⟨(k_ox 0 rfl), True.intro, True.intro, True.intro⟩ ⟨(k_ox 26 rfl), True.intro⟩ ?_ ?_
  · rintro E ad1 h1 ⟨hk0, rfl, rfl⟩ hsm1 C1
    have h := k_f hk0 h
    cases h
    exact x_out C1 hx (Nat.le_of_ble_eq_true rfl) (Nat.le_of_ble_eq_true rfl) ⟨hk0, rfl, (k_jn (us' := [(69, .inr (.inr (.inl r7.2.2)))]) ds_X10_can rfl rfl rfl)⟩ (k_sm_tr hsm hsm1 (Nat.le_of_eq (by rw [k_ap_sh])))
  rintro v ad7 h1 ⟨hk0, rfl, rfl⟩ hsm1 C
  have h := k_t hk0 h
  have hsm := k_sm_tr hsm hsm1 (Nat.le_of_eq (by rw [k_ap_sh]))
  refine k_eqh (k_jn (us' := [(69, .inr (.inr (.inl r7.2.2)))]) ds_X10_can rfl rfl rfl) ?_
  show k_W _ _ _ _ _ _ _ _ _ [.int r7.2.1, .ref 26]
  obtain ⟨r10, q10, h⟩ := k_b_of h
  refine d_Vp (pi := [26, 27, 28, 29, 30, 3, 4, 5, 6, 7, 8, 9, 17, 18, 19, 20, 21, 22]) (shl := shMine) (bl := 0) (As := [.int r7.2.1]) (Al := [.int r7.2.1]) (st := []) (st' := [.int r10]) (h' := k_ap [(69, .inr (.inr (.inl r7.2.2)))] ((shX ++ rest), I, L, Rf)) C hR (k_csl hRc hRs rfl rfl) mv_X3_obstacle lk_X10_276 dX10_can_10 (rfl : 10 + 3 = 13) rfl rfl ck_shX_shMine_26_3 rfl rfl (c_X3_obstacle X.l u (k_pl [26, 27, 28, 29, 30, 3, 4, 5, 6, 7, 8, 9, 17, 18, 19, 20, 21, 22] shMine (k_ap [(69, .inr (.inr (.inl r7.2.2)))] ((shX ++ rest), I, L, Rf))) rfl ec26_11 ec26_15 ec26_3 ec26_4 ec3_8 ec3_5 ec3_6 q10) rfl (fun _ => rfl) rfl (fun _ => rfl) rfl rfl rfl rfl rfl ?_
  cases h
  exact x_of_g (g_iret C hr (Nat.le_of_ble_eq_true rfl) (Nat.le_of_ble_eq_true rfl) ⟨rfl, rfl, rfl⟩ hsm dX10_can_13)
set_option maxHeartbeats 1000000 in
set_option maxRecDepth 100000 in
theorem c_X10_can (l : Launch) (u : Nat) (hT : l.stackTraces = false) (h : k_H) {rest : List k_Sh} (hsh : h.1 = shX ++ rest) {c3_0 : Int32} (ec3_0 : h.2.1 3 0 = c3_0) {c3_1 : Int32} (ec3_1 : h.2.1 3 1 = c3_1) {c3_8 : Int32} (ec3_8 : h.2.1 3 8 = c3_8) {c3_5 : Int64} (ec3_5 : h.2.2.1 3 5 = c3_5) {c3_6 : Int64} (ec3_6 : h.2.2.1 3 6 = c3_6) {c26_11 : Int32} (ec26_11 : h.2.1 26 11 = c26_11) {c26_15 : Int32} (ec26_15 : h.2.1 26 15 = c26_15) {c26_3 : Int64} (ec26_3 : h.2.2.1 26 3 = c26_3) {c26_4 : Int64} (ec26_4 : h.2.2.1 26 4 = c26_4) {a69 : (Nat → Int32)} (ea69 : h.2.1 69 = a69) {x0 : Int32} {x1 : Int32} {out : Int32 × Int32 × (Nat → Int32)} (hf : f_X10_can u c3_0 c3_1 c3_8 c3_5 c3_6 c26_11 c26_15 c26_3 c26_4 a69 x0 x1 = some out) : k_CX l yX10_can cX10_can 3 (some .int) 7 112 1 6 [.ref 0, .int x0, .int x1] h (k_R1 out.1 (some (.int out.2.1)) (k_ap [(69, .inr (.inr (.inl out.2.2)))] h)) (k_R2 out.1 (k_ap [(69, .inr (.inr (.inl out.2.2)))] h)) := by
  obtain ⟨sh, I, L, Rf⟩ := h
  try dsimp only
  obtain rfl : sh = shX ++ rest := hsh
  refine k_ofWX (by decide) (Nat.le_of_ble_eq_true rfl) ?_
  intro X ad hl hR0 hr C hx
  have hR : X.R.frames = 7 ∧ X.R.locals = 112 := by rw [hR0]; exact ⟨rfl, rfl⟩
  have hRc : X.R.cells = 1 := by rw [hR0]
  have hRs : X.R.slots = 6 := by rw [hR0]
  have hT : X.l.stackTraces = false := by rw [hl]; exact hT
  have hsm := k_sm_rf (shX ++ rest).length ad
  have h := hf
  unfold f_X10_can at h
  refine k_start (us := [(69, .inr (.inr (.inl a69)))]) (k_ao_A ea69 k_ap_0) ?_
  show k_W X 3 0 0 (k_QX X ad (shX ++ rest).length (k_R1 out.1 (some (.int out.2.1)) (k_ap [(69, .inr (.inr (.inl out.2.2)))] ((shX ++ rest), I, L, Rf))) (k_R2 out.1 (k_ap [(69, .inr (.inr (.inl out.2.2)))] ((shX ++ rest), I, L, Rf))) 1 6) ad (k_ap [(69, .inr (.inr (.inl a69)))] ((shX ++ rest), I, L, Rf)) 0 [some (.ref 0), some (.int x0), some (.int x1)] []
  refine k_mask [true, true, true] ?_
  exact sX10_can_0 u C hr hR hx hRc hRs hT hsm ec3_0 ec3_1 ec3_8 ec3_5 ec3_6 ec26_11 ec26_15 ec26_3 ec26_4 a69 x0 x1 h
/-! LullabyPit.falls(II)Z -/
theorem ds_X10_falls : k_ds [(19, 2, 0), (69, 2, 0)] = true := by decide +kernel
set_option maxHeartbeats 1000000 in
set_option maxRecDepth 100000 in
theorem sX10_falls_0 (u : Nat) {X : k_X} {ad0 ad : Nat → Nat} {rest : List k_Sh} (C : k_C X cX10_falls RX10 3 ad) (hr : X.meth.sig.returnType = (some .boolean)) (hR : X.R.frames = 7 ∧ X.R.locals = 112) (hx : ∀ x ∈ X.c.exceptionTable.toList, False) (hRc : X.R.cells = 1) (hRs : X.R.slots = 6) (hT : X.l.stackTraces = false) (hsm : k_sm (shX ++ rest).length ad0 ad) {I : Nat → Nat → Int32} {L : Nat → Nat → Int64} {Rf : Nat → Nat → Option Nat} {c3_0 : Int32} (ec3_0 : I 3 0 = c3_0) {c3_1 : Int32} (ec3_1 : I 3 1 = c3_1) {a4 : (Nat → Int32)} (ea4 : I 4 = a4) {a5 : (Nat → Int32)} (ea5 : I 5 = a5) {c17_2 : Int32} (ec17_2 : I 17 2 = c17_2) {a18 : (Nat → Int32)} (ea18 : I 18 = a18) {c26_10 : Int32} (ec26_10 : I 26 10 = c26_10) {c26_3 : Int64} (ec26_3 : L 26 3 = c26_3) {c26_4 : Int64} (ec26_4 : L 26 4 = c26_4) {out : Int32 × Int32 × (Nat → Int32) × (Nat → Int32)} : ∀ (a19 : (Nat → Int32)) (a69 : (Nat → Int32)) (v1 : Int32) (v2 : Int32), bX10_falls_0 u c3_0 c3_1 a4 a5 c17_2 a18 c26_10 c26_3 c26_4 a19 a69 v1 v2 = some out → k_W X 3 0 0 (k_QX X ad0 (shX ++ rest).length (k_R1 out.1 (some (.int out.2.1)) (k_ap [(19, .inr (.inr (.inl out.2.2.1))), (69, .inr (.inr (.inl out.2.2.2)))] ((shX ++ rest), I, L, Rf))) (k_R2 out.1 (k_ap [(19, .inr (.inr (.inl out.2.2.1))), (69, .inr (.inr (.inl out.2.2.2)))] ((shX ++ rest), I, L, Rf))) 1 6) ad (k_ap [(19, .inr (.inr (.inl a19))), (69, .inr (.inr (.inl a69)))] ((shX ++ rest), I, L, Rf)) 0 [some (.ref 0), some (.int v1), some (.int v2)] [] := by
  intro a19 a69 v1 v2 h
  unfold bX10_falls_0 at h
  refine r_aload_n C dX10_falls_0 (rfl : 0 + 1 = 1) rfl ?_
  refine r_getR (q := 26) C dX10_falls_1 (rfl : 1 + 3 = 4) fl_X10_50 rfl rfl ?_
  refine r_aload_n C dX10_falls_4 (rfl : 4 + 1 = 5) rfl ?_
  refine r_iload_n C dX10_falls_5 (rfl : 5 + 1 = 6) rfl ?_
  refine r_iload_n C dX10_falls_6 (rfl : 6 + 1 = 7) rfl ?_
  obtain ⟨r7, q7, h⟩ := k_b_of h
  refine c_VX (As := [.int v1, .int v2]) (st := [.ref 26]) C hR (k_csl hRc hRs rfl rfl) mv_X10_cellAt (k_me (tm5 (List.mem_of_getElem? (i := 96) rfl)) rfl) dX10_falls_7 (rfl : 7 + 3 = 10) rfl rfl (k_gS rfl) rfl (c_X10_cellAt X.l u hT (k_ap [(19, .inr (.inr (.inl a19))), (69, .inr (.inr (.inl a69)))] ((shX ++ rest), I, L, Rf)) (k_gH rfl) ec3_0 ec3_1 rfl q7) rfl rfl rfl ⟨(k_ox 0 rfl), True.intro, True.intro, True.intro⟩ ⟨(k_ox 26 rfl), True.intro⟩ ?_ ?_
  · rintro E ad1 h1 ⟨hk0, rfl, rfl⟩ hsm1 C1
    have h := k_f hk0 h
    cases h
    exact x_out C1 hx (Nat.le_of_ble_eq_true rfl) (Nat.le_of_ble_eq_true rfl) ⟨hk0, rfl, (k_jn (us' := [(19, .inr (.inr (.inl a19))), (69, .inr (.inr (.inl r7.2.2)))]) ds_X10_falls rfl rfl rfl)⟩ (k_sm_tr hsm hsm1 (Nat.le_of_eq (by rw [k_ap_sh])))
  rintro v ad7 h1 ⟨hk0, rfl, rfl⟩ hsm1 C
  have h := k_t hk0 h
  have hsm := k_sm_tr hsm hsm1 (Nat.le_of_eq (by rw [k_ap_sh]))
  refine k_eqh (k_jn (us' := [(19, .inr (.inr (.inl a19))), (69, .inr (.inr (.inl r7.2.2)))]) ds_X10_falls rfl rfl rfl) ?_
  show k_W _ _ _ _ _ _ _ _ _ [.int r7.2.1, .ref 26]
  obtain ⟨r10, q10, h⟩ := k_b_of h
  refine d_Vp (pi := [26, 27, 28, 29, 30, 3, 4, 5, 6, 7, 8, 9, 17, 18, 19, 20, 21, 22]) (shl := shMine) (bl := 0) (As := [.int r7.2.1]) (Al := [.int r7.2.1]) (st := []) (st' := [.int r10.1]) (h' := k_ap [(19, .inr (.inr (.inl r10.2))), (69, .inr (.inr (.inl r7.2.2)))] ((shX ++ rest), I, L, Rf)) C hR (k_csl hRc hRs rfl rfl) mv_X3_wouldFall lk_X10_279 dX10_falls_10 (rfl : 10 + 3 = 13) rfl rfl ck_shX_shMine_26_3 rfl rfl (c_X3_wouldFall X.l u (k_pl [26, 27, 28, 29, 30, 3, 4, 5, 6, 7, 8, 9, 17, 18, 19, 20, 21, 22] shMine (k_ap [(19, .inr (.inr (.inl a19))), (69, .inr (.inr (.inl r7.2.2)))] ((shX ++ rest), I, L, Rf))) rfl ec26_10 ec26_3 ec26_4 ea4 ea5 ec17_2 ea18 rfl q10) rfl (fun _ => rfl) rfl (fun _ => rfl) rfl rfl rfl (k_jn (us' := [(19, .inr (.inr (.inl r10.2))), (69, .inr (.inr (.inl r7.2.2)))]) ds_X10_falls rfl rfl rfl) rfl ?_
  obtain ⟨hz, h⟩ := k_z_of h
  cases h
  exact x_of_g (g_zret C hr hz (Nat.le_of_ble_eq_true rfl) (Nat.le_of_ble_eq_true rfl) ⟨rfl, rfl, rfl⟩ hsm dX10_falls_13)
set_option maxHeartbeats 1000000 in
set_option maxRecDepth 100000 in
theorem c_X10_falls (l : Launch) (u : Nat) (hT : l.stackTraces = false) (h : k_H) {rest : List k_Sh} (hsh : h.1 = shX ++ rest) {c3_0 : Int32} (ec3_0 : h.2.1 3 0 = c3_0) {c3_1 : Int32} (ec3_1 : h.2.1 3 1 = c3_1) {a4 : (Nat → Int32)} (ea4 : h.2.1 4 = a4) {a5 : (Nat → Int32)} (ea5 : h.2.1 5 = a5) {c17_2 : Int32} (ec17_2 : h.2.1 17 2 = c17_2) {a18 : (Nat → Int32)} (ea18 : h.2.1 18 = a18) {a19 : (Nat → Int32)} (ea19 : h.2.1 19 = a19) {c26_10 : Int32} (ec26_10 : h.2.1 26 10 = c26_10) {c26_3 : Int64} (ec26_3 : h.2.2.1 26 3 = c26_3) {c26_4 : Int64} (ec26_4 : h.2.2.1 26 4 = c26_4) {a69 : (Nat → Int32)} (ea69 : h.2.1 69 = a69) {x0 : Int32} {x1 : Int32} {out : Int32 × Int32 × (Nat → Int32) × (Nat → Int32)} (hf : f_X10_falls u c3_0 c3_1 a4 a5 c17_2 a18 a19 c26_10 c26_3 c26_4 a69 x0 x1 = some out) : k_CX l yX10_falls cX10_falls 3 (some .boolean) 7 112 1 6 [.ref 0, .int x0, .int x1] h (k_R1 out.1 (some (.int out.2.1)) (k_ap [(19, .inr (.inr (.inl out.2.2.1))), (69, .inr (.inr (.inl out.2.2.2)))] h)) (k_R2 out.1 (k_ap [(19, .inr (.inr (.inl out.2.2.1))), (69, .inr (.inr (.inl out.2.2.2)))] h)) := by
  obtain ⟨sh, I, L, Rf⟩ := h
  try dsimp only
  obtain rfl : sh = shX ++ rest := hsh
  refine k_ofWX (by decide) (Nat.le_of_ble_eq_true rfl) ?_
  intro X ad hl hR0 hr C hx
  have hR : X.R.frames = 7 ∧ X.R.locals = 112 := by rw [hR0]; exact ⟨rfl, rfl⟩
  have hRc : X.R.cells = 1 := by rw [hR0]
  have hRs : X.R.slots = 6 := by rw [hR0]
  have hT : X.l.stackTraces = false := by rw [hl]; exact hT
  have hsm := k_sm_rf (shX ++ rest).length ad
  have h := hf
  unfold f_X10_falls at h
  refine k_start (us := [(19, .inr (.inr (.inl a19))), (69, .inr (.inr (.inl a69)))]) (k_ao_A ea19 (k_ao_A ea69 k_ap_0)) ?_
  show k_W X 3 0 0 (k_QX X ad (shX ++ rest).length (k_R1 out.1 (some (.int out.2.1)) (k_ap [(19, .inr (.inr (.inl out.2.2.1))), (69, .inr (.inr (.inl out.2.2.2)))] ((shX ++ rest), I, L, Rf))) (k_R2 out.1 (k_ap [(19, .inr (.inr (.inl out.2.2.1))), (69, .inr (.inr (.inl out.2.2.2)))] ((shX ++ rest), I, L, Rf))) 1 6) ad (k_ap [(19, .inr (.inr (.inl a19))), (69, .inr (.inr (.inl a69)))] ((shX ++ rest), I, L, Rf)) 0 [some (.ref 0), some (.int x0), some (.int x1)] []
  refine k_mask [true, true, true] ?_
  exact sX10_falls_0 u C hr hR hx hRc hRs hT hsm ec3_0 ec3_1 ea4 ea5 ec17_2 ea18 ec26_10 ec26_3 ec26_4 a19 a69 x0 x1 h
/-! LullabyPit.risks(II)I -/
theorem ds_X10_risks : k_ds [(19, 2, 0), (43, 0, 10), (43, 0, 11), (43, 0, 12), (43, 0, 13), (43, 0, 14), (43, 0, 15), (43, 0, 16), (43, 0, 17), (43, 1, 3), (43, 1, 4), (43, 1, 5), (44, 2, 0), (45, 2, 0), (46, 2, 0), (47, 2, 0), (69, 2, 0)] = true := by decide +kernel
set_option maxHeartbeats 1000000 in
set_option maxRecDepth 100000 in
theorem sX10_risks_0 (u : Nat) {X : k_X} {ad0 ad : Nat → Nat} {rest : List k_Sh} (C : k_C X cX10_risks RX10 5 ad) (hr : X.meth.sig.returnType = (some .int)) (hR : X.R.frames = 7 ∧ X.R.locals = 119) (hx : ∀ x ∈ X.c.exceptionTable.toList, False) (hRc : X.R.cells = 1) (hRs : X.R.slots = 6) (hT : X.l.stackTraces = false) (hsm : k_sm (shX ++ rest).length ad0 ad) {I : Nat → Nat → Int32} {L : Nat → Nat → Int64} {Rf : Nat → Nat → Option Nat} (eR41_0 : Rf 41 0 = some 43) {c3_0 : Int32} (ec3_0 : I 3 0 = c3_0) {c3_1 : Int32} (ec3_1 : I 3 1 = c3_1) {c3_8 : Int32} (ec3_8 : I 3 8 = c3_8) {c3_5 : Int64} (ec3_5 : L 3 5 = c3_5) {c3_6 : Int64} (ec3_6 : L 3 6 = c3_6) {a4 : (Nat → Int32)} (ea4 : I 4 = a4) {a5 : (Nat → Int32)} (ea5 : I 5 = a5) {c17_2 : Int32} (ec17_2 : I 17 2 = c17_2) {a18 : (Nat → Int32)} (ea18 : I 18 = a18) {c26_10 : Int32} (ec26_10 : I 26 10 = c26_10) {c26_11 : Int32} (ec26_11 : I 26 11 = c26_11) {c26_12 : Int32} (ec26_12 : I 26 12 = c26_12) {c26_13 : Int32} (ec26_13 : I 26 13 = c26_13) {c26_14 : Int32} (ec26_14 : I 26 14 = c26_14) {c26_15 : Int32} (ec26_15 : I 26 15 = c26_15) {c26_16 : Int32} (ec26_16 : I 26 16 = c26_16) {c26_17 : Int32} (ec26_17 : I 26 17 = c26_17) {c26_3 : Int64} (ec26_3 : L 26 3 = c26_3) {c26_4 : Int64} (ec26_4 : L 26 4 = c26_4) {c26_5 : Int64} (ec26_5 : L 26 5 = c26_5) {a27 : (Nat → Int32)} (ea27 : I 27 = a27) {a28 : (Nat → Int32)} (ea28 : I 28 = a28) {a29 : (Nat → Int32)} (ea29 : I 29 = a29) {a30 : (Nat → Int32)} (ea30 : I 30 = a30) {out : Int32 × Int32 × (Nat → Int32) × Int32 × Int32 × Int32 × Int32 × Int32 × Int32 × Int32 × Int32 × Int64 × Int64 × Int64 × (Nat → Int32) × (Nat → Int32) × (Nat → Int32) × (Nat → Int32) × (Nat → Int32)} : ∀ (a19 : (Nat → Int32)) (c43_10 : Int32) (c43_11 : Int32) (c43_12 : Int32) (c43_13 : Int32) (c43_14 : Int32) (c43_15 : Int32) (c43_16 : Int32) (c43_17 : Int32) (c43_3 : Int64) (c43_4 : Int64) (c43_5 : Int64) (a44 : (Nat → Int32)) (a45 : (Nat → Int32)) (a46 : (Nat → Int32)) (a47 : (Nat → Int32)) (a69 : (Nat → Int32)) (v1 : Int32) (v2 : Int32), bX10_risks_0 u c3_0 c3_1 c3_8 c3_5 c3_6 a4 a5 c17_2 a18 c26_10 c26_11 c26_12 c26_13 c26_14 c26_15 c26_16 c26_17 c26_3 c26_4 c26_5 a27 a28 a29 a30 a19 c43_10 c43_11 c43_12 c43_13 c43_14 c43_15 c43_16 c43_17 c43_3 c43_4 c43_5 a44 a45 a46 a47 a69 v1 v2 = some out → k_W X 5 0 0 (k_QX X ad0 (shX ++ rest).length (k_R1 out.1 (some (.int out.2.1)) (k_ap [(19, .inr (.inr (.inl out.2.2.1))), (43, .inl (10, out.2.2.2.1)), (43, .inl (11, out.2.2.2.2.1)), (43, .inl (12, out.2.2.2.2.2.1)), (43, .inl (13, out.2.2.2.2.2.2.1)), (43, .inl (14, out.2.2.2.2.2.2.2.1)), (43, .inl (15, out.2.2.2.2.2.2.2.2.1)), (43, .inl (16, out.2.2.2.2.2.2.2.2.2.1)), (43, .inl (17, out.2.2.2.2.2.2.2.2.2.2.1)), (43, .inr (.inl (3, out.2.2.2.2.2.2.2.2.2.2.2.1))), (43, .inr (.inl (4, out.2.2.2.2.2.2.2.2.2.2.2.2.1))), (43, .inr (.inl (5, out.2.2.2.2.2.2.2.2.2.2.2.2.2.1))), (44, .inr (.inr (.inl out.2.2.2.2.2.2.2.2.2.2.2.2.2.2.1))), (45, .inr (.inr (.inl out.2.2.2.2.2.2.2.2.2.2.2.2.2.2.2.1))), (46, .inr (.inr (.inl out.2.2.2.2.2.2.2.2.2.2.2.2.2.2.2.2.1))), (47, .inr (.inr (.inl out.2.2.2.2.2.2.2.2.2.2.2.2.2.2.2.2.2.1))), (69, .inr (.inr (.inl out.2.2.2.2.2.2.2.2.2.2.2.2.2.2.2.2.2.2)))] ((shX ++ rest), I, L, Rf))) (k_R2 out.1 (k_ap [(19, .inr (.inr (.inl out.2.2.1))), (43, .inl (10, out.2.2.2.1)), (43, .inl (11, out.2.2.2.2.1)), (43, .inl (12, out.2.2.2.2.2.1)), (43, .inl (13, out.2.2.2.2.2.2.1)), (43, .inl (14, out.2.2.2.2.2.2.2.1)), (43, .inl (15, out.2.2.2.2.2.2.2.2.1)), (43, .inl (16, out.2.2.2.2.2.2.2.2.2.1)), (43, .inl (17, out.2.2.2.2.2.2.2.2.2.2.1)), (43, .inr (.inl (3, out.2.2.2.2.2.2.2.2.2.2.2.1))), (43, .inr (.inl (4, out.2.2.2.2.2.2.2.2.2.2.2.2.1))), (43, .inr (.inl (5, out.2.2.2.2.2.2.2.2.2.2.2.2.2.1))), (44, .inr (.inr (.inl out.2.2.2.2.2.2.2.2.2.2.2.2.2.2.1))), (45, .inr (.inr (.inl out.2.2.2.2.2.2.2.2.2.2.2.2.2.2.2.1))), (46, .inr (.inr (.inl out.2.2.2.2.2.2.2.2.2.2.2.2.2.2.2.2.1))), (47, .inr (.inr (.inl out.2.2.2.2.2.2.2.2.2.2.2.2.2.2.2.2.2.1))), (69, .inr (.inr (.inl out.2.2.2.2.2.2.2.2.2.2.2.2.2.2.2.2.2.2)))] ((shX ++ rest), I, L, Rf))) 1 6) ad (k_ap [(19, .inr (.inr (.inl a19))), (43, .inl (10, c43_10)), (43, .inl (11, c43_11)), (43, .inl (12, c43_12)), (43, .inl (13, c43_13)), (43, .inl (14, c43_14)), (43, .inl (15, c43_15)), (43, .inl (16, c43_16)), (43, .inl (17, c43_17)), (43, .inr (.inl (3, c43_3))), (43, .inr (.inl (4, c43_4))), (43, .inr (.inl (5, c43_5))), (44, .inr (.inr (.inl a44))), (45, .inr (.inr (.inl a45))), (46, .inr (.inr (.inl a46))), (47, .inr (.inr (.inl a47))), (69, .inr (.inr (.inl a69)))] ((shX ++ rest), I, L, Rf)) 0 [some (.ref 0), some (.int v1), some (.int v2), none, none] [] := by
  intro a19 c43_10 c43_11 c43_12 c43_13 c43_14 c43_15 c43_16 c43_17 c43_3 c43_4 c43_5 a44 a45 a46 a47 a69 v1 v2 h
  unfold bX10_risks_0 at h
  refine r_aload_n C dX10_risks_0 (rfl : 0 + 1 = 1) rfl ?_
  refine r_iload_n C dX10_risks_1 (rfl : 1 + 1 = 2) rfl ?_
  refine r_iload_n C dX10_risks_2 (rfl : 2 + 1 = 3) rfl ?_
  obtain ⟨r3, q3, h⟩ := k_b_of h
  refine c_VX (As := [.int v1, .int v2]) (st := []) C hR (k_csl hRc hRs rfl rfl) mv_X10_cellAt (k_me (tm5 (List.mem_of_getElem? (i := 96) rfl)) rfl) dX10_risks_3 (rfl : 3 + 3 = 6) rfl rfl (k_gS rfl) rfl (c_X10_cellAt X.l u hT (k_ap [(19, .inr (.inr (.inl a19))), (43, .inl (10, c43_10)), (43, .inl (11, c43_11)), (43, .inl (12, c43_12)), (43, .inl (13, c43_13)), (43, .inl (14, c43_14)), (43, .inl (15, c43_15)), (43, .inl (16, c43_16)), (43, .inl (17, c43_17)), (43, .inr (.inl (3, c43_3))), (43, .inr (.inl (4, c43_4))), (43, .inr (.inl (5, c43_5))), (44, .inr (.inr (.inl a44))), (45, .inr (.inr (.inl a45))), (46, .inr (.inr (.inl a46))), (47, .inr (.inr (.inl a47))), (69, .inr (.inr (.inl a69)))] ((shX ++ rest), I, L, Rf)) (k_gH rfl) (k_gOI (ks := [(19, 2, 0), (43, 0, 10), (43, 0, 11), (43, 0, 12), (43, 0, 13), (43, 0, 14), (43, 0, 15), (43, 0, 16), (43, 0, 17), (43, 1, 3), (43, 1, 4), (43, 1, 5), (44, 2, 0), (45, 2, 0), (46, 2, 0), (47, 2, 0), (69, 2, 0)]) rfl (by decide +kernel) ec3_0) (k_gOI (ks := [(19, 2, 0), (43, 0, 10), (43, 0, 11), (43, 0, 12), (43, 0, 13), (43, 0, 14), (43, 0, 15), (43, 0, 16), (43, 0, 17), (43, 1, 3), (43, 1, 4), (43, 1, 5), (44, 2, 0), (45, 2, 0), (46, 2, 0), (47, 2, 0), (69, 2, 0)]) rfl (by decide +kernel) ec3_1) (k_gA ds_X10_risks rfl 16 rfl) q3) rfl rfl rfl ⟨(k_ox 0 rfl), True.intro, True.intro, True.intro⟩ True.intro ?_ ?_
  · rintro E ad1 h1 ⟨hk0, rfl, rfl⟩ hsm1 C1
    have h := k_f hk0 h
    cases h
    exact x_out C1 hx (Nat.le_of_ble_eq_true rfl) (Nat.le_of_ble_eq_true rfl) ⟨hk0, rfl, (k_jn2 (us' := [(19, .inr (.inr (.inl a19))), (43, .inl (10, c43_10)), (43, .inl (11, c43_11)), (43, .inl (12, c43_12)), (43, .inl (13, c43_13)), (43, .inl (14, c43_14)), (43, .inl (15, c43_15)), (43, .inl (16, c43_16)), (43, .inl (17, c43_17)), (43, .inr (.inl (3, c43_3))), (43, .inr (.inl (4, c43_4))), (43, .inr (.inl (5, c43_5))), (44, .inr (.inr (.inl a44))), (45, .inr (.inr (.inl a45))), (46, .inr (.inr (.inl a46))), (47, .inr (.inr (.inl a47))), (69, .inr (.inr (.inl r3.2.2)))]) (vks := [(69, 2, 0)]) (js := [16]) ds_X10_risks rfl rfl (by decide +kernel) rfl)⟩ (k_sm_tr hsm hsm1 (Nat.le_of_eq (by rw [k_ap_sh])))
  rintro v ad3 h1 ⟨hk0, rfl, rfl⟩ hsm1 C
  have h := k_t hk0 h
  have hsm := k_sm_tr hsm hsm1 (Nat.le_of_eq (by rw [k_ap_sh]))
  refine k_eqh (k_jn2 (us' := [(19, .inr (.inr (.inl a19))), (43, .inl (10, c43_10)), (43, .inl (11, c43_11)), (43, .inl (12, c43_12)), (43, .inl (13, c43_13)), (43, .inl (14, c43_14)), (43, .inl (15, c43_15)), (43, .inl (16, c43_16)), (43, .inl (17, c43_17)), (43, .inr (.inl (3, c43_3))), (43, .inr (.inl (4, c43_4))), (43, .inr (.inl (5, c43_5))), (44, .inr (.inr (.inl a44))), (45, .inr (.inr (.inl a45))), (46, .inr (.inr (.inl a46))), (47, .inr (.inr (.inl a47))), (69, .inr (.inr (.inl r3.2.2)))]) (vks := [(69, 2, 0)]) (js := [16]) ds_X10_risks rfl rfl (by decide +kernel) rfl) ?_
  show k_W _ _ _ _ _ _ _ _ _ [.int r3.2.1]
  refine r_istore_n C dX10_risks_6 (rfl : 6 + 1 = 7) (by decide) (Nat.le_of_ble_eq_true rfl) ?_
  show k_W _ _ _ _ _ _ _ _ [some (.ref 0), some (.int v1), some (.int v2), some (.int r3.2.1), none] _
  refine r_aload_n C dX10_risks_7 (rfl : 7 + 1 = 8) rfl ?_
  refine r_getR (q := 26) C dX10_risks_8 (rfl : 8 + 3 = 11) fl_X10_50 (k_gS rfl) rfl ?_
  refine r_iload_n C dX10_risks_11 (rfl : 11 + 1 = 12) rfl ?_
  obtain ⟨r12, q12, h⟩ := k_b_of h
  refine d_Vp (pi := [26, 27, 28, 29, 30, 3, 4, 5, 6, 7, 8, 9, 17, 18, 19, 20, 21, 22]) (shl := shMine) (bl := 0) (As := [.int r3.2.1]) (Al := [.int r3.2.1]) (st := []) (st' := [.int r12]) (h' := k_ap [(19, .inr (.inr (.inl a19))), (43, .inl (10, c43_10)), (43, .inl (11, c43_11)), (43, .inl (12, c43_12)), (43, .inl (13, c43_13)), (43, .inl (14, c43_14)), (43, .inl (15, c43_15)), (43, .inl (16, c43_16)), (43, .inl (17, c43_17)), (43, .inr (.inl (3, c43_3))), (43, .inr (.inl (4, c43_4))), (43, .inr (.inl (5, c43_5))), (44, .inr (.inr (.inl a44))), (45, .inr (.inr (.inl a45))), (46, .inr (.inr (.inl a46))), (47, .inr (.inr (.inl a47))), (69, .inr (.inr (.inl r3.2.2)))] ((shX ++ rest), I, L, Rf)) C hR (k_csl hRc hRs rfl rfl) mv_X3_obstacle lk_X10_276 dX10_risks_12 (rfl : 12 + 3 = 15) rfl rfl (k_ckS ck_shX_shMine_26_3) rfl rfl (c_X3_obstacle X.l u (k_pl [26, 27, 28, 29, 30, 3, 4, 5, 6, 7, 8, 9, 17, 18, 19, 20, 21, 22] shMine (k_ap [(19, .inr (.inr (.inl a19))), (43, .inl (10, c43_10)), (43, .inl (11, c43_11)), (43, .inl (12, c43_12)), (43, .inl (13, c43_13)), (43, .inl (14, c43_14)), (43, .inl (15, c43_15)), (43, .inl (16, c43_16)), (43, .inl (17, c43_17)), (43, .inr (.inl (3, c43_3))), (43, .inr (.inl (4, c43_4))), (43, .inr (.inl (5, c43_5))), (44, .inr (.inr (.inl a44))), (45, .inr (.inr (.inl a45))), (46, .inr (.inr (.inl a46))), (47, .inr (.inr (.inl a47))), (69, .inr (.inr (.inl r3.2.2)))] ((shX ++ rest), I, L, Rf))) rfl (k_plI rfl (k_gOI (ks := [(19, 2, 0), (43, 0, 10), (43, 0, 11), (43, 0, 12), (43, 0, 13), (43, 0, 14), (43, 0, 15), (43, 0, 16), (43, 0, 17), (43, 1, 3), (43, 1, 4), (43, 1, 5), (44, 2, 0), (45, 2, 0), (46, 2, 0), (47, 2, 0), (69, 2, 0)]) rfl (by decide +kernel) ec26_11)) (k_plI rfl (k_gOI (ks := [(19, 2, 0), (43, 0, 10), (43, 0, 11), (43, 0, 12), (43, 0, 13), (43, 0, 14), (43, 0, 15), (43, 0, 16), (43, 0, 17), (43, 1, 3), (43, 1, 4), (43, 1, 5), (44, 2, 0), (45, 2, 0), (46, 2, 0), (47, 2, 0), (69, 2, 0)]) rfl (by decide +kernel) ec26_15)) (k_plL rfl (k_gOL (ks := [(19, 2, 0), (43, 0, 10), (43, 0, 11), (43, 0, 12), (43, 0, 13), (43, 0, 14), (43, 0, 15), (43, 0, 16), (43, 0, 17), (43, 1, 3), (43, 1, 4), (43, 1, 5), (44, 2, 0), (45, 2, 0), (46, 2, 0), (47, 2, 0), (69, 2, 0)]) rfl (by decide +kernel) ec26_3)) (k_plL rfl (k_gOL (ks := [(19, 2, 0), (43, 0, 10), (43, 0, 11), (43, 0, 12), (43, 0, 13), (43, 0, 14), (43, 0, 15), (43, 0, 16), (43, 0, 17), (43, 1, 3), (43, 1, 4), (43, 1, 5), (44, 2, 0), (45, 2, 0), (46, 2, 0), (47, 2, 0), (69, 2, 0)]) rfl (by decide +kernel) ec26_4)) (k_plI rfl (k_gOI (ks := [(19, 2, 0), (43, 0, 10), (43, 0, 11), (43, 0, 12), (43, 0, 13), (43, 0, 14), (43, 0, 15), (43, 0, 16), (43, 0, 17), (43, 1, 3), (43, 1, 4), (43, 1, 5), (44, 2, 0), (45, 2, 0), (46, 2, 0), (47, 2, 0), (69, 2, 0)]) rfl (by decide +kernel) ec3_8)) (k_plL rfl (k_gOL (ks := [(19, 2, 0), (43, 0, 10), (43, 0, 11), (43, 0, 12), (43, 0, 13), (43, 0, 14), (43, 0, 15), (43, 0, 16), (43, 0, 17), (43, 1, 3), (43, 1, 4), (43, 1, 5), (44, 2, 0), (45, 2, 0), (46, 2, 0), (47, 2, 0), (69, 2, 0)]) rfl (by decide +kernel) ec3_5)) (k_plL rfl (k_gOL (ks := [(19, 2, 0), (43, 0, 10), (43, 0, 11), (43, 0, 12), (43, 0, 13), (43, 0, 14), (43, 0, 15), (43, 0, 16), (43, 0, 17), (43, 1, 3), (43, 1, 4), (43, 1, 5), (44, 2, 0), (45, 2, 0), (46, 2, 0), (47, 2, 0), (69, 2, 0)]) rfl (by decide +kernel) ec3_6)) q12) rfl (fun _ => rfl) rfl (fun _ => rfl) rfl rfl rfl rfl rfl ?_
  refine r_istore C dX10_risks_15 (rfl : 15 + 2 = 17) (by decide) (Nat.le_of_ble_eq_true rfl) ?_
  show k_W _ _ _ _ _ _ _ _ [some (.ref 0), some (.int v1), some (.int v2), some (.int r3.2.1), some (.int r12)] _
  refine r_iload C dX10_risks_17 (rfl : 17 + 2 = 19) rfl ?_
  refine r_iconst (v := (1 : Int32)) C dX10_risks_19 (rfl : 19 + 1 = 20) rfl ?_
  refine r_icmp_eq (tgt := 29) C dX10_risks_20 (by decide) (rfl : 20 + 3 = 23) (fun c20 => ?_) (fun c20 => ?_)
  · have h := k_t c20 h
    refine r_iconst (v := (-1 : Int32)) C dX10_risks_29 (rfl : 29 + 1 = 30) rfl ?_
    cases h
    exact x_of_g (g_iret C hr (Nat.le_of_ble_eq_true rfl) (Nat.le_of_ble_eq_true rfl) ⟨rfl, rfl, rfl⟩ hsm dX10_risks_30)
  · have h := k_f c20 h
    refine r_iload C dX10_risks_23 (rfl : 23 + 2 = 25) rfl ?_
    refine r_iconst (v := (2 : Int32)) C dX10_risks_25 (rfl : 25 + 1 = 26) rfl ?_
    refine r_icmp_ne (tgt := 31) C dX10_risks_26 (by decide) (rfl : 26 + 3 = 29) (fun c26 => ?_) (fun c26 => ?_)
    · have h := k_f c26 h
      refine r_aload_n C dX10_risks_31 (rfl : 31 + 1 = 32) rfl ?_
      refine r_getR (q := 40) C dX10_risks_32 (rfl : 32 + 3 = 35) fl_X10_76 (k_gS rfl) rfl ?_
      refine r_aload_n C dX10_risks_35 (rfl : 35 + 1 = 36) rfl ?_
      refine r_getR (q := 26) C dX10_risks_36 (rfl : 36 + 3 = 39) fl_X10_50 (k_gS rfl) rfl ?_
      refine r_iload_n C dX10_risks_39 (rfl : 39 + 1 = 40) rfl ?_
      obtain ⟨r40, q40, h⟩ := k_b_of h
      refine d_V (As := [.ref 26, .int r3.2.1]) (st := []) (st' := [.int r40.1]) (h' := k_ap [(19, .inr (.inr (.inl r40.2.1))), (43, .inl (10, r40.2.2.1)), (43, .inl (11, r40.2.2.2.1)), (43, .inl (12, r40.2.2.2.2.1)), (43, .inl (13, r40.2.2.2.2.2.1)), (43, .inl (14, r40.2.2.2.2.2.2.1)), (43, .inl (15, r40.2.2.2.2.2.2.2.1)), (43, .inl (16, r40.2.2.2.2.2.2.2.2.1)), (43, .inl (17, r40.2.2.2.2.2.2.2.2.2.1)), (43, .inr (.inl (3, r40.2.2.2.2.2.2.2.2.2.2.1))), (43, .inr (.inl (4, r40.2.2.2.2.2.2.2.2.2.2.2.1))), (43, .inr (.inl (5, r40.2.2.2.2.2.2.2.2.2.2.2.2.1))), (44, .inr (.inr (.inl r40.2.2.2.2.2.2.2.2.2.2.2.2.2.1))), (45, .inr (.inr (.inl r40.2.2.2.2.2.2.2.2.2.2.2.2.2.2.1))), (46, .inr (.inr (.inl r40.2.2.2.2.2.2.2.2.2.2.2.2.2.2.2.1))), (47, .inr (.inr (.inl r40.2.2.2.2.2.2.2.2.2.2.2.2.2.2.2.2))), (69, .inr (.inr (.inl r3.2.2)))] ((shX ++ rest), I, L, Rf)) C hR (k_csl hRc hRs rfl rfl) mv_X7_risksOf lk_X10_282 dX10_risks_40 (rfl : 40 + 3 = 43) rfl rfl (k_gS rfl) rfl (c_X7_risksOf X.l u (k_ap [(19, .inr (.inr (.inl a19))), (43, .inl (10, c43_10)), (43, .inl (11, c43_11)), (43, .inl (12, c43_12)), (43, .inl (13, c43_13)), (43, .inl (14, c43_14)), (43, .inl (15, c43_15)), (43, .inl (16, c43_16)), (43, .inl (17, c43_17)), (43, .inr (.inl (3, c43_3))), (43, .inr (.inl (4, c43_4))), (43, .inr (.inl (5, c43_5))), (44, .inr (.inr (.inl a44))), (45, .inr (.inr (.inl a45))), (46, .inr (.inr (.inl a46))), (47, .inr (.inr (.inl a47))), (69, .inr (.inr (.inl r3.2.2)))] ((shX ++ rest), I, L, Rf)) (k_gH rfl) eR41_0 (k_gOA (ks := [(19, 2, 0), (43, 0, 10), (43, 0, 11), (43, 0, 12), (43, 0, 13), (43, 0, 14), (43, 0, 15), (43, 0, 16), (43, 0, 17), (43, 1, 3), (43, 1, 4), (43, 1, 5), (44, 2, 0), (45, 2, 0), (46, 2, 0), (47, 2, 0), (69, 2, 0)]) rfl (by decide +kernel) ea4) (k_gOA (ks := [(19, 2, 0), (43, 0, 10), (43, 0, 11), (43, 0, 12), (43, 0, 13), (43, 0, 14), (43, 0, 15), (43, 0, 16), (43, 0, 17), (43, 1, 3), (43, 1, 4), (43, 1, 5), (44, 2, 0), (45, 2, 0), (46, 2, 0), (47, 2, 0), (69, 2, 0)]) rfl (by decide +kernel) ea5) (k_gOI (ks := [(19, 2, 0), (43, 0, 10), (43, 0, 11), (43, 0, 12), (43, 0, 13), (43, 0, 14), (43, 0, 15), (43, 0, 16), (43, 0, 17), (43, 1, 3), (43, 1, 4), (43, 1, 5), (44, 2, 0), (45, 2, 0), (46, 2, 0), (47, 2, 0), (69, 2, 0)]) rfl (by decide +kernel) ec17_2) (k_gOA (ks := [(19, 2, 0), (43, 0, 10), (43, 0, 11), (43, 0, 12), (43, 0, 13), (43, 0, 14), (43, 0, 15), (43, 0, 16), (43, 0, 17), (43, 1, 3), (43, 1, 4), (43, 1, 5), (44, 2, 0), (45, 2, 0), (46, 2, 0), (47, 2, 0), (69, 2, 0)]) rfl (by decide +kernel) ea18) (k_gA ds_X10_risks rfl 0 rfl) (k_gOI (ks := [(19, 2, 0), (43, 0, 10), (43, 0, 11), (43, 0, 12), (43, 0, 13), (43, 0, 14), (43, 0, 15), (43, 0, 16), (43, 0, 17), (43, 1, 3), (43, 1, 4), (43, 1, 5), (44, 2, 0), (45, 2, 0), (46, 2, 0), (47, 2, 0), (69, 2, 0)]) rfl (by decide +kernel) ec26_10) (k_gOI (ks := [(19, 2, 0), (43, 0, 10), (43, 0, 11), (43, 0, 12), (43, 0, 13), (43, 0, 14), (43, 0, 15), (43, 0, 16), (43, 0, 17), (43, 1, 3), (43, 1, 4), (43, 1, 5), (44, 2, 0), (45, 2, 0), (46, 2, 0), (47, 2, 0), (69, 2, 0)]) rfl (by decide +kernel) ec26_11) (k_gOI (ks := [(19, 2, 0), (43, 0, 10), (43, 0, 11), (43, 0, 12), (43, 0, 13), (43, 0, 14), (43, 0, 15), (43, 0, 16), (43, 0, 17), (43, 1, 3), (43, 1, 4), (43, 1, 5), (44, 2, 0), (45, 2, 0), (46, 2, 0), (47, 2, 0), (69, 2, 0)]) rfl (by decide +kernel) ec26_12) (k_gOI (ks := [(19, 2, 0), (43, 0, 10), (43, 0, 11), (43, 0, 12), (43, 0, 13), (43, 0, 14), (43, 0, 15), (43, 0, 16), (43, 0, 17), (43, 1, 3), (43, 1, 4), (43, 1, 5), (44, 2, 0), (45, 2, 0), (46, 2, 0), (47, 2, 0), (69, 2, 0)]) rfl (by decide +kernel) ec26_13) (k_gOI (ks := [(19, 2, 0), (43, 0, 10), (43, 0, 11), (43, 0, 12), (43, 0, 13), (43, 0, 14), (43, 0, 15), (43, 0, 16), (43, 0, 17), (43, 1, 3), (43, 1, 4), (43, 1, 5), (44, 2, 0), (45, 2, 0), (46, 2, 0), (47, 2, 0), (69, 2, 0)]) rfl (by decide +kernel) ec26_14) (k_gOI (ks := [(19, 2, 0), (43, 0, 10), (43, 0, 11), (43, 0, 12), (43, 0, 13), (43, 0, 14), (43, 0, 15), (43, 0, 16), (43, 0, 17), (43, 1, 3), (43, 1, 4), (43, 1, 5), (44, 2, 0), (45, 2, 0), (46, 2, 0), (47, 2, 0), (69, 2, 0)]) rfl (by decide +kernel) ec26_15) (k_gOI (ks := [(19, 2, 0), (43, 0, 10), (43, 0, 11), (43, 0, 12), (43, 0, 13), (43, 0, 14), (43, 0, 15), (43, 0, 16), (43, 0, 17), (43, 1, 3), (43, 1, 4), (43, 1, 5), (44, 2, 0), (45, 2, 0), (46, 2, 0), (47, 2, 0), (69, 2, 0)]) rfl (by decide +kernel) ec26_16) (k_gOI (ks := [(19, 2, 0), (43, 0, 10), (43, 0, 11), (43, 0, 12), (43, 0, 13), (43, 0, 14), (43, 0, 15), (43, 0, 16), (43, 0, 17), (43, 1, 3), (43, 1, 4), (43, 1, 5), (44, 2, 0), (45, 2, 0), (46, 2, 0), (47, 2, 0), (69, 2, 0)]) rfl (by decide +kernel) ec26_17) (k_gOL (ks := [(19, 2, 0), (43, 0, 10), (43, 0, 11), (43, 0, 12), (43, 0, 13), (43, 0, 14), (43, 0, 15), (43, 0, 16), (43, 0, 17), (43, 1, 3), (43, 1, 4), (43, 1, 5), (44, 2, 0), (45, 2, 0), (46, 2, 0), (47, 2, 0), (69, 2, 0)]) rfl (by decide +kernel) ec26_3) (k_gOL (ks := [(19, 2, 0), (43, 0, 10), (43, 0, 11), (43, 0, 12), (43, 0, 13), (43, 0, 14), (43, 0, 15), (43, 0, 16), (43, 0, 17), (43, 1, 3), (43, 1, 4), (43, 1, 5), (44, 2, 0), (45, 2, 0), (46, 2, 0), (47, 2, 0), (69, 2, 0)]) rfl (by decide +kernel) ec26_4) (k_gOL (ks := [(19, 2, 0), (43, 0, 10), (43, 0, 11), (43, 0, 12), (43, 0, 13), (43, 0, 14), (43, 0, 15), (43, 0, 16), (43, 0, 17), (43, 1, 3), (43, 1, 4), (43, 1, 5), (44, 2, 0), (45, 2, 0), (46, 2, 0), (47, 2, 0), (69, 2, 0)]) rfl (by decide +kernel) ec26_5) (k_gOA (ks := [(19, 2, 0), (43, 0, 10), (43, 0, 11), (43, 0, 12), (43, 0, 13), (43, 0, 14), (43, 0, 15), (43, 0, 16), (43, 0, 17), (43, 1, 3), (43, 1, 4), (43, 1, 5), (44, 2, 0), (45, 2, 0), (46, 2, 0), (47, 2, 0), (69, 2, 0)]) rfl (by decide +kernel) ea27) (k_gOA (ks := [(19, 2, 0), (43, 0, 10), (43, 0, 11), (43, 0, 12), (43, 0, 13), (43, 0, 14), (43, 0, 15), (43, 0, 16), (43, 0, 17), (43, 1, 3), (43, 1, 4), (43, 1, 5), (44, 2, 0), (45, 2, 0), (46, 2, 0), (47, 2, 0), (69, 2, 0)]) rfl (by decide +kernel) ea28) (k_gOA (ks := [(19, 2, 0), (43, 0, 10), (43, 0, 11), (43, 0, 12), (43, 0, 13), (43, 0, 14), (43, 0, 15), (43, 0, 16), (43, 0, 17), (43, 1, 3), (43, 1, 4), (43, 1, 5), (44, 2, 0), (45, 2, 0), (46, 2, 0), (47, 2, 0), (69, 2, 0)]) rfl (by decide +kernel) ea29) (k_gOA (ks := [(19, 2, 0), (43, 0, 10), (43, 0, 11), (43, 0, 12), (43, 0, 13), (43, 0, 14), (43, 0, 15), (43, 0, 16), (43, 0, 17), (43, 1, 3), (43, 1, 4), (43, 1, 5), (44, 2, 0), (45, 2, 0), (46, 2, 0), (47, 2, 0), (69, 2, 0)]) rfl (by decide +kernel) ea30) (k_gI ds_X10_risks rfl 1 rfl) (k_gI ds_X10_risks rfl 2 rfl) (k_gI ds_X10_risks rfl 3 rfl) (k_gI ds_X10_risks rfl 4 rfl) (k_gI ds_X10_risks rfl 5 rfl) (k_gI ds_X10_risks rfl 6 rfl) (k_gI ds_X10_risks rfl 7 rfl) (k_gI ds_X10_risks rfl 8 rfl) (k_gL ds_X10_risks rfl 9 rfl) (k_gL ds_X10_risks rfl 10 rfl) (k_gL ds_X10_risks rfl 11 rfl) (k_gA ds_X10_risks rfl 12 rfl) (k_gA ds_X10_risks rfl 13 rfl) (k_gA ds_X10_risks rfl 14 rfl) (k_gA ds_X10_risks rfl 15 rfl) q40) rfl rfl rfl (k_jn2 (us' := [(19, .inr (.inr (.inl r40.2.1))), (43, .inl (10, r40.2.2.1)), (43, .inl (11, r40.2.2.2.1)), (43, .inl (12, r40.2.2.2.2.1)), (43, .inl (13, r40.2.2.2.2.2.1)), (43, .inl (14, r40.2.2.2.2.2.2.1)), (43, .inl (15, r40.2.2.2.2.2.2.2.1)), (43, .inl (16, r40.2.2.2.2.2.2.2.2.1)), (43, .inl (17, r40.2.2.2.2.2.2.2.2.2.1)), (43, .inr (.inl (3, r40.2.2.2.2.2.2.2.2.2.2.1))), (43, .inr (.inl (4, r40.2.2.2.2.2.2.2.2.2.2.2.1))), (43, .inr (.inl (5, r40.2.2.2.2.2.2.2.2.2.2.2.2.1))), (44, .inr (.inr (.inl r40.2.2.2.2.2.2.2.2.2.2.2.2.2.1))), (45, .inr (.inr (.inl r40.2.2.2.2.2.2.2.2.2.2.2.2.2.2.1))), (46, .inr (.inr (.inl r40.2.2.2.2.2.2.2.2.2.2.2.2.2.2.2.1))), (47, .inr (.inr (.inl r40.2.2.2.2.2.2.2.2.2.2.2.2.2.2.2.2))), (69, .inr (.inr (.inl r3.2.2)))]) (vks := [(19, 2, 0), (43, 0, 10), (43, 0, 11), (43, 0, 12), (43, 0, 13), (43, 0, 14), (43, 0, 15), (43, 0, 16), (43, 0, 17), (43, 1, 3), (43, 1, 4), (43, 1, 5), (44, 2, 0), (45, 2, 0), (46, 2, 0), (47, 2, 0)]) (js := [0, 1, 2, 3, 4, 5, 6, 7, 8, 9, 10, 11, 12, 13, 14, 15]) ds_X10_risks rfl rfl (by decide +kernel) rfl) rfl ?_
      cases h
      exact x_of_g (g_iret C hr (Nat.le_of_ble_eq_true rfl) (Nat.le_of_ble_eq_true rfl) ⟨rfl, rfl, rfl⟩ hsm dX10_risks_43)
    · have h := k_t c26 h
      refine r_iconst (v := (-1 : Int32)) C dX10_risks_29 (rfl : 29 + 1 = 30) rfl ?_
      cases h
      exact x_of_g (g_iret C hr (Nat.le_of_ble_eq_true rfl) (Nat.le_of_ble_eq_true rfl) ⟨rfl, rfl, rfl⟩ hsm dX10_risks_30)
set_option maxHeartbeats 1000000 in
set_option maxRecDepth 100000 in
theorem c_X10_risks (l : Launch) (u : Nat) (hT : l.stackTraces = false) (h : k_H) {rest : List k_Sh} (hsh : h.1 = shX ++ rest) (eR41_0 : h.2.2.2 41 0 = some 43) {c3_0 : Int32} (ec3_0 : h.2.1 3 0 = c3_0) {c3_1 : Int32} (ec3_1 : h.2.1 3 1 = c3_1) {c3_8 : Int32} (ec3_8 : h.2.1 3 8 = c3_8) {c3_5 : Int64} (ec3_5 : h.2.2.1 3 5 = c3_5) {c3_6 : Int64} (ec3_6 : h.2.2.1 3 6 = c3_6) {a4 : (Nat → Int32)} (ea4 : h.2.1 4 = a4) {a5 : (Nat → Int32)} (ea5 : h.2.1 5 = a5) {c17_2 : Int32} (ec17_2 : h.2.1 17 2 = c17_2) {a18 : (Nat → Int32)} (ea18 : h.2.1 18 = a18) {a19 : (Nat → Int32)} (ea19 : h.2.1 19 = a19) {c26_10 : Int32} (ec26_10 : h.2.1 26 10 = c26_10) {c26_11 : Int32} (ec26_11 : h.2.1 26 11 = c26_11) {c26_12 : Int32} (ec26_12 : h.2.1 26 12 = c26_12) {c26_13 : Int32} (ec26_13 : h.2.1 26 13 = c26_13) {c26_14 : Int32} (ec26_14 : h.2.1 26 14 = c26_14) {c26_15 : Int32} (ec26_15 : h.2.1 26 15 = c26_15) {c26_16 : Int32} (ec26_16 : h.2.1 26 16 = c26_16) {c26_17 : Int32} (ec26_17 : h.2.1 26 17 = c26_17) {c26_3 : Int64} (ec26_3 : h.2.2.1 26 3 = c26_3) {c26_4 : Int64} (ec26_4 : h.2.2.1 26 4 = c26_4) {c26_5 : Int64} (ec26_5 : h.2.2.1 26 5 = c26_5) {a27 : (Nat → Int32)} (ea27 : h.2.1 27 = a27) {a28 : (Nat → Int32)} (ea28 : h.2.1 28 = a28) {a29 : (Nat → Int32)} (ea29 : h.2.1 29 = a29) {a30 : (Nat → Int32)} (ea30 : h.2.1 30 = a30) {c43_10 : Int32} (ec43_10 : h.2.1 43 10 = c43_10) {c43_11 : Int32} (ec43_11 : h.2.1 43 11 = c43_11) {c43_12 : Int32} (ec43_12 : h.2.1 43 12 = c43_12) {c43_13 : Int32} (ec43_13 : h.2.1 43 13 = c43_13) {c43_14 : Int32} (ec43_14 : h.2.1 43 14 = c43_14) {c43_15 : Int32} (ec43_15 : h.2.1 43 15 = c43_15) {c43_16 : Int32} (ec43_16 : h.2.1 43 16 = c43_16) {c43_17 : Int32} (ec43_17 : h.2.1 43 17 = c43_17) {c43_3 : Int64} (ec43_3 : h.2.2.1 43 3 = c43_3) {c43_4 : Int64} (ec43_4 : h.2.2.1 43 4 = c43_4) {c43_5 : Int64} (ec43_5 : h.2.2.1 43 5 = c43_5) {a44 : (Nat → Int32)} (ea44 : h.2.1 44 = a44) {a45 : (Nat → Int32)} (ea45 : h.2.1 45 = a45) {a46 : (Nat → Int32)} (ea46 : h.2.1 46 = a46) {a47 : (Nat → Int32)} (ea47 : h.2.1 47 = a47) {a69 : (Nat → Int32)} (ea69 : h.2.1 69 = a69) {x0 : Int32} {x1 : Int32} {out : Int32 × Int32 × (Nat → Int32) × Int32 × Int32 × Int32 × Int32 × Int32 × Int32 × Int32 × Int32 × Int64 × Int64 × Int64 × (Nat → Int32) × (Nat → Int32) × (Nat → Int32) × (Nat → Int32) × (Nat → Int32)} (hf : f_X10_risks u c3_0 c3_1 c3_8 c3_5 c3_6 a4 a5 c17_2 a18 a19 c26_10 c26_11 c26_12 c26_13 c26_14 c26_15 c26_16 c26_17 c26_3 c26_4 c26_5 a27 a28 a29 a30 c43_10 c43_11 c43_12 c43_13 c43_14 c43_15 c43_16 c43_17 c43_3 c43_4 c43_5 a44 a45 a46 a47 a69 x0 x1 = some out) : k_CX l yX10_risks cX10_risks 5 (some .int) 7 119 1 6 [.ref 0, .int x0, .int x1] h (k_R1 out.1 (some (.int out.2.1)) (k_ap [(19, .inr (.inr (.inl out.2.2.1))), (43, .inl (10, out.2.2.2.1)), (43, .inl (11, out.2.2.2.2.1)), (43, .inl (12, out.2.2.2.2.2.1)), (43, .inl (13, out.2.2.2.2.2.2.1)), (43, .inl (14, out.2.2.2.2.2.2.2.1)), (43, .inl (15, out.2.2.2.2.2.2.2.2.1)), (43, .inl (16, out.2.2.2.2.2.2.2.2.2.1)), (43, .inl (17, out.2.2.2.2.2.2.2.2.2.2.1)), (43, .inr (.inl (3, out.2.2.2.2.2.2.2.2.2.2.2.1))), (43, .inr (.inl (4, out.2.2.2.2.2.2.2.2.2.2.2.2.1))), (43, .inr (.inl (5, out.2.2.2.2.2.2.2.2.2.2.2.2.2.1))), (44, .inr (.inr (.inl out.2.2.2.2.2.2.2.2.2.2.2.2.2.2.1))), (45, .inr (.inr (.inl out.2.2.2.2.2.2.2.2.2.2.2.2.2.2.2.1))), (46, .inr (.inr (.inl out.2.2.2.2.2.2.2.2.2.2.2.2.2.2.2.2.1))), (47, .inr (.inr (.inl out.2.2.2.2.2.2.2.2.2.2.2.2.2.2.2.2.2.1))), (69, .inr (.inr (.inl out.2.2.2.2.2.2.2.2.2.2.2.2.2.2.2.2.2.2)))] h)) (k_R2 out.1 (k_ap [(19, .inr (.inr (.inl out.2.2.1))), (43, .inl (10, out.2.2.2.1)), (43, .inl (11, out.2.2.2.2.1)), (43, .inl (12, out.2.2.2.2.2.1)), (43, .inl (13, out.2.2.2.2.2.2.1)), (43, .inl (14, out.2.2.2.2.2.2.2.1)), (43, .inl (15, out.2.2.2.2.2.2.2.2.1)), (43, .inl (16, out.2.2.2.2.2.2.2.2.2.1)), (43, .inl (17, out.2.2.2.2.2.2.2.2.2.2.1)), (43, .inr (.inl (3, out.2.2.2.2.2.2.2.2.2.2.2.1))), (43, .inr (.inl (4, out.2.2.2.2.2.2.2.2.2.2.2.2.1))), (43, .inr (.inl (5, out.2.2.2.2.2.2.2.2.2.2.2.2.2.1))), (44, .inr (.inr (.inl out.2.2.2.2.2.2.2.2.2.2.2.2.2.2.1))), (45, .inr (.inr (.inl out.2.2.2.2.2.2.2.2.2.2.2.2.2.2.2.1))), (46, .inr (.inr (.inl out.2.2.2.2.2.2.2.2.2.2.2.2.2.2.2.2.1))), (47, .inr (.inr (.inl out.2.2.2.2.2.2.2.2.2.2.2.2.2.2.2.2.2.1))), (69, .inr (.inr (.inl out.2.2.2.2.2.2.2.2.2.2.2.2.2.2.2.2.2.2)))] h)) := by
  obtain ⟨sh, I, L, Rf⟩ := h
  try dsimp only
  obtain rfl : sh = shX ++ rest := hsh
  refine k_ofWX (by decide) (Nat.le_of_ble_eq_true rfl) ?_
  intro X ad hl hR0 hr C hx
  have hR : X.R.frames = 7 ∧ X.R.locals = 119 := by rw [hR0]; exact ⟨rfl, rfl⟩
  have hRc : X.R.cells = 1 := by rw [hR0]
  have hRs : X.R.slots = 6 := by rw [hR0]
  have hT : X.l.stackTraces = false := by rw [hl]; exact hT
  have hsm := k_sm_rf (shX ++ rest).length ad
  have h := hf
  unfold f_X10_risks at h
  refine k_start (us := [(19, .inr (.inr (.inl a19))), (43, .inl (10, c43_10)), (43, .inl (11, c43_11)), (43, .inl (12, c43_12)), (43, .inl (13, c43_13)), (43, .inl (14, c43_14)), (43, .inl (15, c43_15)), (43, .inl (16, c43_16)), (43, .inl (17, c43_17)), (43, .inr (.inl (3, c43_3))), (43, .inr (.inl (4, c43_4))), (43, .inr (.inl (5, c43_5))), (44, .inr (.inr (.inl a44))), (45, .inr (.inr (.inl a45))), (46, .inr (.inr (.inl a46))), (47, .inr (.inr (.inl a47))), (69, .inr (.inr (.inl a69)))]) (k_ao_A ea19 (k_ao_I ec43_10 (k_ao_I ec43_11 (k_ao_I ec43_12 (k_ao_I ec43_13 (k_ao_I ec43_14 (k_ao_I ec43_15 (k_ao_I ec43_16 (k_ao_I ec43_17 (k_ao_L ec43_3 (k_ao_L ec43_4 (k_ao_L ec43_5 (k_ao_A ea44 (k_ao_A ea45 (k_ao_A ea46 (k_ao_A ea47 (k_ao_A ea69 k_ap_0))))))))))))))))) ?_
  show k_W X 5 0 0 (k_QX X ad (shX ++ rest).length (k_R1 out.1 (some (.int out.2.1)) (k_ap [(19, .inr (.inr (.inl out.2.2.1))), (43, .inl (10, out.2.2.2.1)), (43, .inl (11, out.2.2.2.2.1)), (43, .inl (12, out.2.2.2.2.2.1)), (43, .inl (13, out.2.2.2.2.2.2.1)), (43, .inl (14, out.2.2.2.2.2.2.2.1)), (43, .inl (15, out.2.2.2.2.2.2.2.2.1)), (43, .inl (16, out.2.2.2.2.2.2.2.2.2.1)), (43, .inl (17, out.2.2.2.2.2.2.2.2.2.2.1)), (43, .inr (.inl (3, out.2.2.2.2.2.2.2.2.2.2.2.1))), (43, .inr (.inl (4, out.2.2.2.2.2.2.2.2.2.2.2.2.1))), (43, .inr (.inl (5, out.2.2.2.2.2.2.2.2.2.2.2.2.2.1))), (44, .inr (.inr (.inl out.2.2.2.2.2.2.2.2.2.2.2.2.2.2.1))), (45, .inr (.inr (.inl out.2.2.2.2.2.2.2.2.2.2.2.2.2.2.2.1))), (46, .inr (.inr (.inl out.2.2.2.2.2.2.2.2.2.2.2.2.2.2.2.2.1))), (47, .inr (.inr (.inl out.2.2.2.2.2.2.2.2.2.2.2.2.2.2.2.2.2.1))), (69, .inr (.inr (.inl out.2.2.2.2.2.2.2.2.2.2.2.2.2.2.2.2.2.2)))] ((shX ++ rest), I, L, Rf))) (k_R2 out.1 (k_ap [(19, .inr (.inr (.inl out.2.2.1))), (43, .inl (10, out.2.2.2.1)), (43, .inl (11, out.2.2.2.2.1)), (43, .inl (12, out.2.2.2.2.2.1)), (43, .inl (13, out.2.2.2.2.2.2.1)), (43, .inl (14, out.2.2.2.2.2.2.2.1)), (43, .inl (15, out.2.2.2.2.2.2.2.2.1)), (43, .inl (16, out.2.2.2.2.2.2.2.2.2.1)), (43, .inl (17, out.2.2.2.2.2.2.2.2.2.2.1)), (43, .inr (.inl (3, out.2.2.2.2.2.2.2.2.2.2.2.1))), (43, .inr (.inl (4, out.2.2.2.2.2.2.2.2.2.2.2.2.1))), (43, .inr (.inl (5, out.2.2.2.2.2.2.2.2.2.2.2.2.2.1))), (44, .inr (.inr (.inl out.2.2.2.2.2.2.2.2.2.2.2.2.2.2.1))), (45, .inr (.inr (.inl out.2.2.2.2.2.2.2.2.2.2.2.2.2.2.2.1))), (46, .inr (.inr (.inl out.2.2.2.2.2.2.2.2.2.2.2.2.2.2.2.2.1))), (47, .inr (.inr (.inl out.2.2.2.2.2.2.2.2.2.2.2.2.2.2.2.2.2.1))), (69, .inr (.inr (.inl out.2.2.2.2.2.2.2.2.2.2.2.2.2.2.2.2.2.2)))] ((shX ++ rest), I, L, Rf))) 1 6) ad (k_ap [(19, .inr (.inr (.inl a19))), (43, .inl (10, c43_10)), (43, .inl (11, c43_11)), (43, .inl (12, c43_12)), (43, .inl (13, c43_13)), (43, .inl (14, c43_14)), (43, .inl (15, c43_15)), (43, .inl (16, c43_16)), (43, .inl (17, c43_17)), (43, .inr (.inl (3, c43_3))), (43, .inr (.inl (4, c43_4))), (43, .inr (.inl (5, c43_5))), (44, .inr (.inr (.inl a44))), (45, .inr (.inr (.inl a45))), (46, .inr (.inr (.inl a46))), (47, .inr (.inr (.inl a47))), (69, .inr (.inr (.inl a69)))] ((shX ++ rest), I, L, Rf)) 0 [some (.ref 0), some (.int x0), some (.int x1), none, none] []
  refine k_mask [true, true, true, false, false] ?_
  exact sX10_risks_0 u C hr hR hx hRc hRs hT hsm eR41_0 ec3_0 ec3_1 ec3_8 ec3_5 ec3_6 ea4 ea5 ec17_2 ea18 ec26_10 ec26_11 ec26_12 ec26_13 ec26_14 ec26_15 ec26_16 ec26_17 ec26_3 ec26_4 ec26_5 ea27 ea28 ea29 ea30 a19 c43_10 c43_11 c43_12 c43_13 c43_14 c43_15 c43_16 c43_17 c43_3 c43_4 c43_5 a44 a45 a46 a47 a69 x0 x1 h
/-! LullabyPit.harm(II)I -/
theorem ds_X10_harm : k_ds [(22, 2, 0), (69, 2, 0)] = true := by decide +kernel
set_option maxHeartbeats 1000000 in
set_option maxRecDepth 100000 in
theorem sX10_harm_0 (u : Nat) {X : k_X} {ad0 ad : Nat → Nat} {rest : List k_Sh} (C : k_C X cX10_harm RX10 3 ad) (hr : X.meth.sig.returnType = (some .int)) (hR : X.R.frames = 7 ∧ X.R.locals = 112) (hx : ∀ x ∈ X.c.exceptionTable.toList, False) (hRc : X.R.cells = 1) (hRs : X.R.slots = 6) (hT : X.l.stackTraces = false) (hsm : k_sm (shX ++ rest).length ad0 ad) {I : Nat → Nat → Int32} {L : Nat → Nat → Int64} {Rf : Nat → Nat → Option Nat} {c3_0 : Int32} (ec3_0 : I 3 0 = c3_0) {c3_1 : Int32} (ec3_1 : I 3 1 = c3_1) {a4 : (Nat → Int32)} (ea4 : I 4 = a4) {a5 : (Nat → Int32)} (ea5 : I 5 = a5) {c20_2 : Int32} (ec20_2 : I 20 2 = c20_2) {a21 : (Nat → Int32)} (ea21 : I 21 = a21) {c26_10 : Int32} (ec26_10 : I 26 10 = c26_10) {c26_3 : Int64} (ec26_3 : L 26 3 = c26_3) {c26_4 : Int64} (ec26_4 : L 26 4 = c26_4) {out : Int32 × Int32 × (Nat → Int32) × (Nat → Int32)} : ∀ (a22 : (Nat → Int32)) (a69 : (Nat → Int32)) (v1 : Int32) (v2 : Int32), bX10_harm_0 u c3_0 c3_1 a4 a5 c20_2 a21 c26_10 c26_3 c26_4 a22 a69 v1 v2 = some out → k_W X 3 0 0 (k_QX X ad0 (shX ++ rest).length (k_R1 out.1 (some (.int out.2.1)) (k_ap [(22, .inr (.inr (.inl out.2.2.1))), (69, .inr (.inr (.inl out.2.2.2)))] ((shX ++ rest), I, L, Rf))) (k_R2 out.1 (k_ap [(22, .inr (.inr (.inl out.2.2.1))), (69, .inr (.inr (.inl out.2.2.2)))] ((shX ++ rest), I, L, Rf))) 1 6) ad (k_ap [(22, .inr (.inr (.inl a22))), (69, .inr (.inr (.inl a69)))] ((shX ++ rest), I, L, Rf)) 0 [some (.ref 0), some (.int v1), some (.int v2)] [] := by
  intro a22 a69 v1 v2 h
  unfold bX10_harm_0 at h
  refine r_aload_n C dX10_harm_0 (rfl : 0 + 1 = 1) rfl ?_
  refine r_getR (q := 26) C dX10_harm_1 (rfl : 1 + 3 = 4) fl_X10_50 rfl rfl ?_
  refine r_aload_n C dX10_harm_4 (rfl : 4 + 1 = 5) rfl ?_
  refine r_iload_n C dX10_harm_5 (rfl : 5 + 1 = 6) rfl ?_
  refine r_iload_n C dX10_harm_6 (rfl : 6 + 1 = 7) rfl ?_
  obtain ⟨r7, q7, h⟩ := k_b_of h
  refine c_VX (As := [.int v1, .int v2]) (st := [.ref 26]) C hR (k_csl hRc hRs rfl rfl) mv_X10_cellAt (k_me (tm5 (List.mem_of_getElem? (i := 96) rfl)) rfl) dX10_harm_7 (rfl : 7 + 3 = 10) rfl rfl (k_gS rfl) rfl (c_X10_cellAt X.l u hT (k_ap [(22, .inr (.inr (.inl a22))), (69, .inr (.inr (.inl a69)))] ((shX ++ rest), I, L, Rf)) (k_gH rfl) ec3_0 ec3_1 rfl q7) rfl rfl rfl ⟨(k_ox 0 rfl), True.intro, True.intro, True.intro⟩ ⟨(k_ox 26 rfl), True.intro⟩ ?_ ?_
  · rintro E ad1 h1 ⟨hk0, rfl, rfl⟩ hsm1 C1
    have h := k_f hk0 h
    cases h
    exact x_out C1 hx (Nat.le_of_ble_eq_true rfl) (Nat.le_of_ble_eq_true rfl) ⟨hk0, rfl, (k_jn (us' := [(22, .inr (.inr (.inl a22))), (69, .inr (.inr (.inl r7.2.2)))]) ds_X10_harm rfl rfl rfl)⟩ (k_sm_tr hsm hsm1 (Nat.le_of_eq (by rw [k_ap_sh])))
  rintro v ad7 h1 ⟨hk0, rfl, rfl⟩ hsm1 C
  have h := k_t hk0 h
  have hsm := k_sm_tr hsm hsm1 (Nat.le_of_eq (by rw [k_ap_sh]))
  refine k_eqh (k_jn (us' := [(22, .inr (.inr (.inl a22))), (69, .inr (.inr (.inl r7.2.2)))]) ds_X10_harm rfl rfl rfl) ?_
  show k_W _ _ _ _ _ _ _ _ _ [.int r7.2.1, .ref 26]
  obtain ⟨r10, q10, h⟩ := k_b_of h
  refine d_Vp (pi := [26, 27, 28, 29, 30, 3, 4, 5, 6, 7, 8, 9, 17, 18, 19, 20, 21, 22]) (shl := shMine) (bl := 0) (As := [.int r7.2.1]) (Al := [.int r7.2.1]) (st := []) (st' := [.int r10.1]) (h' := k_ap [(22, .inr (.inr (.inl r10.2))), (69, .inr (.inr (.inl r7.2.2)))] ((shX ++ rest), I, L, Rf)) C hR (k_csl hRc hRs rfl rfl) mv_X3_harmOf lk_X10_286 dX10_harm_10 (rfl : 10 + 3 = 13) rfl rfl ck_shX_shMine_26_3 rfl rfl (c_X3_harmOf X.l u (k_pl [26, 27, 28, 29, 30, 3, 4, 5, 6, 7, 8, 9, 17, 18, 19, 20, 21, 22] shMine (k_ap [(22, .inr (.inr (.inl a22))), (69, .inr (.inr (.inl r7.2.2)))] ((shX ++ rest), I, L, Rf))) rfl ec26_10 ec26_3 ec26_4 ea4 ea5 ec20_2 ea21 rfl q10) rfl (fun _ => rfl) rfl (fun _ => rfl) rfl rfl rfl (k_jn (us' := [(22, .inr (.inr (.inl r10.2))), (69, .inr (.inr (.inl r7.2.2)))]) ds_X10_harm rfl rfl rfl) rfl ?_
  cases h
  exact x_of_g (g_iret C hr (Nat.le_of_ble_eq_true rfl) (Nat.le_of_ble_eq_true rfl) ⟨rfl, rfl, rfl⟩ hsm dX10_harm_13)
set_option maxHeartbeats 1000000 in
set_option maxRecDepth 100000 in
theorem c_X10_harm (l : Launch) (u : Nat) (hT : l.stackTraces = false) (h : k_H) {rest : List k_Sh} (hsh : h.1 = shX ++ rest) {c3_0 : Int32} (ec3_0 : h.2.1 3 0 = c3_0) {c3_1 : Int32} (ec3_1 : h.2.1 3 1 = c3_1) {a4 : (Nat → Int32)} (ea4 : h.2.1 4 = a4) {a5 : (Nat → Int32)} (ea5 : h.2.1 5 = a5) {c20_2 : Int32} (ec20_2 : h.2.1 20 2 = c20_2) {a21 : (Nat → Int32)} (ea21 : h.2.1 21 = a21) {a22 : (Nat → Int32)} (ea22 : h.2.1 22 = a22) {c26_10 : Int32} (ec26_10 : h.2.1 26 10 = c26_10) {c26_3 : Int64} (ec26_3 : h.2.2.1 26 3 = c26_3) {c26_4 : Int64} (ec26_4 : h.2.2.1 26 4 = c26_4) {a69 : (Nat → Int32)} (ea69 : h.2.1 69 = a69) {x0 : Int32} {x1 : Int32} {out : Int32 × Int32 × (Nat → Int32) × (Nat → Int32)} (hf : f_X10_harm u c3_0 c3_1 a4 a5 c20_2 a21 a22 c26_10 c26_3 c26_4 a69 x0 x1 = some out) : k_CX l yX10_harm cX10_harm 3 (some .int) 7 112 1 6 [.ref 0, .int x0, .int x1] h (k_R1 out.1 (some (.int out.2.1)) (k_ap [(22, .inr (.inr (.inl out.2.2.1))), (69, .inr (.inr (.inl out.2.2.2)))] h)) (k_R2 out.1 (k_ap [(22, .inr (.inr (.inl out.2.2.1))), (69, .inr (.inr (.inl out.2.2.2)))] h)) := by
  obtain ⟨sh, I, L, Rf⟩ := h
  try dsimp only
  obtain rfl : sh = shX ++ rest := hsh
  refine k_ofWX (by decide) (Nat.le_of_ble_eq_true rfl) ?_
  intro X ad hl hR0 hr C hx
  have hR : X.R.frames = 7 ∧ X.R.locals = 112 := by rw [hR0]; exact ⟨rfl, rfl⟩
  have hRc : X.R.cells = 1 := by rw [hR0]
  have hRs : X.R.slots = 6 := by rw [hR0]
  have hT : X.l.stackTraces = false := by rw [hl]; exact hT
  have hsm := k_sm_rf (shX ++ rest).length ad
  have h := hf
  unfold f_X10_harm at h
  refine k_start (us := [(22, .inr (.inr (.inl a22))), (69, .inr (.inr (.inl a69)))]) (k_ao_A ea22 (k_ao_A ea69 k_ap_0)) ?_
  show k_W X 3 0 0 (k_QX X ad (shX ++ rest).length (k_R1 out.1 (some (.int out.2.1)) (k_ap [(22, .inr (.inr (.inl out.2.2.1))), (69, .inr (.inr (.inl out.2.2.2)))] ((shX ++ rest), I, L, Rf))) (k_R2 out.1 (k_ap [(22, .inr (.inr (.inl out.2.2.1))), (69, .inr (.inr (.inl out.2.2.2)))] ((shX ++ rest), I, L, Rf))) 1 6) ad (k_ap [(22, .inr (.inr (.inl a22))), (69, .inr (.inr (.inl a69)))] ((shX ++ rest), I, L, Rf)) 0 [some (.ref 0), some (.int x0), some (.int x1)] []
  refine k_mask [true, true, true] ?_
  exact sX10_harm_0 u C hr hR hx hRc hRs hT hsm ec3_0 ec3_1 ea4 ea5 ec20_2 ea21 ec26_10 ec26_3 ec26_4 a22 a69 x0 x1 h
/-! LullabyPit.way(III)I -/
theorem ds_X10_way : k_ds [(42, 2, 0), (69, 2, 0)] = true := by decide +kernel
set_option maxHeartbeats 1000000 in
set_option maxRecDepth 100000 in
theorem sX10_way_36 (u : Nat) {X : k_X} {ad0 ad : Nat → Nat} {rest : List k_Sh} (C : k_C X cX10_way RX10 5 ad) (hr : X.meth.sig.returnType = (some .int)) (hR : X.R.frames = 7 ∧ X.R.locals = 112) (hx : ∀ x ∈ X.c.exceptionTable.toList, False) (hRc : X.R.cells = 2) (hRs : X.R.slots = 12) (hT : X.l.stackTraces = false) (hsm : k_sm (shX ++ rest).length ad0 ad) {I : Nat → Nat → Int32} {L : Nat → Nat → Int64} {Rf : Nat → Nat → Option Nat} {c3_0 : Int32} (ec3_0 : I 3 0 = c3_0) {c3_1 : Int32} (ec3_1 : I 3 1 = c3_1) {c3_5 : Int64} (ec3_5 : L 3 5 = c3_5) {c3_6 : Int64} (ec3_6 : L 3 6 = c3_6) {a4 : (Nat → Int32)} (ea4 : I 4 = a4) {a5 : (Nat → Int32)} (ea5 : I 5 = a5) {c26_3 : Int64} (ec26_3 : L 26 3 = c26_3) {c26_4 : Int64} (ec26_4 : L 26 4 = c26_4) {c26_5 : Int64} (ec26_5 : L 26 5 = c26_5) {out : Int32 × Int32 × (Nat → Int32) × (Nat → Int32)} : ∀ (a42 : (Nat → Int32)) (a69 : (Nat → Int32)) (w0 : Int32) (w1 : Int32), bX10_way_36 u c3_0 c3_1 c3_5 c3_6 a4 a5 c26_3 c26_4 c26_5 a42 a69 w0 w1 = some out → k_W X 5 2 12 (k_QX X ad0 (shX ++ rest).length (k_R1 out.1 (some (.int out.2.1)) (k_ap [(42, .inr (.inr (.inl out.2.2.1))), (69, .inr (.inr (.inl out.2.2.2)))] ((shX ++ rest), I, L, Rf))) (k_R2 out.1 (k_ap [(42, .inr (.inr (.inl out.2.2.1))), (69, .inr (.inr (.inl out.2.2.2)))] ((shX ++ rest), I, L, Rf))) 2 12) ad (k_ap [(42, .inr (.inr (.inl a42))), (69, .inr (.inr (.inl a69)))] ((shX ++ rest), I, L, Rf)) 36 [none, none, none, none, none] [.int w0, .int w1, .ref 26, .ref 40] := by
  intro a42 a69 w0 w1 h
  unfold bX10_way_36 at h
  obtain ⟨r36, q36, h⟩ := k_b_of h
  refine d_V (As := [.ref 26, .int w1, .int w0]) (st := []) (st' := [.int r36.1]) (h' := k_ap [(42, .inr (.inr (.inl r36.2))), (69, .inr (.inr (.inl a69)))] ((shX ++ rest), I, L, Rf)) C hR (k_csl hRc hRs rfl rfl) mv_X7_wayTo lk_X10_303 dX10_way_36 (rfl : 36 + 3 = 39) rfl rfl rfl rfl (c_X7_wayTo X.l u (k_ap [(42, .inr (.inr (.inl a42))), (69, .inr (.inr (.inl a69)))] ((shX ++ rest), I, L, Rf)) rfl ec3_5 ec3_6 ea4 ea5 ec26_3 ec26_4 ec26_5 rfl q36) rfl rfl rfl (k_jn (us' := [(42, .inr (.inr (.inl r36.2))), (69, .inr (.inr (.inl a69)))]) ds_X10_way rfl rfl rfl) rfl ?_
  cases h
  exact x_of_g (g_iret C hr (Nat.le_of_ble_eq_true rfl) (Nat.le_of_ble_eq_true rfl) ⟨rfl, rfl, rfl⟩ hsm dX10_way_39)
set_option maxHeartbeats 1000000 in
set_option maxRecDepth 100000 in
theorem sX10_way_0 (u : Nat) {X : k_X} {ad0 ad : Nat → Nat} {rest : List k_Sh} (C : k_C X cX10_way RX10 5 ad) (hr : X.meth.sig.returnType = (some .int)) (hR : X.R.frames = 7 ∧ X.R.locals = 112) (hx : ∀ x ∈ X.c.exceptionTable.toList, False) (hRc : X.R.cells = 2) (hRs : X.R.slots = 12) (hT : X.l.stackTraces = false) (hsm : k_sm (shX ++ rest).length ad0 ad) {I : Nat → Nat → Int32} {L : Nat → Nat → Int64} {Rf : Nat → Nat → Option Nat} {c3_0 : Int32} (ec3_0 : I 3 0 = c3_0) {c3_1 : Int32} (ec3_1 : I 3 1 = c3_1) {c3_5 : Int64} (ec3_5 : L 3 5 = c3_5) {c3_6 : Int64} (ec3_6 : L 3 6 = c3_6) {a4 : (Nat → Int32)} (ea4 : I 4 = a4) {a5 : (Nat → Int32)} (ea5 : I 5 = a5) {c26_3 : Int64} (ec26_3 : L 26 3 = c26_3) {c26_4 : Int64} (ec26_4 : L 26 4 = c26_4) {c26_5 : Int64} (ec26_5 : L 26 5 = c26_5) {out : Int32 × Int32 × (Nat → Int32) × (Nat → Int32)} : ∀ (a42 : (Nat → Int32)) (a69 : (Nat → Int32)) (v1 : Int32) (v2 : Int32) (v3 : Int32), bX10_way_0 u c3_0 c3_1 c3_5 c3_6 a4 a5 c26_3 c26_4 c26_5 a42 a69 v1 v2 v3 = some out → k_W X 5 0 0 (k_QX X ad0 (shX ++ rest).length (k_R1 out.1 (some (.int out.2.1)) (k_ap [(42, .inr (.inr (.inl out.2.2.1))), (69, .inr (.inr (.inl out.2.2.2)))] ((shX ++ rest), I, L, Rf))) (k_R2 out.1 (k_ap [(42, .inr (.inr (.inl out.2.2.1))), (69, .inr (.inr (.inl out.2.2.2)))] ((shX ++ rest), I, L, Rf))) 2 12) ad (k_ap [(42, .inr (.inr (.inl a42))), (69, .inr (.inr (.inl a69)))] ((shX ++ rest), I, L, Rf)) 0 [some (.ref 0), some (.int v1), some (.int v2), some (.int v3), none] [] := by
  intro a42 a69 v1 v2 v3 h
  unfold bX10_way_0 at h
  refine r_aload_n C dX10_way_0 (rfl : 0 + 1 = 1) rfl ?_
  refine r_iload_n C dX10_way_1 (rfl : 1 + 1 = 2) rfl ?_
  refine r_iload_n C dX10_way_2 (rfl : 2 + 1 = 3) rfl ?_
  obtain ⟨r3, q3, h⟩ := k_b_of h
  refine c_VX (As := [.int v1, .int v2]) (st := []) C hR (k_csl hRc hRs rfl rfl) mv_X10_cellAt (k_me (tm5 (List.mem_of_getElem? (i := 96) rfl)) rfl) dX10_way_3 (rfl : 3 + 3 = 6) rfl rfl (k_gS rfl) rfl (c_X10_cellAt X.l u hT (k_ap [(42, .inr (.inr (.inl a42))), (69, .inr (.inr (.inl a69)))] ((shX ++ rest), I, L, Rf)) (k_gH rfl) ec3_0 ec3_1 rfl q3) rfl rfl rfl ⟨(k_ox 0 rfl), True.intro, True.intro, True.intro, True.intro⟩ True.intro ?_ ?_
  · rintro E ad1 h1 ⟨hk0, rfl, rfl⟩ hsm1 C1
    have h := k_f hk0 h
    cases h
    exact x_out C1 hx (Nat.le_of_ble_eq_true rfl) (Nat.le_of_ble_eq_true rfl) ⟨hk0, rfl, (k_jn (us' := [(42, .inr (.inr (.inl a42))), (69, .inr (.inr (.inl r3.2.2)))]) ds_X10_way rfl rfl rfl)⟩ (k_sm_tr hsm hsm1 (Nat.le_of_eq (by rw [k_ap_sh])))
  rintro v ad3 h1 ⟨hk0, rfl, rfl⟩ hsm1 C
  have h := k_t hk0 h
  have hsm := k_sm_tr hsm hsm1 (Nat.le_of_eq (by rw [k_ap_sh]))
  refine k_eqh (k_jn (us' := [(42, .inr (.inr (.inl a42))), (69, .inr (.inr (.inl r3.2.2)))]) ds_X10_way rfl rfl rfl) ?_
  show k_W _ _ _ _ _ _ _ _ _ [.int r3.2.1]
  refine r_istore C dX10_way_6 (rfl : 6 + 2 = 8) (by decide) (Nat.le_of_ble_eq_true rfl) ?_
  show k_W _ _ _ _ _ _ _ _ [some (.ref 0), some (.int v1), some (.int v2), some (.int v3), some (.int r3.2.1)] _
  refine r_aload_n C dX10_way_8 (rfl : 8 + 1 = 9) rfl ?_
  refine r_iload_n C dX10_way_9 (rfl : 9 + 1 = 10) rfl ?_
  obtain ⟨r10, q10, h⟩ := k_b_of h
  refine d_S (As := [.int v3]) (st := [.ref 0]) (st' := [.int r10, .ref 0]) (h' := k_ap [(42, .inr (.inr (.inl a42))), (69, .inr (.inr (.inl r3.2.2)))] ((shX ++ rest), I, L, Rf)) C hR (k_csl hRc hRs rfl rfl) ms_X10_isEither lk_X10_289 dX10_way_10 (rfl : 10 + 3 = 13) rfl rfl (c_X10_isEither X.l u (k_ap [(42, .inr (.inr (.inl a42))), (69, .inr (.inr (.inl r3.2.2)))] ((shX ++ rest), I, L, Rf))  q10) rfl rfl rfl rfl rfl ?_
  obtain ⟨r13, q13, h⟩ := k_b_of h
  refine c_VX (As := [.int r10]) (st := []) C hR (k_csl hRc hRs rfl rfl) mv_X10_need (k_me (tm3 (List.mem_of_getElem? (i := 141) rfl)) rfl) dX10_way_13 (rfl : 13 + 3 = 16) rfl rfl (k_gS rfl) rfl (c_X10_need X.l u hT (k_ap [(42, .inr (.inr (.inl a42))), (69, .inr (.inr (.inl r3.2.2)))] ((shX ++ rest), I, L, Rf)) (k_gH rfl) rfl q13) rfl rfl rfl ⟨(k_ox 0 rfl), True.intro, True.intro, True.intro, True.intro, True.intro⟩ True.intro ?_ ?_
  · rintro E ad1 h1 ⟨hk0, rfl, rfl⟩ hsm1 C1
    have h := k_f hk0 h
    cases h
    exact x_out C1 hx (Nat.le_of_ble_eq_true rfl) (Nat.le_of_ble_eq_true rfl) ⟨hk0, rfl, (k_jn (us' := [(42, .inr (.inr (.inl a42))), (69, .inr (.inr (.inl r13.2)))]) ds_X10_way rfl rfl rfl)⟩ (k_sm_tr hsm hsm1 (Nat.le_of_eq (by rw [k_ap_sh])))
  rintro v ad13 h1 ⟨hk0, rfl, rfl⟩ hsm1 C
  have h := k_t hk0 h
  have hsm := k_sm_tr hsm hsm1 (Nat.le_of_eq (by rw [k_ap_sh]))
  refine k_eqh (k_jn (us' := [(42, .inr (.inr (.inl a42))), (69, .inr (.inr (.inl r13.2)))]) ds_X10_way rfl rfl rfl) ?_
  show k_W _ _ _ _ _ _ _ _ _ []
  refine r_aload_n C dX10_way_16 (rfl : 16 + 1 = 17) rfl ?_
  refine r_getR (q := 40) C dX10_way_17 (rfl : 17 + 3 = 20) fl_X10_76 rfl rfl ?_
  refine r_aload_n C dX10_way_20 (rfl : 20 + 1 = 21) rfl ?_
  refine r_getR (q := 26) C dX10_way_21 (rfl : 21 + 3 = 24) fl_X10_50 rfl rfl ?_
  refine r_iload C dX10_way_24 (rfl : 24 + 2 = 26) rfl ?_
  refine r_iload_n C dX10_way_26 (rfl : 26 + 1 = 27) rfl ?_
  refine r_iconst (v := (1 : Int32)) C dX10_way_27 (rfl : 27 + 1 = 28) rfl ?_
  refine r_icmp_ne (tgt := 35) C dX10_way_28 (by decide) (rfl : 28 + 3 = 31) (fun c28 => ?_) (fun c28 => ?_)
  · have h := k_f c28 h
    refine r_iconst (v := (0 : Int32)) C dX10_way_35 (rfl : 35 + 1 = 36) rfl ?_
    refine k_mask [false, false, false, false, false] ?_
    exact sX10_way_36 u C hr hR hx hRc hRs hT hsm ec3_0 ec3_1 ec3_5 ec3_6 ea4 ea5 ec26_3 ec26_4 ec26_5 a42 r13.2 (0 : Int32) r3.2.1 h
  · have h := k_t c28 h
    refine r_iconst (v := (1 : Int32)) C dX10_way_31 (rfl : 31 + 1 = 32) rfl ?_
    refine r_goto (tgt := 36) C dX10_way_32 (by decide) ?_
    refine k_mask [false, false, false, false, false] ?_
    exact sX10_way_36 u C hr hR hx hRc hRs hT hsm ec3_0 ec3_1 ec3_5 ec3_6 ea4 ea5 ec26_3 ec26_4 ec26_5 a42 r13.2 (1 : Int32) r3.2.1 h
set_option maxHeartbeats 1000000 in
set_option maxRecDepth 100000 in
theorem c_X10_way (l : Launch) (u : Nat) (hT : l.stackTraces = false) (h : k_H) {rest : List k_Sh} (hsh : h.1 = shX ++ rest) {c3_0 : Int32} (ec3_0 : h.2.1 3 0 = c3_0) {c3_1 : Int32} (ec3_1 : h.2.1 3 1 = c3_1) {c3_5 : Int64} (ec3_5 : h.2.2.1 3 5 = c3_5) {c3_6 : Int64} (ec3_6 : h.2.2.1 3 6 = c3_6) {a4 : (Nat → Int32)} (ea4 : h.2.1 4 = a4) {a5 : (Nat → Int32)} (ea5 : h.2.1 5 = a5) {c26_3 : Int64} (ec26_3 : h.2.2.1 26 3 = c26_3) {c26_4 : Int64} (ec26_4 : h.2.2.1 26 4 = c26_4) {c26_5 : Int64} (ec26_5 : h.2.2.1 26 5 = c26_5) {a42 : (Nat → Int32)} (ea42 : h.2.1 42 = a42) {a69 : (Nat → Int32)} (ea69 : h.2.1 69 = a69) {x0 : Int32} {x1 : Int32} {x2 : Int32} {out : Int32 × Int32 × (Nat → Int32) × (Nat → Int32)} (hf : f_X10_way u c3_0 c3_1 c3_5 c3_6 a4 a5 c26_3 c26_4 c26_5 a42 a69 x0 x1 x2 = some out) : k_CX l yX10_way cX10_way 5 (some .int) 7 112 2 12 [.ref 0, .int x0, .int x1, .int x2] h (k_R1 out.1 (some (.int out.2.1)) (k_ap [(42, .inr (.inr (.inl out.2.2.1))), (69, .inr (.inr (.inl out.2.2.2)))] h)) (k_R2 out.1 (k_ap [(42, .inr (.inr (.inl out.2.2.1))), (69, .inr (.inr (.inl out.2.2.2)))] h)) := by
  obtain ⟨sh, I, L, Rf⟩ := h
  try dsimp only
  obtain rfl : sh = shX ++ rest := hsh
  refine k_ofWX (by decide) (Nat.le_of_ble_eq_true rfl) ?_
  intro X ad hl hR0 hr C hx
  have hR : X.R.frames = 7 ∧ X.R.locals = 112 := by rw [hR0]; exact ⟨rfl, rfl⟩
  have hRc : X.R.cells = 2 := by rw [hR0]
  have hRs : X.R.slots = 12 := by rw [hR0]
  have hT : X.l.stackTraces = false := by rw [hl]; exact hT
  have hsm := k_sm_rf (shX ++ rest).length ad
  have h := hf
  unfold f_X10_way at h
  refine k_start (us := [(42, .inr (.inr (.inl a42))), (69, .inr (.inr (.inl a69)))]) (k_ao_A ea42 (k_ao_A ea69 k_ap_0)) ?_
  show k_W X 5 0 0 (k_QX X ad (shX ++ rest).length (k_R1 out.1 (some (.int out.2.1)) (k_ap [(42, .inr (.inr (.inl out.2.2.1))), (69, .inr (.inr (.inl out.2.2.2)))] ((shX ++ rest), I, L, Rf))) (k_R2 out.1 (k_ap [(42, .inr (.inr (.inl out.2.2.1))), (69, .inr (.inr (.inl out.2.2.2)))] ((shX ++ rest), I, L, Rf))) 2 12) ad (k_ap [(42, .inr (.inr (.inl a42))), (69, .inr (.inr (.inl a69)))] ((shX ++ rest), I, L, Rf)) 0 [some (.ref 0), some (.int x0), some (.int x1), some (.int x2), none] []
  refine k_mask [true, true, true, true, false] ?_
  exact sX10_way_0 u C hr hR hx hRc hRs hT hsm ec3_0 ec3_1 ec3_5 ec3_6 ea4 ea5 ec26_3 ec26_4 ec26_5 a42 a69 x0 x1 x2 h
/-! LullabyPit.fill(I)I -/
theorem ds_X10_fill : k_ds [(69, 2, 0)] = true := by decide +kernel
set_option maxHeartbeats 1000000 in
set_option maxRecDepth 100000 in
theorem sX10_fill_26 (u : Nat) {X : k_X} {ad0 ad : Nat → Nat} {rest : List k_Sh} (C : k_C X cX10_fill RX10 2 ad) (hr : X.meth.sig.returnType = (some .int)) (hR : X.R.frames = 7 ∧ X.R.locals = 111) (hx : ∀ x ∈ X.c.exceptionTable.toList, False) (hRc : X.R.cells = 1) (hRs : X.R.slots = 6) (hT : X.l.stackTraces = false) (hsm : k_sm (shX ++ rest).length ad0 ad) {I : Nat → Nat → Int32} {L : Nat → Nat → Int64} {Rf : Nat → Nat → Option Nat} {c3_10 : Int32} (ec3_10 : I 3 10 = c3_10) {a6 : (Nat → Int32)} (ea6 : I 6 = a6) {a8 : (Nat → Int32)} (ea8 : I 8 = a8) {a9 : (Nat → Int32)} (ea9 : I 9 = a9) {a27 : (Nat → Int32)} (ea27 : I 27 = a27) {a30 : (Nat → Int32)} (ea30 : I 30 = a30) {out : Int32 × Int32 × (Nat → Int32)} : ∀ (a69 : (Nat → Int32)) (w0 : Int32), bX10_fill_26 u c3_10 a6 a8 a9 a27 a30 a69 w0 = some out → k_W X 2 1 6 (k_QX X ad0 (shX ++ rest).length (k_R1 out.1 (some (.int out.2.1)) (k_ap [(69, .inr (.inr (.inl out.2.2)))] ((shX ++ rest), I, L, Rf))) (k_R2 out.1 (k_ap [(69, .inr (.inr (.inl out.2.2)))] ((shX ++ rest), I, L, Rf))) 1 6) ad (k_ap [(69, .inr (.inr (.inl a69)))] ((shX ++ rest), I, L, Rf)) 26 [none, none] [.int w0, .ref 26, .ref 40] := by
  intro a69 w0 h
  unfold bX10_fill_26 at h
  obtain ⟨r26, q26, h⟩ := k_b_of h
  refine d_V (As := [.ref 26, .int w0]) (st := []) (st' := [.int r26]) (h' := k_ap [(69, .inr (.inr (.inl a69)))] ((shX ++ rest), I, L, Rf)) C hR (k_csl hRc hRs rfl rfl) mv_X7_ordersToFill lk_X10_311 dX10_fill_26 (rfl : 26 + 3 = 29) rfl rfl rfl rfl (c_X7_ordersToFill X.l u (k_ap [(69, .inr (.inr (.inl a69)))] ((shX ++ rest), I, L, Rf)) rfl ec3_10 ea6 ea8 ea9 ea27 ea30 q26) rfl rfl rfl rfl rfl ?_
  cases h
  exact x_of_g (g_iret C hr (Nat.le_of_ble_eq_true rfl) (Nat.le_of_ble_eq_true rfl) ⟨rfl, rfl, rfl⟩ hsm dX10_fill_29)
set_option maxHeartbeats 1000000 in
set_option maxRecDepth 100000 in
theorem sX10_fill_0 (u : Nat) {X : k_X} {ad0 ad : Nat → Nat} {rest : List k_Sh} (C : k_C X cX10_fill RX10 2 ad) (hr : X.meth.sig.returnType = (some .int)) (hR : X.R.frames = 7 ∧ X.R.locals = 111) (hx : ∀ x ∈ X.c.exceptionTable.toList, False) (hRc : X.R.cells = 1) (hRs : X.R.slots = 6) (hT : X.l.stackTraces = false) (hsm : k_sm (shX ++ rest).length ad0 ad) {I : Nat → Nat → Int32} {L : Nat → Nat → Int64} {Rf : Nat → Nat → Option Nat} {c3_10 : Int32} (ec3_10 : I 3 10 = c3_10) {a6 : (Nat → Int32)} (ea6 : I 6 = a6) {a8 : (Nat → Int32)} (ea8 : I 8 = a8) {a9 : (Nat → Int32)} (ea9 : I 9 = a9) {a27 : (Nat → Int32)} (ea27 : I 27 = a27) {a30 : (Nat → Int32)} (ea30 : I 30 = a30) {out : Int32 × Int32 × (Nat → Int32)} : ∀ (a69 : (Nat → Int32)) (v1 : Int32), bX10_fill_0 u c3_10 a6 a8 a9 a27 a30 a69 v1 = some out → k_W X 2 0 0 (k_QX X ad0 (shX ++ rest).length (k_R1 out.1 (some (.int out.2.1)) (k_ap [(69, .inr (.inr (.inl out.2.2)))] ((shX ++ rest), I, L, Rf))) (k_R2 out.1 (k_ap [(69, .inr (.inr (.inl out.2.2)))] ((shX ++ rest), I, L, Rf))) 1 6) ad (k_ap [(69, .inr (.inr (.inl a69)))] ((shX ++ rest), I, L, Rf)) 0 [some (.ref 0), some (.int v1)] [] := by
  intro a69 v1 h
  unfold bX10_fill_0 at h
  refine r_aload_n C dX10_fill_0 (rfl : 0 + 1 = 1) rfl ?_
  refine r_iload_n C dX10_fill_1 (rfl : 1 + 1 = 2) rfl ?_
  obtain ⟨r2, q2, h⟩ := k_b_of h
  refine d_S (As := [.int v1]) (st := [.ref 0]) (st' := [.int r2, .ref 0]) (h' := k_ap [(69, .inr (.inr (.inl a69)))] ((shX ++ rest), I, L, Rf)) C hR (k_csl hRc hRs rfl rfl) ms_X10_isEither lk_X10_289 dX10_fill_2 (rfl : 2 + 3 = 5) rfl rfl (c_X10_isEither X.l u (k_ap [(69, .inr (.inr (.inl a69)))] ((shX ++ rest), I, L, Rf))  q2) rfl rfl rfl rfl rfl ?_
  obtain ⟨r5, q5, h⟩ := k_b_of h
  refine c_VX (As := [.int r2]) (st := []) C hR (k_csl hRc hRs rfl rfl) mv_X10_need (k_me (tm3 (List.mem_of_getElem? (i := 141) rfl)) rfl) dX10_fill_5 (rfl : 5 + 3 = 8) rfl rfl (k_gS rfl) rfl (c_X10_need X.l u hT (k_ap [(69, .inr (.inr (.inl a69)))] ((shX ++ rest), I, L, Rf)) (k_gH rfl) rfl q5) rfl rfl rfl ⟨(k_ox 0 rfl), True.intro, True.intro⟩ True.intro ?_ ?_
  · rintro E ad1 h1 ⟨hk0, rfl, rfl⟩ hsm1 C1
    have h := k_f hk0 h
    cases h
    exact x_out C1 hx (Nat.le_of_ble_eq_true rfl) (Nat.le_of_ble_eq_true rfl) ⟨hk0, rfl, (k_jn (us' := [(69, .inr (.inr (.inl r5.2)))]) ds_X10_fill rfl rfl rfl)⟩ (k_sm_tr hsm hsm1 (Nat.le_of_eq (by rw [k_ap_sh])))
  rintro v ad5 h1 ⟨hk0, rfl, rfl⟩ hsm1 C
  have h := k_t hk0 h
  have hsm := k_sm_tr hsm hsm1 (Nat.le_of_eq (by rw [k_ap_sh]))
  refine k_eqh (k_jn (us' := [(69, .inr (.inr (.inl r5.2)))]) ds_X10_fill rfl rfl rfl) ?_
  show k_W _ _ _ _ _ _ _ _ _ []
  refine r_aload_n C dX10_fill_8 (rfl : 8 + 1 = 9) rfl ?_
  refine r_getR (q := 40) C dX10_fill_9 (rfl : 9 + 3 = 12) fl_X10_76 rfl rfl ?_
  refine r_aload_n C dX10_fill_12 (rfl : 12 + 1 = 13) rfl ?_
  refine r_getR (q := 26) C dX10_fill_13 (rfl : 13 + 3 = 16) fl_X10_50 rfl rfl ?_
  refine r_iload_n C dX10_fill_16 (rfl : 16 + 1 = 17) rfl ?_
  refine r_iconst (v := (1 : Int32)) C dX10_fill_17 (rfl : 17 + 1 = 18) rfl ?_
  refine r_icmp_ne (tgt := 25) C dX10_fill_18 (by decide) (rfl : 18 + 3 = 21) (fun c18 => ?_) (fun c18 => ?_)
  · have h := k_f c18 h
    refine r_iconst (v := (0 : Int32)) C dX10_fill_25 (rfl : 25 + 1 = 26) rfl ?_
    refine k_mask [false, false] ?_
    exact sX10_fill_26 u C hr hR hx hRc hRs hT hsm ec3_10 ea6 ea8 ea9 ea27 ea30 r5.2 (0 : Int32) h
  · have h := k_t c18 h
    refine r_iconst (v := (1 : Int32)) C dX10_fill_21 (rfl : 21 + 1 = 22) rfl ?_
    refine r_goto (tgt := 26) C dX10_fill_22 (by decide) ?_
    refine k_mask [false, false] ?_
    exact sX10_fill_26 u C hr hR hx hRc hRs hT hsm ec3_10 ea6 ea8 ea9 ea27 ea30 r5.2 (1 : Int32) h
set_option maxHeartbeats 1000000 in
set_option maxRecDepth 100000 in
theorem c_X10_fill (l : Launch) (u : Nat) (hT : l.stackTraces = false) (h : k_H) {rest : List k_Sh} (hsh : h.1 = shX ++ rest) {c3_10 : Int32} (ec3_10 : h.2.1 3 10 = c3_10) {a6 : (Nat → Int32)} (ea6 : h.2.1 6 = a6) {a8 : (Nat → Int32)} (ea8 : h.2.1 8 = a8) {a9 : (Nat → Int32)} (ea9 : h.2.1 9 = a9) {a27 : (Nat → Int32)} (ea27 : h.2.1 27 = a27) {a30 : (Nat → Int32)} (ea30 : h.2.1 30 = a30) {a69 : (Nat → Int32)} (ea69 : h.2.1 69 = a69) {x0 : Int32} {out : Int32 × Int32 × (Nat → Int32)} (hf : f_X10_fill u c3_10 a6 a8 a9 a27 a30 a69 x0 = some out) : k_CX l yX10_fill cX10_fill 2 (some .int) 7 111 1 6 [.ref 0, .int x0] h (k_R1 out.1 (some (.int out.2.1)) (k_ap [(69, .inr (.inr (.inl out.2.2)))] h)) (k_R2 out.1 (k_ap [(69, .inr (.inr (.inl out.2.2)))] h)) := by
  obtain ⟨sh, I, L, Rf⟩ := h
  try dsimp only
  obtain rfl : sh = shX ++ rest := hsh
  refine k_ofWX (by decide) (Nat.le_of_ble_eq_true rfl) ?_
  intro X ad hl hR0 hr C hx
  have hR : X.R.frames = 7 ∧ X.R.locals = 111 := by rw [hR0]; exact ⟨rfl, rfl⟩
  have hRc : X.R.cells = 1 := by rw [hR0]
  have hRs : X.R.slots = 6 := by rw [hR0]
  have hT : X.l.stackTraces = false := by rw [hl]; exact hT
  have hsm := k_sm_rf (shX ++ rest).length ad
  have h := hf
  unfold f_X10_fill at h
  refine k_start (us := [(69, .inr (.inr (.inl a69)))]) (k_ao_A ea69 k_ap_0) ?_
  show k_W X 2 0 0 (k_QX X ad (shX ++ rest).length (k_R1 out.1 (some (.int out.2.1)) (k_ap [(69, .inr (.inr (.inl out.2.2)))] ((shX ++ rest), I, L, Rf))) (k_R2 out.1 (k_ap [(69, .inr (.inr (.inl out.2.2)))] ((shX ++ rest), I, L, Rf))) 1 6) ad (k_ap [(69, .inr (.inr (.inl a69)))] ((shX ++ rest), I, L, Rf)) 0 [some (.ref 0), some (.int x0)] []
  refine k_mask [true, true] ?_
  exact sX10_fill_0 u C hr hR hx hRc hRs hT hsm ec3_10 ea6 ea8 ea9 ea27 ea30 a69 x0 h
/-! LullabyPit.isColumn(I)Z -/
theorem ds_X10_isColumn : k_ds [] = true := by decide +kernel
set_option maxHeartbeats 400000 in
set_option maxRecDepth 100000 in
theorem sX10_isColumn_0 (u : Nat) {X : k_X} {ad : Nat → Nat} {rest : List k_Sh} (C : k_C X cX10_isColumn RX10 2 ad) (hr : X.meth.sig.returnType = (some .boolean)) (hR : X.R.frames = 0 ∧ X.R.locals = 0) {I : Nat → Nat → Int32} {L : Nat → Nat → Int64} {Rf : Nat → Nat → Option Nat} {c3_0 : Int32} (ec3_0 : I 3 0 = c3_0) {out : Int32} : ∀ (v1 : Int32), bX10_isColumn_0 u c3_0 v1 = some out → k_W X 2 0 0 (k_Q X ad (some (.int out)) (k_ap [] ((shX ++ rest), I, L, Rf))) ad (k_ap [] ((shX ++ rest), I, L, Rf)) 0 [some (.ref 0), some (.int v1)] [] := by
  intro v1 h
  unfold bX10_isColumn_0 at h
  refine r_iload_n C dX10_isColumn_0 (rfl : 0 + 1 = 1) rfl ?_
  refine r_if_lt (tgt := 19) C dX10_isColumn_1 (by decide) (rfl : 1 + 3 = 4) (fun c1 => ?_) (fun c1 => ?_)
  · have h := k_t c1 h
    refine r_iconst (v := (0 : Int32)) C dX10_isColumn_19 (rfl : 19 + 1 = 20) rfl ?_
    cases h
    exact r_zret C hr (Or.inl rfl) dX10_isColumn_20
  · have h := k_f c1 h
    refine r_iload_n C dX10_isColumn_4 (rfl : 4 + 1 = 5) rfl ?_
    refine r_aload_n C dX10_isColumn_5 (rfl : 5 + 1 = 6) rfl ?_
    refine r_getR (q := 3) C dX10_isColumn_6 (rfl : 6 + 3 = 9) fl_X10_19 rfl rfl ?_
    refine r_getI (v := c3_0) C dX10_isColumn_9 (rfl : 9 + 3 = 12) fl_X10_189 rfl rfl ec3_0 ?_
    refine r_icmp_ge (tgt := 19) C dX10_isColumn_12 (by decide) (rfl : 12 + 3 = 15) (fun c12 => ?_) (fun c12 => ?_)
    · have h := k_t c12 h
      refine r_iconst (v := (0 : Int32)) C dX10_isColumn_19 (rfl : 19 + 1 = 20) rfl ?_
      cases h
      exact r_zret C hr (Or.inl rfl) dX10_isColumn_20
    · have h := k_f c12 h
      refine r_iconst (v := (1 : Int32)) C dX10_isColumn_15 (rfl : 15 + 1 = 16) rfl ?_
      refine r_goto (tgt := 20) C dX10_isColumn_16 (by decide) ?_
      cases h
      exact r_zret C hr (Or.inr rfl) dX10_isColumn_20
set_option maxHeartbeats 400000 in
set_option maxRecDepth 100000 in
theorem c_X10_isColumn (l : Launch) (u : Nat) (h : k_H) {rest : List k_Sh} (hsh : h.1 = (shX ++ rest)) {c3_0 : Int32} (ec3_0 : h.2.1 3 0 = c3_0) {x0 : Int32} {out : Int32} (hf : f_X10_isColumn u c3_0 x0 = some out) : k_CT l yX10_isColumn cX10_isColumn 2 (some .boolean) 0 0 [.ref 0, .int x0] h (some (.int out)) [] := by
  obtain ⟨sh, I, L, Rf⟩ := h
  try dsimp only
  obtain rfl : sh = (shX ++ rest) := hsh
  refine k_ofW (by decide) (Nat.le_of_ble_eq_true rfl) ?_
  intro X ad hl hR0 hr C
  have hR : X.R.frames = 0 ∧ X.R.locals = 0 := by rw [hR0]; exact ⟨rfl, rfl⟩
  have h := hf
  unfold f_X10_isColumn at h
  refine k_start (us := []) k_ap_0 ?_
  show k_W X 2 0 0 _ ad (k_ap [] ((shX ++ rest), I, L, Rf)) 0 [some (.ref 0), some (.int x0)] []
  refine k_mask [true, true] ?_
  exact sX10_isColumn_0 u C hr hR ec3_0 x0 h
/-! LullabyPit.tap(I)I -/
theorem ds_X10_tap : k_ds [(69, 2, 0)] = true := by decide +kernel
set_option maxHeartbeats 1000000 in
set_option maxRecDepth 100000 in
theorem sX10_tap_0 (u : Nat) {X : k_X} {ad0 ad : Nat → Nat} {rest : List k_Sh} (C : k_C X cX10_tap RX10 2 ad) (hr : X.meth.sig.returnType = (some .int)) (hR : X.R.frames = 7 ∧ X.R.locals = 111) (hx : ∀ x ∈ X.c.exceptionTable.toList, False) (hRc : X.R.cells = 1) (hRs : X.R.slots = 6) (hT : X.l.stackTraces = false) (hsm : k_sm (shX ++ rest).length ad0 ad) {I : Nat → Nat → Int32} {L : Nat → Nat → Int64} {Rf : Nat → Nat → Option Nat} {c3_0 : Int32} (ec3_0 : I 3 0 = c3_0) {c3_1 : Int32} (ec3_1 : I 3 1 = c3_1) {a4 : (Nat → Int32)} (ea4 : I 4 = a4) {out : Int32 × Int32 × (Nat → Int32)} : ∀ (a69 : (Nat → Int32)) (v1 : Int32), bX10_tap_0 u c3_0 c3_1 a4 a69 v1 = some out → k_W X 2 0 0 (k_QX X ad0 (shX ++ rest).length (k_R1 out.1 (some (.int out.2.1)) (k_ap [(69, .inr (.inr (.inl out.2.2)))] ((shX ++ rest), I, L, Rf))) (k_R2 out.1 (k_ap [(69, .inr (.inr (.inl out.2.2)))] ((shX ++ rest), I, L, Rf))) 1 6) ad (k_ap [(69, .inr (.inr (.inl a69)))] ((shX ++ rest), I, L, Rf)) 0 [some (.ref 0), some (.int v1)] [] := by
  intro a69 v1 h
  unfold bX10_tap_0 at h
  refine r_aload_n C dX10_tap_0 (rfl : 0 + 1 = 1) rfl ?_
  refine r_aload_n C dX10_tap_1 (rfl : 1 + 1 = 2) rfl ?_
  refine r_iload_n C dX10_tap_2 (rfl : 2 + 1 = 3) rfl ?_
  obtain ⟨r3, q3, h⟩ := k_b_of h
  refine d_V (As := [.int v1]) (st := [.ref 0]) (st' := [.int r3, .ref 0]) (h' := k_ap [(69, .inr (.inr (.inl a69)))] ((shX ++ rest), I, L, Rf)) C hR (k_csl hRc hRs rfl rfl) mv_X10_isColumn lk_X10_315 dX10_tap_3 (rfl : 3 + 3 = 6) rfl rfl rfl rfl (c_X10_isColumn X.l u (k_ap [(69, .inr (.inr (.inl a69)))] ((shX ++ rest), I, L, Rf)) rfl ec3_0 q3) rfl rfl rfl rfl rfl ?_
  obtain ⟨r6, q6, h⟩ := k_b_of h
  refine c_VX (As := [.int r3]) (st := []) C hR (k_csl hRc hRs rfl rfl) mv_X10_need (k_me (tm3 (List.mem_of_getElem? (i := 141) rfl)) rfl) dX10_tap_6 (rfl : 6 + 3 = 9) rfl rfl (k_gS rfl) rfl (c_X10_need X.l u hT (k_ap [(69, .inr (.inr (.inl a69)))] ((shX ++ rest), I, L, Rf)) (k_gH rfl) rfl q6) rfl rfl rfl ⟨(k_ox 0 rfl), True.intro, True.intro⟩ True.intro ?_ ?_
  · rintro E ad1 h1 ⟨hk0, rfl, rfl⟩ hsm1 C1
    have h := k_f hk0 h
    cases h
    exact x_out C1 hx (Nat.le_of_ble_eq_true rfl) (Nat.le_of_ble_eq_true rfl) ⟨hk0, rfl, (k_jn (us' := [(69, .inr (.inr (.inl r6.2)))]) ds_X10_tap rfl rfl rfl)⟩ (k_sm_tr hsm hsm1 (Nat.le_of_eq (by rw [k_ap_sh])))
  rintro v ad6 h1 ⟨hk0, rfl, rfl⟩ hsm1 C
  have h := k_t hk0 h
  have hsm := k_sm_tr hsm hsm1 (Nat.le_of_eq (by rw [k_ap_sh]))
  refine k_eqh (k_jn (us' := [(69, .inr (.inr (.inl r6.2)))]) ds_X10_tap rfl rfl rfl) ?_
  show k_W _ _ _ _ _ _ _ _ _ []
  refine r_aload_n C dX10_tap_9 (rfl : 9 + 1 = 10) rfl ?_
  refine r_getR (q := 58) C dX10_tap_10 (rfl : 10 + 3 = 13) fl_X10_85 rfl rfl ?_
  refine r_iload_n C dX10_tap_13 (rfl : 13 + 1 = 14) rfl ?_
  refine r_iconst (v := (0 : Int32)) C dX10_tap_14 (rfl : 14 + 1 = 15) rfl ?_
  obtain ⟨r15, q15, h⟩ := k_b_of h
  refine d_Vp (pi := [58, 59, 60, 3, 4, 5, 6, 7, 8, 9]) (shl := shTaps) (bl := 0) (As := [.int v1, .int (0 : Int32)]) (Al := [.int v1, .int (0 : Int32)]) (st := []) (st' := [.int r15]) (h' := k_ap [(69, .inr (.inr (.inl r6.2)))] ((shX ++ rest), I, L, Rf)) C hR (k_csl hRc hRs rfl rfl) mv_X9_heard lk_X10_318 dX10_tap_15 (rfl : 15 + 3 = 18) rfl rfl ck_shX_shTaps_58_5 rfl rfl (c_X9_heard X.l u (k_pl [58, 59, 60, 3, 4, 5, 6, 7, 8, 9] shTaps (k_ap [(69, .inr (.inr (.inl r6.2)))] ((shX ++ rest), I, L, Rf))) rfl ec3_0 ec3_1 ea4 q15) rfl (fun _ => rfl) rfl (fun _ => rfl) rfl rfl rfl rfl rfl ?_
  cases h
  exact x_of_g (g_iret C hr (Nat.le_of_ble_eq_true rfl) (Nat.le_of_ble_eq_true rfl) ⟨rfl, rfl, rfl⟩ hsm dX10_tap_18)
set_option maxHeartbeats 1000000 in
set_option maxRecDepth 100000 in
theorem c_X10_tap (l : Launch) (u : Nat) (hT : l.stackTraces = false) (h : k_H) {rest : List k_Sh} (hsh : h.1 = shX ++ rest) {c3_0 : Int32} (ec3_0 : h.2.1 3 0 = c3_0) {c3_1 : Int32} (ec3_1 : h.2.1 3 1 = c3_1) {a4 : (Nat → Int32)} (ea4 : h.2.1 4 = a4) {a69 : (Nat → Int32)} (ea69 : h.2.1 69 = a69) {x0 : Int32} {out : Int32 × Int32 × (Nat → Int32)} (hf : f_X10_tap u c3_0 c3_1 a4 a69 x0 = some out) : k_CX l yX10_tap cX10_tap 2 (some .int) 7 111 1 6 [.ref 0, .int x0] h (k_R1 out.1 (some (.int out.2.1)) (k_ap [(69, .inr (.inr (.inl out.2.2)))] h)) (k_R2 out.1 (k_ap [(69, .inr (.inr (.inl out.2.2)))] h)) := by
  obtain ⟨sh, I, L, Rf⟩ := h
  try dsimp only
  obtain rfl : sh = shX ++ rest := hsh
  refine k_ofWX (by decide) (Nat.le_of_ble_eq_true rfl) ?_
  intro X ad hl hR0 hr C hx
  have hR : X.R.frames = 7 ∧ X.R.locals = 111 := by rw [hR0]; exact ⟨rfl, rfl⟩
  have hRc : X.R.cells = 1 := by rw [hR0]
  have hRs : X.R.slots = 6 := by rw [hR0]
  have hT : X.l.stackTraces = false := by rw [hl]; exact hT
  have hsm := k_sm_rf (shX ++ rest).length ad
  have h := hf
  unfold f_X10_tap at h
  refine k_start (us := [(69, .inr (.inr (.inl a69)))]) (k_ao_A ea69 k_ap_0) ?_
  show k_W X 2 0 0 (k_QX X ad (shX ++ rest).length (k_R1 out.1 (some (.int out.2.1)) (k_ap [(69, .inr (.inr (.inl out.2.2)))] ((shX ++ rest), I, L, Rf))) (k_R2 out.1 (k_ap [(69, .inr (.inr (.inl out.2.2)))] ((shX ++ rest), I, L, Rf))) 1 6) ad (k_ap [(69, .inr (.inr (.inl a69)))] ((shX ++ rest), I, L, Rf)) 0 [some (.ref 0), some (.int x0)] []
  refine k_mask [true, true] ?_
  exact sX10_tap_0 u C hr hR hx hRc hRs hT hsm ec3_0 ec3_1 ea4 a69 x0 h
/-! LullabyPit.moved(II)I -/
theorem ds_X10_moved : k_ds [(69, 2, 0)] = true := by decide +kernel
set_option maxHeartbeats 1000000 in
set_option maxRecDepth 100000 in
theorem sX10_moved_26 (u : Nat) {X : k_X} {ad0 ad : Nat → Nat} {rest : List k_Sh} (C : k_C X cX10_moved RX10 3 ad) (hr : X.meth.sig.returnType = (some .int)) (hR : X.R.frames = 7 ∧ X.R.locals = 111) (hx : ∀ x ∈ X.c.exceptionTable.toList, False) (hRc : X.R.cells = 1) (hRs : X.R.slots = 6) (hT : X.l.stackTraces = false) (hsm : k_sm (shX ++ rest).length ad0 ad) {I : Nat → Nat → Int32} {L : Nat → Nat → Int64} {Rf : Nat → Nat → Option Nat} {c3_0 : Int32} (ec3_0 : I 3 0 = c3_0) {c3_1 : Int32} (ec3_1 : I 3 1 = c3_1) {a4 : (Nat → Int32)} (ea4 : I 4 = a4) {out : Int32 × Int32 × (Nat → Int32)} : ∀ (a69 : (Nat → Int32)) (v1 : Int32) (v2 : Int32) (w0 : Int32), bX10_moved_26 u c3_0 c3_1 a4 a69 v1 v2 w0 = some out → k_W X 3 0 0 (k_QX X ad0 (shX ++ rest).length (k_R1 out.1 (some (.int out.2.1)) (k_ap [(69, .inr (.inr (.inl out.2.2)))] ((shX ++ rest), I, L, Rf))) (k_R2 out.1 (k_ap [(69, .inr (.inr (.inl out.2.2)))] ((shX ++ rest), I, L, Rf))) 1 6) ad (k_ap [(69, .inr (.inr (.inl a69)))] ((shX ++ rest), I, L, Rf)) 26 [some (.ref 0), some (.int v1), some (.int v2)] [.int w0, .ref 0] := by
  intro a69 v1 v2 w0 h
  unfold bX10_moved_26 at h
  obtain ⟨r26, q26, h⟩ := k_b_of h
  refine c_VX (As := [.int w0]) (st := []) C hR (k_csl hRc hRs rfl rfl) mv_X10_need (k_me (tm3 (List.mem_of_getElem? (i := 141) rfl)) rfl) dX10_moved_26 (rfl : 26 + 3 = 29) rfl rfl (k_gS rfl) rfl (c_X10_need X.l u hT (k_ap [(69, .inr (.inr (.inl a69)))] ((shX ++ rest), I, L, Rf)) (k_gH rfl) rfl q26) rfl rfl rfl ⟨(k_ox 0 rfl), True.intro, True.intro, True.intro⟩ True.intro ?_ ?_
  · rintro E ad1 h1 ⟨hk0, rfl, rfl⟩ hsm1 C1
    have h := k_f hk0 h
    cases h
    exact x_out C1 hx (Nat.le_of_ble_eq_true rfl) (Nat.le_of_ble_eq_true rfl) ⟨hk0, rfl, (k_jn (us' := [(69, .inr (.inr (.inl r26.2)))]) ds_X10_moved rfl rfl rfl)⟩ (k_sm_tr hsm hsm1 (Nat.le_of_eq (by rw [k_ap_sh])))
  rintro v ad26 h1 ⟨hk0, rfl, rfl⟩ hsm1 C
  have h := k_t hk0 h
  have hsm := k_sm_tr hsm hsm1 (Nat.le_of_eq (by rw [k_ap_sh]))
  refine k_eqh (k_jn (us' := [(69, .inr (.inr (.inl r26.2)))]) ds_X10_moved rfl rfl rfl) ?_
  show k_W _ _ _ _ _ _ _ _ _ []
  refine r_aload_n C dX10_moved_29 (rfl : 29 + 1 = 30) rfl ?_
  refine r_getR (q := 58) C dX10_moved_30 (rfl : 30 + 3 = 33) fl_X10_85 rfl rfl ?_
  refine r_iload_n C dX10_moved_33 (rfl : 33 + 1 = 34) rfl ?_
  refine r_iload_n C dX10_moved_34 (rfl : 34 + 1 = 35) rfl ?_
  obtain ⟨r35, q35, h⟩ := k_b_of h
  refine d_Vp (pi := [58, 59, 60, 3, 4, 5, 6, 7, 8, 9]) (shl := shTaps) (bl := 0) (As := [.int v1, .int v2]) (Al := [.int v1, .int v2]) (st := []) (st' := [.int r35]) (h' := k_ap [(69, .inr (.inr (.inl r26.2)))] ((shX ++ rest), I, L, Rf)) C hR (k_csl hRc hRs rfl rfl) mv_X9_heard lk_X10_318 dX10_moved_35 (rfl : 35 + 3 = 38) rfl rfl ck_shX_shTaps_58_5 rfl rfl (c_X9_heard X.l u (k_pl [58, 59, 60, 3, 4, 5, 6, 7, 8, 9] shTaps (k_ap [(69, .inr (.inr (.inl r26.2)))] ((shX ++ rest), I, L, Rf))) rfl ec3_0 ec3_1 ea4 q35) rfl (fun _ => rfl) rfl (fun _ => rfl) rfl rfl rfl rfl rfl ?_
  cases h
  exact x_of_g (g_iret C hr (Nat.le_of_ble_eq_true rfl) (Nat.le_of_ble_eq_true rfl) ⟨rfl, rfl, rfl⟩ hsm dX10_moved_38)
set_option maxHeartbeats 1000000 in
set_option maxRecDepth 100000 in
theorem sX10_moved_25 (u : Nat) {X : k_X} {ad0 ad : Nat → Nat} {rest : List k_Sh} (C : k_C X cX10_moved RX10 3 ad) (hr : X.meth.sig.returnType = (some .int)) (hR : X.R.frames = 7 ∧ X.R.locals = 111) (hx : ∀ x ∈ X.c.exceptionTable.toList, False) (hRc : X.R.cells = 1) (hRs : X.R.slots = 6) (hT : X.l.stackTraces = false) (hsm : k_sm (shX ++ rest).length ad0 ad) {I : Nat → Nat → Int32} {L : Nat → Nat → Int64} {Rf : Nat → Nat → Option Nat} {c3_0 : Int32} (ec3_0 : I 3 0 = c3_0) {c3_1 : Int32} (ec3_1 : I 3 1 = c3_1) {a4 : (Nat → Int32)} (ea4 : I 4 = a4) {out : Int32 × Int32 × (Nat → Int32)} : ∀ (a69 : (Nat → Int32)) (v1 : Int32) (v2 : Int32), bX10_moved_25 u c3_0 c3_1 a4 a69 v1 v2 = some out → k_W X 3 0 0 (k_QX X ad0 (shX ++ rest).length (k_R1 out.1 (some (.int out.2.1)) (k_ap [(69, .inr (.inr (.inl out.2.2)))] ((shX ++ rest), I, L, Rf))) (k_R2 out.1 (k_ap [(69, .inr (.inr (.inl out.2.2)))] ((shX ++ rest), I, L, Rf))) 1 6) ad (k_ap [(69, .inr (.inr (.inl a69)))] ((shX ++ rest), I, L, Rf)) 25 [some (.ref 0), some (.int v1), some (.int v2)] [.ref 0] := by
  intro a69 v1 v2 h
  unfold bX10_moved_25 at h
  refine r_iconst (v := (0 : Int32)) C dX10_moved_25 (rfl : 25 + 1 = 26) rfl ?_
  refine k_mask [true, true, true] ?_
  exact sX10_moved_26 u C hr hR hx hRc hRs hT hsm ec3_0 ec3_1 ea4 a69 v1 v2 (0 : Int32) h
set_option maxHeartbeats 1000000 in
set_option maxRecDepth 100000 in
theorem sX10_moved_0 (u : Nat) {X : k_X} {ad0 ad : Nat → Nat} {rest : List k_Sh} (C : k_C X cX10_moved RX10 3 ad) (hr : X.meth.sig.returnType = (some .int)) (hR : X.R.frames = 7 ∧ X.R.locals = 111) (hx : ∀ x ∈ X.c.exceptionTable.toList, False) (hRc : X.R.cells = 1) (hRs : X.R.slots = 6) (hT : X.l.stackTraces = false) (hsm : k_sm (shX ++ rest).length ad0 ad) {I : Nat → Nat → Int32} {L : Nat → Nat → Int64} {Rf : Nat → Nat → Option Nat} {c3_0 : Int32} (ec3_0 : I 3 0 = c3_0) {c3_1 : Int32} (ec3_1 : I 3 1 = c3_1) {a4 : (Nat → Int32)} (ea4 : I 4 = a4) {out : Int32 × Int32 × (Nat → Int32)} : ∀ (a69 : (Nat → Int32)) (v1 : Int32) (v2 : Int32), bX10_moved_0 u c3_0 c3_1 a4 a69 v1 v2 = some out → k_W X 3 0 0 (k_QX X ad0 (shX ++ rest).length (k_R1 out.1 (some (.int out.2.1)) (k_ap [(69, .inr (.inr (.inl out.2.2)))] ((shX ++ rest), I, L, Rf))) (k_R2 out.1 (k_ap [(69, .inr (.inr (.inl out.2.2)))] ((shX ++ rest), I, L, Rf))) 1 6) ad (k_ap [(69, .inr (.inr (.inl a69)))] ((shX ++ rest), I, L, Rf)) 0 [some (.ref 0), some (.int v1), some (.int v2)] [] := by
  intro a69 v1 v2 h
  unfold bX10_moved_0 at h
  refine r_aload_n C dX10_moved_0 (rfl : 0 + 1 = 1) rfl ?_
  refine r_aload_n C dX10_moved_1 (rfl : 1 + 1 = 2) rfl ?_
  refine r_iload_n C dX10_moved_2 (rfl : 2 + 1 = 3) rfl ?_
  obtain ⟨r3, q3, h⟩ := k_b_of h
  refine d_V (As := [.int v1]) (st := [.ref 0]) (st' := [.int r3, .ref 0]) (h' := k_ap [(69, .inr (.inr (.inl a69)))] ((shX ++ rest), I, L, Rf)) C hR (k_csl hRc hRs rfl rfl) mv_X10_isColumn lk_X10_315 dX10_moved_3 (rfl : 3 + 3 = 6) rfl rfl rfl rfl (c_X10_isColumn X.l u (k_ap [(69, .inr (.inr (.inl a69)))] ((shX ++ rest), I, L, Rf)) rfl ec3_0 q3) rfl rfl rfl rfl rfl ?_
  refine r_if_eq (tgt := 25) C dX10_moved_6 (by decide) (rfl : 6 + 3 = 9) (fun c6 => ?_) (fun c6 => ?_)
  · have h := k_t c6 h
    refine k_mask [true, true, true] ?_
    exact sX10_moved_25 u C hr hR hx hRc hRs hT hsm ec3_0 ec3_1 ea4 a69 v1 v2 h
  · have h := k_f c6 h
    refine r_iload_n C dX10_moved_9 (rfl : 9 + 1 = 10) rfl ?_
    refine r_bipush (v := (-7 : Int32)) C dX10_moved_10 (rfl : 10 + 2 = 12) rfl ?_
    refine r_icmp_lt (tgt := 25) C dX10_moved_12 (by decide) (rfl : 12 + 3 = 15) (fun c12 => ?_) (fun c12 => ?_)
    · have h := k_t c12 h
      refine k_mask [true, true, true] ?_
      exact sX10_moved_25 u C hr hR hx hRc hRs hT hsm ec3_0 ec3_1 ea4 a69 v1 v2 h
    · have h := k_f c12 h
      refine r_iload_n C dX10_moved_15 (rfl : 15 + 1 = 16) rfl ?_
      refine r_bipush (v := (7 : Int32)) C dX10_moved_16 (rfl : 16 + 2 = 18) rfl ?_
      refine r_icmp_gt (tgt := 25) C dX10_moved_18 (by decide) (rfl : 18 + 3 = 21) (fun c18 => ?_) (fun c18 => ?_)
      · have h := k_t c18 h
        refine k_mask [true, true, true] ?_
        exact sX10_moved_25 u C hr hR hx hRc hRs hT hsm ec3_0 ec3_1 ea4 a69 v1 v2 h
      · have h := k_f c18 h
        refine r_iconst (v := (1 : Int32)) C dX10_moved_21 (rfl : 21 + 1 = 22) rfl ?_
        refine r_goto (tgt := 26) C dX10_moved_22 (by decide) ?_
        refine k_mask [true, true, true] ?_
        exact sX10_moved_26 u C hr hR hx hRc hRs hT hsm ec3_0 ec3_1 ea4 a69 v1 v2 (1 : Int32) h
set_option maxHeartbeats 1000000 in
set_option maxRecDepth 100000 in
theorem c_X10_moved (l : Launch) (u : Nat) (hT : l.stackTraces = false) (h : k_H) {rest : List k_Sh} (hsh : h.1 = shX ++ rest) {c3_0 : Int32} (ec3_0 : h.2.1 3 0 = c3_0) {c3_1 : Int32} (ec3_1 : h.2.1 3 1 = c3_1) {a4 : (Nat → Int32)} (ea4 : h.2.1 4 = a4) {a69 : (Nat → Int32)} (ea69 : h.2.1 69 = a69) {x0 : Int32} {x1 : Int32} {out : Int32 × Int32 × (Nat → Int32)} (hf : f_X10_moved u c3_0 c3_1 a4 a69 x0 x1 = some out) : k_CX l yX10_moved cX10_moved 3 (some .int) 7 111 1 6 [.ref 0, .int x0, .int x1] h (k_R1 out.1 (some (.int out.2.1)) (k_ap [(69, .inr (.inr (.inl out.2.2)))] h)) (k_R2 out.1 (k_ap [(69, .inr (.inr (.inl out.2.2)))] h)) := by
  obtain ⟨sh, I, L, Rf⟩ := h
  try dsimp only
  obtain rfl : sh = shX ++ rest := hsh
  refine k_ofWX (by decide) (Nat.le_of_ble_eq_true rfl) ?_
  intro X ad hl hR0 hr C hx
  have hR : X.R.frames = 7 ∧ X.R.locals = 111 := by rw [hR0]; exact ⟨rfl, rfl⟩
  have hRc : X.R.cells = 1 := by rw [hR0]
  have hRs : X.R.slots = 6 := by rw [hR0]
  have hT : X.l.stackTraces = false := by rw [hl]; exact hT
  have hsm := k_sm_rf (shX ++ rest).length ad
  have h := hf
  unfold f_X10_moved at h
  refine k_start (us := [(69, .inr (.inr (.inl a69)))]) (k_ao_A ea69 k_ap_0) ?_
  show k_W X 3 0 0 (k_QX X ad (shX ++ rest).length (k_R1 out.1 (some (.int out.2.1)) (k_ap [(69, .inr (.inr (.inl out.2.2)))] ((shX ++ rest), I, L, Rf))) (k_R2 out.1 (k_ap [(69, .inr (.inr (.inl out.2.2)))] ((shX ++ rest), I, L, Rf))) 1 6) ad (k_ap [(69, .inr (.inr (.inl a69)))] ((shX ++ rest), I, L, Rf)) 0 [some (.ref 0), some (.int x0), some (.int x1)] []
  refine k_mask [true, true, true] ?_
  exact sX10_moved_0 u C hr hR hx hRc hRs hT hsm ec3_0 ec3_1 ea4 a69 x0 x1 h
/-! LullabyPit.next(I)I -/
theorem ds_X10_next : k_ds [(69, 2, 0)] = true := by decide +kernel
set_option maxHeartbeats 1000000 in
set_option maxRecDepth 100000 in
theorem sX10_next_22 (u : Nat) {X : k_X} {ad0 ad : Nat → Nat} {rest : List k_Sh} (C : k_C X cX10_next RX10 2 ad) (hr : X.meth.sig.returnType = (some .int)) (hR : X.R.frames = 7 ∧ X.R.locals = 114) (hx : ∀ x ∈ X.c.exceptionTable.toList, False) (hRc : X.R.cells = 1) (hRs : X.R.slots = 6) (hT : X.l.stackTraces = false) (hsm : k_sm (shX ++ rest).length ad0 ad) {I : Nat → Nat → Int32} {L : Nat → Nat → Int64} {Rf : Nat → Nat → Option Nat} {c3_0 : Int32} (ec3_0 : I 3 0 = c3_0) {c3_1 : Int32} (ec3_1 : I 3 1 = c3_1) {a4 : (Nat → Int32)} (ea4 : I 4 = a4) {a59 : (Nat → Int32)} (ea59 : I 59 = a59) {out : Int32 × Int32 × (Nat → Int32)} : ∀ (a69 : (Nat → Int32)) (w0 : Int32), bX10_next_22 u c3_0 c3_1 a4 a59 a69 w0 = some out → k_W X 2 1 6 (k_QX X ad0 (shX ++ rest).length (k_R1 out.1 (some (.int out.2.1)) (k_ap [(69, .inr (.inr (.inl out.2.2)))] ((shX ++ rest), I, L, Rf))) (k_R2 out.1 (k_ap [(69, .inr (.inr (.inl out.2.2)))] ((shX ++ rest), I, L, Rf))) 1 6) ad (k_ap [(69, .inr (.inr (.inl a69)))] ((shX ++ rest), I, L, Rf)) 22 [none, none] [.int w0, .ref 58] := by
  intro a69 w0 h
  unfold bX10_next_22 at h
  obtain ⟨r22, q22, h⟩ := k_b_of h
  refine d_Vp (pi := [58, 59, 60, 3, 4, 5, 6, 7, 8, 9]) (shl := shTaps) (bl := 0) (As := [.int w0]) (Al := [.int w0]) (st := []) (st' := [.int r22]) (h' := k_ap [(69, .inr (.inr (.inl a69)))] ((shX ++ rest), I, L, Rf)) C hR (k_csl hRc hRs rfl rfl) mv_X9_nextTap lk_X10_324 dX10_next_22 (rfl : 22 + 3 = 25) rfl rfl ck_shX_shTaps_58_5 rfl rfl (c_X9_nextTap X.l u (k_pl [58, 59, 60, 3, 4, 5, 6, 7, 8, 9] shTaps (k_ap [(69, .inr (.inr (.inl a69)))] ((shX ++ rest), I, L, Rf))) rfl ea59 ec3_0 ec3_1 ea4 q22) rfl (fun _ => rfl) rfl (fun _ => rfl) rfl rfl rfl rfl rfl ?_
  cases h
  exact x_of_g (g_iret C hr (Nat.le_of_ble_eq_true rfl) (Nat.le_of_ble_eq_true rfl) ⟨rfl, rfl, rfl⟩ hsm dX10_next_25)
set_option maxHeartbeats 1000000 in
set_option maxRecDepth 100000 in
theorem sX10_next_0 (u : Nat) {X : k_X} {ad0 ad : Nat → Nat} {rest : List k_Sh} (C : k_C X cX10_next RX10 2 ad) (hr : X.meth.sig.returnType = (some .int)) (hR : X.R.frames = 7 ∧ X.R.locals = 114) (hx : ∀ x ∈ X.c.exceptionTable.toList, False) (hRc : X.R.cells = 1) (hRs : X.R.slots = 6) (hT : X.l.stackTraces = false) (hsm : k_sm (shX ++ rest).length ad0 ad) {I : Nat → Nat → Int32} {L : Nat → Nat → Int64} {Rf : Nat → Nat → Option Nat} {c3_0 : Int32} (ec3_0 : I 3 0 = c3_0) {c3_1 : Int32} (ec3_1 : I 3 1 = c3_1) {a4 : (Nat → Int32)} (ea4 : I 4 = a4) {a59 : (Nat → Int32)} (ea59 : I 59 = a59) {out : Int32 × Int32 × (Nat → Int32)} : ∀ (a69 : (Nat → Int32)) (v1 : Int32), bX10_next_0 u c3_0 c3_1 a4 a59 a69 v1 = some out → k_W X 2 0 0 (k_QX X ad0 (shX ++ rest).length (k_R1 out.1 (some (.int out.2.1)) (k_ap [(69, .inr (.inr (.inl out.2.2)))] ((shX ++ rest), I, L, Rf))) (k_R2 out.1 (k_ap [(69, .inr (.inr (.inl out.2.2)))] ((shX ++ rest), I, L, Rf))) 1 6) ad (k_ap [(69, .inr (.inr (.inl a69)))] ((shX ++ rest), I, L, Rf)) 0 [some (.ref 0), some (.int v1)] [] := by
  intro a69 v1 h
  unfold bX10_next_0 at h
  refine r_aload_n C dX10_next_0 (rfl : 0 + 1 = 1) rfl ?_
  refine r_iload_n C dX10_next_1 (rfl : 1 + 1 = 2) rfl ?_
  obtain ⟨r2, q2, h⟩ := k_b_of h
  refine d_S (As := [.int v1]) (st := [.ref 0]) (st' := [.int r2, .ref 0]) (h' := k_ap [(69, .inr (.inr (.inl a69)))] ((shX ++ rest), I, L, Rf)) C hR (k_csl hRc hRs rfl rfl) ms_X10_isEither lk_X10_289 dX10_next_2 (rfl : 2 + 3 = 5) rfl rfl (c_X10_isEither X.l u (k_ap [(69, .inr (.inr (.inl a69)))] ((shX ++ rest), I, L, Rf))  q2) rfl rfl rfl rfl rfl ?_
  obtain ⟨r5, q5, h⟩ := k_b_of h
  refine c_VX (As := [.int r2]) (st := []) C hR (k_csl hRc hRs rfl rfl) mv_X10_need (k_me (tm3 (List.mem_of_getElem? (i := 141) rfl)) rfl) dX10_next_5 (rfl : 5 + 3 = 8) rfl rfl (k_gS rfl) rfl (c_X10_need X.l u hT (k_ap [(69, .inr (.inr (.inl a69)))] ((shX ++ rest), I, L, Rf)) (k_gH rfl) rfl q5) rfl rfl rfl ⟨(k_ox 0 rfl), True.intro, True.intro⟩ True.intro ?_ ?_
  · rintro E ad1 h1 ⟨hk0, rfl, rfl⟩ hsm1 C1
    have h := k_f hk0 h
    cases h
    exact x_out C1 hx (Nat.le_of_ble_eq_true rfl) (Nat.le_of_ble_eq_true rfl) ⟨hk0, rfl, (k_jn (us' := [(69, .inr (.inr (.inl r5.2)))]) ds_X10_next rfl rfl rfl)⟩ (k_sm_tr hsm hsm1 (Nat.le_of_eq (by rw [k_ap_sh])))
  rintro v ad5 h1 ⟨hk0, rfl, rfl⟩ hsm1 C
  have h := k_t hk0 h
  have hsm := k_sm_tr hsm hsm1 (Nat.le_of_eq (by rw [k_ap_sh]))
  refine k_eqh (k_jn (us' := [(69, .inr (.inr (.inl r5.2)))]) ds_X10_next rfl rfl rfl) ?_
  show k_W _ _ _ _ _ _ _ _ _ []
  refine r_aload_n C dX10_next_8 (rfl : 8 + 1 = 9) rfl ?_
  refine r_getR (q := 58) C dX10_next_9 (rfl : 9 + 3 = 12) fl_X10_85 rfl rfl ?_
  refine r_iload_n C dX10_next_12 (rfl : 12 + 1 = 13) rfl ?_
  refine r_iconst (v := (1 : Int32)) C dX10_next_13 (rfl : 13 + 1 = 14) rfl ?_
  refine r_icmp_ne (tgt := 21) C dX10_next_14 (by decide) (rfl : 14 + 3 = 17) (fun c14 => ?_) (fun c14 => ?_)
  · have h := k_f c14 h
    refine r_iconst (v := (0 : Int32)) C dX10_next_21 (rfl : 21 + 1 = 22) rfl ?_
    refine k_mask [false, false] ?_
    exact sX10_next_22 u C hr hR hx hRc hRs hT hsm ec3_0 ec3_1 ea4 ea59 r5.2 (0 : Int32) h
  · have h := k_t c14 h
    refine r_iconst (v := (1 : Int32)) C dX10_next_17 (rfl : 17 + 1 = 18) rfl ?_
    refine r_goto (tgt := 22) C dX10_next_18 (by decide) ?_
    refine k_mask [false, false] ?_
    exact sX10_next_22 u C hr hR hx hRc hRs hT hsm ec3_0 ec3_1 ea4 ea59 r5.2 (1 : Int32) h
set_option maxHeartbeats 1000000 in
set_option maxRecDepth 100000 in
theorem c_X10_next (l : Launch) (u : Nat) (hT : l.stackTraces = false) (h : k_H) {rest : List k_Sh} (hsh : h.1 = shX ++ rest) {c3_0 : Int32} (ec3_0 : h.2.1 3 0 = c3_0) {c3_1 : Int32} (ec3_1 : h.2.1 3 1 = c3_1) {a4 : (Nat → Int32)} (ea4 : h.2.1 4 = a4) {a59 : (Nat → Int32)} (ea59 : h.2.1 59 = a59) {a69 : (Nat → Int32)} (ea69 : h.2.1 69 = a69) {x0 : Int32} {out : Int32 × Int32 × (Nat → Int32)} (hf : f_X10_next u c3_0 c3_1 a4 a59 a69 x0 = some out) : k_CX l yX10_next cX10_next 2 (some .int) 7 114 1 6 [.ref 0, .int x0] h (k_R1 out.1 (some (.int out.2.1)) (k_ap [(69, .inr (.inr (.inl out.2.2)))] h)) (k_R2 out.1 (k_ap [(69, .inr (.inr (.inl out.2.2)))] h)) := by
  obtain ⟨sh, I, L, Rf⟩ := h
  try dsimp only
  obtain rfl : sh = shX ++ rest := hsh
  refine k_ofWX (by decide) (Nat.le_of_ble_eq_true rfl) ?_
  intro X ad hl hR0 hr C hx
  have hR : X.R.frames = 7 ∧ X.R.locals = 114 := by rw [hR0]; exact ⟨rfl, rfl⟩
  have hRc : X.R.cells = 1 := by rw [hR0]
  have hRs : X.R.slots = 6 := by rw [hR0]
  have hT : X.l.stackTraces = false := by rw [hl]; exact hT
  have hsm := k_sm_rf (shX ++ rest).length ad
  have h := hf
  unfold f_X10_next at h
  refine k_start (us := [(69, .inr (.inr (.inl a69)))]) (k_ao_A ea69 k_ap_0) ?_
  show k_W X 2 0 0 (k_QX X ad (shX ++ rest).length (k_R1 out.1 (some (.int out.2.1)) (k_ap [(69, .inr (.inr (.inl out.2.2)))] ((shX ++ rest), I, L, Rf))) (k_R2 out.1 (k_ap [(69, .inr (.inr (.inl out.2.2)))] ((shX ++ rest), I, L, Rf))) 1 6) ad (k_ap [(69, .inr (.inr (.inl a69)))] ((shX ++ rest), I, L, Rf)) 0 [some (.ref 0), some (.int x0)] []
  refine k_mask [true, true] ?_
  exact sX10_next_0 u C hr hR hx hRc hRs hT hsm ec3_0 ec3_1 ea4 ea59 a69 x0 h
/-! LullabyPit.canon(III)I -/
theorem ds_X10_canon : k_ds [(69, 2, 0)] = true := by decide +kernel
set_option maxHeartbeats 1000000 in
set_option maxRecDepth 100000 in
theorem sX10_canon_48 (u : Nat) {X : k_X} {ad0 ad : Nat → Nat} {rest : List k_Sh} (C : k_C X cX10_canon RX10 4 ad) (hr : X.meth.sig.returnType = (some .int)) (hR : X.R.frames = 7 ∧ X.R.locals = 111) (hx : ∀ x ∈ X.c.exceptionTable.toList, False) (hRc : X.R.cells = 1) (hRs : X.R.slots = 6) (hT : X.l.stackTraces = false) (hsm : k_sm (shX ++ rest).length ad0 ad) {I : Nat → Nat → Int32} {L : Nat → Nat → Int64} {Rf : Nat → Nat → Option Nat} {c3_0 : Int32} (ec3_0 : I 3 0 = c3_0) {c3_1 : Int32} (ec3_1 : I 3 1 = c3_1) {a4 : (Nat → Int32)} (ea4 : I 4 = a4) {out : Int32 × Int32 × (Nat → Int32)} : ∀ (a69 : (Nat → Int32)) (w0 : Int32) (w1 : Int32) (w2 : Int32), bX10_canon_48 u c3_0 c3_1 a4 a69 w0 w1 w2 = some out → k_W X 4 1 6 (k_QX X ad0 (shX ++ rest).length (k_R1 out.1 (some (.int out.2.1)) (k_ap [(69, .inr (.inr (.inl out.2.2)))] ((shX ++ rest), I, L, Rf))) (k_R2 out.1 (k_ap [(69, .inr (.inr (.inl out.2.2)))] ((shX ++ rest), I, L, Rf))) 1 6) ad (k_ap [(69, .inr (.inr (.inl a69)))] ((shX ++ rest), I, L, Rf)) 48 [none, none, none, none] [.int w0, .int w1, .int w2, .ref 58] := by
  intro a69 w0 w1 w2 h
  unfold bX10_canon_48 at h
  obtain ⟨r48, q48, h⟩ := k_b_of h
  refine d_Vp (pi := [58, 59, 60, 3, 4, 5, 6, 7, 8, 9]) (shl := shTaps) (bl := 0) (As := [.int w2, .int w1, .int w0]) (Al := [.int w2, .int w1, .int w0]) (st := []) (st' := [.int r48]) (h' := k_ap [(69, .inr (.inr (.inl a69)))] ((shX ++ rest), I, L, Rf)) C hR (k_csl hRc hRs rfl rfl) mv_X9_canonOf lk_X10_328 dX10_canon_48 (rfl : 48 + 3 = 51) rfl rfl ck_shX_shTaps_58_5 rfl rfl (c_X9_canonOf X.l u (k_pl [58, 59, 60, 3, 4, 5, 6, 7, 8, 9] shTaps (k_ap [(69, .inr (.inr (.inl a69)))] ((shX ++ rest), I, L, Rf))) rfl ec3_1 ea4 q48) rfl (fun _ => rfl) rfl (fun _ => rfl) rfl rfl rfl rfl rfl ?_
  cases h
  exact x_of_g (g_iret C hr (Nat.le_of_ble_eq_true rfl) (Nat.le_of_ble_eq_true rfl) ⟨rfl, rfl, rfl⟩ hsm dX10_canon_51)
set_option maxHeartbeats 1000000 in
set_option maxRecDepth 100000 in
theorem sX10_canon_29 (u : Nat) {X : k_X} {ad0 ad : Nat → Nat} {rest : List k_Sh} (C : k_C X cX10_canon RX10 4 ad) (hr : X.meth.sig.returnType = (some .int)) (hR : X.R.frames = 7 ∧ X.R.locals = 111) (hx : ∀ x ∈ X.c.exceptionTable.toList, False) (hRc : X.R.cells = 1) (hRs : X.R.slots = 6) (hT : X.l.stackTraces = false) (hsm : k_sm (shX ++ rest).length ad0 ad) {I : Nat → Nat → Int32} {L : Nat → Nat → Int64} {Rf : Nat → Nat → Option Nat} {c3_0 : Int32} (ec3_0 : I 3 0 = c3_0) {c3_1 : Int32} (ec3_1 : I 3 1 = c3_1) {a4 : (Nat → Int32)} (ea4 : I 4 = a4) {out : Int32 × Int32 × (Nat → Int32)} : ∀ (a69 : (Nat → Int32)) (v1 : Int32) (v2 : Int32) (v3 : Int32) (w0 : Int32), bX10_canon_29 u c3_0 c3_1 a4 a69 v1 v2 v3 w0 = some out → k_W X 4 0 0 (k_QX X ad0 (shX ++ rest).length (k_R1 out.1 (some (.int out.2.1)) (k_ap [(69, .inr (.inr (.inl out.2.2)))] ((shX ++ rest), I, L, Rf))) (k_R2 out.1 (k_ap [(69, .inr (.inr (.inl out.2.2)))] ((shX ++ rest), I, L, Rf))) 1 6) ad (k_ap [(69, .inr (.inr (.inl a69)))] ((shX ++ rest), I, L, Rf)) 29 [some (.ref 0), some (.int v1), some (.int v2), some (.int v3)] [.int w0, .ref 0] := by
  intro a69 v1 v2 v3 w0 h
  unfold bX10_canon_29 at h
  obtain ⟨r29, q29, h⟩ := k_b_of h
  refine c_VX (As := [.int w0]) (st := []) C hR (k_csl hRc hRs rfl rfl) mv_X10_need (k_me (tm3 (List.mem_of_getElem? (i := 141) rfl)) rfl) dX10_canon_29 (rfl : 29 + 3 = 32) rfl rfl (k_gS rfl) rfl (c_X10_need X.l u hT (k_ap [(69, .inr (.inr (.inl a69)))] ((shX ++ rest), I, L, Rf)) (k_gH rfl) rfl q29) rfl rfl rfl ⟨(k_ox 0 rfl), True.intro, True.intro, True.intro, True.intro⟩ True.intro ?_ ?_
  · rintro E ad1 h1 ⟨hk0, rfl, rfl⟩ hsm1 C1
    have h := k_f hk0 h
    cases h
    exact x_out C1 hx (Nat.le_of_ble_eq_true rfl) (Nat.le_of_ble_eq_true rfl) ⟨hk0, rfl, (k_jn (us' := [(69, .inr (.inr (.inl r29.2)))]) ds_X10_canon rfl rfl rfl)⟩ (k_sm_tr hsm hsm1 (Nat.le_of_eq (by rw [k_ap_sh])))
  rintro v ad29 h1 ⟨hk0, rfl, rfl⟩ hsm1 C
  have h := k_t hk0 h
  have hsm := k_sm_tr hsm hsm1 (Nat.le_of_eq (by rw [k_ap_sh]))
  refine k_eqh (k_jn (us' := [(69, .inr (.inr (.inl r29.2)))]) ds_X10_canon rfl rfl rfl) ?_
  show k_W _ _ _ _ _ _ _ _ _ []
  refine r_aload_n C dX10_canon_32 (rfl : 32 + 1 = 33) rfl ?_
  refine r_getR (q := 58) C dX10_canon_33 (rfl : 33 + 3 = 36) fl_X10_85 rfl rfl ?_
  refine r_iload_n C dX10_canon_36 (rfl : 36 + 1 = 37) rfl ?_
  refine r_iload_n C dX10_canon_37 (rfl : 37 + 1 = 38) rfl ?_
  refine r_iload_n C dX10_canon_38 (rfl : 38 + 1 = 39) rfl ?_
  refine r_iconst (v := (1 : Int32)) C dX10_canon_39 (rfl : 39 + 1 = 40) rfl ?_
  refine r_icmp_ne (tgt := 47) C dX10_canon_40 (by decide) (rfl : 40 + 3 = 43) (fun c40 => ?_) (fun c40 => ?_)
  · have h := k_f c40 h
    refine r_iconst (v := (0 : Int32)) C dX10_canon_47 (rfl : 47 + 1 = 48) rfl ?_
    refine k_mask [false, false, false, false] ?_
    exact sX10_canon_48 u C hr hR hx hRc hRs hT hsm ec3_0 ec3_1 ea4 r29.2 (0 : Int32) v2 v1 h
  · have h := k_t c40 h
    refine r_iconst (v := (1 : Int32)) C dX10_canon_43 (rfl : 43 + 1 = 44) rfl ?_
    refine r_goto (tgt := 48) C dX10_canon_44 (by decide) ?_
    refine k_mask [false, false, false, false] ?_
    exact sX10_canon_48 u C hr hR hx hRc hRs hT hsm ec3_0 ec3_1 ea4 r29.2 (1 : Int32) v2 v1 h
set_option maxHeartbeats 1000000 in
set_option maxRecDepth 100000 in
theorem sX10_canon_28 (u : Nat) {X : k_X} {ad0 ad : Nat → Nat} {rest : List k_Sh} (C : k_C X cX10_canon RX10 4 ad) (hr : X.meth.sig.returnType = (some .int)) (hR : X.R.frames = 7 ∧ X.R.locals = 111) (hx : ∀ x ∈ X.c.exceptionTable.toList, False) (hRc : X.R.cells = 1) (hRs : X.R.slots = 6) (hT : X.l.stackTraces = false) (hsm : k_sm (shX ++ rest).length ad0 ad) {I : Nat → Nat → Int32} {L : Nat → Nat → Int64} {Rf : Nat → Nat → Option Nat} {c3_0 : Int32} (ec3_0 : I 3 0 = c3_0) {c3_1 : Int32} (ec3_1 : I 3 1 = c3_1) {a4 : (Nat → Int32)} (ea4 : I 4 = a4) {out : Int32 × Int32 × (Nat → Int32)} : ∀ (a69 : (Nat → Int32)) (v1 : Int32) (v2 : Int32) (v3 : Int32), bX10_canon_28 u c3_0 c3_1 a4 a69 v1 v2 v3 = some out → k_W X 4 0 0 (k_QX X ad0 (shX ++ rest).length (k_R1 out.1 (some (.int out.2.1)) (k_ap [(69, .inr (.inr (.inl out.2.2)))] ((shX ++ rest), I, L, Rf))) (k_R2 out.1 (k_ap [(69, .inr (.inr (.inl out.2.2)))] ((shX ++ rest), I, L, Rf))) 1 6) ad (k_ap [(69, .inr (.inr (.inl a69)))] ((shX ++ rest), I, L, Rf)) 28 [some (.ref 0), some (.int v1), some (.int v2), some (.int v3)] [.ref 0] := by
  intro a69 v1 v2 v3 h
  unfold bX10_canon_28 at h
  refine r_iconst (v := (0 : Int32)) C dX10_canon_28 (rfl : 28 + 1 = 29) rfl ?_
  refine k_mask [true, true, true, true] ?_
  exact sX10_canon_29 u C hr hR hx hRc hRs hT hsm ec3_0 ec3_1 ea4 a69 v1 v2 v3 (0 : Int32) h
set_option maxHeartbeats 1000000 in
set_option maxRecDepth 100000 in
theorem sX10_canon_0 (u : Nat) {X : k_X} {ad0 ad : Nat → Nat} {rest : List k_Sh} (C : k_C X cX10_canon RX10 4 ad) (hr : X.meth.sig.returnType = (some .int)) (hR : X.R.frames = 7 ∧ X.R.locals = 111) (hx : ∀ x ∈ X.c.exceptionTable.toList, False) (hRc : X.R.cells = 1) (hRs : X.R.slots = 6) (hT : X.l.stackTraces = false) (hsm : k_sm (shX ++ rest).length ad0 ad) {I : Nat → Nat → Int32} {L : Nat → Nat → Int64} {Rf : Nat → Nat → Option Nat} {c3_0 : Int32} (ec3_0 : I 3 0 = c3_0) {c3_1 : Int32} (ec3_1 : I 3 1 = c3_1) {a4 : (Nat → Int32)} (ea4 : I 4 = a4) {out : Int32 × Int32 × (Nat → Int32)} : ∀ (a69 : (Nat → Int32)) (v1 : Int32) (v2 : Int32) (v3 : Int32), bX10_canon_0 u c3_0 c3_1 a4 a69 v1 v2 v3 = some out → k_W X 4 0 0 (k_QX X ad0 (shX ++ rest).length (k_R1 out.1 (some (.int out.2.1)) (k_ap [(69, .inr (.inr (.inl out.2.2)))] ((shX ++ rest), I, L, Rf))) (k_R2 out.1 (k_ap [(69, .inr (.inr (.inl out.2.2)))] ((shX ++ rest), I, L, Rf))) 1 6) ad (k_ap [(69, .inr (.inr (.inl a69)))] ((shX ++ rest), I, L, Rf)) 0 [some (.ref 0), some (.int v1), some (.int v2), some (.int v3)] [] := by
  intro a69 v1 v2 v3 h
  unfold bX10_canon_0 at h
  refine r_aload_n C dX10_canon_0 (rfl : 0 + 1 = 1) rfl ?_
  refine r_aload_n C dX10_canon_1 (rfl : 1 + 1 = 2) rfl ?_
  refine r_iload_n C dX10_canon_2 (rfl : 2 + 1 = 3) rfl ?_
  obtain ⟨r3, q3, h⟩ := k_b_of h
  refine d_V (As := [.int v1]) (st := [.ref 0]) (st' := [.int r3, .ref 0]) (h' := k_ap [(69, .inr (.inr (.inl a69)))] ((shX ++ rest), I, L, Rf)) C hR (k_csl hRc hRs rfl rfl) mv_X10_isColumn lk_X10_315 dX10_canon_3 (rfl : 3 + 3 = 6) rfl rfl rfl rfl (c_X10_isColumn X.l u (k_ap [(69, .inr (.inr (.inl a69)))] ((shX ++ rest), I, L, Rf)) rfl ec3_0 q3) rfl rfl rfl rfl rfl ?_
  refine r_if_eq (tgt := 28) C dX10_canon_6 (by decide) (rfl : 6 + 3 = 9) (fun c6 => ?_) (fun c6 => ?_)
  · have h := k_t c6 h
    refine k_mask [true, true, true, true] ?_
    exact sX10_canon_28 u C hr hR hx hRc hRs hT hsm ec3_0 ec3_1 ea4 a69 v1 v2 v3 h
  · have h := k_f c6 h
    refine r_aload_n C dX10_canon_9 (rfl : 9 + 1 = 10) rfl ?_
    refine r_iload_n C dX10_canon_10 (rfl : 10 + 1 = 11) rfl ?_
    obtain ⟨r11, q11, h⟩ := k_b_of h
    refine d_V (As := [.int v2]) (st := [.ref 0]) (st' := [.int r11, .ref 0]) (h' := k_ap [(69, .inr (.inr (.inl a69)))] ((shX ++ rest), I, L, Rf)) C hR (k_csl hRc hRs rfl rfl) mv_X10_isColumn lk_X10_315 dX10_canon_11 (rfl : 11 + 3 = 14) rfl rfl rfl rfl (c_X10_isColumn X.l u (k_ap [(69, .inr (.inr (.inl a69)))] ((shX ++ rest), I, L, Rf)) rfl ec3_0 q11) rfl rfl rfl rfl rfl ?_
    refine r_if_eq (tgt := 28) C dX10_canon_14 (by decide) (rfl : 14 + 3 = 17) (fun c14 => ?_) (fun c14 => ?_)
    · have h := k_t c14 h
      refine k_mask [true, true, true, true] ?_
      exact sX10_canon_28 u C hr hR hx hRc hRs hT hsm ec3_0 ec3_1 ea4 a69 v1 v2 v3 h
    · have h := k_f c14 h
      refine r_iload_n C dX10_canon_17 (rfl : 17 + 1 = 18) rfl ?_
      obtain ⟨r18, q18, h⟩ := k_b_of h
      refine d_S (As := [.int v3]) (st := [.ref 0]) (st' := [.int r18, .ref 0]) (h' := k_ap [(69, .inr (.inr (.inl a69)))] ((shX ++ rest), I, L, Rf)) C hR (k_csl hRc hRs rfl rfl) ms_X10_isEither lk_X10_289 dX10_canon_18 (rfl : 18 + 3 = 21) rfl rfl (c_X10_isEither X.l u (k_ap [(69, .inr (.inr (.inl a69)))] ((shX ++ rest), I, L, Rf))  q18) rfl rfl rfl rfl rfl ?_
      refine r_if_eq (tgt := 28) C dX10_canon_21 (by decide) (rfl : 21 + 3 = 24) (fun c21 => ?_) (fun c21 => ?_)
      · have h := k_t c21 h
        refine k_mask [true, true, true, true] ?_
        exact sX10_canon_28 u C hr hR hx hRc hRs hT hsm ec3_0 ec3_1 ea4 a69 v1 v2 v3 h
      · have h := k_f c21 h
        refine r_iconst (v := (1 : Int32)) C dX10_canon_24 (rfl : 24 + 1 = 25) rfl ?_
        refine r_goto (tgt := 29) C dX10_canon_25 (by decide) ?_
        refine k_mask [true, true, true, true] ?_
        exact sX10_canon_29 u C hr hR hx hRc hRs hT hsm ec3_0 ec3_1 ea4 a69 v1 v2 v3 (1 : Int32) h
set_option maxHeartbeats 1000000 in
set_option maxRecDepth 100000 in
theorem c_X10_canon (l : Launch) (u : Nat) (hT : l.stackTraces = false) (h : k_H) {rest : List k_Sh} (hsh : h.1 = shX ++ rest) {c3_0 : Int32} (ec3_0 : h.2.1 3 0 = c3_0) {c3_1 : Int32} (ec3_1 : h.2.1 3 1 = c3_1) {a4 : (Nat → Int32)} (ea4 : h.2.1 4 = a4) {a69 : (Nat → Int32)} (ea69 : h.2.1 69 = a69) {x0 : Int32} {x1 : Int32} {x2 : Int32} {out : Int32 × Int32 × (Nat → Int32)} (hf : f_X10_canon u c3_0 c3_1 a4 a69 x0 x1 x2 = some out) : k_CX l yX10_canon cX10_canon 4 (some .int) 7 111 1 6 [.ref 0, .int x0, .int x1, .int x2] h (k_R1 out.1 (some (.int out.2.1)) (k_ap [(69, .inr (.inr (.inl out.2.2)))] h)) (k_R2 out.1 (k_ap [(69, .inr (.inr (.inl out.2.2)))] h)) := by
  obtain ⟨sh, I, L, Rf⟩ := h
  try dsimp only
  obtain rfl : sh = shX ++ rest := hsh
  refine k_ofWX (by decide) (Nat.le_of_ble_eq_true rfl) ?_
  intro X ad hl hR0 hr C hx
  have hR : X.R.frames = 7 ∧ X.R.locals = 111 := by rw [hR0]; exact ⟨rfl, rfl⟩
  have hRc : X.R.cells = 1 := by rw [hR0]
  have hRs : X.R.slots = 6 := by rw [hR0]
  have hT : X.l.stackTraces = false := by rw [hl]; exact hT
  have hsm := k_sm_rf (shX ++ rest).length ad
  have h := hf
  unfold f_X10_canon at h
  refine k_start (us := [(69, .inr (.inr (.inl a69)))]) (k_ao_A ea69 k_ap_0) ?_
  show k_W X 4 0 0 (k_QX X ad (shX ++ rest).length (k_R1 out.1 (some (.int out.2.1)) (k_ap [(69, .inr (.inr (.inl out.2.2)))] ((shX ++ rest), I, L, Rf))) (k_R2 out.1 (k_ap [(69, .inr (.inr (.inl out.2.2)))] ((shX ++ rest), I, L, Rf))) 1 6) ad (k_ap [(69, .inr (.inr (.inl a69)))] ((shX ++ rest), I, L, Rf)) 0 [some (.ref 0), some (.int x0), some (.int x1), some (.int x2)] []
  refine k_mask [true, true, true, true] ?_
  exact sX10_canon_0 u C hr hR hx hRc hRs hT hsm ec3_0 ec3_1 ea4 a69 x0 x1 x2 h
