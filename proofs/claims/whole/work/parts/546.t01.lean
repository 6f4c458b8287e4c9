/-! LullabyPit.need(Z)V -/
theorem ds_X10_need : k_ds [(69, 2, 0)] = true := by decide +kernel
set_option maxHeartbeats 1000000 in
set_option maxRecDepth 100000 in
theorem sX10_need_0 (u : Nat) {X : k_X} {ad0 ad : Nat → Nat} {rest : List k_Sh} (C : k_C X cX10_need RX10 2 ad) (hr : X.meth.sig.returnType = none) (hR : X.R.frames = 6 ∧ X.R.locals = 90) (hx : ∀ x ∈ X.c.exceptionTable.toList, False) (hRc : X.R.cells = 1) (hRs : X.R.slots = 6) (hT : X.l.stackTraces = false) (hsm : k_sm (shX ++ rest).length ad0 ad) {I : Nat → Nat → Int32} {L : Nat → Nat → Int64} {Rf : Nat → Nat → Option Nat} {out : Int32 × (Nat → Int32)} : ∀ (a69 : (Nat → Int32)) (v1 : Int32), bX10_need_0 u a69 v1 = some out → k_W X 2 0 0 (k_QX X ad0 (shX ++ rest).length (k_R1 out.1 none (k_ap [(69, .inr (.inr (.inl out.2)))] ((shX ++ rest), I, L, Rf))) (k_R2 out.1 (k_ap [(69, .inr (.inr (.inl out.2)))] ((shX ++ rest), I, L, Rf))) 1 6) ad (k_ap [(69, .inr (.inr (.inl a69)))] ((shX ++ rest), I, L, Rf)) 0 [some (.ref 0), some (.int v1)] [] := by
  intro a69 v1 h
  unfold bX10_need_0 at h
  refine r_iload_n C dX10_need_0 (rfl : 0 + 1 = 1) rfl ?_
  refine r_if_ne (tgt := 25) C dX10_need_1 (by decide) (rfl : 1 + 3 = 4) (fun c1 => ?_) (fun c1 => ?_)
  · have h := k_f c1 h
    cases h
    exact x_of_g (g_vret C hr (Nat.le_of_ble_eq_true rfl) (Nat.le_of_ble_eq_true rfl) ⟨rfl, rfl, rfl⟩ hsm dX10_need_25)
  · have h := k_t c1 h
    refine r_aload_n C dX10_need_4 (rfl : 4 + 1 = 5) rfl ?_
    refine r_getR (q := 69) C dX10_need_5 (rfl : 5 + 3 = 8) fl_X10_105 rfl rfl ?_
    refine r_iconst (v := (2 : Int32)) C dX10_need_8 (rfl : 8 + 1 = 9) rfl ?_
    refine r_dup2 C dX10_need_9 (rfl : 9 + 1 = 10) rfl rfl ?_
    refine a_i (j := 2) (f := a69) C dX10_need_10 (rfl : 10 + 1 = 11) rfl rfl (show ¬ ((2 : Int32) < 0 ∨ 3 ≤ ((2 : Int32)).toNatClampNeg) by decide) rfl ?_
    refine r_iconst (v := (1 : Int32)) C dX10_need_11 (rfl : 11 + 1 = 12) rfl ?_
    refine r_iadd C dX10_need_12 (rfl : 12 + 1 = 13) ?_
    refine s_i (j := 2) (f := a69) (us' := [(69, .inr (.inr (.inl (upd a69 2 ((a69 2) + (1 : Int32))))))]) C dX10_need_13 (rfl : 13 + 1 = 14) rfl rfl (show ¬ ((2 : Int32) < 0 ∨ 3 ≤ ((2 : Int32)).toNatClampNeg) by decide) rfl ds_X10_need rfl rfl rfl ?_
    cases h
    exact x_throwSW (i := 0) (names := k_nms) C hT hx hR (k_csl hRc hRs rfl rfl) rfl (by decide +kernel) (by decide +kernel) (k_me (tm3 (List.mem_of_getElem? (i := 145) rfl)) rfl) (k_me (tm1 (List.mem_of_getElem? (i := 18) rfl)) rfl) t_iae t_iae2 t_iae3 C.2.2.2.2.2.2.2.2.2.2.2.2.2.2.2.2.2.2.2.1 dX10_need_14 dX10_need_17 dX10_need_18 dX10_need_21 dX10_need_24 rfl rfl ⟨(show ¬ ((3 : Int32) = 0) from by decide), rfl, rfl⟩ hsm (Nat.le_of_ble_eq_true rfl) (Nat.le_of_ble_eq_true rfl)
set_option maxHeartbeats 1000000 in
set_option maxRecDepth 100000 in
theorem c_X10_need (l : Launch) (u : Nat) (hT : l.stackTraces = false) (h : k_H) {rest : List k_Sh} (hsh : h.1 = shX ++ rest) {a69 : (Nat → Int32)} (ea69 : h.2.1 69 = a69) {x0 : Int32} {out : Int32 × (Nat → Int32)} (hf : f_X10_need u a69 x0 = some out) : k_CX l yX10_need cX10_need 2 none 6 90 1 6 [.ref 0, .int x0] h (k_R1 out.1 none (k_ap [(69, .inr (.inr (.inl out.2)))] h)) (k_R2 out.1 (k_ap [(69, .inr (.inr (.inl out.2)))] h)) := by
  obtain ⟨sh, I, L, Rf⟩ := h
  try dsimp only
  obtain rfl : sh = shX ++ rest := hsh
  refine k_ofWX (by decide) (Nat.le_of_ble_eq_true rfl) ?_
  intro X ad hl hR0 hr C hx
  have hR : X.R.frames = 6 ∧ X.R.locals = 90 := by rw [hR0]; exact ⟨rfl, rfl⟩
  have hRc : X.R.cells = 1 := by rw [hR0]
  have hRs : X.R.slots = 6 := by rw [hR0]
  have hT : X.l.stackTraces = false := by rw [hl]; exact hT
  have hsm := k_sm_rf (shX ++ rest).length ad
  have h := hf
  unfold f_X10_need at h
  refine k_start (us := [(69, .inr (.inr (.inl a69)))]) (k_ao_A ea69 k_ap_0) ?_
  show k_W X 2 0 0 (k_QX X ad (shX ++ rest).length (k_R1 out.1 none (k_ap [(69, .inr (.inr (.inl out.2)))] ((shX ++ rest), I, L, Rf))) (k_R2 out.1 (k_ap [(69, .inr (.inr (.inl out.2)))] ((shX ++ rest), I, L, Rf))) 1 6) ad (k_ap [(69, .inr (.inr (.inl a69)))] ((shX ++ rest), I, L, Rf)) 0 [some (.ref 0), some (.int x0)] []
  refine k_mask [true, true] ?_
  exact sX10_need_0 u C hr hR hx hRc hRs hT hsm a69 x0 h
/-! LullabyPit.needOrder(I)V -/
theorem ds_X10_needOrder : k_ds [(69, 2, 0)] = true := by decide +kernel
set_option maxHeartbeats 1000000 in
set_option maxRecDepth 100000 in
theorem sX10_needOrder_15 (u : Nat) {X : k_X} {ad0 ad : Nat → Nat} {rest : List k_Sh} (C : k_C X cX10_needOrder RX10 2 ad) (hr : X.meth.sig.returnType = none) (hR : X.R.frames = 6 ∧ X.R.locals = 90) (hx : ∀ x ∈ X.c.exceptionTable.toList, False) (hRc : X.R.cells = 1) (hRs : X.R.slots = 6) (hT : X.l.stackTraces = false) (hsm : k_sm (shX ++ rest).length ad0 ad) {I : Nat → Nat → Int32} {L : Nat → Nat → Int64} {Rf : Nat → Nat → Option Nat} {c3_10 : Int32} (ec3_10 : I 3 10 = c3_10) {out : Int32 × (Nat → Int32)} : ∀ (a69 : (Nat → Int32)), bX10_needOrder_15 u c3_10 a69 = some out → k_W X 2 0 0 (k_QX X ad0 (shX ++ rest).length (k_R1 out.1 none (k_ap [(69, .inr (.inr (.inl out.2)))] ((shX ++ rest), I, L, Rf))) (k_R2 out.1 (k_ap [(69, .inr (.inr (.inl out.2)))] ((shX ++ rest), I, L, Rf))) 1 6) ad (k_ap [(69, .inr (.inr (.inl a69)))] ((shX ++ rest), I, L, Rf)) 15 [some (.ref 0), none] [] := by
  intro a69 h
  unfold bX10_needOrder_15 at h
  refine r_aload_n C dX10_needOrder_15 (rfl : 15 + 1 = 16) rfl ?_
  refine r_getR (q := 69) C dX10_needOrder_16 (rfl : 16 + 3 = 19) fl_X10_105 rfl rfl ?_
  refine r_iconst (v := (1 : Int32)) C dX10_needOrder_19 (rfl : 19 + 1 = 20) rfl ?_
  refine r_dup2 C dX10_needOrder_20 (rfl : 20 + 1 = 21) rfl rfl ?_
  refine a_i (j := 1) (f := a69) C dX10_needOrder_21 (rfl : 21 + 1 = 22) rfl rfl (show ¬ ((1 : Int32) < 0 ∨ 3 ≤ ((1 : Int32)).toNatClampNeg) by decide) rfl ?_
  refine r_iconst (v := (1 : Int32)) C dX10_needOrder_22 (rfl : 22 + 1 = 23) rfl ?_
  refine r_iadd C dX10_needOrder_23 (rfl : 23 + 1 = 24) ?_
  refine s_i (j := 1) (f := a69) (us' := [(69, .inr (.inr (.inl (upd a69 1 ((a69 1) + (1 : Int32))))))]) C dX10_needOrder_24 (rfl : 24 + 1 = 25) rfl rfl (show ¬ ((1 : Int32) < 0 ∨ 3 ≤ ((1 : Int32)).toNatClampNeg) by decide) rfl ds_X10_needOrder rfl rfl rfl ?_
  cases h
  exact x_throwN (i := 6) (Y := "java/lang/RuntimeException") (r := ["java/lang/Exception"]) (ix := 13) (rx := prog_32_method_4_code) C hT hx hR (k_csl hRc hRs rfl rfl) rfl dJN_init_0 dJN_init_1 dJN_init_2 dJN_init_5 (by decide +kernel) (by decide +kernel) (by decide +kernel) (k_me (tm5 (List.mem_of_getElem? (i := 145) rfl)) rfl) (k_me (tm1 (List.mem_of_getElem? (i := 26) rfl)) rfl) t_nse t_nse2 t_nse3 C.2.2.2.2.2.2.2.2.2.2.2.2.2.2.2.2.2.2.2.2.1 dX10_needOrder_25 dX10_needOrder_28 dX10_needOrder_29 dX10_needOrder_32 dX10_needOrder_35 rfl rfl ⟨(show ¬ ((2 : Int32) = 0) from by decide), rfl, rfl⟩ hsm (Nat.le_of_ble_eq_true rfl) (Nat.le_of_ble_eq_true rfl)
set_option maxHeartbeats 1000000 in
set_option maxRecDepth 100000 in
theorem sX10_needOrder_0 (u : Nat) {X : k_X} {ad0 ad : Nat → Nat} {rest : List k_Sh} (C : k_C X cX10_needOrder RX10 2 ad) (hr : X.meth.sig.returnType = none) (hR : X.R.frames = 6 ∧ X.R.locals = 90) (hx : ∀ x ∈ X.c.exceptionTable.toList, False) (hRc : X.R.cells = 1) (hRs : X.R.slots = 6) (hT : X.l.stackTraces = false) (hsm : k_sm (shX ++ rest).length ad0 ad) {I : Nat → Nat → Int32} {L : Nat → Nat → Int64} {Rf : Nat → Nat → Option Nat} {c3_10 : Int32} (ec3_10 : I 3 10 = c3_10) {out : Int32 × (Nat → Int32)} : ∀ (a69 : (Nat → Int32)) (v1 : Int32), bX10_needOrder_0 u c3_10 a69 v1 = some out → k_W X 2 0 0 (k_QX X ad0 (shX ++ rest).length (k_R1 out.1 none (k_ap [(69, .inr (.inr (.inl out.2)))] ((shX ++ rest), I, L, Rf))) (k_R2 out.1 (k_ap [(69, .inr (.inr (.inl out.2)))] ((shX ++ rest), I, L, Rf))) 1 6) ad (k_ap [(69, .inr (.inr (.inl a69)))] ((shX ++ rest), I, L, Rf)) 0 [some (.ref 0), some (.int v1)] [] := by
  intro a69 v1 h
  unfold bX10_needOrder_0 at h
  refine r_iload_n C dX10_needOrder_0 (rfl : 0 + 1 = 1) rfl ?_
  refine r_if_lt (tgt := 15) C dX10_needOrder_1 (by decide) (rfl : 1 + 3 = 4) (fun c1 => ?_) (fun c1 => ?_)
  · have h := k_t c1 h
    refine k_mask [true, false] ?_
    exact sX10_needOrder_15 u C hr hR hx hRc hRs hT hsm ec3_10 a69 h
  · have h := k_f c1 h
    refine r_iload_n C dX10_needOrder_4 (rfl : 4 + 1 = 5) rfl ?_
    refine r_aload_n C dX10_needOrder_5 (rfl : 5 + 1 = 6) rfl ?_
    refine r_getR (q := 3) C dX10_needOrder_6 (rfl : 6 + 3 = 9) fl_X10_19 rfl rfl ?_
    refine r_getI (v := c3_10) C dX10_needOrder_9 (rfl : 9 + 3 = 12) fl_X10_195 rfl rfl ec3_10 ?_
    refine r_icmp_lt (tgt := 36) C dX10_needOrder_12 (by decide) (rfl : 12 + 3 = 15) (fun c12 => ?_) (fun c12 => ?_)
    · have h := k_t c12 h
      cases h
      exact x_of_g (g_vret C hr (Nat.le_of_ble_eq_true rfl) (Nat.le_of_ble_eq_true rfl) ⟨rfl, rfl, rfl⟩ hsm dX10_needOrder_36)
    · have h := k_f c12 h
      refine k_mask [true, false] ?_
      exact sX10_needOrder_15 u C hr hR hx hRc hRs hT hsm ec3_10 a69 h
set_option maxHeartbeats 1000000 in
set_option maxRecDepth 100000 in
theorem c_X10_needOrder (l : Launch) (u : Nat) (hT : l.stackTraces = false) (h : k_H) {rest : List k_Sh} (hsh : h.1 = shX ++ rest) {c3_10 : Int32} (ec3_10 : h.2.1 3 10 = c3_10) {a69 : (Nat → Int32)} (ea69 : h.2.1 69 = a69) {x0 : Int32} {out : Int32 × (Nat → Int32)} (hf : f_X10_needOrder u c3_10 a69 x0 = some out) : k_CX l yX10_needOrder cX10_needOrder 2 none 6 90 1 6 [.ref 0, .int x0] h (k_R1 out.1 none (k_ap [(69, .inr (.inr (.inl out.2)))] h)) (k_R2 out.1 (k_ap [(69, .inr (.inr (.inl out.2)))] h)) := by
  obtain ⟨sh, I, L, Rf⟩ := h
  try dsimp only
  obtain rfl : sh = shX ++ rest := hsh
  refine k_ofWX (by decide) (Nat.le_of_ble_eq_true rfl) ?_
  intro X ad hl hR0 hr C hx
  have hR : X.R.frames = 6 ∧ X.R.locals = 90 := by rw [hR0]; exact ⟨rfl, rfl⟩
  have hRc : X.R.cells = 1 := by rw [hR0]
  have hRs : X.R.slots = 6 := by rw [hR0]
  have hT : X.l.stackTraces = false := by rw [hl]; exact hT
  have hsm := k_sm_rf (shX ++ rest).length ad
  have h := hf
  unfold f_X10_needOrder at h
  refine k_start (us := [(69, .inr (.inr (.inl a69)))]) (k_ao_A ea69 k_ap_0) ?_
  show k_W X 2 0 0 (k_QX X ad (shX ++ rest).length (k_R1 out.1 none (k_ap [(69, .inr (.inr (.inl out.2)))] ((shX ++ rest), I, L, Rf))) (k_R2 out.1 (k_ap [(69, .inr (.inr (.inl out.2)))] ((shX ++ rest), I, L, Rf))) 1 6) ad (k_ap [(69, .inr (.inr (.inl a69)))] ((shX ++ rest), I, L, Rf)) 0 [some (.ref 0), some (.int x0)] []
  refine k_mask [true, true] ?_
  exact sX10_needOrder_0 u C hr hR hx hRc hRs hT hsm ec3_10 a69 x0 h
/-! LullabyPit.cellAt(II)I -/
theorem ds_X10_cellAt : k_ds [(69, 2, 0)] = true := by decide +kernel
set_option maxHeartbeats 1000000 in
set_option maxRecDepth 100000 in
theorem sX10_cellAt_30 (u : Nat) {X : k_X} {ad0 ad : Nat → Nat} {rest : List k_Sh} (C : k_C X cX10_cellAt RX10 3 ad) (hr : X.meth.sig.returnType = (some .int)) (hR : X.R.frames = 6 ∧ X.R.locals = 90) (hx : ∀ x ∈ X.c.exceptionTable.toList, False) (hRc : X.R.cells = 1) (hRs : X.R.slots = 6) (hT : X.l.stackTraces = false) (hsm : k_sm (shX ++ rest).length ad0 ad) {I : Nat → Nat → Int32} {L : Nat → Nat → Int64} {Rf : Nat → Nat → Option Nat} {c3_0 : Int32} (ec3_0 : I 3 0 = c3_0) {c3_1 : Int32} (ec3_1 : I 3 1 = c3_1) {out : Int32 × Int32 × (Nat → Int32)} : ∀ (a69 : (Nat → Int32)), bX10_cellAt_30 u c3_0 c3_1 a69 = some out → k_W X 3 0 0 (k_QX X ad0 (shX ++ rest).length (k_R1 out.1 (some (.int out.2.1)) (k_ap [(69, .inr (.inr (.inl out.2.2)))] ((shX ++ rest), I, L, Rf))) (k_R2 out.1 (k_ap [(69, .inr (.inr (.inl out.2.2)))] ((shX ++ rest), I, L, Rf))) 1 6) ad (k_ap [(69, .inr (.inr (.inl a69)))] ((shX ++ rest), I, L, Rf)) 30 [some (.ref 0), none, none] [] := by
  intro a69 h
  unfold bX10_cellAt_30 at h
  refine r_aload_n C dX10_cellAt_30 (rfl : 30 + 1 = 31) rfl ?_
  refine r_getR (q := 69) C dX10_cellAt_31 (rfl : 31 + 3 = 34) fl_X10_105 rfl rfl ?_
  refine r_iconst (v := (0 : Int32)) C dX10_cellAt_34 (rfl : 34 + 1 = 35) rfl ?_
  refine r_dup2 C dX10_cellAt_35 (rfl : 35 + 1 = 36) rfl rfl ?_
  refine a_i (j := 0) (f := a69) C dX10_cellAt_36 (rfl : 36 + 1 = 37) rfl rfl (show ¬ ((0 : Int32) < 0 ∨ 3 ≤ ((0 : Int32)).toNatClampNeg) by decide) rfl ?_
  refine r_iconst (v := (1 : Int32)) C dX10_cellAt_37 (rfl : 37 + 1 = 38) rfl ?_
  refine r_iadd C dX10_cellAt_38 (rfl : 38 + 1 = 39) ?_
  refine s_i (j := 0) (f := a69) (us' := [(69, .inr (.inr (.inl (upd a69 0 ((a69 0) + (1 : Int32))))))]) C dX10_cellAt_39 (rfl : 39 + 1 = 40) rfl rfl (show ¬ ((0 : Int32) < 0 ∨ 3 ≤ ((0 : Int32)).toNatClampNeg) by decide) rfl ds_X10_cellAt rfl rfl rfl ?_
  cases h
  exact x_throwSW (i := 5) (names := k_nms) C hT hx hR (k_csl hRc hRs rfl rfl) rfl (by decide +kernel) (by decide +kernel) (k_me (tm5 (List.mem_of_getElem? (i := 100) rfl)) rfl) (k_me (tm1 (List.mem_of_getElem? (i := 25) rfl)) rfl) t_ioo t_ioo2 t_ioo3 C.2.2.2.2.2.2.2.2.2.2.2.2.2.2.2.2.2.2.2.2.2.1 dX10_cellAt_40 dX10_cellAt_43 dX10_cellAt_44 dX10_cellAt_47 dX10_cellAt_50 rfl rfl ⟨(show ¬ ((1 : Int32) = 0) from by decide), rfl, rfl⟩ hsm (Nat.le_of_ble_eq_true rfl) (Nat.le_of_ble_eq_true rfl)
set_option maxHeartbeats 1000000 in
set_option maxRecDepth 100000 in
theorem sX10_cellAt_0 (u : Nat) {X : k_X} {ad0 ad : Nat → Nat} {rest : List k_Sh} (C : k_C X cX10_cellAt RX10 3 ad) (hr : X.meth.sig.returnType = (some .int)) (hR : X.R.frames = 6 ∧ X.R.locals = 90) (hx : ∀ x ∈ X.c.exceptionTable.toList, False) (hRc : X.R.cells = 1) (hRs : X.R.slots = 6) (hT : X.l.stackTraces = false) (hsm : k_sm (shX ++ rest).length ad0 ad) {I : Nat → Nat → Int32} {L : Nat → Nat → Int64} {Rf : Nat → Nat → Option Nat} {c3_0 : Int32} (ec3_0 : I 3 0 = c3_0) {c3_1 : Int32} (ec3_1 : I 3 1 = c3_1) {out : Int32 × Int32 × (Nat → Int32)} : ∀ (a69 : (Nat → Int32)) (v1 : Int32) (v2 : Int32), bX10_cellAt_0 u c3_0 c3_1 a69 v1 v2 = some out → k_W X 3 0 0 (k_QX X ad0 (shX ++ rest).length (k_R1 out.1 (some (.int out.2.1)) (k_ap [(69, .inr (.inr (.inl out.2.2)))] ((shX ++ rest), I, L, Rf))) (k_R2 out.1 (k_ap [(69, .inr (.inr (.inl out.2.2)))] ((shX ++ rest), I, L, Rf))) 1 6) ad (k_ap [(69, .inr (.inr (.inl a69)))] ((shX ++ rest), I, L, Rf)) 0 [some (.ref 0), some (.int v1), some (.int v2)] [] := by
  intro a69 v1 v2 h
  unfold bX10_cellAt_0 at h
  refine r_iload_n C dX10_cellAt_0 (rfl : 0 + 1 = 1) rfl ?_
  refine r_if_lt (tgt := 30) C dX10_cellAt_1 (by decide) (rfl : 1 + 3 = 4) (fun c1 => ?_) (fun c1 => ?_)
  · have h := k_t c1 h
    refine k_mask [true, false, false] ?_
    exact sX10_cellAt_30 u C hr hR hx hRc hRs hT hsm ec3_0 ec3_1 a69 h
  · have h := k_f c1 h
    refine r_iload_n C dX10_cellAt_4 (rfl : 4 + 1 = 5) rfl ?_
    refine r_aload_n C dX10_cellAt_5 (rfl : 5 + 1 = 6) rfl ?_
    refine r_getR (q := 3) C dX10_cellAt_6 (rfl : 6 + 3 = 9) fl_X10_19 rfl rfl ?_
    refine r_getI (v := c3_0) C dX10_cellAt_9 (rfl : 9 + 3 = 12) fl_X10_189 rfl rfl ec3_0 ?_
    refine r_icmp_ge (tgt := 30) C dX10_cellAt_12 (by decide) (rfl : 12 + 3 = 15) (fun c12 => ?_) (fun c12 => ?_)
    · have h := k_t c12 h
      refine k_mask [true, false, false] ?_
      exact sX10_cellAt_30 u C hr hR hx hRc hRs hT hsm ec3_0 ec3_1 a69 h
    · have h := k_f c12 h
      refine r_iload_n C dX10_cellAt_15 (rfl : 15 + 1 = 16) rfl ?_
      refine r_if_lt (tgt := 30) C dX10_cellAt_16 (by decide) (rfl : 16 + 3 = 19) (fun c16 => ?_) (fun c16 => ?_)
      · have h := k_t c16 h
        refine k_mask [true, false, false] ?_
        exact sX10_cellAt_30 u C hr hR hx hRc hRs hT hsm ec3_0 ec3_1 a69 h
      · have h := k_f c16 h
        refine r_iload_n C dX10_cellAt_19 (rfl : 19 + 1 = 20) rfl ?_
        refine r_aload_n C dX10_cellAt_20 (rfl : 20 + 1 = 21) rfl ?_
        refine r_getR (q := 3) C dX10_cellAt_21 (rfl : 21 + 3 = 24) fl_X10_19 rfl rfl ?_
        refine r_getI (v := c3_1) C dX10_cellAt_24 (rfl : 24 + 3 = 27) fl_X10_192 rfl rfl ec3_1 ?_
        refine r_icmp_lt (tgt := 51) C dX10_cellAt_27 (by decide) (rfl : 27 + 3 = 30) (fun c27 => ?_) (fun c27 => ?_)
        · have h := k_t c27 h
          refine r_bipush (v := (8 : Int32)) C dX10_cellAt_51 (rfl : 51 + 2 = 53) rfl ?_
          refine r_iload_n C dX10_cellAt_53 (rfl : 53 + 1 = 54) rfl ?_
          refine r_imul C dX10_cellAt_54 (rfl : 54 + 1 = 55) ?_
          refine r_iload_n C dX10_cellAt_55 (rfl : 55 + 1 = 56) rfl ?_
          refine r_iadd C dX10_cellAt_56 (rfl : 56 + 1 = 57) ?_
          cases h
          exact x_of_g (g_iret C hr (Nat.le_of_ble_eq_true rfl) (Nat.le_of_ble_eq_true rfl) ⟨rfl, rfl, rfl⟩ hsm dX10_cellAt_57)
        · have h := k_f c27 h
          refine k_mask [true, false, false] ?_
          exact sX10_cellAt_30 u C hr hR hx hRc hRs hT hsm ec3_0 ec3_1 a69 h
set_option maxHeartbeats 1000000 in
set_option maxRecDepth 100000 in
theorem c_X10_cellAt (l : Launch) (u : Nat) (hT : l.stackTraces = false) (h : k_H) {rest : List k_Sh} (hsh : h.1 = shX ++ rest) {c3_0 : Int32} (ec3_0 : h.2.1 3 0 = c3_0) {c3_1 : Int32} (ec3_1 : h.2.1 3 1 = c3_1) {a69 : (Nat → Int32)} (ea69 : h.2.1 69 = a69) {x0 : Int32} {x1 : Int32} {out : Int32 × Int32 × (Nat → Int32)} (hf : f_X10_cellAt u c3_0 c3_1 a69 x0 x1 = some out) : k_CX l yX10_cellAt cX10_cellAt 3 (some .int) 6 90 1 6 [.ref 0, .int x0, .int x1] h (k_R1 out.1 (some (.int out.2.1)) (k_ap [(69, .inr (.inr (.inl out.2.2)))] h)) (k_R2 out.1 (k_ap [(69, .inr (.inr (.inl out.2.2)))] h)) := by
  obtain ⟨sh, I, L, Rf⟩ := h
  try dsimp only
  obtain rfl : sh = shX ++ rest := hsh
  refine k_ofWX (by decide) (Nat.le_of_ble_eq_true rfl) ?_
  intro X ad hl hR0 hr C hx
  have hR : X.R.frames = 6 ∧ X.R.locals = 90 := by rw [hR0]; exact ⟨rfl, rfl⟩
  have hRc : X.R.cells = 1 := by rw [hR0]
  have hRs : X.R.slots = 6 := by rw [hR0]
  have hT : X.l.stackTraces = false := by rw [hl]; exact hT
  have hsm := k_sm_rf (shX ++ rest).length ad
  have h := hf
  unfold f_X10_cellAt at h
  refine k_start (us := [(69, .inr (.inr (.inl a69)))]) (k_ao_A ea69 k_ap_0) ?_
  show k_W X 3 0 0 (k_QX X ad (shX ++ rest).length (k_R1 out.1 (some (.int out.2.1)) (k_ap [(69, .inr (.inr (.inl out.2.2)))] ((shX ++ rest), I, L, Rf))) (k_R2 out.1 (k_ap [(69, .inr (.inr (.inl out.2.2)))] ((shX ++ rest), I, L, Rf))) 1 6) ad (k_ap [(69, .inr (.inr (.inl a69)))] ((shX ++ rest), I, L, Rf)) 0 [some (.ref 0), some (.int x0), some (.int x1)] []
  refine k_mask [true, true, true] ?_
  exact sX10_cellAt_0 u C hr hR hx hRc hRs hT hsm ec3_0 ec3_1 a69 x0 x1 h
/-! LullabyPit.takeText(II)V -/
theorem ds_X10_takeText : k_ds [(1, 0, 1), (1, 0, 2), (1, 0, 3), (1, 0, 4), (1, 0, 5), (1, 0, 6), (69, 2, 0)] = true := by decide +kernel
set_option maxHeartbeats 1000000 in
set_option maxRecDepth 100000 in
theorem sX10_takeText_26 (u : Nat) {X : k_X} {ad0 ad : Nat → Nat} {rest : List k_Sh} (C : k_C X cX10_takeText RX10 3 ad) (hr : X.meth.sig.returnType = none) (hR : X.R.frames = 7 ∧ X.R.locals = 111) (hx : ∀ x ∈ X.c.exceptionTable.toList, False) (hRc : X.R.cells = 1) (hRs : X.R.slots = 6) (hT : X.l.stackTraces = false) (hsm : k_sm (shX ++ rest).length ad0 ad) {I : Nat → Nat → Int32} {L : Nat → Nat → Int64} {Rf : Nat → Nat → Option Nat} {out : Int32 × Int32 × Int32 × Int32 × Int32 × Int32 × Int32 × (Nat → Int32)} : ∀ (c1_1 : Int32) (c1_2 : Int32) (c1_3 : Int32) (c1_4 : Int32) (c1_5 : Int32) (c1_6 : Int32) (a69 : (Nat → Int32)) (v1 : Int32) (w0 : Int32), bX10_takeText_26 u c1_1 c1_2 c1_3 c1_4 c1_5 c1_6 a69 v1 w0 = some out → k_W X 3 0 0 (k_QX X ad0 (shX ++ rest).length (k_R1 out.1 none (k_ap [(1, .inl (1, out.2.1)), (1, .inl (2, out.2.2.1)), (1, .inl (3, out.2.2.2.1)), (1, .inl (4, out.2.2.2.2.1)), (1, .inl (5, out.2.2.2.2.2.1)), (1, .inl (6, out.2.2.2.2.2.2.1)), (69, .inr (.inr (.inl out.2.2.2.2.2.2.2)))] ((shX ++ rest), I, L, Rf))) (k_R2 out.1 (k_ap [(1, .inl (1, out.2.1)), (1, .inl (2, out.2.2.1)), (1, .inl (3, out.2.2.2.1)), (1, .inl (4, out.2.2.2.2.1)), (1, .inl (5, out.2.2.2.2.2.1)), (1, .inl (6, out.2.2.2.2.2.2.1)), (69, .inr (.inr (.inl out.2.2.2.2.2.2.2)))] ((shX ++ rest), I, L, Rf))) 1 6) ad (k_ap [(1, .inl (1, c1_1)), (1, .inl (2, c1_2)), (1, .inl (3, c1_3)), (1, .inl (4, c1_4)), (1, .inl (5, c1_5)), (1, .inl (6, c1_6)), (69, .inr (.inr (.inl a69)))] ((shX ++ rest), I, L, Rf)) 26 [some (.ref 0), some (.int v1), none] [.int w0, .ref 0] := by
  intro c1_1 c1_2 c1_3 c1_4 c1_5 c1_6 a69 v1 w0 h
  unfold bX10_takeText_26 at h
  obtain ⟨r26, q26, h⟩ := k_b_of h
  refine c_VX (As := [.int w0]) (st := []) C hR (k_csl hRc hRs rfl rfl) mv_X10_need (k_me (tm3 (List.mem_of_getElem? (i := 141) rfl)) rfl) dX10_takeText_26 (rfl : 26 + 3 = 29) rfl rfl (k_gS rfl) rfl (c_X10_need X.l u hT (k_ap [(1, .inl (1, c1_1)), (1, .inl (2, c1_2)), (1, .inl (3, c1_3)), (1, .inl (4, c1_4)), (1, .inl (5, c1_5)), (1, .inl (6, c1_6)), (69, .inr (.inr (.inl a69)))] ((shX ++ rest), I, L, Rf)) (k_gH rfl) rfl q26) rfl rfl rfl ⟨(k_ox 0 rfl), True.intro, True.intro⟩ True.intro ?_ ?_
  · rintro E ad1 h1 ⟨hk0, rfl, rfl⟩ hsm1 C1
    have h := k_f hk0 h
    cases h
    exact x_out C1 hx (Nat.le_of_ble_eq_true rfl) (Nat.le_of_ble_eq_true rfl) ⟨hk0, rfl, (k_jn (us' := [(1, .inl (1, c1_1)), (1, .inl (2, c1_2)), (1, .inl (3, c1_3)), (1, .inl (4, c1_4)), (1, .inl (5, c1_5)), (1, .inl (6, c1_6)), (69, .inr (.inr (.inl r26.2)))]) ds_X10_takeText rfl rfl rfl)⟩ (k_sm_tr hsm hsm1 (Nat.le_of_eq (by rw [k_ap_sh])))
  rintro v ad26 h1 ⟨hk0, rfl, rfl⟩ hsm1 C
  have h := k_t hk0 h
  have hsm := k_sm_tr hsm hsm1 (Nat.le_of_eq (by rw [k_ap_sh]))
  refine k_eqh (k_jn (us' := [(1, .inl (1, c1_1)), (1, .inl (2, c1_2)), (1, .inl (3, c1_3)), (1, .inl (4, c1_4)), (1, .inl (5, c1_5)), (1, .inl (6, c1_6)), (69, .inr (.inr (.inl r26.2)))]) ds_X10_takeText rfl rfl rfl) ?_
  show k_W _ _ _ _ _ _ _ _ _ []
  refine r_aload_n C dX10_takeText_29 (rfl : 29 + 1 = 30) rfl ?_
  refine r_getR (q := 1) C dX10_takeText_30 (rfl : 30 + 3 = 33) fl_X10_10 rfl rfl ?_
  refine r_iload_n C dX10_takeText_33 (rfl : 33 + 1 = 34) rfl ?_
  obtain ⟨r34, q34, h⟩ := k_b_of h
  refine d_Vp (pi := [1, 2]) (shl := shTape) (bl := 0) (As := [.int v1]) (Al := [.int v1]) (st := []) (st' := []) (h' := k_ap [(1, .inl (1, r34.1)), (1, .inl (2, r34.2.1)), (1, .inl (3, r34.2.2.1)), (1, .inl (4, r34.2.2.2.1)), (1, .inl (5, r34.2.2.2.2.1)), (1, .inl (6, r34.2.2.2.2.2)), (69, .inr (.inr (.inl r26.2)))] ((shX ++ rest), I, L, Rf)) C hR (k_csl hRc hRs rfl rfl) mv_X8_begin lk_X10_412 dX10_takeText_34 (rfl : 34 + 3 = 37) rfl rfl ck_shX_shTape_1 rfl rfl (c_X8_begin X.l u (k_pl [1, 2] shTape (k_ap [(1, .inl (1, c1_1)), (1, .inl (2, c1_2)), (1, .inl (3, c1_3)), (1, .inl (4, c1_4)), (1, .inl (5, c1_5)), (1, .inl (6, c1_6)), (69, .inr (.inr (.inl r26.2)))] ((shX ++ rest), I, L, Rf))) rfl rfl rfl rfl rfl rfl rfl q34) rfl (fun _ => rfl) rfl (fun _ => rfl) rfl rfl rfl (k_jn (us' := [(1, .inl (1, r34.1)), (1, .inl (2, r34.2.1)), (1, .inl (3, r34.2.2.1)), (1, .inl (4, r34.2.2.2.1)), (1, .inl (5, r34.2.2.2.2.1)), (1, .inl (6, r34.2.2.2.2.2)), (69, .inr (.inr (.inl r26.2)))]) ds_X10_takeText rfl rfl rfl) rfl ?_
  cases h
  exact x_of_g (g_vret C hr (Nat.le_of_ble_eq_true rfl) (Nat.le_of_ble_eq_true rfl) ⟨rfl, rfl, rfl⟩ hsm dX10_takeText_37)
set_option maxHeartbeats 1000000 in
set_option maxRecDepth 100000 in
theorem sX10_takeText_25 (u : Nat) {X : k_X} {ad0 ad : Nat → Nat} {rest : List k_Sh} (C : k_C X cX10_takeText RX10 3 ad) (hr : X.meth.sig.returnType = none) (hR : X.R.frames = 7 ∧ X.R.locals = 111) (hx : ∀ x ∈ X.c.exceptionTable.toList, False) (hRc : X.R.cells = 1) (hRs : X.R.slots = 6) (hT : X.l.stackTraces = false) (hsm : k_sm (shX ++ rest).length ad0 ad) {I : Nat → Nat → Int32} {L : Nat → Nat → Int64} {Rf : Nat → Nat → Option Nat} {out : Int32 × Int32 × Int32 × Int32 × Int32 × Int32 × Int32 × (Nat → Int32)} : ∀ (c1_1 : Int32) (c1_2 : Int32) (c1_3 : Int32) (c1_4 : Int32) (c1_5 : Int32) (c1_6 : Int32) (a69 : (Nat → Int32)) (v1 : Int32), bX10_takeText_25 u c1_1 c1_2 c1_3 c1_4 c1_5 c1_6 a69 v1 = some out → k_W X 3 0 0 (k_QX X ad0 (shX ++ rest).length (k_R1 out.1 none (k_ap [(1, .inl (1, out.2.1)), (1, .inl (2, out.2.2.1)), (1, .inl (3, out.2.2.2.1)), (1, .inl (4, out.2.2.2.2.1)), (1, .inl (5, out.2.2.2.2.2.1)), (1, .inl (6, out.2.2.2.2.2.2.1)), (69, .inr (.inr (.inl out.2.2.2.2.2.2.2)))] ((shX ++ rest), I, L, Rf))) (k_R2 out.1 (k_ap [(1, .inl (1, out.2.1)), (1, .inl (2, out.2.2.1)), (1, .inl (3, out.2.2.2.1)), (1, .inl (4, out.2.2.2.2.1)), (1, .inl (5, out.2.2.2.2.2.1)), (1, .inl (6, out.2.2.2.2.2.2.1)), (69, .inr (.inr (.inl out.2.2.2.2.2.2.2)))] ((shX ++ rest), I, L, Rf))) 1 6) ad (k_ap [(1, .inl (1, c1_1)), (1, .inl (2, c1_2)), (1, .inl (3, c1_3)), (1, .inl (4, c1_4)), (1, .inl (5, c1_5)), (1, .inl (6, c1_6)), (69, .inr (.inr (.inl a69)))] ((shX ++ rest), I, L, Rf)) 25 [some (.ref 0), some (.int v1), none] [.ref 0] := by
  intro c1_1 c1_2 c1_3 c1_4 c1_5 c1_6 a69 v1 h
  unfold bX10_takeText_25 at h
  refine r_iconst (v := (0 : Int32)) C dX10_takeText_25 (rfl : 25 + 1 = 26) rfl ?_
  refine k_mask [true, true, false] ?_
  exact sX10_takeText_26 u C hr hR hx hRc hRs hT hsm c1_1 c1_2 c1_3 c1_4 c1_5 c1_6 a69 v1 (0 : Int32) h
set_option maxHeartbeats 1000000 in
set_option maxRecDepth 100000 in
theorem sX10_takeText_0 (u : Nat) {X : k_X} {ad0 ad : Nat → Nat} {rest : List k_Sh} (C : k_C X cX10_takeText RX10 3 ad) (hr : X.meth.sig.returnType = none) (hR : X.R.frames = 7 ∧ X.R.locals = 111) (hx : ∀ x ∈ X.c.exceptionTable.toList, False) (hRc : X.R.cells = 1) (hRs : X.R.slots = 6) (hT : X.l.stackTraces = false) (hsm : k_sm (shX ++ rest).length ad0 ad) {I : Nat → Nat → Int32} {L : Nat → Nat → Int64} {Rf : Nat → Nat → Option Nat} {out : Int32 × Int32 × Int32 × Int32 × Int32 × Int32 × Int32 × (Nat → Int32)} : ∀ (c1_1 : Int32) (c1_2 : Int32) (c1_3 : Int32) (c1_4 : Int32) (c1_5 : Int32) (c1_6 : Int32) (a69 : (Nat → Int32)) (v1 : Int32) (v2 : Int32), bX10_takeText_0 u c1_1 c1_2 c1_3 c1_4 c1_5 c1_6 a69 v1 v2 = some out → k_W X 3 0 0 (k_QX X ad0 (shX ++ rest).length (k_R1 out.1 none (k_ap [(1, .inl (1, out.2.1)), (1, .inl (2, out.2.2.1)), (1, .inl (3, out.2.2.2.1)), (1, .inl (4, out.2.2.2.2.1)), (1, .inl (5, out.2.2.2.2.2.1)), (1, .inl (6, out.2.2.2.2.2.2.1)), (69, .inr (.inr (.inl out.2.2.2.2.2.2.2)))] ((shX ++ rest), I, L, Rf))) (k_R2 out.1 (k_ap [(1, .inl (1, out.2.1)), (1, .inl (2, out.2.2.1)), (1, .inl (3, out.2.2.2.1)), (1, .inl (4, out.2.2.2.2.1)), (1, .inl (5, out.2.2.2.2.2.1)), (1, .inl (6, out.2.2.2.2.2.2.1)), (69, .inr (.inr (.inl out.2.2.2.2.2.2.2)))] ((shX ++ rest), I, L, Rf))) 1 6) ad (k_ap [(1, .inl (1, c1_1)), (1, .inl (2, c1_2)), (1, .inl (3, c1_3)), (1, .inl (4, c1_4)), (1, .inl (5, c1_5)), (1, .inl (6, c1_6)), (69, .inr (.inr (.inl a69)))] ((shX ++ rest), I, L, Rf)) 0 [some (.ref 0), some (.int v1), some (.int v2)] [] := by
  intro c1_1 c1_2 c1_3 c1_4 c1_5 c1_6 a69 v1 v2 h
  unfold bX10_takeText_0 at h
  refine r_aload_n C dX10_takeText_0 (rfl : 0 + 1 = 1) rfl ?_
  refine r_iload_n C dX10_takeText_1 (rfl : 1 + 1 = 2) rfl ?_
  refine r_if_lt (tgt := 25) C dX10_takeText_2 (by decide) (rfl : 2 + 3 = 5) (fun c2 => ?_) (fun c2 => ?_)
  · have h := k_t c2 h
    refine k_mask [true, true, false] ?_
    exact sX10_takeText_25 u C hr hR hx hRc hRs hT hsm c1_1 c1_2 c1_3 c1_4 c1_5 c1_6 a69 v1 h
  · have h := k_f c2 h
    refine r_iload_n C dX10_takeText_5 (rfl : 5 + 1 = 6) rfl ?_
    refine r_iload_n C dX10_takeText_6 (rfl : 6 + 1 = 7) rfl ?_
    refine r_icmp_gt (tgt := 25) C dX10_takeText_7 (by decide) (rfl : 7 + 3 = 10) (fun c7 => ?_) (fun c7 => ?_)
    · have h := k_t c7 h
      refine k_mask [true, true, false] ?_
      exact sX10_takeText_25 u C hr hR hx hRc hRs hT hsm c1_1 c1_2 c1_3 c1_4 c1_5 c1_6 a69 v1 h
    · have h := k_f c7 h
      refine r_iload_n C dX10_takeText_10 (rfl : 10 + 1 = 11) rfl ?_
      refine r_aload_n C dX10_takeText_11 (rfl : 11 + 1 = 12) rfl ?_
      refine r_getR (q := 1) C dX10_takeText_12 (rfl : 12 + 3 = 15) fl_X10_10 rfl rfl ?_
      refine r_getI (v := c1_1) C dX10_takeText_15 (rfl : 15 + 3 = 18) fl_X10_109 rfl rfl rfl ?_
      refine r_icmp_gt (tgt := 25) C dX10_takeText_18 (by decide) (rfl : 18 + 3 = 21) (fun c18 => ?_) (fun c18 => ?_)
      · have h := k_t c18 h
        refine k_mask [true, true, false] ?_
        exact sX10_takeText_25 u C hr hR hx hRc hRs hT hsm c1_1 c1_2 c1_3 c1_4 c1_5 c1_6 a69 v1 h
      · have h := k_f c18 h
        refine r_iconst (v := (1 : Int32)) C dX10_takeText_21 (rfl : 21 + 1 = 22) rfl ?_
        refine r_goto (tgt := 26) C dX10_takeText_22 (by decide) ?_
        refine k_mask [true, true, false] ?_
        exact sX10_takeText_26 u C hr hR hx hRc hRs hT hsm c1_1 c1_2 c1_3 c1_4 c1_5 c1_6 a69 v1 (1 : Int32) h
set_option maxHeartbeats 1000000 in
set_option maxRecDepth 100000 in
theorem c_X10_takeText (l : Launch) (u : Nat) (hT : l.stackTraces = false) (h : k_H) {rest : List k_Sh} (hsh : h.1 = shX ++ rest) {c1_1 : Int32} (ec1_1 : h.2.1 1 1 = c1_1) {c1_2 : Int32} (ec1_2 : h.2.1 1 2 = c1_2) {c1_3 : Int32} (ec1_3 : h.2.1 1 3 = c1_3) {c1_4 : Int32} (ec1_4 : h.2.1 1 4 = c1_4) {c1_5 : Int32} (ec1_5 : h.2.1 1 5 = c1_5) {c1_6 : Int32} (ec1_6 : h.2.1 1 6 = c1_6) {a69 : (Nat → Int32)} (ea69 : h.2.1 69 = a69) {x0 : Int32} {x1 : Int32} {out : Int32 × Int32 × Int32 × Int32 × Int32 × Int32 × Int32 × (Nat → Int32)} (hf : f_X10_takeText u c1_1 c1_2 c1_3 c1_4 c1_5 c1_6 a69 x0 x1 = some out) : k_CX l yX10_takeText cX10_takeText 3 none 7 111 1 6 [.ref 0, .int x0, .int x1] h (k_R1 out.1 none (k_ap [(1, .inl (1, out.2.1)), (1, .inl (2, out.2.2.1)), (1, .inl (3, out.2.2.2.1)), (1, .inl (4, out.2.2.2.2.1)), (1, .inl (5, out.2.2.2.2.2.1)), (1, .inl (6, out.2.2.2.2.2.2.1)), (69, .inr (.inr (.inl out.2.2.2.2.2.2.2)))] h)) (k_R2 out.1 (k_ap [(1, .inl (1, out.2.1)), (1, .inl (2, out.2.2.1)), (1, .inl (3, out.2.2.2.1)), (1, .inl (4, out.2.2.2.2.1)), (1, .inl (5, out.2.2.2.2.2.1)), (1, .inl (6, out.2.2.2.2.2.2.1)), (69, .inr (.inr (.inl out.2.2.2.2.2.2.2)))] h)) := by
  obtain ⟨sh, I, L, Rf⟩ := h
  try dsimp only
  obtain rfl : sh = shX ++ rest := hsh
  refine k_ofWX (by decide) (Nat.le_of_ble_eq_true rfl) ?_
  intro X ad hl hR0 hr C hx
  have hR : X.R.frames = 7 ∧ X.R.locals = 111 := by rw [hR0]; exact ⟨rfl, rfl⟩
  have hRc : X.R.cells = 1 := by rw [hR0]
  have hRs : X.R.slots = 6 := by rw [hR0]
  have hT : X.l.stackTraces = false := by rw [hl]; exact hT
  have hsm := k_sm_rf (shX ++ rest).length ad
  have h := hf
  unfold f_X10_takeText at h
  refine k_start (us := [(1, .inl (1, c1_1)), (1, .inl (2, c1_2)), (1, .inl (3, c1_3)), (1, .inl (4, c1_4)), (1, .inl (5, c1_5)), (1, .inl (6, c1_6)), (69, .inr (.inr (.inl a69)))]) (k_ao_I ec1_1 (k_ao_I ec1_2 (k_ao_I ec1_3 (k_ao_I ec1_4 (k_ao_I ec1_5 (k_ao_I ec1_6 (k_ao_A ea69 k_ap_0))))))) ?_
  show k_W X 3 0 0 (k_QX X ad (shX ++ rest).length (k_R1 out.1 none (k_ap [(1, .inl (1, out.2.1)), (1, .inl (2, out.2.2.1)), (1, .inl (3, out.2.2.2.1)), (1, .inl (4, out.2.2.2.2.1)), (1, .inl (5, out.2.2.2.2.2.1)), (1, .inl (6, out.2.2.2.2.2.2.1)), (69, .inr (.inr (.inl out.2.2.2.2.2.2.2)))] ((shX ++ rest), I, L, Rf))) (k_R2 out.1 (k_ap [(1, .inl (1, out.2.1)), (1, .inl (2, out.2.2.1)), (1, .inl (3, out.2.2.2.1)), (1, .inl (4, out.2.2.2.2.1)), (1, .inl (5, out.2.2.2.2.2.1)), (1, .inl (6, out.2.2.2.2.2.2.1)), (69, .inr (.inr (.inl out.2.2.2.2.2.2.2)))] ((shX ++ rest), I, L, Rf))) 1 6) ad (k_ap [(1, .inl (1, c1_1)), (1, .inl (2, c1_2)), (1, .inl (3, c1_3)), (1, .inl (4, c1_4)), (1, .inl (5, c1_5)), (1, .inl (6, c1_6)), (69, .inr (.inr (.inl a69)))] ((shX ++ rest), I, L, Rf)) 0 [some (.ref 0), some (.int x0), some (.int x1)] []
  refine k_mask [true, true, true] ?_
  exact sX10_takeText_0 u C hr hR hx hRc hRs hT hsm c1_1 c1_2 c1_3 c1_4 c1_5 c1_6 a69 x0 x1 h
/-! LullabyPit.told(I)I -/
theorem ds_X10_told : k_ds [(69, 2, 0)] = true := by decide +kernel
set_option maxHeartbeats 1000000 in
set_option maxRecDepth 100000 in
theorem sX10_told_16 (u : Nat) {X : k_X} {ad0 ad : Nat → Nat} {rest : List k_Sh} (C : k_C X cX10_told RX10 2 ad) (hr : X.meth.sig.returnType = (some .int)) (hR : X.R.frames = 7 ∧ X.R.locals = 111) (hx : ∀ x ∈ X.c.exceptionTable.toList, False) (hRc : X.R.cells = 1) (hRs : X.R.slots = 6) (hT : X.l.stackTraces = false) (hsm : k_sm (shX ++ rest).length ad0 ad) {I : Nat → Nat → Int32} {L : Nat → Nat → Int64} {Rf : Nat → Nat → Option Nat} {c0_14 : Int32} (ec0_14 : I 0 14 = c0_14) {c3_0 : Int32} (ec3_0 : I 3 0 = c3_0) {c3_1 : Int32} (ec3_1 : I 3 1 = c3_1) {c3_8 : Int32} (ec3_8 : I 3 8 = c3_8) {c3_10 : Int32} (ec3_10 : I 3 10 = c3_10) {c26_10 : Int32} (ec26_10 : I 26 10 = c26_10) {c26_11 : Int32} (ec26_11 : I 26 11 = c26_11) {c26_12 : Int32} (ec26_12 : I 26 12 = c26_12) {c26_13 : Int32} (ec26_13 : I 26 13 = c26_13) {c26_14 : Int32} (ec26_14 : I 26 14 = c26_14) {c26_15 : Int32} (ec26_15 : I 26 15 = c26_15) {c58_3 : Int32} (ec58_3 : I 58 3 = c58_3) {out : Int32 × Int32 × (Nat → Int32)} : ∀ (a69 : (Nat → Int32)) (v1 : Int32) (w0 : Int32), bX10_told_16 u c0_14 c3_0 c3_1 c3_8 c3_10 c26_10 c26_11 c26_12 c26_13 c26_14 c26_15 c58_3 a69 v1 w0 = some out → k_W X 2 0 0 (k_QX X ad0 (shX ++ rest).length (k_R1 out.1 (some (.int out.2.1)) (k_ap [(69, .inr (.inr (.inl out.2.2)))] ((shX ++ rest), I, L, Rf))) (k_R2 out.1 (k_ap [(69, .inr (.inr (.inl out.2.2)))] ((shX ++ rest), I, L, Rf))) 1 6) ad (k_ap [(69, .inr (.inr (.inl a69)))] ((shX ++ rest), I, L, Rf)) 16 [some (.ref 0), some (.int v1)] [.int w0, .ref 0] := by
  intro a69 v1 w0 h
  unfold bX10_told_16 at h
  obtain ⟨r16, q16, h⟩ := k_b_of h
  refine c_VX (As := [.int w0]) (st := []) C hR (k_csl hRc hRs rfl rfl) mv_X10_need (k_me (tm3 (List.mem_of_getElem? (i := 141) rfl)) rfl) dX10_told_16 (rfl : 16 + 3 = 19) rfl rfl (k_gS rfl) rfl (c_X10_need X.l u hT (k_ap [(69, .inr (.inr (.inl a69)))] ((shX ++ rest), I, L, Rf)) (k_gH rfl) rfl q16) rfl rfl rfl ⟨(k_ox 0 rfl), True.intro, True.intro⟩ True.intro ?_ ?_
  · rintro E ad1 h1 ⟨hk0, rfl, rfl⟩ hsm1 C1
    have h := k_f hk0 h
    cases h
    exact x_out C1 hx (Nat.le_of_ble_eq_true rfl) (Nat.le_of_ble_eq_true rfl) ⟨hk0, rfl, (k_jn (us' := [(69, .inr (.inr (.inl r16.2)))]) ds_X10_told rfl rfl rfl)⟩ (k_sm_tr hsm hsm1 (Nat.le_of_eq (by rw [k_ap_sh])))
  rintro v ad16 h1 ⟨hk0, rfl, rfl⟩ hsm1 C
  have h := k_t hk0 h
  have hsm := k_sm_tr hsm hsm1 (Nat.le_of_eq (by rw [k_ap_sh]))
  refine k_eqh (k_jn (us' := [(69, .inr (.inr (.inl r16.2)))]) ds_X10_told rfl rfl rfl) ?_
  show k_W _ _ _ _ _ _ _ _ _ []
  refine r_iload_n C dX10_told_19 (rfl : 19 + 1 = 20) rfl ?_
  by_cases c20_0 : v1 = (0 : Int32)
  · have h := k_t c20_0 h
    refine r_tabIn (off := 56) (tgt := 76) C dX10_told_20 (by rw [c20_0]; decide) (by rw [c20_0]; decide) (by rw [c20_0]; rfl) (by decide) ?_
    refine r_aload_n C dX10_told_76 (rfl : 76 + 1 = 77) rfl ?_
    refine r_getR (q := 3) C dX10_told_77 (rfl : 77 + 3 = 80) fl_X10_19 rfl rfl ?_
    refine r_getI (v := c3_0) C dX10_told_80 (rfl : 80 + 3 = 83) fl_X10_189 rfl rfl ec3_0 ?_
    cases h
    exact x_of_g (g_iret C hr (Nat.le_of_ble_eq_true rfl) (Nat.le_of_ble_eq_true rfl) ⟨rfl, rfl, rfl⟩ hsm dX10_told_83)
  · have h := k_f c20_0 h
    by_cases c20_1 : v1 = (1 : Int32)
    · have h := k_t c20_1 h
      refine r_tabIn (off := 64) (tgt := 84) C dX10_told_20 (by rw [c20_1]; decide) (by rw [c20_1]; decide) (by rw [c20_1]; rfl) (by decide) ?_
      refine r_aload_n C dX10_told_84 (rfl : 84 + 1 = 85) rfl ?_
      refine r_getR (q := 3) C dX10_told_85 (rfl : 85 + 3 = 88) fl_X10_19 rfl rfl ?_
      refine r_getI (v := c3_1) C dX10_told_88 (rfl : 88 + 3 = 91) fl_X10_192 rfl rfl ec3_1 ?_
      cases h
      exact x_of_g (g_iret C hr (Nat.le_of_ble_eq_true rfl) (Nat.le_of_ble_eq_true rfl) ⟨rfl, rfl, rfl⟩ hsm dX10_told_91)
    · have h := k_f c20_1 h
      by_cases c20_2 : v1 = (2 : Int32)
      · have h := k_t c20_2 h
        refine r_tabIn (off := 72) (tgt := 92) C dX10_told_20 (by rw [c20_2]; decide) (by rw [c20_2]; decide) (by rw [c20_2]; rfl) (by decide) ?_
        refine r_aload_n C dX10_told_92 (rfl : 92 + 1 = 93) rfl ?_
        refine r_getR (q := 3) C dX10_told_93 (rfl : 93 + 3 = 96) fl_X10_19 rfl rfl ?_
        refine r_getI (v := c3_10) C dX10_told_96 (rfl : 96 + 3 = 99) fl_X10_195 rfl rfl ec3_10 ?_
        cases h
        exact x_of_g (g_iret C hr (Nat.le_of_ble_eq_true rfl) (Nat.le_of_ble_eq_true rfl) ⟨rfl, rfl, rfl⟩ hsm dX10_told_99)
      · have h := k_f c20_2 h
        by_cases c20_3 : v1 = (3 : Int32)
        · have h := k_t c20_3 h
          refine r_tabIn (off := 80) (tgt := 100) C dX10_told_20 (by rw [c20_3]; decide) (by rw [c20_3]; decide) (by rw [c20_3]; rfl) (by decide) ?_
          refine r_aload_n C dX10_told_100 (rfl : 100 + 1 = 101) rfl ?_
          refine r_getR (q := 26) C dX10_told_101 (rfl : 101 + 3 = 104) fl_X10_50 rfl rfl ?_
          refine r_getI (v := c26_10) C dX10_told_104 (rfl : 104 + 3 = 107) fl_X10_198 rfl rfl ec26_10 ?_
          cases h
          exact x_of_g (g_iret C hr (Nat.le_of_ble_eq_true rfl) (Nat.le_of_ble_eq_true rfl) ⟨rfl, rfl, rfl⟩ hsm dX10_told_107)
        · have h := k_f c20_3 h
          by_cases c20_4 : v1 = (4 : Int32)
          · have h := k_t c20_4 h
            refine r_tabIn (off := 88) (tgt := 108) C dX10_told_20 (by rw [c20_4]; decide) (by rw [c20_4]; decide) (by rw [c20_4]; rfl) (by decide) ?_
            refine r_aload_n C dX10_told_108 (rfl : 108 + 1 = 109) rfl ?_
            refine r_getR (q := 3) C dX10_told_109 (rfl : 109 + 3 = 112) fl_X10_19 rfl rfl ?_
            refine r_getI (v := c3_8) C dX10_told_112 (rfl : 112 + 3 = 115) fl_X10_201 rfl rfl ec3_8 ?_
            refine r_aload_n C dX10_told_115 (rfl : 115 + 1 = 116) rfl ?_
            refine r_getR (q := 26) C dX10_told_116 (rfl : 116 + 3 = 119) fl_X10_50 rfl rfl ?_
            refine r_getI (v := c26_11) C dX10_told_119 (rfl : 119 + 3 = 122) fl_X10_204 rfl rfl ec26_11 ?_
            refine r_isub C dX10_told_122 (rfl : 122 + 1 = 123) ?_
            cases h
            exact x_of_g (g_iret C hr (Nat.le_of_ble_eq_true rfl) (Nat.le_of_ble_eq_true rfl) ⟨rfl, rfl, rfl⟩ hsm dX10_told_123)
          · have h := k_f c20_4 h
            by_cases c20_5 : v1 = (5 : Int32)
            · have h := k_t c20_5 h
              refine r_tabIn (off := 104) (tgt := 124) C dX10_told_20 (by rw [c20_5]; decide) (by rw [c20_5]; decide) (by rw [c20_5]; rfl) (by decide) ?_
              refine r_aload_n C dX10_told_124 (rfl : 124 + 1 = 125) rfl ?_
              refine r_getR (q := 26) C dX10_told_125 (rfl : 125 + 3 = 128) fl_X10_50 rfl rfl ?_
              refine r_getI (v := c26_12) C dX10_told_128 (rfl : 128 + 3 = 131) fl_X10_207 rfl rfl ec26_12 ?_
              cases h
              exact x_of_g (g_iret C hr (Nat.le_of_ble_eq_true rfl) (Nat.le_of_ble_eq_true rfl) ⟨rfl, rfl, rfl⟩ hsm dX10_told_131)
            · have h := k_f c20_5 h
              by_cases c20_6 : v1 = (6 : Int32)
              · have h := k_t c20_6 h
                refine r_tabIn (off := 112) (tgt := 132) C dX10_told_20 (by rw [c20_6]; decide) (by rw [c20_6]; decide) (by rw [c20_6]; rfl) (by decide) ?_
                refine r_aload_n C dX10_told_132 (rfl : 132 + 1 = 133) rfl ?_
                refine r_getR (q := 26) C dX10_told_133 (rfl : 133 + 3 = 136) fl_X10_50 rfl rfl ?_
                refine r_getI (v := c26_13) C dX10_told_136 (rfl : 136 + 3 = 139) fl_X10_210 rfl rfl ec26_13 ?_
                cases h
                exact x_of_g (g_iret C hr (Nat.le_of_ble_eq_true rfl) (Nat.le_of_ble_eq_true rfl) ⟨rfl, rfl, rfl⟩ hsm dX10_told_139)
              · have h := k_f c20_6 h
                by_cases c20_7 : v1 = (7 : Int32)
                · have h := k_t c20_7 h
                  refine r_tabIn (off := 120) (tgt := 140) C dX10_told_20 (by rw [c20_7]; decide) (by rw [c20_7]; decide) (by rw [c20_7]; rfl) (by decide) ?_
                  refine r_aload_n C dX10_told_140 (rfl : 140 + 1 = 141) rfl ?_
                  refine r_getR (q := 26) C dX10_told_141 (rfl : 141 + 3 = 144) fl_X10_50 rfl rfl ?_
                  refine r_getI (v := c26_14) C dX10_told_144 (rfl : 144 + 3 = 147) fl_X10_213 rfl rfl ec26_14 ?_
                  cases h
                  exact x_of_g (g_iret C hr (Nat.le_of_ble_eq_true rfl) (Nat.le_of_ble_eq_true rfl) ⟨rfl, rfl, rfl⟩ hsm dX10_told_147)
                · have h := k_f c20_7 h
                  by_cases c20_8 : v1 = (8 : Int32)
                  · have h := k_t c20_8 h
                    refine r_tabIn (off := 128) (tgt := 148) C dX10_told_20 (by rw [c20_8]; decide) (by rw [c20_8]; decide) (by rw [c20_8]; rfl) (by decide) ?_
                    refine r_aload_n C dX10_told_148 (rfl : 148 + 1 = 149) rfl ?_
                    refine r_getR (q := 26) C dX10_told_149 (rfl : 149 + 3 = 152) fl_X10_50 rfl rfl ?_
                    refine r_getI (v := c26_15) C dX10_told_152 (rfl : 152 + 3 = 155) fl_X10_216 rfl rfl ec26_15 ?_
                    cases h
                    exact x_of_g (g_iret C hr (Nat.le_of_ble_eq_true rfl) (Nat.le_of_ble_eq_true rfl) ⟨rfl, rfl, rfl⟩ hsm dX10_told_155)
                  · have h := k_f c20_8 h
                    by_cases c20_9 : v1 = (9 : Int32)
                    · have h := k_t c20_9 h
                      refine r_tabIn (off := 136) (tgt := 156) C dX10_told_20 (by rw [c20_9]; decide) (by rw [c20_9]; decide) (by rw [c20_9]; rfl) (by decide) ?_
                      refine r_aload_n C dX10_told_156 (rfl : 156 + 1 = 157) rfl ?_
                      refine r_getI (v := c0_14) C dX10_told_157 (rfl : 157 + 3 = 160) fl_X10_139 rfl rfl ec0_14 ?_
                      cases h
                      exact x_of_g (g_iret C hr (Nat.le_of_ble_eq_true rfl) (Nat.le_of_ble_eq_true rfl) ⟨rfl, rfl, rfl⟩ hsm dX10_told_160)
                    · have h := k_f c20_9 h
                      have hsw : (v1 : Int32).toInt < 0 ∨ 9 < (v1 : Int32).toInt := k_sw [(0 : Int32), (1 : Int32), (2 : Int32), (3 : Int32), (4 : Int32), (5 : Int32), (6 : Int32), (7 : Int32), (8 : Int32), (9 : Int32)] (by decide) (by intro v hv; simp only [List.mem_cons, List.not_mem_nil, or_false] at hv; rcases hv with rfl | rfl | rfl | rfl | rfl | rfl | rfl | rfl | rfl | rfl <;> assumption)
                      refine r_tabOut (tgt := 161) C dX10_told_20 hsw (by decide) ?_
                      refine r_aload_n C dX10_told_161 (rfl : 161 + 1 = 162) rfl ?_
                      refine r_getR (q := 58) C dX10_told_162 (rfl : 162 + 3 = 165) fl_X10_85 rfl rfl ?_
                      refine r_getI (v := c58_3) C dX10_told_165 (rfl : 165 + 3 = 168) fl_X10_177 rfl rfl ec58_3 ?_
                      cases h
                      exact x_of_g (g_iret C hr (Nat.le_of_ble_eq_true rfl) (Nat.le_of_ble_eq_true rfl) ⟨rfl, rfl, rfl⟩ hsm dX10_told_168)
set_option maxHeartbeats 1000000 in
set_option maxRecDepth 100000 in
theorem sX10_told_15 (u : Nat) {X : k_X} {ad0 ad : Nat → Nat} {rest : List k_Sh} (C : k_C X cX10_told RX10 2 ad) (hr : X.meth.sig.returnType = (some .int)) (hR : X.R.frames = 7 ∧ X.R.locals = 111) (hx : ∀ x ∈ X.c.exceptionTable.toList, False) (hRc : X.R.cells = 1) (hRs : X.R.slots = 6) (hT : X.l.stackTraces = false) (hsm : k_sm (shX ++ rest).length ad0 ad) {I : Nat → Nat → Int32} {L : Nat → Nat → Int64} {Rf : Nat → Nat → Option Nat} {c0_14 : Int32} (ec0_14 : I 0 14 = c0_14) {c3_0 : Int32} (ec3_0 : I 3 0 = c3_0) {c3_1 : Int32} (ec3_1 : I 3 1 = c3_1) {c3_8 : Int32} (ec3_8 : I 3 8 = c3_8) {c3_10 : Int32} (ec3_10 : I 3 10 = c3_10) {c26_10 : Int32} (ec26_10 : I 26 10 = c26_10) {c26_11 : Int32} (ec26_11 : I 26 11 = c26_11) {c26_12 : Int32} (ec26_12 : I 26 12 = c26_12) {c26_13 : Int32} (ec26_13 : I 26 13 = c26_13) {c26_14 : Int32} (ec26_14 : I 26 14 = c26_14) {c26_15 : Int32} (ec26_15 : I 26 15 = c26_15) {c58_3 : Int32} (ec58_3 : I 58 3 = c58_3) {out : Int32 × Int32 × (Nat → Int32)} : ∀ (a69 : (Nat → Int32)) (v1 : Int32), bX10_told_15 u c0_14 c3_0 c3_1 c3_8 c3_10 c26_10 c26_11 c26_12 c26_13 c26_14 c26_15 c58_3 a69 v1 = some out → k_W X 2 0 0 (k_QX X ad0 (shX ++ rest).length (k_R1 out.1 (some (.int out.2.1)) (k_ap [(69, .inr (.inr (.inl out.2.2)))] ((shX ++ rest), I, L, Rf))) (k_R2 out.1 (k_ap [(69, .inr (.inr (.inl out.2.2)))] ((shX ++ rest), I, L, Rf))) 1 6) ad (k_ap [(69, .inr (.inr (.inl a69)))] ((shX ++ rest), I, L, Rf)) 15 [some (.ref 0), some (.int v1)] [.ref 0] := by
  intro a69 v1 h
  unfold bX10_told_15 at h
  refine r_iconst (v := (0 : Int32)) C dX10_told_15 (rfl : 15 + 1 = 16) rfl ?_
  refine k_mask [true, true] ?_
  exact sX10_told_16 u C hr hR hx hRc hRs hT hsm ec0_14 ec3_0 ec3_1 ec3_8 ec3_10 ec26_10 ec26_11 ec26_12 ec26_13 ec26_14 ec26_15 ec58_3 a69 v1 (0 : Int32) h
set_option maxHeartbeats 1000000 in
set_option maxRecDepth 100000 in
theorem sX10_told_0 (u : Nat) {X : k_X} {ad0 ad : Nat → Nat} {rest : List k_Sh} (C : k_C X cX10_told RX10 2 ad) (hr : X.meth.sig.returnType = (some .int)) (hR : X.R.frames = 7 ∧ X.R.locals = 111) (hx : ∀ x ∈ X.c.exceptionTable.toList, False) (hRc : X.R.cells = 1) (hRs : X.R.slots = 6) (hT : X.l.stackTraces = false) (hsm : k_sm (shX ++ rest).length ad0 ad) {I : Nat → Nat → Int32} {L : Nat → Nat → Int64} {Rf : Nat → Nat → Option Nat} {c0_14 : Int32} (ec0_14 : I 0 14 = c0_14) {c3_0 : Int32} (ec3_0 : I 3 0 = c3_0) {c3_1 : Int32} (ec3_1 : I 3 1 = c3_1) {c3_8 : Int32} (ec3_8 : I 3 8 = c3_8) {c3_10 : Int32} (ec3_10 : I 3 10 = c3_10) {c26_10 : Int32} (ec26_10 : I 26 10 = c26_10) {c26_11 : Int32} (ec26_11 : I 26 11 = c26_11) {c26_12 : Int32} (ec26_12 : I 26 12 = c26_12) {c26_13 : Int32} (ec26_13 : I 26 13 = c26_13) {c26_14 : Int32} (ec26_14 : I 26 14 = c26_14) {c26_15 : Int32} (ec26_15 : I 26 15 = c26_15) {c58_3 : Int32} (ec58_3 : I 58 3 = c58_3) {out : Int32 × Int32 × (Nat → Int32)} : ∀ (a69 : (Nat → Int32)) (v1 : Int32), bX10_told_0 u c0_14 c3_0 c3_1 c3_8 c3_10 c26_10 c26_11 c26_12 c26_13 c26_14 c26_15 c58_3 a69 v1 = some out → k_W X 2 0 0 (k_QX X ad0 (shX ++ rest).length (k_R1 out.1 (some (.int out.2.1)) (k_ap [(69, .inr (.inr (.inl out.2.2)))] ((shX ++ rest), I, L, Rf))) (k_R2 out.1 (k_ap [(69, .inr (.inr (.inl out.2.2)))] ((shX ++ rest), I, L, Rf))) 1 6) ad (k_ap [(69, .inr (.inr (.inl a69)))] ((shX ++ rest), I, L, Rf)) 0 [some (.ref 0), some (.int v1)] [] := by
  intro a69 v1 h
  unfold bX10_told_0 at h
  refine r_aload_n C dX10_told_0 (rfl : 0 + 1 = 1) rfl ?_
  refine r_iload_n C dX10_told_1 (rfl : 1 + 1 = 2) rfl ?_
  refine r_if_lt (tgt := 15) C dX10_told_2 (by decide) (rfl : 2 + 3 = 5) (fun c2 => ?_) (fun c2 => ?_)
  · have h := k_t c2 h
    refine k_mask [true, true] ?_
    exact sX10_told_15 u C hr hR hx hRc hRs hT hsm ec0_14 ec3_0 ec3_1 ec3_8 ec3_10 ec26_10 ec26_11 ec26_12 ec26_13 ec26_14 ec26_15 ec58_3 a69 v1 h
  · have h := k_f c2 h
    refine r_iload_n C dX10_told_5 (rfl : 5 + 1 = 6) rfl ?_
    refine r_bipush (v := (10 : Int32)) C dX10_told_6 (rfl : 6 + 2 = 8) rfl ?_
    refine r_icmp_gt (tgt := 15) C dX10_told_8 (by decide) (rfl : 8 + 3 = 11) (fun c8 => ?_) (fun c8 => ?_)
    · have h := k_t c8 h
      refine k_mask [true, true] ?_
      exact sX10_told_15 u C hr hR hx hRc hRs hT hsm ec0_14 ec3_0 ec3_1 ec3_8 ec3_10 ec26_10 ec26_11 ec26_12 ec26_13 ec26_14 ec26_15 ec58_3 a69 v1 h
    · have h := k_f c8 h
      refine r_iconst (v := (1 : Int32)) C dX10_told_11 (rfl : 11 + 1 = 12) rfl ?_
      refine r_goto (tgt := 16) C dX10_told_12 (by decide) ?_
      refine k_mask [true, true] ?_
      exact sX10_told_16 u C hr hR hx hRc hRs hT hsm ec0_14 ec3_0 ec3_1 ec3_8 ec3_10 ec26_10 ec26_11 ec26_12 ec26_13 ec26_14 ec26_15 ec58_3 a69 v1 (1 : Int32) h
set_option maxHeartbeats 1000000 in
set_option maxRecDepth 100000 in
theorem c_X10_told (l : Launch) (u : Nat) (hT : l.stackTraces = false) (h : k_H) {rest : List k_Sh} (hsh : h.1 = shX ++ rest) {c0_14 : Int32} (ec0_14 : h.2.1 0 14 = c0_14) {c3_0 : Int32} (ec3_0 : h.2.1 3 0 = c3_0) {c3_1 : Int32} (ec3_1 : h.2.1 3 1 = c3_1) {c3_8 : Int32} (ec3_8 : h.2.1 3 8 = c3_8) {c3_10 : Int32} (ec3_10 : h.2.1 3 10 = c3_10) {c26_10 : Int32} (ec26_10 : h.2.1 26 10 = c26_10) {c26_11 : Int32} (ec26_11 : h.2.1 26 11 = c26_11) {c26_12 : Int32} (ec26_12 : h.2.1 26 12 = c26_12) {c26_13 : Int32} (ec26_13 : h.2.1 26 13 = c26_13) {c26_14 : Int32} (ec26_14 : h.2.1 26 14 = c26_14) {c26_15 : Int32} (ec26_15 : h.2.1 26 15 = c26_15) {c58_3 : Int32} (ec58_3 : h.2.1 58 3 = c58_3) {a69 : (Nat → Int32)} (ea69 : h.2.1 69 = a69) {x0 : Int32} {out : Int32 × Int32 × (Nat → Int32)} (hf : f_X10_told u c0_14 c3_0 c3_1 c3_8 c3_10 c26_10 c26_11 c26_12 c26_13 c26_14 c26_15 c58_3 a69 x0 = some out) : k_CX l yX10_told cX10_told 2 (some .int) 7 111 1 6 [.ref 0, .int x0] h (k_R1 out.1 (some (.int out.2.1)) (k_ap [(69, .inr (.inr (.inl out.2.2)))] h)) (k_R2 out.1 (k_ap [(69, .inr (.inr (.inl out.2.2)))] h)) := by
  obtain ⟨sh, I, L, Rf⟩ := h
  try dsimp only
  obtain rfl : sh = shX ++ rest := hsh
  refine k_ofWX (by decide) (Nat.le_of_ble_eq_true rfl) ?_
  intro X ad hl hR0 hr C hx
  have hR : X.R.frames = 7 ∧ X.R.locals = 111 := by rw [hR0]; exact ⟨rfl, rfl⟩
  have hRc : X.R.cells = 1 := by rw [hR0]
  have hRs : X.R.slots = 6 := by rw [hR0]
  have hT : X.l.stackTraces = false := by rw [hl]; exact hT
  have hsm := k_sm_rf (shX ++ rest).length ad
  have h := hf
  unfold f_X10_told at h
  refine k_start (us := [(69, .inr (.inr (.inl a69)))]) (k_ao_A ea69 k_ap_0) ?_
  show k_W X 2 0 0 (k_QX X ad (shX ++ rest).length (k_R1 out.1 (some (.int out.2.1)) (k_ap [(69, .inr (.inr (.inl out.2.2)))] ((shX ++ rest), I, L, Rf))) (k_R2 out.1 (k_ap [(69, .inr (.inr (.inl out.2.2)))] ((shX ++ rest), I, L, Rf))) 1 6) ad (k_ap [(69, .inr (.inr (.inl a69)))] ((shX ++ rest), I, L, Rf)) 0 [some (.ref 0), some (.int x0)] []
  refine k_mask [true, true] ?_
  exact sX10_told_0 u C hr hR hx hRc hRs hT hsm ec0_14 ec3_0 ec3_1 ec3_8 ec3_10 ec26_10 ec26_11 ec26_12 ec26_13 ec26_14 ec26_15 ec58_3 a69 x0 h
/-! LullabyPit.cell(III)I -/
theorem ds_X10_cell : k_ds [(69, 2, 0)] = true := by decide +kernel
set_option maxHeartbeats 1000000 in
set_option maxRecDepth 100000 in
theorem sX10_cell_23 (u : Nat) {X : k_X} {ad0 ad : Nat → Nat} {rest : List k_Sh} (C : k_C X cX10_cell RX10 5 ad) (hr : X.meth.sig.returnType = (some .int)) (hR : X.R.frames = 7 ∧ X.R.locals = 112) (hx : ∀ x ∈ X.c.exceptionTable.toList, False) (hRc : X.R.cells = 2) (hRs : X.R.slots = 12) (hT : X.l.stackTraces = false) (hsm : k_sm (shX ++ rest).length ad0 ad) {I : Nat → Nat → Int32} {L : Nat → Nat → Int64} {Rf : Nat → Nat → Option Nat} {c3_0 : Int32} (ec3_0 : I 3 0 = c3_0) {c3_1 : Int32} (ec3_1 : I 3 1 = c3_1) {a4 : (Nat → Int32)} (ea4 : I 4 = a4) {a5 : (Nat → Int32)} (ea5 : I 5 = a5) {c26_3 : Int64} (ec26_3 : L 26 3 = c26_3) {c26_4 : Int64} (ec26_4 : L 26 4 = c26_4) {c26_5 : Int64} (ec26_5 : L 26 5 = c26_5) {out : Int32 × Int32 × (Nat → Int32)} : ∀ (a69 : (Nat → Int32)) (v3 : Int32) (v4 : Int32) (w0 : Int32), bX10_cell_23 u c3_0 c3_1 a4 a5 c26_3 c26_4 c26_5 a69 v3 v4 w0 = some out → k_W X 5 1 6 (k_QX X ad0 (shX ++ rest).length (k_R1 out.1 (some (.int out.2.1)) (k_ap [(69, .inr (.inr (.inl out.2.2)))] ((shX ++ rest), I, L, Rf))) (k_R2 out.1 (k_ap [(69, .inr (.inr (.inl out.2.2)))] ((shX ++ rest), I, L, Rf))) 2 12) ad (k_ap [(69, .inr (.inr (.inl a69)))] ((shX ++ rest), I, L, Rf)) 23 [some (.ref 0), none, none, some (.int v3), some (.int v4)] [.int w0, .ref 0] := by
  intro a69 v3 v4 w0 h
  unfold bX10_cell_23 at h
  obtain ⟨r23, q23, h⟩ := k_b_of h
  refine c_VX (As := [.int w0]) (st := []) C hR (k_csl hRc hRs rfl rfl) mv_X10_need (k_me (tm3 (List.mem_of_getElem? (i := 141) rfl)) rfl) dX10_cell_23 (rfl : 23 + 3 = 26) rfl rfl (k_gS rfl) rfl (c_X10_need X.l u hT (k_ap [(69, .inr (.inr (.inl a69)))] ((shX ++ rest), I, L, Rf)) (k_gH rfl) rfl q23) rfl rfl rfl ⟨(k_ox 0 rfl), True.intro, True.intro, True.intro⟩ True.intro ?_ ?_
  · rintro E ad1 h1 ⟨hk0, rfl, rfl⟩ hsm1 C1
    have h := k_f hk0 h
    cases h
    exact x_out C1 hx (Nat.le_of_ble_eq_true rfl) (Nat.le_of_ble_eq_true rfl) ⟨hk0, rfl, (k_jn (us' := [(69, .inr (.inr (.inl r23.2)))]) ds_X10_cell rfl rfl rfl)⟩ (k_sm_tr hsm hsm1 (Nat.le_of_eq (by rw [k_ap_sh])))
  rintro v ad23 h1 ⟨hk0, rfl, rfl⟩ hsm1 C
  have h := k_t hk0 h
  have hsm := k_sm_tr hsm hsm1 (Nat.le_of_eq (by rw [k_ap_sh]))
  refine k_eqh (k_jn (us' := [(69, .inr (.inr (.inl r23.2)))]) ds_X10_cell rfl rfl rfl) ?_
  show k_W _ _ _ _ _ _ _ _ _ []
  refine r_iload_n C dX10_cell_26 (rfl : 26 + 1 = 27) rfl ?_
  by_cases c27_0 : v3 = (0 : Int32)
  · have h := k_t c27_0 h
    refine r_tabIn (off := 25) (tgt := 52) C dX10_cell_27 (by rw [c27_0]; decide) (by rw [c27_0]; decide) (by rw [c27_0]; rfl) (by decide) ?_
    refine r_aload_n C dX10_cell_52 (rfl : 52 + 1 = 53) rfl ?_
    refine r_getR (q := 3) C dX10_cell_53 (rfl : 53 + 3 = 56) fl_X10_19 rfl rfl ?_
    refine r_getR (q := 4) C dX10_cell_56 (rfl : 56 + 3 = 59) fl_X10_223 rfl rfl ?_
    refine r_iload C dX10_cell_59 (rfl : 59 + 2 = 61) rfl ?_
    obtain ⟨hi61, h⟩ := k_i_of h
    refine a_i (j := (v4).toNatClampNeg) (f := a4) C dX10_cell_61 (rfl : 61 + 1 = 62) rfl ea4 hi61 rfl ?_
    cases h
    exact x_of_g (g_iret C hr (Nat.le_of_ble_eq_true rfl) (Nat.le_of_ble_eq_true rfl) ⟨rfl, rfl, rfl⟩ hsm dX10_cell_62)
  · have h := k_f c27_0 h
    by_cases c27_1 : v3 = (1 : Int32)
    · have h := k_t c27_1 h
      refine r_tabIn (off := 36) (tgt := 63) C dX10_cell_27 (by rw [c27_1]; decide) (by rw [c27_1]; decide) (by rw [c27_1]; rfl) (by decide) ?_
      refine r_aload_n C dX10_cell_63 (rfl : 63 + 1 = 64) rfl ?_
      refine r_getR (q := 3) C dX10_cell_64 (rfl : 64 + 3 = 67) fl_X10_19 rfl rfl ?_
      refine r_getR (q := 5) C dX10_cell_67 (rfl : 67 + 3 = 70) fl_X10_226 rfl rfl ?_
      refine r_iload C dX10_cell_70 (rfl : 70 + 2 = 72) rfl ?_
      obtain ⟨hi72, h⟩ := k_i_of h
      refine a_i (j := (v4).toNatClampNeg) (f := a5) C dX10_cell_72 (rfl : 72 + 1 = 73) rfl ea5 hi72 rfl ?_
      cases h
      exact x_of_g (g_iret C hr (Nat.le_of_ble_eq_true rfl) (Nat.le_of_ble_eq_true rfl) ⟨rfl, rfl, rfl⟩ hsm dX10_cell_73)
    · have h := k_f c27_1 h
      by_cases c27_2 : v3 = (2 : Int32)
      · have h := k_t c27_2 h
        refine r_tabIn (off := 47) (tgt := 74) C dX10_cell_27 (by rw [c27_2]; decide) (by rw [c27_2]; decide) (by rw [c27_2]; rfl) (by decide) ?_
        refine r_aload_n C dX10_cell_74 (rfl : 74 + 1 = 75) rfl ?_
        refine r_getR (q := 26) C dX10_cell_75 (rfl : 75 + 3 = 78) fl_X10_50 rfl rfl ?_
        refine r_iload C dX10_cell_78 (rfl : 78 + 2 = 80) rfl ?_
        obtain ⟨r80, q80, h⟩ := k_b_of h
        refine d_Vp (pi := [26, 27, 28, 29, 30, 3, 4, 5, 6, 7, 8, 9, 17, 18, 19, 20, 21, 22]) (shl := shMine) (bl := 0) (As := [.int v4]) (Al := [.int v4]) (st := []) (st' := [.int r80]) (h' := k_ap [(69, .inr (.inr (.inl r23.2)))] ((shX ++ rest), I, L, Rf)) C hR (k_csl hRc hRs rfl rfl) mv_X3_stateOf lk_X10_229 dX10_cell_80 (rfl : 80 + 3 = 83) rfl rfl ck_shX_shMine_26_3 rfl rfl (c_X3_stateOf X.l u (k_pl [26, 27, 28, 29, 30, 3, 4, 5, 6, 7, 8, 9, 17, 18, 19, 20, 21, 22] shMine (k_ap [(69, .inr (.inr (.inl r23.2)))] ((shX ++ rest), I, L, Rf))) rfl ec26_3 ec26_4 ec26_5 q80) rfl (fun _ => rfl) rfl (fun _ => rfl) rfl rfl rfl rfl rfl ?_
        cases h
        exact x_of_g (g_iret C hr (Nat.le_of_ble_eq_true rfl) (Nat.le_of_ble_eq_true rfl) ⟨rfl, rfl, rfl⟩ hsm dX10_cell_83)
      · have h := k_f c27_2 h
        have hsw : (v3 : Int32).toInt < 0 ∨ 2 < (v3 : Int32).toInt := k_sw [(0 : Int32), (1 : Int32), (2 : Int32)] (by decide) (by intro v hv; simp only [List.mem_cons, List.not_mem_nil, or_false] at hv; rcases hv with rfl | rfl | rfl <;> assumption)
        refine r_tabOut (tgt := 84) C dX10_cell_27 hsw (by decide) ?_
        refine r_aload_n C dX10_cell_84 (rfl : 84 + 1 = 85) rfl ?_
        refine r_getR (q := 26) C dX10_cell_85 (rfl : 85 + 3 = 88) fl_X10_50 rfl rfl ?_
        refine r_iload C dX10_cell_88 (rfl : 88 + 2 = 90) rfl ?_
        obtain ⟨r90, q90, h⟩ := k_b_of h
        refine d_Vp (pi := [26, 27, 28, 29, 30, 3, 4, 5, 6, 7, 8, 9, 17, 18, 19, 20, 21, 22]) (shl := shMine) (bl := 0) (As := [.int v4]) (Al := [.int v4]) (st := []) (st' := [.int r90]) (h' := k_ap [(69, .inr (.inr (.inl r23.2)))] ((shX ++ rest), I, L, Rf)) C hR (k_csl hRc hRs rfl rfl) mv_X3_wide lk_X10_233 dX10_cell_90 (rfl : 90 + 3 = 93) rfl rfl ck_shX_shMine_26_3 rfl rfl (c_X3_wide X.l u (k_pl [26, 27, 28, 29, 30, 3, 4, 5, 6, 7, 8, 9, 17, 18, 19, 20, 21, 22] shMine (k_ap [(69, .inr (.inr (.inl r23.2)))] ((shX ++ rest), I, L, Rf))) rfl ec26_3 q90) rfl (fun _ => rfl) rfl (fun _ => rfl) rfl rfl rfl rfl rfl ?_
        cases h
        exact x_of_g (g_iret C hr (Nat.le_of_ble_eq_true rfl) (Nat.le_of_ble_eq_true rfl) ⟨rfl, rfl, rfl⟩ hsm dX10_cell_93)
set_option maxHeartbeats 1000000 in
set_option maxRecDepth 100000 in
theorem sX10_cell_22 (u : Nat) {X : k_X} {ad0 ad : Nat → Nat} {rest : List k_Sh} (C : k_C X cX10_cell RX10 5 ad) (hr : X.meth.sig.returnType = (some .int)) (hR : X.R.frames = 7 ∧ X.R.locals = 112) (hx : ∀ x ∈ X.c.exceptionTable.toList, False) (hRc : X.R.cells = 2) (hRs : X.R.slots = 12) (hT : X.l.stackTraces = false) (hsm : k_sm (shX ++ rest).length ad0 ad) {I : Nat → Nat → Int32} {L : Nat → Nat → Int64} {Rf : Nat → Nat → Option Nat} {c3_0 : Int32} (ec3_0 : I 3 0 = c3_0) {c3_1 : Int32} (ec3_1 : I 3 1 = c3_1) {a4 : (Nat → Int32)} (ea4 : I 4 = a4) {a5 : (Nat → Int32)} (ea5 : I 5 = a5) {c26_3 : Int64} (ec26_3 : L 26 3 = c26_3) {c26_4 : Int64} (ec26_4 : L 26 4 = c26_4) {c26_5 : Int64} (ec26_5 : L 26 5 = c26_5) {out : Int32 × Int32 × (Nat → Int32)} : ∀ (a69 : (Nat → Int32)) (v3 : Int32) (v4 : Int32), bX10_cell_22 u c3_0 c3_1 a4 a5 c26_3 c26_4 c26_5 a69 v3 v4 = some out → k_W X 5 1 6 (k_QX X ad0 (shX ++ rest).length (k_R1 out.1 (some (.int out.2.1)) (k_ap [(69, .inr (.inr (.inl out.2.2)))] ((shX ++ rest), I, L, Rf))) (k_R2 out.1 (k_ap [(69, .inr (.inr (.inl out.2.2)))] ((shX ++ rest), I, L, Rf))) 2 12) ad (k_ap [(69, .inr (.inr (.inl a69)))] ((shX ++ rest), I, L, Rf)) 22 [some (.ref 0), none, none, some (.int v3), some (.int v4)] [.ref 0] := by
  intro a69 v3 v4 h
  unfold bX10_cell_22 at h
  refine r_iconst (v := (0 : Int32)) C dX10_cell_22 (rfl : 22 + 1 = 23) rfl ?_
  refine k_mask [true, false, false, true, true] ?_
  exact sX10_cell_23 u C hr hR hx hRc hRs hT hsm ec3_0 ec3_1 ea4 ea5 ec26_3 ec26_4 ec26_5 a69 v3 v4 (0 : Int32) h
set_option maxHeartbeats 1000000 in
set_option maxRecDepth 100000 in
theorem sX10_cell_0 (u : Nat) {X : k_X} {ad0 ad : Nat → Nat} {rest : List k_Sh} (C : k_C X cX10_cell RX10 5 ad) (hr : X.meth.sig.returnType = (some .int)) (hR : X.R.frames = 7 ∧ X.R.locals = 112) (hx : ∀ x ∈ X.c.exceptionTable.toList, False) (hRc : X.R.cells = 2) (hRs : X.R.slots = 12) (hT : X.l.stackTraces = false) (hsm : k_sm (shX ++ rest).length ad0 ad) {I : Nat → Nat → Int32} {L : Nat → Nat → Int64} {Rf : Nat → Nat → Option Nat} {c3_0 : Int32} (ec3_0 : I 3 0 = c3_0) {c3_1 : Int32} (ec3_1 : I 3 1 = c3_1) {a4 : (Nat → Int32)} (ea4 : I 4 = a4) {a5 : (Nat → Int32)} (ea5 : I 5 = a5) {c26_3 : Int64} (ec26_3 : L 26 3 = c26_3) {c26_4 : Int64} (ec26_4 : L 26 4 = c26_4) {c26_5 : Int64} (ec26_5 : L 26 5 = c26_5) {out : Int32 × Int32 × (Nat → Int32)} : ∀ (a69 : (Nat → Int32)) (v1 : Int32) (v2 : Int32) (v3 : Int32), bX10_cell_0 u c3_0 c3_1 a4 a5 c26_3 c26_4 c26_5 a69 v1 v2 v3 = some out → k_W X 5 0 0 (k_QX X ad0 (shX ++ rest).length (k_R1 out.1 (some (.int out.2.1)) (k_ap [(69, .inr (.inr (.inl out.2.2)))] ((shX ++ rest), I, L, Rf))) (k_R2 out.1 (k_ap [(69, .inr (.inr (.inl out.2.2)))] ((shX ++ rest), I, L, Rf))) 2 12) ad (k_ap [(69, .inr (.inr (.inl a69)))] ((shX ++ rest), I, L, Rf)) 0 [some (.ref 0), some (.int v1), some (.int v2), some (.int v3), none] [] := by
  intro a69 v1 v2 v3 h
  unfold bX10_cell_0 at h
  refine r_aload_n C dX10_cell_0 (rfl : 0 + 1 = 1) rfl ?_
  refine r_iload_n C dX10_cell_1 (rfl : 1 + 1 = 2) rfl ?_
  refine r_iload_n C dX10_cell_2 (rfl : 2 + 1 = 3) rfl ?_
  obtain ⟨r3, q3, h⟩ := k_b_of h
  refine c_VX (As := [.int v1, .int v2]) (st := []) C hR (k_csl hRc hRs rfl rfl) mv_X10_cellAt (k_me (tm5 (List.mem_of_getElem? (i := 96) rfl)) rfl) dX10_cell_3 (rfl : 3 + 3 = 6) rfl rfl (k_gS rfl) rfl (c_X10_cellAt X.l u hT (k_ap [(69, .inr (.inr (.inl a69)))] ((shX ++ rest), I, L, Rf)) (k_gH rfl) ec3_0 ec3_1 rfl q3) rfl rfl rfl ⟨(k_ox 0 rfl), True.intro, True.intro, True.intro, True.intro⟩ True.intro ?_ ?_
  · rintro E ad1 h1 ⟨hk0, rfl, rfl⟩ hsm1 C1
    have h := k_f hk0 h
    cases h
    exact x_out C1 hx (Nat.le_of_ble_eq_true rfl) (Nat.le_of_ble_eq_true rfl) ⟨hk0, rfl, (k_jn (us' := [(69, .inr (.inr (.inl r3.2.2)))]) ds_X10_cell rfl rfl rfl)⟩ (k_sm_tr hsm hsm1 (Nat.le_of_eq (by rw [k_ap_sh])))
  rintro v ad3 h1 ⟨hk0, rfl, rfl⟩ hsm1 C
  have h := k_t hk0 h
  have hsm := k_sm_tr hsm hsm1 (Nat.le_of_eq (by rw [k_ap_sh]))
  refine k_eqh (k_jn (us' := [(69, .inr (.inr (.inl r3.2.2)))]) ds_X10_cell rfl rfl rfl) ?_
  show k_W _ _ _ _ _ _ _ _ _ [.int r3.2.1]
  refine r_istore C dX10_cell_6 (rfl : 6 + 2 = 8) (by decide) (Nat.le_of_ble_eq_true rfl) ?_
  show k_W _ _ _ _ _ _ _ _ [some (.ref 0), some (.int v1), some (.int v2), some (.int v3), some (.int r3.2.1)] _
  refine r_aload_n C dX10_cell_8 (rfl : 8 + 1 = 9) rfl ?_
  refine r_iload_n C dX10_cell_9 (rfl : 9 + 1 = 10) rfl ?_
  refine r_if_lt (tgt := 22) C dX10_cell_10 (by decide) (rfl : 10 + 3 = 13) (fun c10 => ?_) (fun c10 => ?_)
  · have h := k_t c10 h
    refine k_mask [true, false, false, true, true] ?_
    exact sX10_cell_22 u C hr hR hx hRc hRs hT hsm ec3_0 ec3_1 ea4 ea5 ec26_3 ec26_4 ec26_5 r3.2.2 v3 r3.2.1 h
  · have h := k_f c10 h
    refine r_iload_n C dX10_cell_13 (rfl : 13 + 1 = 14) rfl ?_
    refine r_iconst (v := (3 : Int32)) C dX10_cell_14 (rfl : 14 + 1 = 15) rfl ?_
    refine r_icmp_gt (tgt := 22) C dX10_cell_15 (by decide) (rfl : 15 + 3 = 18) (fun c15 => ?_) (fun c15 => ?_)
    · have h := k_t c15 h
      refine k_mask [true, false, false, true, true] ?_
      exact sX10_cell_22 u C hr hR hx hRc hRs hT hsm ec3_0 ec3_1 ea4 ea5 ec26_3 ec26_4 ec26_5 r3.2.2 v3 r3.2.1 h
    · have h := k_f c15 h
      refine r_iconst (v := (1 : Int32)) C dX10_cell_18 (rfl : 18 + 1 = 19) rfl ?_
      refine r_goto (tgt := 23) C dX10_cell_19 (by decide) ?_
      refine k_mask [true, false, false, true, true] ?_
      exact sX10_cell_23 u C hr hR hx hRc hRs hT hsm ec3_0 ec3_1 ea4 ea5 ec26_3 ec26_4 ec26_5 r3.2.2 v3 r3.2.1 (1 : Int32) h
set_option maxHeartbeats 1000000 in
set_option maxRecDepth 100000 in
theorem c_X10_cell (l : Launch) (u : Nat) (hT : l.stackTraces = false) (h : k_H) {rest : List k_Sh} (hsh : h.1 = shX ++ rest) {c3_0 : Int32} (ec3_0 : h.2.1 3 0 = c3_0) {c3_1 : Int32} (ec3_1 : h.2.1 3 1 = c3_1) {a4 : (Nat → Int32)} (ea4 : h.2.1 4 = a4) {a5 : (Nat → Int32)} (ea5 : h.2.1 5 = a5) {c26_3 : Int64} (ec26_3 : h.2.2.1 26 3 = c26_3) {c26_4 : Int64} (ec26_4 : h.2.2.1 26 4 = c26_4) {c26_5 : Int64} (ec26_5 : h.2.2.1 26 5 = c26_5) {a69 : (Nat → Int32)} (ea69 : h.2.1 69 = a69) {x0 : Int32} {x1 : Int32} {x2 : Int32} {out : Int32 × Int32 × (Nat → Int32)} (hf : f_X10_cell u c3_0 c3_1 a4 a5 c26_3 c26_4 c26_5 a69 x0 x1 x2 = some out) : k_CX l yX10_cell cX10_cell 5 (some .int) 7 112 2 12 [.ref 0, .int x0, .int x1, .int x2] h (k_R1 out.1 (some (.int out.2.1)) (k_ap [(69, .inr (.inr (.inl out.2.2)))] h)) (k_R2 out.1 (k_ap [(69, .inr (.inr (.inl out.2.2)))] h)) := by
  obtain ⟨sh, I, L, Rf⟩ := h
  try dsimp only
  obtain rfl : sh = shX ++ rest := hsh
  refine k_ofWX (by decide) (Nat.le_of_ble_eq_true rfl) ?_
  intro X ad hl hR0 hr C hx
  have hR : X.R.frames = 7 ∧ X.R.locals = 112 := by rw [hR0]; exact ⟨rfl, rfl⟩
  have hRc : X.R.cells = 2 := by rw [hR0]
  have hRs : X.R.slots = 12 := by rw [hR0]
  have hT : X.l.stackTraces = false := by rw [hl]; exact hT
  have hsm := k_sm_rf (shX ++ rest).length ad
  have h := hf
  unfold f_X10_cell at h
  refine k_start (us := [(69, .inr (.inr (.inl a69)))]) (k_ao_A ea69 k_ap_0) ?_
  show k_W X 5 0 0 (k_QX X ad (shX ++ rest).length (k_R1 out.1 (some (.int out.2.1)) (k_ap [(69, .inr (.inr (.inl out.2.2)))] ((shX ++ rest), I, L, Rf))) (k_R2 out.1 (k_ap [(69, .inr (.inr (.inl out.2.2)))] ((shX ++ rest), I, L, Rf))) 2 12) ad (k_ap [(69, .inr (.inr (.inl a69)))] ((shX ++ rest), I, L, Rf)) 0 [some (.ref 0), some (.int x0), some (.int x1), some (.int x2), none] []
  refine k_mask [true, true, true, true, false] ?_
  exact sX10_cell_0 u C hr hR hx hRc hRs hT hsm ec3_0 ec3_1 ea4 ea5 ec26_3 ec26_4 ec26_5 a69 x0 x1 x2 h
/-! LullabyPit.kind(II)I -/
theorem ds_X10_kind : k_ds [(69, 2, 0)] = true := by decide +kernel
set_option maxHeartbeats 1000000 in
set_option maxRecDepth 100000 in
theorem sX10_kind_22 (u : Nat) {X : k_X} {ad0 ad : Nat → Nat} {rest : List k_Sh} (C : k_C X cX10_kind RX10 3 ad) (hr : X.meth.sig.returnType = (some .int)) (hR : X.R.frames = 7 ∧ X.R.locals = 111) (hx : ∀ x ∈ X.c.exceptionTable.toList, False) (hRc : X.R.cells = 1) (hRs : X.R.slots = 6) (hT : X.l.stackTraces = false) (hsm : k_sm (shX ++ rest).length ad0 ad) {I : Nat → Nat → Int32} {L : Nat → Nat → Int64} {Rf : Nat → Nat → Option Nat} {a4 : (Nat → Int32)} (ea4 : I 4 = a4) {a5 : (Nat → Int32)} (ea5 : I 5 = a5) {a6 : (Nat → Int32)} (ea6 : I 6 = a6) {c26_3 : Int64} (ec26_3 : L 26 3 = c26_3) {c26_4 : Int64} (ec26_4 : L 26 4 = c26_4) {c26_5 : Int64} (ec26_5 : L 26 5 = c26_5) {a27 : (Nat → Int32)} (ea27 : I 27 = a27) {a28 : (Nat → Int32)} (ea28 : I 28 = a28) {a29 : (Nat → Int32)} (ea29 : I 29 = a29) {out : Int32 × Int32 × (Nat → Int32)} : ∀ (a69 : (Nat → Int32)) (v1 : Int32) (v2 : Int32) (w0 : Int32), bX10_kind_22 u a4 a5 a6 c26_3 c26_4 c26_5 a27 a28 a29 a69 v1 v2 w0 = some out → k_W X 3 0 0 (k_QX X ad0 (shX ++ rest).length (k_R1 out.1 (some (.int out.2.1)) (k_ap [(69, .inr (.inr (.inl out.2.2)))] ((shX ++ rest), I, L, Rf))) (k_R2 out.1 (k_ap [(69, .inr (.inr (.inl out.2.2)))] ((shX ++ rest), I, L, Rf))) 1 6) ad (k_ap [(69, .inr (.inr (.inl a69)))] ((shX ++ rest), I, L, Rf)) 22 [some (.ref 0), some (.int v1), some (.int v2)] [.int w0, .ref 0] := by
  intro a69 v1 v2 w0 h
  unfold bX10_kind_22 at h
  obtain ⟨r22, q22, h⟩ := k_b_of h
  refine c_VX (As := [.int w0]) (st := []) C hR (k_csl hRc hRs rfl rfl) mv_X10_need (k_me (tm3 (List.mem_of_getElem? (i := 141) rfl)) rfl) dX10_kind_22 (rfl : 22 + 3 = 25) rfl rfl (k_gS rfl) rfl (c_X10_need X.l u hT (k_ap [(69, .inr (.inr (.inl a69)))] ((shX ++ rest), I, L, Rf)) (k_gH rfl) rfl q22) rfl rfl rfl ⟨(k_ox 0 rfl), True.intro, True.intro, True.intro⟩ True.intro ?_ ?_
  · rintro E ad1 h1 ⟨hk0, rfl, rfl⟩ hsm1 C1
    have h := k_f hk0 h
    cases h
    exact x_out C1 hx (Nat.le_of_ble_eq_true rfl) (Nat.le_of_ble_eq_true rfl) ⟨hk0, rfl, (k_jn (us' := [(69, .inr (.inr (.inl r22.2)))]) ds_X10_kind rfl rfl rfl)⟩ (k_sm_tr hsm hsm1 (Nat.le_of_eq (by rw [k_ap_sh])))
  rintro v ad22 h1 ⟨hk0, rfl, rfl⟩ hsm1 C
  have h := k_t hk0 h
  have hsm := k_sm_tr hsm hsm1 (Nat.le_of_eq (by rw [k_ap_sh]))
  refine k_eqh (k_jn (us' := [(69, .inr (.inr (.inl r22.2)))]) ds_X10_kind rfl rfl rfl) ?_
  show k_W _ _ _ _ _ _ _ _ _ []
  refine r_iload_n C dX10_kind_25 (rfl : 25 + 1 = 26) rfl ?_
  by_cases c26_0 : v2 = (0 : Int32)
  · have h := k_t c26_0 h
    refine r_tabIn (off := 30) (tgt := 56) C dX10_kind_26 (by rw [c26_0]; decide) (by rw [c26_0]; decide) (by rw [c26_0]; rfl) (by decide) ?_
    refine r_aload_n C dX10_kind_56 (rfl : 56 + 1 = 57) rfl ?_
    refine r_getR (q := 26) C dX10_kind_57 (rfl : 57 + 3 = 60) fl_X10_50 rfl rfl ?_
    refine r_iload_n C dX10_kind_60 (rfl : 60 + 1 = 61) rfl ?_
    obtain ⟨r61, q61, h⟩ := k_b_of h
    refine d_Vp (pi := [26, 27, 28, 29, 30, 3, 4, 5, 6, 7, 8, 9, 17, 18, 19, 20, 21, 22]) (shl := shMine) (bl := 0) (As := [.int v1]) (Al := [.int v1]) (st := []) (st' := [.int r61]) (h' := k_ap [(69, .inr (.inr (.inl r22.2)))] ((shX ++ rest), I, L, Rf)) C hR (k_csl hRc hRs rfl rfl) mv_X3_wholeBars lk_X10_240 dX10_kind_61 (rfl : 61 + 3 = 64) rfl rfl ck_shX_shMine_26_3 rfl rfl (c_X3_wholeBars X.l u (k_pl [26, 27, 28, 29, 30, 3, 4, 5, 6, 7, 8, 9, 17, 18, 19, 20, 21, 22] shMine (k_ap [(69, .inr (.inr (.inl r22.2)))] ((shX ++ rest), I, L, Rf))) rfl ec26_3 ec26_4 ec26_5 ea4 ea5 q61) rfl (fun _ => rfl) rfl (fun _ => rfl) rfl rfl rfl rfl rfl ?_
    cases h
    exact x_of_g (g_iret C hr (Nat.le_of_ble_eq_true rfl) (Nat.le_of_ble_eq_true rfl) ⟨rfl, rfl, rfl⟩ hsm dX10_kind_64)
  · have h := k_f c26_0 h
    by_cases c26_1 : v2 = (1 : Int32)
    · have h := k_t c26_1 h
      refine r_tabIn (off := 39) (tgt := 65) C dX10_kind_26 (by rw [c26_1]; decide) (by rw [c26_1]; decide) (by rw [c26_1]; rfl) (by decide) ?_
      refine r_aload_n C dX10_kind_65 (rfl : 65 + 1 = 66) rfl ?_
      refine r_getR (q := 26) C dX10_kind_66 (rfl : 66 + 3 = 69) fl_X10_50 rfl rfl ?_
      refine r_getR (q := 27) C dX10_kind_69 (rfl : 69 + 3 = 72) fl_X10_243 rfl rfl ?_
      refine r_iload_n C dX10_kind_72 (rfl : 72 + 1 = 73) rfl ?_
      obtain ⟨hi73, h⟩ := k_i_of h
      refine a_i (j := (v1).toNatClampNeg) (f := a27) C dX10_kind_73 (rfl : 73 + 1 = 74) rfl ea27 hi73 rfl ?_
      cases h
      exact x_of_g (g_iret C hr (Nat.le_of_ble_eq_true rfl) (Nat.le_of_ble_eq_true rfl) ⟨rfl, rfl, rfl⟩ hsm dX10_kind_74)
    · have h := k_f c26_1 h
      by_cases c26_2 : v2 = (2 : Int32)
      · have h := k_t c26_2 h
        refine r_tabIn (off := 49) (tgt := 75) C dX10_kind_26 (by rw [c26_2]; decide) (by rw [c26_2]; decide) (by rw [c26_2]; rfl) (by decide) ?_
        refine r_aload_n C dX10_kind_75 (rfl : 75 + 1 = 76) rfl ?_
        refine r_getR (q := 26) C dX10_kind_76 (rfl : 76 + 3 = 79) fl_X10_50 rfl rfl ?_
        refine r_getR (q := 28) C dX10_kind_79 (rfl : 79 + 3 = 82) fl_X10_246 rfl rfl ?_
        refine r_iload_n C dX10_kind_82 (rfl : 82 + 1 = 83) rfl ?_
        obtain ⟨hi83, h⟩ := k_i_of h
        refine a_i (j := (v1).toNatClampNeg) (f := a28) C dX10_kind_83 (rfl : 83 + 1 = 84) rfl ea28 hi83 rfl ?_
        cases h
        exact x_of_g (g_iret C hr (Nat.le_of_ble_eq_true rfl) (Nat.le_of_ble_eq_true rfl) ⟨rfl, rfl, rfl⟩ hsm dX10_kind_84)
      · have h := k_f c26_2 h
        by_cases cc26_3 : v2 = (3 : Int32)
        · have h := k_t cc26_3 h
          refine r_tabIn (off := 59) (tgt := 85) C dX10_kind_26 (by rw [cc26_3]; decide) (by rw [cc26_3]; decide) (by rw [cc26_3]; rfl) (by decide) ?_
          refine r_aload_n C dX10_kind_85 (rfl : 85 + 1 = 86) rfl ?_
          refine r_getR (q := 26) C dX10_kind_86 (rfl : 86 + 3 = 89) fl_X10_50 rfl rfl ?_
          refine r_getR (q := 29) C dX10_kind_89 (rfl : 89 + 3 = 92) fl_X10_249 rfl rfl ?_
          refine r_iload_n C dX10_kind_92 (rfl : 92 + 1 = 93) rfl ?_
          obtain ⟨hi93, h⟩ := k_i_of h
          refine a_i (j := (v1).toNatClampNeg) (f := a29) C dX10_kind_93 (rfl : 93 + 1 = 94) rfl ea29 hi93 rfl ?_
          cases h
          exact x_of_g (g_iret C hr (Nat.le_of_ble_eq_true rfl) (Nat.le_of_ble_eq_true rfl) ⟨rfl, rfl, rfl⟩ hsm dX10_kind_94)
        · have h := k_f cc26_3 h
          have hsw : (v2 : Int32).toInt < 0 ∨ 3 < (v2 : Int32).toInt := k_sw [(0 : Int32), (1 : Int32), (2 : Int32), (3 : Int32)] (by decide) (by intro v hv; simp only [List.mem_cons, List.not_mem_nil, or_false] at hv; rcases hv with rfl | rfl | rfl | rfl <;> assumption)
          refine r_tabOut (tgt := 95) C dX10_kind_26 hsw (by decide) ?_
          refine r_aload_n C dX10_kind_95 (rfl : 95 + 1 = 96) rfl ?_
          refine r_getR (q := 3) C dX10_kind_96 (rfl : 96 + 3 = 99) fl_X10_19 rfl rfl ?_
          refine r_getR (q := 6) C dX10_kind_99 (rfl : 99 + 3 = 102) fl_X10_252 rfl rfl ?_
          refine r_iload_n C dX10_kind_102 (rfl : 102 + 1 = 103) rfl ?_
          obtain ⟨hi103, h⟩ := k_i_of h
          refine a_i (j := (v1).toNatClampNeg) (f := a6) C dX10_kind_103 (rfl : 103 + 1 = 104) rfl ea6 hi103 rfl ?_
          cases h
          exact x_of_g (g_iret C hr (Nat.le_of_ble_eq_true rfl) (Nat.le_of_ble_eq_true rfl) ⟨rfl, rfl, rfl⟩ hsm dX10_kind_104)
set_option maxHeartbeats 1000000 in
set_option maxRecDepth 100000 in
theorem sX10_kind_21 (u : Nat) {X : k_X} {ad0 ad : Nat → Nat} {rest : List k_Sh} (C : k_C X cX10_kind RX10 3 ad) (hr : X.meth.sig.returnType = (some .int)) (hR : X.R.frames = 7 ∧ X.R.locals = 111) (hx : ∀ x ∈ X.c.exceptionTable.toList, False) (hRc : X.R.cells = 1) (hRs : X.R.slots = 6) (hT : X.l.stackTraces = false) (hsm : k_sm (shX ++ rest).length ad0 ad) {I : Nat → Nat → Int32} {L : Nat → Nat → Int64} {Rf : Nat → Nat → Option Nat} {a4 : (Nat → Int32)} (ea4 : I 4 = a4) {a5 : (Nat → Int32)} (ea5 : I 5 = a5) {a6 : (Nat → Int32)} (ea6 : I 6 = a6) {c26_3 : Int64} (ec26_3 : L 26 3 = c26_3) {c26_4 : Int64} (ec26_4 : L 26 4 = c26_4) {c26_5 : Int64} (ec26_5 : L 26 5 = c26_5) {a27 : (Nat → Int32)} (ea27 : I 27 = a27) {a28 : (Nat → Int32)} (ea28 : I 28 = a28) {a29 : (Nat → Int32)} (ea29 : I 29 = a29) {out : Int32 × Int32 × (Nat → Int32)} : ∀ (a69 : (Nat → Int32)) (v1 : Int32) (v2 : Int32), bX10_kind_21 u a4 a5 a6 c26_3 c26_4 c26_5 a27 a28 a29 a69 v1 v2 = some out → k_W X 3 0 0 (k_QX X ad0 (shX ++ rest).length (k_R1 out.1 (some (.int out.2.1)) (k_ap [(69, .inr (.inr (.inl out.2.2)))] ((shX ++ rest), I, L, Rf))) (k_R2 out.1 (k_ap [(69, .inr (.inr (.inl out.2.2)))] ((shX ++ rest), I, L, Rf))) 1 6) ad (k_ap [(69, .inr (.inr (.inl a69)))] ((shX ++ rest), I, L, Rf)) 21 [some (.ref 0), some (.int v1), some (.int v2)] [.ref 0] := by
  intro a69 v1 v2 h
  unfold bX10_kind_21 at h
  refine r_iconst (v := (0 : Int32)) C dX10_kind_21 (rfl : 21 + 1 = 22) rfl ?_
  refine k_mask [true, true, true] ?_
  exact sX10_kind_22 u C hr hR hx hRc hRs hT hsm ea4 ea5 ea6 ec26_3 ec26_4 ec26_5 ea27 ea28 ea29 a69 v1 v2 (0 : Int32) h
set_option maxHeartbeats 1000000 in
set_option maxRecDepth 100000 in
theorem sX10_kind_0 (u : Nat) {X : k_X} {ad0 ad : Nat → Nat} {rest : List k_Sh} (C : k_C X cX10_kind RX10 3 ad) (hr : X.meth.sig.returnType = (some .int)) (hR : X.R.frames = 7 ∧ X.R.locals = 111) (hx : ∀ x ∈ X.c.exceptionTable.toList, False) (hRc : X.R.cells = 1) (hRs : X.R.slots = 6) (hT : X.l.stackTraces = false) (hsm : k_sm (shX ++ rest).length ad0 ad) {I : Nat → Nat → Int32} {L : Nat → Nat → Int64} {Rf : Nat → Nat → Option Nat} {a4 : (Nat → Int32)} (ea4 : I 4 = a4) {a5 : (Nat → Int32)} (ea5 : I 5 = a5) {a6 : (Nat → Int32)} (ea6 : I 6 = a6) {c26_3 : Int64} (ec26_3 : L 26 3 = c26_3) {c26_4 : Int64} (ec26_4 : L 26 4 = c26_4) {c26_5 : Int64} (ec26_5 : L 26 5 = c26_5) {a27 : (Nat → Int32)} (ea27 : I 27 = a27) {a28 : (Nat → Int32)} (ea28 : I 28 = a28) {a29 : (Nat → Int32)} (ea29 : I 29 = a29) {out : Int32 × Int32 × (Nat → Int32)} : ∀ (a69 : (Nat → Int32)) (v1 : Int32) (v2 : Int32), bX10_kind_0 u a4 a5 a6 c26_3 c26_4 c26_5 a27 a28 a29 a69 v1 v2 = some out → k_W X 3 0 0 (k_QX X ad0 (shX ++ rest).length (k_R1 out.1 (some (.int out.2.1)) (k_ap [(69, .inr (.inr (.inl out.2.2)))] ((shX ++ rest), I, L, Rf))) (k_R2 out.1 (k_ap [(69, .inr (.inr (.inl out.2.2)))] ((shX ++ rest), I, L, Rf))) 1 6) ad (k_ap [(69, .inr (.inr (.inl a69)))] ((shX ++ rest), I, L, Rf)) 0 [some (.ref 0), some (.int v1), some (.int v2)] [] := by
  intro a69 v1 v2 h
  unfold bX10_kind_0 at h
  refine r_aload_n C dX10_kind_0 (rfl : 0 + 1 = 1) rfl ?_
  refine r_iload_n C dX10_kind_1 (rfl : 1 + 1 = 2) rfl ?_
  obtain ⟨r2, q2, h⟩ := k_b_of h
  refine d_S (As := [.int v1]) (st := [.ref 0]) (st' := [.int r2, .ref 0]) (h' := k_ap [(69, .inr (.inr (.inl a69)))] ((shX ++ rest), I, L, Rf)) C hR (k_csl hRc hRs rfl rfl) ms_X10_isMusic lk_X10_236 dX10_kind_2 (rfl : 2 + 3 = 5) rfl rfl (c_X10_isMusic X.l u (k_ap [(69, .inr (.inr (.inl a69)))] ((shX ++ rest), I, L, Rf))  q2) rfl rfl rfl rfl rfl ?_
  refine r_if_eq (tgt := 21) C dX10_kind_5 (by decide) (rfl : 5 + 3 = 8) (fun c5 => ?_) (fun c5 => ?_)
  · have h := k_t c5 h
    refine k_mask [true, true, true] ?_
    exact sX10_kind_21 u C hr hR hx hRc hRs hT hsm ea4 ea5 ea6 ec26_3 ec26_4 ec26_5 ea27 ea28 ea29 a69 v1 v2 h
  · have h := k_f c5 h
    refine r_iload_n C dX10_kind_8 (rfl : 8 + 1 = 9) rfl ?_
    refine r_if_lt (tgt := 21) C dX10_kind_9 (by decide) (rfl : 9 + 3 = 12) (fun c9 => ?_) (fun c9 => ?_)
    · have h := k_t c9 h
      refine k_mask [true, true, true] ?_
      exact sX10_kind_21 u C hr hR hx hRc hRs hT hsm ea4 ea5 ea6 ec26_3 ec26_4 ec26_5 ea27 ea28 ea29 a69 v1 v2 h
    · have h := k_f c9 h
      refine r_iload_n C dX10_kind_12 (rfl : 12 + 1 = 13) rfl ?_
      refine r_iconst (v := (4 : Int32)) C dX10_kind_13 (rfl : 13 + 1 = 14) rfl ?_
      refine r_icmp_gt (tgt := 21) C dX10_kind_14 (by decide) (rfl : 14 + 3 = 17) (fun c14 => ?_) (fun c14 => ?_)
      · have h := k_t c14 h
        refine k_mask [true, true, true] ?_
        exact sX10_kind_21 u C hr hR hx hRc hRs hT hsm ea4 ea5 ea6 ec26_3 ec26_4 ec26_5 ea27 ea28 ea29 a69 v1 v2 h
      · have h := k_f c14 h
        refine r_iconst (v := (1 : Int32)) C dX10_kind_17 (rfl : 17 + 1 = 18) rfl ?_
        refine r_goto (tgt := 22) C dX10_kind_18 (by decide) ?_
        refine k_mask [true, true, true] ?_
        exact sX10_kind_22 u C hr hR hx hRc hRs hT hsm ea4 ea5 ea6 ec26_3 ec26_4 ec26_5 ea27 ea28 ea29 a69 v1 v2 (1 : Int32) h
set_option maxHeartbeats 1000000 in
set_option maxRecDepth 100000 in
theorem c_X10_kind (l : Launch) (u : Nat) (hT : l.stackTraces = false) (h : k_H) {rest : List k_Sh} (hsh : h.1 = shX ++ rest) {a4 : (Nat → Int32)} (ea4 : h.2.1 4 = a4) {a5 : (Nat → Int32)} (ea5 : h.2.1 5 = a5) {a6 : (Nat → Int32)} (ea6 : h.2.1 6 = a6) {c26_3 : Int64} (ec26_3 : h.2.2.1 26 3 = c26_3) {c26_4 : Int64} (ec26_4 : h.2.2.1 26 4 = c26_4) {c26_5 : Int64} (ec26_5 : h.2.2.1 26 5 = c26_5) {a27 : (Nat → Int32)} (ea27 : h.2.1 27 = a27) {a28 : (Nat → Int32)} (ea28 : h.2.1 28 = a28) {a29 : (Nat → Int32)} (ea29 : h.2.1 29 = a29) {a69 : (Nat → Int32)} (ea69 : h.2.1 69 = a69) {x0 : Int32} {x1 : Int32} {out : Int32 × Int32 × (Nat → Int32)} (hf : f_X10_kind u a4 a5 a6 c26_3 c26_4 c26_5 a27 a28 a29 a69 x0 x1 = some out) : k_CX l yX10_kind cX10_kind 3 (some .int) 7 111 1 6 [.ref 0, .int x0, .int x1] h (k_R1 out.1 (some (.int out.2.1)) (k_ap [(69, .inr (.inr (.inl out.2.2)))] h)) (k_R2 out.1 (k_ap [(69, .inr (.inr (.inl out.2.2)))] h)) := by
  obtain ⟨sh, I, L, Rf⟩ := h
  try dsimp only
  obtain rfl : sh = shX ++ rest := hsh
  refine k_ofWX (by decide) (Nat.le_of_ble_eq_true rfl) ?_
  intro X ad hl hR0 hr C hx
  have hR : X.R.frames = 7 ∧ X.R.locals = 111 := by rw [hR0]; exact ⟨rfl, rfl⟩
  have hRc : X.R.cells = 1 := by rw [hR0]
  have hRs : X.R.slots = 6 := by rw [hR0]
  have hT : X.l.stackTraces = false := by rw [hl]; exact hT
  have hsm := k_sm_rf (shX ++ rest).length ad
  have h := hf
  unfold f_X10_kind at h
  refine k_start (us := [(69, .inr (.inr (.inl a69)))]) (k_ao_A ea69 k_ap_0) ?_
  show k_W X 3 0 0 (k_QX X ad (shX ++ rest).length (k_R1 out.1 (some (.int out.2.1)) (k_ap [(69, .inr (.inr (.inl out.2.2)))] ((shX ++ rest), I, L, Rf))) (k_R2 out.1 (k_ap [(69, .inr (.inr (.inl out.2.2)))] ((shX ++ rest), I, L, Rf))) 1 6) ad (k_ap [(69, .inr (.inr (.inl a69)))] ((shX ++ rest), I, L, Rf)) 0 [some (.ref 0), some (.int x0), some (.int x1)] []
  refine k_mask [true, true, true] ?_
  exact sX10_kind_0 u C hr hR hx hRc hRs hT hsm ea4 ea5 ea6 ec26_3 ec26_4 ec26_5 ea27 ea28 ea29 a69 x0 x1 h
/-! LullabyPit.order(II)I -/
theorem ds_X10_order : k_ds [(69, 2, 0)] = true := by decide +kernel
set_option maxHeartbeats 1000000 in
set_option maxRecDepth 100000 in
theorem sX10_order_20 (u : Nat) {X : k_X} {ad0 ad : Nat → Nat} {rest : List k_Sh} (C : k_C X cX10_order RX10 3 ad) (hr : X.meth.sig.returnType = (some .int)) (hR : X.R.frames = 7 ∧ X.R.locals = 111) (hx : ∀ x ∈ X.c.exceptionTable.toList, False) (hRc : X.R.cells = 2) (hRs : X.R.slots = 12) (hT : X.l.stackTraces = false) (hsm : k_sm (shX ++ rest).length ad0 ad) {I : Nat → Nat → Int32} {L : Nat → Nat → Int64} {Rf : Nat → Nat → Option Nat} {c3_10 : Int32} (ec3_10 : I 3 10 = c3_10) {a6 : (Nat → Int32)} (ea6 : I 6 = a6) {a7 : (Nat → Int32)} (ea7 : I 7 = a7) {a8 : (Nat → Int32)} (ea8 : I 8 = a8) {a9 : (Nat → Int32)} (ea9 : I 9 = a9) {a30 : (Nat → Int32)} (ea30 : I 30 = a30) {out : Int32 × Int32 × (Nat → Int32)} : ∀ (a69 : (Nat → Int32)) (v1 : Int32) (v2 : Int32) (w0 : Int32), bX10_order_20 u c3_10 a6 a7 a8 a9 a30 a69 v1 v2 w0 = some out → k_W X 3 1 6 (k_QX X ad0 (shX ++ rest).length (k_R1 out.1 (some (.int out.2.1)) (k_ap [(69, .inr (.inr (.inl out.2.2)))] ((shX ++ rest), I, L, Rf))) (k_R2 out.1 (k_ap [(69, .inr (.inr (.inl out.2.2)))] ((shX ++ rest), I, L, Rf))) 2 12) ad (k_ap [(69, .inr (.inr (.inl a69)))] ((shX ++ rest), I, L, Rf)) 20 [some (.ref 0), some (.int v1), some (.int v2)] [.int w0, .ref 0] := by
  intro a69 v1 v2 w0 h
  unfold bX10_order_20 at h
  obtain ⟨r20, q20, h⟩ := k_b_of h
  refine c_VX (As := [.int w0]) (st := []) C hR (k_csl hRc hRs rfl rfl) mv_X10_need (k_me (tm3 (List.mem_of_getElem? (i := 141) rfl)) rfl) dX10_order_20 (rfl : 20 + 3 = 23) rfl rfl (k_gS rfl) rfl (c_X10_need X.l u hT (k_ap [(69, .inr (.inr (.inl a69)))] ((shX ++ rest), I, L, Rf)) (k_gH rfl) rfl q20) rfl rfl rfl ⟨(k_ox 0 rfl), True.intro, True.intro, True.intro⟩ True.intro ?_ ?_
  · rintro E ad1 h1 ⟨hk0, rfl, rfl⟩ hsm1 C1
    have h := k_f hk0 h
    cases h
    exact x_out C1 hx (Nat.le_of_ble_eq_true rfl) (Nat.le_of_ble_eq_true rfl) ⟨hk0, rfl, (k_jn (us' := [(69, .inr (.inr (.inl r20.2)))]) ds_X10_order rfl rfl rfl)⟩ (k_sm_tr hsm hsm1 (Nat.le_of_eq (by rw [k_ap_sh])))
  rintro v ad20 h1 ⟨hk0, rfl, rfl⟩ hsm1 C
  have h := k_t hk0 h
  have hsm := k_sm_tr hsm hsm1 (Nat.le_of_eq (by rw [k_ap_sh]))
  refine k_eqh (k_jn (us' := [(69, .inr (.inr (.inl r20.2)))]) ds_X10_order rfl rfl rfl) ?_
  show k_W _ _ _ _ _ _ _ _ _ []
  refine r_iload_n C dX10_order_23 (rfl : 23 + 1 = 24) rfl ?_
  by_cases c24_0 : v2 = (0 : Int32)
  · have h := k_t c24_0 h
    refine r_tabIn (off := 28) (tgt := 52) C dX10_order_24 (by rw [c24_0]; decide) (by rw [c24_0]; decide) (by rw [c24_0]; rfl) (by decide) ?_
    refine r_aload_n C dX10_order_52 (rfl : 52 + 1 = 53) rfl ?_
    refine r_getR (q := 3) C dX10_order_53 (rfl : 53 + 3 = 56) fl_X10_19 rfl rfl ?_
    refine r_getR (q := 7) C dX10_order_56 (rfl : 56 + 3 = 59) fl_X10_258 rfl rfl ?_
    refine r_iload_n C dX10_order_59 (rfl : 59 + 1 = 60) rfl ?_
    obtain ⟨hi60, h⟩ := k_i_of h
    refine a_i (j := (v1).toNatClampNeg) (f := a7) C dX10_order_60 (rfl : 60 + 1 = 61) rfl ea7 hi60 rfl ?_
    cases h
    exact x_of_g (g_iret C hr (Nat.le_of_ble_eq_true rfl) (Nat.le_of_ble_eq_true rfl) ⟨rfl, rfl, rfl⟩ hsm dX10_order_61)
  · have h := k_f c24_0 h
    by_cases c24_1 : v2 = (1 : Int32)
    · have h := k_t c24_1 h
      refine r_tabIn (off := 38) (tgt := 62) C dX10_order_24 (by rw [c24_1]; decide) (by rw [c24_1]; decide) (by rw [c24_1]; rfl) (by decide) ?_
      refine r_aload_n C dX10_order_62 (rfl : 62 + 1 = 63) rfl ?_
      refine r_getR (q := 3) C dX10_order_63 (rfl : 63 + 3 = 66) fl_X10_19 rfl rfl ?_
      refine r_getR (q := 8) C dX10_order_66 (rfl : 66 + 3 = 69) fl_X10_261 rfl rfl ?_
      refine r_iload_n C dX10_order_69 (rfl : 69 + 1 = 70) rfl ?_
      obtain ⟨hi70, h⟩ := k_i_of h
      refine a_i (j := (v1).toNatClampNeg) (f := a8) C dX10_order_70 (rfl : 70 + 1 = 71) rfl ea8 hi70 rfl ?_
      cases h
      exact x_of_g (g_iret C hr (Nat.le_of_ble_eq_true rfl) (Nat.le_of_ble_eq_true rfl) ⟨rfl, rfl, rfl⟩ hsm dX10_order_71)
    · have h := k_f c24_1 h
      by_cases c24_2 : v2 = (2 : Int32)
      · have h := k_t c24_2 h
        refine r_tabIn (off := 48) (tgt := 72) C dX10_order_24 (by rw [c24_2]; decide) (by rw [c24_2]; decide) (by rw [c24_2]; rfl) (by decide) ?_
        refine r_aload_n C dX10_order_72 (rfl : 72 + 1 = 73) rfl ?_
        refine r_getR (q := 3) C dX10_order_73 (rfl : 73 + 3 = 76) fl_X10_19 rfl rfl ?_
        refine r_iload_n C dX10_order_76 (rfl : 76 + 1 = 77) rfl ?_
        obtain ⟨r77, q77, h⟩ := k_b_of h
        refine d_Vp (pi := [3, 4, 5, 6, 7, 8, 9]) (shl := shPit) (bl := 0) (As := [.int v1]) (Al := [.int v1]) (st := []) (st' := [.int r77]) (h' := k_ap [(69, .inr (.inr (.inl r20.2)))] ((shX ++ rest), I, L, Rf)) C hR (k_csl hRc hRs rfl rfl) mv_X5_orderWorth lk_X10_264 dX10_order_77 (rfl : 77 + 3 = 80) rfl rfl ck_shX_shPit_3_8 rfl rfl (c_X5_orderWorth X.l u (k_pl [3, 4, 5, 6, 7, 8, 9] shPit (k_ap [(69, .inr (.inr (.inl r20.2)))] ((shX ++ rest), I, L, Rf))) rfl ec3_10 ea6 ea8 ea9 q77) rfl (fun _ => rfl) rfl (fun _ => rfl) rfl rfl rfl rfl rfl ?_
        cases h
        exact x_of_g (g_iret C hr (Nat.le_of_ble_eq_true rfl) (Nat.le_of_ble_eq_true rfl) ⟨rfl, rfl, rfl⟩ hsm dX10_order_80)
      · have h := k_f c24_2 h
        have hsw : (v2 : Int32).toInt < 0 ∨ 2 < (v2 : Int32).toInt := k_sw [(0 : Int32), (1 : Int32), (2 : Int32)] (by decide) (by intro v hv; simp only [List.mem_cons, List.not_mem_nil, or_false] at hv; rcases hv with rfl | rfl | rfl <;> assumption)
        refine r_tabOut (tgt := 81) C dX10_order_24 hsw (by decide) ?_
        refine r_aload_n C dX10_order_81 (rfl : 81 + 1 = 82) rfl ?_
        refine r_getR (q := 26) C dX10_order_82 (rfl : 82 + 3 = 85) fl_X10_50 rfl rfl ?_
        refine r_getR (q := 30) C dX10_order_85 (rfl : 85 + 3 = 88) fl_X10_267 rfl rfl ?_
        refine r_iload_n C dX10_order_88 (rfl : 88 + 1 = 89) rfl ?_
        obtain ⟨hi89, h⟩ := k_i_of h
        refine a_i (j := (v1).toNatClampNeg) (f := a30) C dX10_order_89 (rfl : 89 + 1 = 90) rfl ea30 hi89 rfl ?_
        cases h
        exact x_of_g (g_iret C hr (Nat.le_of_ble_eq_true rfl) (Nat.le_of_ble_eq_true rfl) ⟨rfl, rfl, rfl⟩ hsm dX10_order_90)
set_option maxHeartbeats 1000000 in
set_option maxRecDepth 100000 in
theorem sX10_order_19 (u : Nat) {X : k_X} {ad0 ad : Nat → Nat} {rest : List k_Sh} (C : k_C X cX10_order RX10 3 ad) (hr : X.meth.sig.returnType = (some .int)) (hR : X.R.frames = 7 ∧ X.R.locals = 111) (hx : ∀ x ∈ X.c.exceptionTable.toList, False) (hRc : X.R.cells = 2) (hRs : X.R.slots = 12) (hT : X.l.stackTraces = false) (hsm : k_sm (shX ++ rest).length ad0 ad) {I : Nat → Nat → Int32} {L : Nat → Nat → Int64} {Rf : Nat → Nat → Option Nat} {c3_10 : Int32} (ec3_10 : I 3 10 = c3_10) {a6 : (Nat → Int32)} (ea6 : I 6 = a6) {a7 : (Nat → Int32)} (ea7 : I 7 = a7) {a8 : (Nat → Int32)} (ea8 : I 8 = a8) {a9 : (Nat → Int32)} (ea9 : I 9 = a9) {a30 : (Nat → Int32)} (ea30 : I 30 = a30) {out : Int32 × Int32 × (Nat → Int32)} : ∀ (a69 : (Nat → Int32)) (v1 : Int32) (v2 : Int32), bX10_order_19 u c3_10 a6 a7 a8 a9 a30 a69 v1 v2 = some out → k_W X 3 1 6 (k_QX X ad0 (shX ++ rest).length (k_R1 out.1 (some (.int out.2.1)) (k_ap [(69, .inr (.inr (.inl out.2.2)))] ((shX ++ rest), I, L, Rf))) (k_R2 out.1 (k_ap [(69, .inr (.inr (.inl out.2.2)))] ((shX ++ rest), I, L, Rf))) 2 12) ad (k_ap [(69, .inr (.inr (.inl a69)))] ((shX ++ rest), I, L, Rf)) 19 [some (.ref 0), some (.int v1), some (.int v2)] [.ref 0] := by
  intro a69 v1 v2 h
  unfold bX10_order_19 at h
  refine r_iconst (v := (0 : Int32)) C dX10_order_19 (rfl : 19 + 1 = 20) rfl ?_
  refine k_mask [true, true, true] ?_
  exact sX10_order_20 u C hr hR hx hRc hRs hT hsm ec3_10 ea6 ea7 ea8 ea9 ea30 a69 v1 v2 (0 : Int32) h
set_option maxHeartbeats 1000000 in
set_option maxRecDepth 100000 in
theorem sX10_order_0 (u : Nat) {X : k_X} {ad0 ad : Nat → Nat} {rest : List k_Sh} (C : k_C X cX10_order RX10 3 ad) (hr : X.meth.sig.returnType = (some .int)) (hR : X.R.frames = 7 ∧ X.R.locals = 111) (hx : ∀ x ∈ X.c.exceptionTable.toList, False) (hRc : X.R.cells = 2) (hRs : X.R.slots = 12) (hT : X.l.stackTraces = false) (hsm : k_sm (shX ++ rest).length ad0 ad) {I : Nat → Nat → Int32} {L : Nat → Nat → Int64} {Rf : Nat → Nat → Option Nat} {c3_10 : Int32} (ec3_10 : I 3 10 = c3_10) {a6 : (Nat → Int32)} (ea6 : I 6 = a6) {a7 : (Nat → Int32)} (ea7 : I 7 = a7) {a8 : (Nat → Int32)} (ea8 : I 8 = a8) {a9 : (Nat → Int32)} (ea9 : I 9 = a9) {a30 : (Nat → Int32)} (ea30 : I 30 = a30) {out : Int32 × Int32 × (Nat → Int32)} : ∀ (a69 : (Nat → Int32)) (v1 : Int32) (v2 : Int32), bX10_order_0 u c3_10 a6 a7 a8 a9 a30 a69 v1 v2 = some out → k_W X 3 0 0 (k_QX X ad0 (shX ++ rest).length (k_R1 out.1 (some (.int out.2.1)) (k_ap [(69, .inr (.inr (.inl out.2.2)))] ((shX ++ rest), I, L, Rf))) (k_R2 out.1 (k_ap [(69, .inr (.inr (.inl out.2.2)))] ((shX ++ rest), I, L, Rf))) 2 12) ad (k_ap [(69, .inr (.inr (.inl a69)))] ((shX ++ rest), I, L, Rf)) 0 [some (.ref 0), some (.int v1), some (.int v2)] [] := by
  intro a69 v1 v2 h
  unfold bX10_order_0 at h
  refine r_aload_n C dX10_order_0 (rfl : 0 + 1 = 1) rfl ?_
  refine r_iload_n C dX10_order_1 (rfl : 1 + 1 = 2) rfl ?_
  obtain ⟨r2, q2, h⟩ := k_b_of h
  refine c_VX (As := [.int v1]) (st := []) C hR (k_csl hRc hRs rfl rfl) mv_X10_needOrder (k_me (tm5 (List.mem_of_getElem? (i := 141) rfl)) rfl) dX10_order_2 (rfl : 2 + 3 = 5) rfl rfl (k_gS rfl) rfl (c_X10_needOrder X.l u hT (k_ap [(69, .inr (.inr (.inl a69)))] ((shX ++ rest), I, L, Rf)) (k_gH rfl) ec3_10 rfl q2) rfl rfl rfl ⟨(k_ox 0 rfl), True.intro, True.intro, True.intro⟩ True.intro ?_ ?_
  · rintro E ad1 h1 ⟨hk0, rfl, rfl⟩ hsm1 C1
    have h := k_f hk0 h
    cases h
    exact x_out C1 hx (Nat.le_of_ble_eq_true rfl) (Nat.le_of_ble_eq_true rfl) ⟨hk0, rfl, (k_jn (us' := [(69, .inr (.inr (.inl r2.2)))]) ds_X10_order rfl rfl rfl)⟩ (k_sm_tr hsm hsm1 (Nat.le_of_eq (by rw [k_ap_sh])))
  rintro v ad2 h1 ⟨hk0, rfl, rfl⟩ hsm1 C
  have h := k_t hk0 h
  have hsm := k_sm_tr hsm hsm1 (Nat.le_of_eq (by rw [k_ap_sh]))
  refine k_eqh (k_jn (us' := [(69, .inr (.inr (.inl r2.2)))]) ds_X10_order rfl rfl rfl) ?_
  show k_W _ _ _ _ _ _ _ _ _ []
  refine r_aload_n C dX10_order_5 (rfl : 5 + 1 = 6) rfl ?_
  refine r_iload_n C dX10_order_6 (rfl : 6 + 1 = 7) rfl ?_
  refine r_if_lt (tgt := 19) C dX10_order_7 (by decide) (rfl : 7 + 3 = 10) (fun c7 => ?_) (fun c7 => ?_)
  · have h := k_t c7 h
    refine k_mask [true, true, true] ?_
    exact sX10_order_19 u C hr hR hx hRc hRs hT hsm ec3_10 ea6 ea7 ea8 ea9 ea30 r2.2 v1 v2 h
  · have h := k_f c7 h
    refine r_iload_n C dX10_order_10 (rfl : 10 + 1 = 11) rfl ?_
    refine r_iconst (v := (3 : Int32)) C dX10_order_11 (rfl : 11 + 1 = 12) rfl ?_
    refine r_icmp_gt (tgt := 19) C dX10_order_12 (by decide) (rfl : 12 + 3 = 15) (fun c12 => ?_) (fun c12 => ?_)
    · have h := k_t c12 h
      refine k_mask [true, true, true] ?_
      exact sX10_order_19 u C hr hR hx hRc hRs hT hsm ec3_10 ea6 ea7 ea8 ea9 ea30 r2.2 v1 v2 h
    · have h := k_f c12 h
      refine r_iconst (v := (1 : Int32)) C dX10_order_15 (rfl : 15 + 1 = 16) rfl ?_
      refine r_goto (tgt := 20) C dX10_order_16 (by decide) ?_
      refine k_mask [true, true, true] ?_
      exact sX10_order_20 u C hr hR hx hRc hRs hT hsm ec3_10 ea6 ea7 ea8 ea9 ea30 r2.2 v1 v2 (1 : Int32) h
set_option maxHeartbeats 1000000 in
set_option maxRecDepth 100000 in
theorem c_X10_order (l : Launch) (u : Nat) (hT : l.stackTraces = false) (h : k_H) {rest : List k_Sh} (hsh : h.1 = shX ++ rest) {c3_10 : Int32} (ec3_10 : h.2.1 3 10 = c3_10) {a6 : (Nat → Int32)} (ea6 : h.2.1 6 = a6) {a7 : (Nat → Int32)} (ea7 : h.2.1 7 = a7) {a8 : (Nat → Int32)} (ea8 : h.2.1 8 = a8) {a9 : (Nat → Int32)} (ea9 : h.2.1 9 = a9) {a30 : (Nat → Int32)} (ea30 : h.2.1 30 = a30) {a69 : (Nat → Int32)} (ea69 : h.2.1 69 = a69) {x0 : Int32} {x1 : Int32} {out : Int32 × Int32 × (Nat → Int32)} (hf : f_X10_order u c3_10 a6 a7 a8 a9 a30 a69 x0 x1 = some out) : k_CX l yX10_order cX10_order 3 (some .int) 7 111 2 12 [.ref 0, .int x0, .int x1] h (k_R1 out.1 (some (.int out.2.1)) (k_ap [(69, .inr (.inr (.inl out.2.2)))] h)) (k_R2 out.1 (k_ap [(69, .inr (.inr (.inl out.2.2)))] h)) := by
  obtain ⟨sh, I, L, Rf⟩ := h
  try dsimp only
  obtain rfl : sh = shX ++ rest := hsh
  refine k_ofWX (by decide) (Nat.le_of_ble_eq_true rfl) ?_
  intro X ad hl hR0 hr C hx
  have hR : X.R.frames = 7 ∧ X.R.locals = 111 := by rw [hR0]; exact ⟨rfl, rfl⟩
  have hRc : X.R.cells = 2 := by rw [hR0]
  have hRs : X.R.slots = 12 := by rw [hR0]
  have hT : X.l.stackTraces = false := by rw [hl]; exact hT
  have hsm := k_sm_rf (shX ++ rest).length ad
  have h := hf
  unfold f_X10_order at h
  refine k_start (us := [(69, .inr (.inr (.inl a69)))]) (k_ao_A ea69 k_ap_0) ?_
  show k_W X 3 0 0 (k_QX X ad (shX ++ rest).length (k_R1 out.1 (some (.int out.2.1)) (k_ap [(69, .inr (.inr (.inl out.2.2)))] ((shX ++ rest), I, L, Rf))) (k_R2 out.1 (k_ap [(69, .inr (.inr (.inl out.2.2)))] ((shX ++ rest), I, L, Rf))) 2 12) ad (k_ap [(69, .inr (.inr (.inl a69)))] ((shX ++ rest), I, L, Rf)) 0 [some (.ref 0), some (.int x0), some (.int x1)] []
  refine k_mask [true, true, true] ?_
  exact sX10_order_0 u C hr hR hx hRc hRs hT hsm ec3_10 ea6 ea7 ea8 ea9 ea30 a69 x0 x1 h
/-! LullabyPit.note(II)I -/
theorem ds_X10_note : k_ds [(69, 2, 0)] = true := by decide +kernel
set_option maxHeartbeats 1000000 in
set_option maxRecDepth 100000 in
theorem sX10_note_28 (u : Nat) {X : k_X} {ad0 ad : Nat → Nat} {rest : List k_Sh} (C : k_C X cX10_note RX10 3 ad) (hr : X.meth.sig.returnType = (some .int)) (hR : X.R.frames = 7 ∧ X.R.locals = 111) (hx : ∀ x ∈ X.c.exceptionTable.toList, False) (hRc : X.R.cells = 2) (hRs : X.R.slots = 12) (hT : X.l.stackTraces = false) (hsm : k_sm (shX ++ rest).length ad0 ad) {I : Nat → Nat → Int32} {L : Nat → Nat → Int64} {Rf : Nat → Nat → Option Nat} {c3_10 : Int32} (ec3_10 : I 3 10 = c3_10) {a8 : (Nat → Int32)} (ea8 : I 8 = a8) {a9 : (Nat → Int32)} (ea9 : I 9 = a9) {out : Int32 × Int32 × (Nat → Int32)} : ∀ (a69 : (Nat → Int32)) (v1 : Int32) (v2 : Int32) (w0 : Int32), bX10_note_28 u c3_10 a8 a9 a69 v1 v2 w0 = some out → k_W X 3 1 6 (k_QX X ad0 (shX ++ rest).length (k_R1 out.1 (some (.int out.2.1)) (k_ap [(69, .inr (.inr (.inl out.2.2)))] ((shX ++ rest), I, L, Rf))) (k_R2 out.1 (k_ap [(69, .inr (.inr (.inl out.2.2)))] ((shX ++ rest), I, L, Rf))) 2 12) ad (k_ap [(69, .inr (.inr (.inl a69)))] ((shX ++ rest), I, L, Rf)) 28 [some (.ref 0), some (.int v1), some (.int v2)] [.int w0, .ref 0] := by
  intro a69 v1 v2 w0 h
  unfold bX10_note_28 at h
  obtain ⟨r28, q28, h⟩ := k_b_of h
  refine c_VX (As := [.int w0]) (st := []) C hR (k_csl hRc hRs rfl rfl) mv_X10_need (k_me (tm3 (List.mem_of_getElem? (i := 141) rfl)) rfl) dX10_note_28 (rfl : 28 + 3 = 31) rfl rfl (k_gS rfl) rfl (c_X10_need X.l u hT (k_ap [(69, .inr (.inr (.inl a69)))] ((shX ++ rest), I, L, Rf)) (k_gH rfl) rfl q28) rfl rfl rfl ⟨(k_ox 0 rfl), True.intro, True.intro, True.intro⟩ True.intro ?_ ?_
  · rintro E ad1 h1 ⟨hk0, rfl, rfl⟩ hsm1 C1
    have h := k_f hk0 h
    cases h
    exact x_out C1 hx (Nat.le_of_ble_eq_true rfl) (Nat.le_of_ble_eq_true rfl) ⟨hk0, rfl, (k_jn (us' := [(69, .inr (.inr (.inl r28.2)))]) ds_X10_note rfl rfl rfl)⟩ (k_sm_tr hsm hsm1 (Nat.le_of_eq (by rw [k_ap_sh])))
  rintro v ad28 h1 ⟨hk0, rfl, rfl⟩ hsm1 C
  have h := k_t hk0 h
  have hsm := k_sm_tr hsm hsm1 (Nat.le_of_eq (by rw [k_ap_sh]))
  refine k_eqh (k_jn (us' := [(69, .inr (.inr (.inl r28.2)))]) ds_X10_note rfl rfl rfl) ?_
  show k_W _ _ _ _ _ _ _ _ _ []
  refine r_aload_n C dX10_note_31 (rfl : 31 + 1 = 32) rfl ?_
  refine r_getR (q := 3) C dX10_note_32 (rfl : 32 + 3 = 35) fl_X10_19 rfl rfl ?_
  refine r_getR (q := 9) C dX10_note_35 (rfl : 35 + 3 = 38) fl_X10_270 rfl rfl ?_
  refine r_iload_n C dX10_note_38 (rfl : 38 + 1 = 39) rfl ?_
  refine r_bipush (v := (8 : Int32)) C dX10_note_39 (rfl : 39 + 2 = 41) rfl ?_
  refine r_imul C dX10_note_41 (rfl : 41 + 1 = 42) ?_
  refine r_iload_n C dX10_note_42 (rfl : 42 + 1 = 43) rfl ?_
  refine r_iadd C dX10_note_43 (rfl : 43 + 1 = 44) ?_
  obtain ⟨hi44, h⟩ := k_i_of h
  refine a_i (j := (((v1 * (8 : Int32)) + v2)).toNatClampNeg) (f := a9) C dX10_note_44 (rfl : 44 + 1 = 45) rfl ea9 hi44 rfl ?_
  cases h
  exact x_of_g (g_iret C hr (Nat.le_of_ble_eq_true rfl) (Nat.le_of_ble_eq_true rfl) ⟨rfl, rfl, rfl⟩ hsm dX10_note_45)
set_option maxHeartbeats 1000000 in
set_option maxRecDepth 100000 in
theorem sX10_note_27 (u : Nat) {X : k_X} {ad0 ad : Nat → Nat} {rest : List k_Sh} (C : k_C X cX10_note RX10 3 ad) (hr : X.meth.sig.returnType = (some .int)) (hR : X.R.frames = 7 ∧ X.R.locals = 111) (hx : ∀ x ∈ X.c.exceptionTable.toList, False) (hRc : X.R.cells = 2) (hRs : X.R.slots = 12) (hT : X.l.stackTraces = false) (hsm : k_sm (shX ++ rest).length ad0 ad) {I : Nat → Nat → Int32} {L : Nat → Nat → Int64} {Rf : Nat → Nat → Option Nat} {c3_10 : Int32} (ec3_10 : I 3 10 = c3_10) {a8 : (Nat → Int32)} (ea8 : I 8 = a8) {a9 : (Nat → Int32)} (ea9 : I 9 = a9) {out : Int32 × Int32 × (Nat → Int32)} : ∀ (a69 : (Nat → Int32)) (v1 : Int32) (v2 : Int32), bX10_note_27 u c3_10 a8 a9 a69 v1 v2 = some out → k_W X 3 1 6 (k_QX X ad0 (shX ++ rest).length (k_R1 out.1 (some (.int out.2.1)) (k_ap [(69, .inr (.inr (.inl out.2.2)))] ((shX ++ rest), I, L, Rf))) (k_R2 out.1 (k_ap [(69, .inr (.inr (.inl out.2.2)))] ((shX ++ rest), I, L, Rf))) 2 12) ad (k_ap [(69, .inr (.inr (.inl a69)))] ((shX ++ rest), I, L, Rf)) 27 [some (.ref 0), some (.int v1), some (.int v2)] [.ref 0] := by
  intro a69 v1 v2 h
  unfold bX10_note_27 at h
  refine r_iconst (v := (0 : Int32)) C dX10_note_27 (rfl : 27 + 1 = 28) rfl ?_
  refine k_mask [true, true, true] ?_
  exact sX10_note_28 u C hr hR hx hRc hRs hT hsm ec3_10 ea8 ea9 a69 v1 v2 (0 : Int32) h
set_option maxHeartbeats 1000000 in
set_option maxRecDepth 100000 in
theorem sX10_note_0 (u : Nat) {X : k_X} {ad0 ad : Nat → Nat} {rest : List k_Sh} (C : k_C X cX10_note RX10 3 ad) (hr : X.meth.sig.returnType = (some .int)) (hR : X.R.frames = 7 ∧ X.R.locals = 111) (hx : ∀ x ∈ X.c.exceptionTable.toList, False) (hRc : X.R.cells = 2) (hRs : X.R.slots = 12) (hT : X.l.stackTraces = false) (hsm : k_sm (shX ++ rest).length ad0 ad) {I : Nat → Nat → Int32} {L : Nat → Nat → Int64} {Rf : Nat → Nat → Option Nat} {c3_10 : Int32} (ec3_10 : I 3 10 = c3_10) {a8 : (Nat → Int32)} (ea8 : I 8 = a8) {a9 : (Nat → Int32)} (ea9 : I 9 = a9) {out : Int32 × Int32 × (Nat → Int32)} : ∀ (a69 : (Nat → Int32)) (v1 : Int32) (v2 : Int32), bX10_note_0 u c3_10 a8 a9 a69 v1 v2 = some out → k_W X 3 0 0 (k_QX X ad0 (shX ++ rest).length (k_R1 out.1 (some (.int out.2.1)) (k_ap [(69, .inr (.inr (.inl out.2.2)))] ((shX ++ rest), I, L, Rf))) (k_R2 out.1 (k_ap [(69, .inr (.inr (.inl out.2.2)))] ((shX ++ rest), I, L, Rf))) 2 12) ad (k_ap [(69, .inr (.inr (.inl a69)))] ((shX ++ rest), I, L, Rf)) 0 [some (.ref 0), some (.int v1), some (.int v2)] [] := by
  intro a69 v1 v2 h
  unfold bX10_note_0 at h
  refine r_aload_n C dX10_note_0 (rfl : 0 + 1 = 1) rfl ?_
  refine r_iload_n C dX10_note_1 (rfl : 1 + 1 = 2) rfl ?_
  obtain ⟨r2, q2, h⟩ := k_b_of h
  refine c_VX (As := [.int v1]) (st := []) C hR (k_csl hRc hRs rfl rfl) mv_X10_needOrder (k_me (tm5 (List.mem_of_getElem? (i := 141) rfl)) rfl) dX10_note_2 (rfl : 2 + 3 = 5) rfl rfl (k_gS rfl) rfl (c_X10_needOrder X.l u hT (k_ap [(69, .inr (.inr (.inl a69)))] ((shX ++ rest), I, L, Rf)) (k_gH rfl) ec3_10 rfl q2) rfl rfl rfl ⟨(k_ox 0 rfl), True.intro, True.intro, True.intro⟩ True.intro ?_ ?_
  · rintro E ad1 h1 ⟨hk0, rfl, rfl⟩ hsm1 C1
    have h := k_f hk0 h
    cases h
    exact x_out C1 hx (Nat.le_of_ble_eq_true rfl) (Nat.le_of_ble_eq_true rfl) ⟨hk0, rfl, (k_jn (us' := [(69, .inr (.inr (.inl r2.2)))]) ds_X10_note rfl rfl rfl)⟩ (k_sm_tr hsm hsm1 (Nat.le_of_eq (by rw [k_ap_sh])))
  rintro v ad2 h1 ⟨hk0, rfl, rfl⟩ hsm1 C
  have h := k_t hk0 h
  have hsm := k_sm_tr hsm hsm1 (Nat.le_of_eq (by rw [k_ap_sh]))
  refine k_eqh (k_jn (us' := [(69, .inr (.inr (.inl r2.2)))]) ds_X10_note rfl rfl rfl) ?_
  show k_W _ _ _ _ _ _ _ _ _ []
  refine r_aload_n C dX10_note_5 (rfl : 5 + 1 = 6) rfl ?_
  refine r_iload_n C dX10_note_6 (rfl : 6 + 1 = 7) rfl ?_
  refine r_if_lt (tgt := 27) C dX10_note_7 (by decide) (rfl : 7 + 3 = 10) (fun c7 => ?_) (fun c7 => ?_)
  · have h := k_t c7 h
    refine k_mask [true, true, true] ?_
    exact sX10_note_27 u C hr hR hx hRc hRs hT hsm ec3_10 ea8 ea9 r2.2 v1 v2 h
  · have h := k_f c7 h
    refine r_iload_n C dX10_note_10 (rfl : 10 + 1 = 11) rfl ?_
    refine r_aload_n C dX10_note_11 (rfl : 11 + 1 = 12) rfl ?_
    refine r_getR (q := 3) C dX10_note_12 (rfl : 12 + 3 = 15) fl_X10_19 rfl rfl ?_
    refine r_getR (q := 8) C dX10_note_15 (rfl : 15 + 3 = 18) fl_X10_261 rfl rfl ?_
    refine r_iload_n C dX10_note_18 (rfl : 18 + 1 = 19) rfl ?_
    obtain ⟨hi19, h⟩ := k_i_of h
    refine a_i (j := (v1).toNatClampNeg) (f := a8) C dX10_note_19 (rfl : 19 + 1 = 20) rfl ea8 hi19 rfl ?_
    refine r_icmp_ge (tgt := 27) C dX10_note_20 (by decide) (rfl : 20 + 3 = 23) (fun c20 => ?_) (fun c20 => ?_)
    · have h := k_t c20 h
      refine k_mask [true, true, true] ?_
      exact sX10_note_27 u C hr hR hx hRc hRs hT hsm ec3_10 ea8 ea9 r2.2 v1 v2 h
    · have h := k_f c20 h
      refine r_iconst (v := (1 : Int32)) C dX10_note_23 (rfl : 23 + 1 = 24) rfl ?_
      refine r_goto (tgt := 28) C dX10_note_24 (by decide) ?_
      refine k_mask [true, true, true] ?_
      exact sX10_note_28 u C hr hR hx hRc hRs hT hsm ec3_10 ea8 ea9 r2.2 v1 v2 (1 : Int32) h
set_option maxHeartbeats 1000000 in
set_option maxRecDepth 100000 in
theorem c_X10_note (l : Launch) (u : Nat) (hT : l.stackTraces = false) (h : k_H) {rest : List k_Sh} (hsh : h.1 = shX ++ rest) {c3_10 : Int32} (ec3_10 : h.2.1 3 10 = c3_10) {a8 : (Nat → Int32)} (ea8 : h.2.1 8 = a8) {a9 : (Nat → Int32)} (ea9 : h.2.1 9 = a9) {a69 : (Nat → Int32)} (ea69 : h.2.1 69 = a69) {x0 : Int32} {x1 : Int32} {out : Int32 × Int32 × (Nat → Int32)} (hf : f_X10_note u c3_10 a8 a9 a69 x0 x1 = some out) : k_CX l yX10_note cX10_note 3 (some .int) 7 111 2 12 [.ref 0, .int x0, .int x1] h (k_R1 out.1 (some (.int out.2.1)) (k_ap [(69, .inr (.inr (.inl out.2.2)))] h)) (k_R2 out.1 (k_ap [(69, .inr (.inr (.inl out.2.2)))] h)) := by
  obtain ⟨sh, I, L, Rf⟩ := h
  try dsimp only
  obtain rfl : sh = shX ++ rest := hsh
  refine k_ofWX (by decide) (Nat.le_of_ble_eq_true rfl) ?_
  intro X ad hl hR0 hr C hx
  have hR : X.R.frames = 7 ∧ X.R.locals = 111 := by rw [hR0]; exact ⟨rfl, rfl⟩
  have hRc : X.R.cells = 2 := by rw [hR0]
  have hRs : X.R.slots = 12 := by rw [hR0]
  have hT : X.l.stackTraces = false := by rw [hl]; exact hT
  have hsm := k_sm_rf (shX ++ rest).length ad
  have h := hf
  unfold f_X10_note at h
  refine k_start (us := [(69, .inr (.inr (.inl a69)))]) (k_ao_A ea69 k_ap_0) ?_
  show k_W X 3 0 0 (k_QX X ad (shX ++ rest).length (k_R1 out.1 (some (.int out.2.1)) (k_ap [(69, .inr (.inr (.inl out.2.2)))] ((shX ++ rest), I, L, Rf))) (k_R2 out.1 (k_ap [(69, .inr (.inr (.inl out.2.2)))] ((shX ++ rest), I, L, Rf))) 2 12) ad (k_ap [(69, .inr (.inr (.inl a69)))] ((shX ++ rest), I, L, Rf)) 0 [some (.ref 0), some (.int x0), some (.int x1)] []
  refine k_mask [true, true, true] ?_
  exact sX10_note_0 u C hr hR hx hRc hRs hT hsm ec3_10 ea8 ea9 a69 x0 x1 h
/-! LullabyPit.lacks(I)I -/
theorem ds_X10_lacks : k_ds [(69, 2, 0)] = true := by decide +kernel
set_option maxHeartbeats 1000000 in
set_option maxRecDepth 100000 in
theorem sX10_lacks_0 (u : Nat) {X : k_X} {ad0 ad : Nat → Nat} {rest : List k_Sh} (C : k_C X cX10_lacks RX10 2 ad) (hr : X.meth.sig.returnType = (some .int)) (hR : X.R.frames = 7 ∧ X.R.locals = 111) (hx : ∀ x ∈ X.c.exceptionTable.toList, False) (hRc : X.R.cells = 1) (hRs : X.R.slots = 6) (hT : X.l.stackTraces = false) (hsm : k_sm (shX ++ rest).length ad0 ad) {I : Nat → Nat → Int32} {L : Nat → Nat → Int64} {Rf : Nat → Nat → Option Nat} {c3_10 : Int32} (ec3_10 : I 3 10 = c3_10) {a8 : (Nat → Int32)} (ea8 : I 8 = a8) {a9 : (Nat → Int32)} (ea9 : I 9 = a9) {a27 : (Nat → Int32)} (ea27 : I 27 = a27) {out : Int32 × Int32 × (Nat → Int32)} : ∀ (a69 : (Nat → Int32)) (v1 : Int32), bX10_lacks_0 u c3_10 a8 a9 a27 a69 v1 = some out → k_W X 2 0 0 (k_QX X ad0 (shX ++ rest).length (k_R1 out.1 (some (.int out.2.1)) (k_ap [(69, .inr (.inr (.inl out.2.2)))] ((shX ++ rest), I, L, Rf))) (k_R2 out.1 (k_ap [(69, .inr (.inr (.inl out.2.2)))] ((shX ++ rest), I, L, Rf))) 1 6) ad (k_ap [(69, .inr (.inr (.inl a69)))] ((shX ++ rest), I, L, Rf)) 0 [some (.ref 0), some (.int v1)] [] := by
  intro a69 v1 h
  unfold bX10_lacks_0 at h
  refine r_aload_n C dX10_lacks_0 (rfl : 0 + 1 = 1) rfl ?_
  refine r_iload_n C dX10_lacks_1 (rfl : 1 + 1 = 2) rfl ?_
  obtain ⟨r2, q2, h⟩ := k_b_of h
  refine c_VX (As := [.int v1]) (st := []) C hR (k_csl hRc hRs rfl rfl) mv_X10_needOrder (k_me (tm5 (List.mem_of_getElem? (i := 141) rfl)) rfl) dX10_lacks_2 (rfl : 2 + 3 = 5) rfl rfl (k_gS rfl) rfl (c_X10_needOrder X.l u hT (k_ap [(69, .inr (.inr (.inl a69)))] ((shX ++ rest), I, L, Rf)) (k_gH rfl) ec3_10 rfl q2) rfl rfl rfl ⟨(k_ox 0 rfl), True.intro, True.intro⟩ True.intro ?_ ?_
  · rintro E ad1 h1 ⟨hk0, rfl, rfl⟩ hsm1 C1
    have h := k_f hk0 h
    cases h
    exact x_out C1 hx (Nat.le_of_ble_eq_true rfl) (Nat.le_of_ble_eq_true rfl) ⟨hk0, rfl, (k_jn (us' := [(69, .inr (.inr (.inl r2.2)))]) ds_X10_lacks rfl rfl rfl)⟩ (k_sm_tr hsm hsm1 (Nat.le_of_eq (by rw [k_ap_sh])))
  rintro v ad2 h1 ⟨hk0, rfl, rfl⟩ hsm1 C
  have h := k_t hk0 h
  have hsm := k_sm_tr hsm hsm1 (Nat.le_of_eq (by rw [k_ap_sh]))
  refine k_eqh (k_jn (us' := [(69, .inr (.inr (.inl r2.2)))]) ds_X10_lacks rfl rfl rfl) ?_
  show k_W _ _ _ _ _ _ _ _ _ []
  refine r_aload_n C dX10_lacks_5 (rfl : 5 + 1 = 6) rfl ?_
  refine r_getR (q := 26) C dX10_lacks_6 (rfl : 6 + 3 = 9) fl_X10_50 rfl rfl ?_
  refine r_iload_n C dX10_lacks_9 (rfl : 9 + 1 = 10) rfl ?_
  obtain ⟨r10, q10, h⟩ := k_b_of h
  refine d_Vp (pi := [26, 27, 28, 29, 30, 3, 4, 5, 6, 7, 8, 9, 17, 18, 19, 20, 21, 22]) (shl := shMine) (bl := 0) (As := [.int v1]) (Al := [.int v1]) (st := []) (st' := [.int r10]) (h' := k_ap [(69, .inr (.inr (.inl r2.2)))] ((shX ++ rest), I, L, Rf)) C hR (k_csl hRc hRs rfl rfl) mv_X3_lacking lk_X10_273 dX10_lacks_10 (rfl : 10 + 3 = 13) rfl rfl ck_shX_shMine_26_3 rfl rfl (c_X3_lacking X.l u (k_pl [26, 27, 28, 29, 30, 3, 4, 5, 6, 7, 8, 9, 17, 18, 19, 20, 21, 22] shMine (k_ap [(69, .inr (.inr (.inl r2.2)))] ((shX ++ rest), I, L, Rf))) rfl ea27 ec3_10 ea8 ea9 q10) rfl (fun _ => rfl) rfl (fun _ => rfl) rfl rfl rfl rfl rfl ?_
  cases h
  exact x_of_g (g_iret C hr (Nat.le_of_ble_eq_true rfl) (Nat.le_of_ble_eq_true rfl) ⟨rfl, rfl, rfl⟩ hsm dX10_lacks_13)
set_option maxHeartbeats 1000000 in
set_option maxRecDepth 100000 in
theorem c_X10_lacks (l : Launch) (u : Nat) (hT : l.stackTraces = false) (h : k_H) {rest : List k_Sh} (hsh : h.1 = shX ++ rest) {c3_10 : Int32} (ec3_10 : h.2.1 3 10 = c3_10) {a8 : (Nat → Int32)} (ea8 : h.2.1 8 = a8) {a9 : (Nat → Int32)} (ea9 : h.2.1 9 = a9) {a27 : (Nat → Int32)} (ea27 : h.2.1 27 = a27) {a69 : (Nat → Int32)} (ea69 : h.2.1 69 = a69) {x0 : Int32} {out : Int32 × Int32 × (Nat → Int32)} (hf : f_X10_lacks u c3_10 a8 a9 a27 a69 x0 = some out) : k_CX l yX10_lacks cX10_lacks 2 (some .int) 7 111 1 6 [.ref 0, .int x0] h (k_R1 out.1 (some (.int out.2.1)) (k_ap [(69, .inr (.inr (.inl out.2.2)))] h)) (k_R2 out.1 (k_ap [(69, .inr (.inr (.inl out.2.2)))] h)) := by
  obtain ⟨sh, I, L, Rf⟩ := h
  try dsimp only
  obtain rfl : sh = shX ++ rest := hsh
  refine k_ofWX (by decide) (Nat.le_of_ble_eq_true rfl) ?_
  intro X ad hl hR0 hr C hx
  have hR : X.R.frames = 7 ∧ X.R.locals = 111 := by rw [hR0]; exact ⟨rfl, rfl⟩
  have hRc : X.R.cells = 1 := by rw [hR0]
  have hRs : X.R.slots = 6 := by rw [hR0]
  have hT : X.l.stackTraces = false := by rw [hl]; exact hT
  have hsm := k_sm_rf (shX ++ rest).length ad
  have h := hf
  unfold f_X10_lacks at h
  refine k_start (us := [(69, .inr (.inr (.inl a69)))]) (k_ao_A ea69 k_ap_0) ?_
  show k_W X 2 0 0 (k_QX X ad (shX ++ rest).length (k_R1 out.1 (some (.int out.2.1)) (k_ap [(69, .inr (.inr (.inl out.2.2)))] ((shX ++ rest), I, L, Rf))) (k_R2 out.1 (k_ap [(69, .inr (.inr (.inl out.2.2)))] ((shX ++ rest), I, L, Rf))) 1 6) ad (k_ap [(69, .inr (.inr (.inl a69)))] ((shX ++ rest), I, L, Rf)) 0 [some (.ref 0), some (.int x0)] []
  refine k_mask [true, true] ?_
  exact sX10_lacks_0 u C hr hR hx hRc hRs hT hsm ec3_10 ea8 ea9 ea27 a69 x0 h
