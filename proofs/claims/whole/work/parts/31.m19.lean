/-! LullabyPitModel.tap(I)I -/
theorem ds_X11_tap : k_ds [(0, 0, 0), (1, 2, 0)] = true := by decide +kernel
set_option maxHeartbeats 400000 in
set_option maxRecDepth 100000 in
theorem sX11_tap_0 (u : Nat) {X : k_X} {ad : Nat → Nat} (C : k_C X cX11_tap RX11 2 ad) (hr : X.meth.sig.returnType = (some .int)) (hR : X.R.frames = 1 ∧ X.R.locals = 23) {I : Nat → Nat → Int32} {L : Nat → Nat → Int64} {Rf : Nat → Nat → Option Nat} {c0_25 : Int32} (ec0_25 : I 0 25 = c0_25) {c0_26 : Int32} (ec0_26 : I 0 26 = c0_26) {a7 : (Nat → Int32)} (ea7 : I 7 = a7) {out : Int32 × Int32 × (Nat → Int32)} : ∀ (c0_0 : Int32) (a1 : (Nat → Int32)) (v1 : Int32), bX11_tap_0 u c0_25 c0_26 a7 c0_0 a1 v1 = some out → k_W X 2 0 0 (k_Q X ad (some (.int out.1)) (k_ap [(0, .inl (0, out.2.1)), (1, .inr (.inr (.inl out.2.2)))] (shM, I, L, Rf))) ad (k_ap [(0, .inl (0, c0_0)), (1, .inr (.inr (.inl a1)))] (shM, I, L, Rf)) 0 [some (.ref 0), some (.int v1)] [] := by
  intro c0_0 a1 v1 h
  unfold bX11_tap_0 at h
  refine r_aload_n C dX11_tap_0 (rfl : 0 + 1 = 1) rfl ?_
  refine r_iconst (v := (0 : Int32)) C dX11_tap_1 (rfl : 1 + 1 = 2) rfl ?_
  refine p_I (us' := [(0, .inl (0, (0 : Int32))), (1, .inr (.inr (.inl a1)))]) C dX11_tap_2 (rfl : 2 + 3 = 5) fp_X11_3 rfl rfl ds_X11_tap rfl rfl rfl ?_
  refine r_aload_n C dX11_tap_5 (rfl : 5 + 1 = 6) rfl ?_
  refine r_aload_n C dX11_tap_6 (rfl : 6 + 1 = 7) rfl ?_
  refine r_iload_n C dX11_tap_7 (rfl : 7 + 1 = 8) rfl ?_
  obtain ⟨r8, q8, h⟩ := k_b_of h
  refine d_V (As := [.int v1]) (st := [.ref 0]) (st' := [.int r8, .ref 0]) (h' := k_ap [(0, .inl (0, (0 : Int32))), (1, .inr (.inr (.inl a1)))] (shM, I, L, Rf)) C hR ⟨Nat.zero_le _, Nat.zero_le _⟩ mv_X11_isColumn lk_X11_452 dX11_tap_8 (rfl : 8 + 3 = 11) rfl rfl rfl rfl (c_X11_isColumn X.l u (k_ap [(0, .inl (0, (0 : Int32))), (1, .inr (.inr (.inl a1)))] (shM, I, L, Rf)) rfl ec0_25 q8) rfl rfl rfl rfl rfl ?_
  refine r_iconst (v := (1 : Int32)) C dX11_tap_11 (rfl : 11 + 1 = 12) rfl ?_
  refine r_iconst (v := (2 : Int32)) C dX11_tap_12 (rfl : 12 + 1 = 13) rfl ?_
  obtain ⟨r13, q13, h⟩ := k_b_of h
  refine d_V (As := [.int r8, .int (1 : Int32), .int (2 : Int32)]) (st := []) (st' := [.int r13.1]) (h' := k_ap [(0, .inl (0, r13.2.1)), (1, .inr (.inr (.inl r13.2.2)))] (shM, I, L, Rf)) C hR ⟨Nat.zero_le _, Nat.zero_le _⟩ mv_X11_may lk_X11_252 dX11_tap_13 (rfl : 13 + 3 = 16) rfl rfl rfl rfl (c_X11_may X.l u (k_ap [(0, .inl (0, (0 : Int32))), (1, .inr (.inr (.inl a1)))] (shM, I, L, Rf)) rfl rfl rfl q13) rfl rfl rfl (k_jn (us' := [(0, .inl (0, r13.2.1)), (1, .inr (.inr (.inl r13.2.2)))]) ds_X11_tap rfl rfl rfl) rfl ?_
  refine r_if_ne (tgt := 21) C dX11_tap_16 (by decide) (rfl : 16 + 3 = 19) (fun c16 => ?_) (fun c16 => ?_)
  · have h := k_f c16 h
    refine r_aload_n C dX11_tap_21 (rfl : 21 + 1 = 22) rfl ?_
    refine r_iload_n C dX11_tap_22 (rfl : 22 + 1 = 23) rfl ?_
    obtain ⟨r23, q23, h⟩ := k_b_of h
    refine d_V (As := [.int v1]) (st := []) (st' := [.int r23]) (h' := k_ap [(0, .inl (0, r13.2.1)), (1, .inr (.inr (.inl r13.2.2)))] (shM, I, L, Rf)) C hR ⟨Nat.zero_le _, Nat.zero_le _⟩ mv_X11_tapAt lk_X11_455 dX11_tap_23 (rfl : 23 + 3 = 26) rfl rfl rfl rfl (c_X11_tapAt X.l u (k_ap [(0, .inl (0, r13.2.1)), (1, .inr (.inr (.inl r13.2.2)))] (shM, I, L, Rf)) rfl ec0_25 ec0_26 ea7 q23) rfl rfl rfl rfl rfl ?_
    cases h
    exact r_iret C hr dX11_tap_26
  · have h := k_t c16 h
    refine r_iconst (v := (0 : Int32)) C dX11_tap_19 (rfl : 19 + 1 = 20) rfl ?_
    cases h
    exact r_iret C hr dX11_tap_20
set_option maxHeartbeats 400000 in
set_option maxRecDepth 100000 in
theorem c_X11_tap (l : Launch) (u : Nat) (h : k_H) (hsh : h.1 = shM) {c0_0 : Int32} (ec0_0 : h.2.1 0 0 = c0_0) {c0_25 : Int32} (ec0_25 : h.2.1 0 25 = c0_25) {c0_26 : Int32} (ec0_26 : h.2.1 0 26 = c0_26) {a1 : (Nat → Int32)} (ea1 : h.2.1 1 = a1) {a7 : (Nat → Int32)} (ea7 : h.2.1 7 = a7) {x0 : Int32} {out : Int32 × Int32 × (Nat → Int32)} (hf : f_X11_tap u c0_0 c0_25 c0_26 a1 a7 x0 = some out) : k_CT l yX11_tap cX11_tap 2 (some .int) 1 23 [.ref 0, .int x0] h (some (.int out.1)) [(0, .inl (0, out.2.1)), (1, .inr (.inr (.inl out.2.2)))] := by
  obtain ⟨sh, I, L, Rf⟩ := h
  try dsimp only
  obtain rfl : sh = shM := hsh
  refine k_ofW (by decide) (Nat.le_of_ble_eq_true rfl) ?_
  intro X ad hl hR0 hr C
  have hR : X.R.frames = 1 ∧ X.R.locals = 23 := by rw [hR0]; exact ⟨rfl, rfl⟩
  have h := hf
  unfold f_X11_tap at h
  refine k_start (us := [(0, .inl (0, c0_0)), (1, .inr (.inr (.inl a1)))]) (k_ao_I ec0_0 (k_ao_A ea1 k_ap_0)) ?_
  show k_W X 2 0 0 _ ad (k_ap [(0, .inl (0, c0_0)), (1, .inr (.inr (.inl a1)))] (shM, I, L, Rf)) 0 [some (.ref 0), some (.int x0)] []
  refine k_mask [true, true] ?_
  exact sX11_tap_0 u C hr hR ec0_25 ec0_26 ea7 c0_0 a1 x0 h
/-! LullabyPitModel.moved(II)I -/
theorem ds_X11_moved : k_ds [(0, 0, 0), (1, 2, 0)] = true := by decide +kernel
set_option maxHeartbeats 400000 in
set_option maxRecDepth 100000 in
theorem sX11_moved_30 (u : Nat) {X : k_X} {ad : Nat → Nat} (C : k_C X cX11_moved RX11 3 ad) (hr : X.meth.sig.returnType = (some .int)) (hR : X.R.frames = 1 ∧ X.R.locals = 23) {I : Nat → Nat → Int32} {L : Nat → Nat → Int64} {Rf : Nat → Nat → Option Nat} {c0_25 : Int32} (ec0_25 : I 0 25 = c0_25) {c0_26 : Int32} (ec0_26 : I 0 26 = c0_26) {a7 : (Nat → Int32)} (ea7 : I 7 = a7) {out : Int32 × Int32 × (Nat → Int32)} : ∀ (c0_0 : Int32) (a1 : (Nat → Int32)) (v1 : Int32) (v2 : Int32) (w0 : Int32), bX11_moved_30 u c0_25 c0_26 a7 c0_0 a1 v1 v2 w0 = some out → k_W X 3 0 0 (k_Q X ad (some (.int out.1)) (k_ap [(0, .inl (0, out.2.1)), (1, .inr (.inr (.inl out.2.2)))] (shM, I, L, Rf))) ad (k_ap [(0, .inl (0, c0_0)), (1, .inr (.inr (.inl a1)))] (shM, I, L, Rf)) 30 [some (.ref 0), some (.int v1), some (.int v2)] [.int w0, .ref 0] := by
  intro c0_0 a1 v1 v2 w0 h
  unfold bX11_moved_30 at h
  refine r_iconst (v := (1 : Int32)) C dX11_moved_30 (rfl : 30 + 1 = 31) rfl ?_
  refine r_iconst (v := (2 : Int32)) C dX11_moved_31 (rfl : 31 + 1 = 32) rfl ?_
  obtain ⟨r32, q32, h⟩ := k_b_of h
  refine d_V (As := [.int w0, .int (1 : Int32), .int (2 : Int32)]) (st := []) (st' := [.int r32.1]) (h' := k_ap [(0, .inl (0, r32.2.1)), (1, .inr (.inr (.inl r32.2.2)))] (shM, I, L, Rf)) C hR ⟨Nat.zero_le _, Nat.zero_le _⟩ mv_X11_may lk_X11_252 dX11_moved_32 (rfl : 32 + 3 = 35) rfl rfl rfl rfl (c_X11_may X.l u (k_ap [(0, .inl (0, c0_0)), (1, .inr (.inr (.inl a1)))] (shM, I, L, Rf)) rfl rfl rfl q32) rfl rfl rfl (k_jn (us' := [(0, .inl (0, r32.2.1)), (1, .inr (.inr (.inl r32.2.2)))]) ds_X11_moved rfl rfl rfl) rfl ?_
  refine r_if_ne (tgt := 40) C dX11_moved_35 (by decide) (rfl : 35 + 3 = 38) (fun c35 => ?_) (fun c35 => ?_)
  · have h := k_f c35 h
    refine r_aload_n C dX11_moved_40 (rfl : 40 + 1 = 41) rfl ?_
    refine r_iload_n C dX11_moved_41 (rfl : 41 + 1 = 42) rfl ?_
    refine r_iload_n C dX11_moved_42 (rfl : 42 + 1 = 43) rfl ?_
    refine r_isub C dX11_moved_43 (rfl : 43 + 1 = 44) ?_
    obtain ⟨r44, q44, h⟩ := k_b_of h
    refine d_V (As := [.int (v1 - v2)]) (st := []) (st' := [.int r44]) (h' := k_ap [(0, .inl (0, r32.2.1)), (1, .inr (.inr (.inl r32.2.2)))] (shM, I, L, Rf)) C hR ⟨Nat.zero_le _, Nat.zero_le _⟩ mv_X11_tapAt lk_X11_455 dX11_moved_44 (rfl : 44 + 3 = 47) rfl rfl rfl rfl (c_X11_tapAt X.l u (k_ap [(0, .inl (0, r32.2.1)), (1, .inr (.inr (.inl r32.2.2)))] (shM, I, L, Rf)) rfl ec0_25 ec0_26 ea7 q44) rfl rfl rfl rfl rfl ?_
    cases h
    exact r_iret C hr dX11_moved_47
  · have h := k_t c35 h
    refine r_iconst (v := (0 : Int32)) C dX11_moved_38 (rfl : 38 + 1 = 39) rfl ?_
    cases h
    exact r_iret C hr dX11_moved_39
set_option maxHeartbeats 400000 in
set_option maxRecDepth 100000 in
theorem sX11_moved_29 (u : Nat) {X : k_X} {ad : Nat → Nat} (C : k_C X cX11_moved RX11 3 ad) (hr : X.meth.sig.returnType = (some .int)) (hR : X.R.frames = 1 ∧ X.R.locals = 23) {I : Nat → Nat → Int32} {L : Nat → Nat → Int64} {Rf : Nat → Nat → Option Nat} {c0_25 : Int32} (ec0_25 : I 0 25 = c0_25) {c0_26 : Int32} (ec0_26 : I 0 26 = c0_26) {a7 : (Nat → Int32)} (ea7 : I 7 = a7) {out : Int32 × Int32 × (Nat → Int32)} : ∀ (c0_0 : Int32) (a1 : (Nat → Int32)) (v1 : Int32) (v2 : Int32), bX11_moved_29 u c0_25 c0_26 a7 c0_0 a1 v1 v2 = some out → k_W X 3 0 0 (k_Q X ad (some (.int out.1)) (k_ap [(0, .inl (0, out.2.1)), (1, .inr (.inr (.inl out.2.2)))] (shM, I, L, Rf))) ad (k_ap [(0, .inl (0, c0_0)), (1, .inr (.inr (.inl a1)))] (shM, I, L, Rf)) 29 [some (.ref 0), some (.int v1), some (.int v2)] [.ref 0] := by
  intro c0_0 a1 v1 v2 h
  unfold bX11_moved_29 at h
  refine r_iconst (v := (0 : Int32)) C dX11_moved_29 (rfl : 29 + 1 = 30) rfl ?_
  refine k_mask [true, true, true] ?_
  exact sX11_moved_30 u C hr hR ec0_25 ec0_26 ea7 c0_0 a1 v1 v2 (0 : Int32) h
set_option maxHeartbeats 400000 in
set_option maxRecDepth 100000 in
theorem sX11_moved_0 (u : Nat) {X : k_X} {ad : Nat → Nat} (C : k_C X cX11_moved RX11 3 ad) (hr : X.meth.sig.returnType = (some .int)) (hR : X.R.frames = 1 ∧ X.R.locals = 23) {I : Nat → Nat → Int32} {L : Nat → Nat → Int64} {Rf : Nat → Nat → Option Nat} {c0_25 : Int32} (ec0_25 : I 0 25 = c0_25) {c0_26 : Int32} (ec0_26 : I 0 26 = c0_26) {a7 : (Nat → Int32)} (ea7 : I 7 = a7) {out : Int32 × Int32 × (Nat → Int32)} : ∀ (c0_0 : Int32) (a1 : (Nat → Int32)) (v1 : Int32) (v2 : Int32), bX11_moved_0 u c0_25 c0_26 a7 c0_0 a1 v1 v2 = some out → k_W X 3 0 0 (k_Q X ad (some (.int out.1)) (k_ap [(0, .inl (0, out.2.1)), (1, .inr (.inr (.inl out.2.2)))] (shM, I, L, Rf))) ad (k_ap [(0, .inl (0, c0_0)), (1, .inr (.inr (.inl a1)))] (shM, I, L, Rf)) 0 [some (.ref 0), some (.int v1), some (.int v2)] [] := by
  intro c0_0 a1 v1 v2 h
  unfold bX11_moved_0 at h
  refine r_aload_n C dX11_moved_0 (rfl : 0 + 1 = 1) rfl ?_
  refine r_iconst (v := (0 : Int32)) C dX11_moved_1 (rfl : 1 + 1 = 2) rfl ?_
  refine p_I (us' := [(0, .inl (0, (0 : Int32))), (1, .inr (.inr (.inl a1)))]) C dX11_moved_2 (rfl : 2 + 3 = 5) fp_X11_3 rfl rfl ds_X11_moved rfl rfl rfl ?_
  refine r_aload_n C dX11_moved_5 (rfl : 5 + 1 = 6) rfl ?_
  refine r_aload_n C dX11_moved_6 (rfl : 6 + 1 = 7) rfl ?_
  refine r_iload_n C dX11_moved_7 (rfl : 7 + 1 = 8) rfl ?_
  obtain ⟨r8, q8, h⟩ := k_b_of h
  refine d_V (As := [.int v1]) (st := [.ref 0]) (st' := [.int r8, .ref 0]) (h' := k_ap [(0, .inl (0, (0 : Int32))), (1, .inr (.inr (.inl a1)))] (shM, I, L, Rf)) C hR ⟨Nat.zero_le _, Nat.zero_le _⟩ mv_X11_isColumn lk_X11_452 dX11_moved_8 (rfl : 8 + 3 = 11) rfl rfl rfl rfl (c_X11_isColumn X.l u (k_ap [(0, .inl (0, (0 : Int32))), (1, .inr (.inr (.inl a1)))] (shM, I, L, Rf)) rfl ec0_25 q8) rfl rfl rfl rfl rfl ?_
  refine r_if_eq (tgt := 29) C dX11_moved_11 (by decide) (rfl : 11 + 3 = 14) (fun c11 => ?_) (fun c11 => ?_)
  · have h := k_t c11 h
    refine k_mask [true, true, true] ?_
    exact sX11_moved_29 u C hr hR ec0_25 ec0_26 ea7 (0 : Int32) a1 v1 v2 h
  · have h := k_f c11 h
    refine r_iload_n C dX11_moved_14 (rfl : 14 + 1 = 15) rfl ?_
    refine r_bipush (v := (-7 : Int32)) C dX11_moved_15 (rfl : 15 + 2 = 17) rfl ?_
    refine r_bipush (v := (7 : Int32)) C dX11_moved_17 (rfl : 17 + 2 = 19) rfl ?_
    obtain ⟨r19, q19, h⟩ := k_b_of h
    refine d_S (As := [.int v2, .int (-7 : Int32), .int (7 : Int32)]) (st := [.ref 0]) (st' := [.int r19, .ref 0]) (h' := k_ap [(0, .inl (0, (0 : Int32))), (1, .inr (.inr (.inl a1)))] (shM, I, L, Rf)) C hR ⟨Nat.zero_le _, Nat.zero_le _⟩ ms_X11_within lk_X11_317 dX11_moved_19 (rfl : 19 + 3 = 22) rfl rfl (c_X11_within X.l u (k_ap [(0, .inl (0, (0 : Int32))), (1, .inr (.inr (.inl a1)))] (shM, I, L, Rf)) rfl  q19) rfl rfl rfl rfl rfl ?_
    refine r_if_eq (tgt := 29) C dX11_moved_22 (by decide) (rfl : 22 + 3 = 25) (fun c22 => ?_) (fun c22 => ?_)
    · have h := k_t c22 h
      refine k_mask [true, true, true] ?_
      exact sX11_moved_29 u C hr hR ec0_25 ec0_26 ea7 (0 : Int32) a1 v1 v2 h
    · have h := k_f c22 h
      refine r_iconst (v := (1 : Int32)) C dX11_moved_25 (rfl : 25 + 1 = 26) rfl ?_
      refine r_goto (tgt := 30) C dX11_moved_26 (by decide) ?_
      refine k_mask [true, true, true] ?_
      exact sX11_moved_30 u C hr hR ec0_25 ec0_26 ea7 (0 : Int32) a1 v1 v2 (1 : Int32) h
set_option maxHeartbeats 400000 in
set_option maxRecDepth 100000 in
theorem c_X11_moved (l : Launch) (u : Nat) (h : k_H) (hsh : h.1 = shM) {c0_0 : Int32} (ec0_0 : h.2.1 0 0 = c0_0) {c0_25 : Int32} (ec0_25 : h.2.1 0 25 = c0_25) {c0_26 : Int32} (ec0_26 : h.2.1 0 26 = c0_26) {a1 : (Nat → Int32)} (ea1 : h.2.1 1 = a1) {a7 : (Nat → Int32)} (ea7 : h.2.1 7 = a7) {x0 : Int32} {x1 : Int32} {out : Int32 × Int32 × (Nat → Int32)} (hf : f_X11_moved u c0_0 c0_25 c0_26 a1 a7 x0 x1 = some out) : k_CT l yX11_moved cX11_moved 3 (some .int) 1 23 [.ref 0, .int x0, .int x1] h (some (.int out.1)) [(0, .inl (0, out.2.1)), (1, .inr (.inr (.inl out.2.2)))] := by
  obtain ⟨sh, I, L, Rf⟩ := h
  try dsimp only
  obtain rfl : sh = shM := hsh
  refine k_ofW (by decide) (Nat.le_of_ble_eq_true rfl) ?_
  intro X ad hl hR0 hr C
  have hR : X.R.frames = 1 ∧ X.R.locals = 23 := by rw [hR0]; exact ⟨rfl, rfl⟩
  have h := hf
  unfold f_X11_moved at h
  refine k_start (us := [(0, .inl (0, c0_0)), (1, .inr (.inr (.inl a1)))]) (k_ao_I ec0_0 (k_ao_A ea1 k_ap_0)) ?_
  show k_W X 3 0 0 _ ad (k_ap [(0, .inl (0, c0_0)), (1, .inr (.inr (.inl a1)))] (shM, I, L, Rf)) 0 [some (.ref 0), some (.int x0), some (.int x1)] []
  refine k_mask [true, true, true] ?_
  exact sX11_moved_0 u C hr hR ec0_25 ec0_26 ea7 c0_0 a1 x0 x1 h
/-! LullabyPitModel.fitsNow()I -/
theorem ds_X11_fitsNow : k_ds [] = true := by decide +kernel
set_option maxHeartbeats 400000 in
set_option maxRecDepth 100000 in
theorem sX11_fitsNow_79 (u : Nat) {X : k_X} {ad : Nat → Nat} (C : k_C X cX11_fitsNow RX11 5 ad) (hr : X.meth.sig.returnType = (some .int)) (hR : X.R.frames = 1 ∧ X.R.locals = 22) {I : Nat → Nat → Int32} {L : Nat → Nat → Int64} {Rf : Nat → Nat → Option Nat} {c0_25 : Int32} (ec0_25 : I 0 25 = c0_25) {c0_26 : Int32} (ec0_26 : I 0 26 = c0_26) {c0_54 : Int32} (ec0_54 : I 0 54 = c0_54) {a7 : (Nat → Int32)} (ea7 : I 7 = a7) {a26 : (Nat → Int32)} (ea26 : I 26 = a26) {out : Int32} {k5 : Int32 → Int32 → Option (Int32)} (hk5 : ∀ (v1 : Int32) (v2 : Int32), k5 v1 v2 = some out → k_W X 5 0 0 (k_Q X ad (some (.int out)) (k_ap [] (shM, I, L, Rf))) ad (k_ap [] (shM, I, L, Rf)) 5 [some (.ref 0), some (.int v1), some (.int v2), none, none] []) {k16 : Int32 → Int32 → Int32 → Int32 → Option (Int32)} (hk16 : ∀ (v1 : Int32) (v2 : Int32) (v3 : Int32) (v4 : Int32), k16 v1 v2 v3 v4 = some out → k_W X 5 0 0 (k_Q X ad (some (.int out)) (k_ap [] (shM, I, L, Rf))) ad (k_ap [] (shM, I, L, Rf)) 16 [some (.ref 0), some (.int v1), some (.int v2), some (.int v3), some (.int v4)] []) : ∀ (v1 : Int32) (v2 : Int32) (v4 : Int32) (w0 : Int32), bX11_fitsNow_79 u c0_25 c0_26 c0_54 a7 a26 k5 k16 v1 v2 v4 w0 = some out → k_W X 5 0 0 (k_Q X ad (some (.int out)) (k_ap [] (shM, I, L, Rf))) ad (k_ap [] (shM, I, L, Rf)) 79 [some (.ref 0), some (.int v1), some (.int v2), none, some (.int v4)] [.int w0] := by
  intro v1 v2 v4 w0 h
  unfold bX11_fitsNow_79 at h
  refine r_istore_n C dX11_fitsNow_79 (rfl : 79 + 1 = 80) (by decide) (Nat.le_of_ble_eq_true rfl) ?_
  show k_W _ _ _ _ _ _ _ _ [some (.ref 0), some (.int v1), some (.int v2), some (.int w0), some (.int v4)] _
  refine r_iinc (v := (v4 + (1 : Int32))) C dX11_fitsNow_80 (rfl : 80 + 3 = 83) rfl rfl (by decide) ?_
  show k_W _ _ _ _ _ _ _ _ [some (.ref 0), some (.int v1), some (.int v2), some (.int w0), some (.int (v4 + (1 : Int32)))] _
  refine r_goto (tgt := 16) C dX11_fitsNow_83 (by decide) ?_
  refine k_mask [true, true, true, true, true] ?_
  exact hk16 v1 v2 w0 (v4 + (1 : Int32)) h
set_option maxHeartbeats 400000 in
set_option maxRecDepth 100000 in
theorem sX11_fitsNow_78 (u : Nat) {X : k_X} {ad : Nat → Nat} (C : k_C X cX11_fitsNow RX11 5 ad) (hr : X.meth.sig.returnType = (some .int)) (hR : X.R.frames = 1 ∧ X.R.locals = 22) {I : Nat → Nat → Int32} {L : Nat → Nat → Int64} {Rf : Nat → Nat → Option Nat} {c0_25 : Int32} (ec0_25 : I 0 25 = c0_25) {c0_26 : Int32} (ec0_26 : I 0 26 = c0_26) {c0_54 : Int32} (ec0_54 : I 0 54 = c0_54) {a7 : (Nat → Int32)} (ea7 : I 7 = a7) {a26 : (Nat → Int32)} (ea26 : I 26 = a26) {out : Int32} {k5 : Int32 → Int32 → Option (Int32)} (hk5 : ∀ (v1 : Int32) (v2 : Int32), k5 v1 v2 = some out → k_W X 5 0 0 (k_Q X ad (some (.int out)) (k_ap [] (shM, I, L, Rf))) ad (k_ap [] (shM, I, L, Rf)) 5 [some (.ref 0), some (.int v1), some (.int v2), none, none] []) {k16 : Int32 → Int32 → Int32 → Int32 → Option (Int32)} (hk16 : ∀ (v1 : Int32) (v2 : Int32) (v3 : Int32) (v4 : Int32), k16 v1 v2 v3 v4 = some out → k_W X 5 0 0 (k_Q X ad (some (.int out)) (k_ap [] (shM, I, L, Rf))) ad (k_ap [] (shM, I, L, Rf)) 16 [some (.ref 0), some (.int v1), some (.int v2), some (.int v3), some (.int v4)] []) : ∀ (v1 : Int32) (v2 : Int32) (v4 : Int32), bX11_fitsNow_78 u c0_25 c0_26 c0_54 a7 a26 k5 k16 v1 v2 v4 = some out → k_W X 5 0 0 (k_Q X ad (some (.int out)) (k_ap [] (shM, I, L, Rf))) ad (k_ap [] (shM, I, L, Rf)) 78 [some (.ref 0), some (.int v1), some (.int v2), none, some (.int v4)] [] := by
  intro v1 v2 v4 h
  unfold bX11_fitsNow_78 at h
  refine r_iconst (v := (0 : Int32)) C dX11_fitsNow_78 (rfl : 78 + 1 = 79) rfl ?_
  refine k_mask [true, true, true, false, true] ?_
  exact sX11_fitsNow_79 u C hr hR ec0_25 ec0_26 ec0_54 ea7 ea26 hk5 hk16 v1 v2 v4 (0 : Int32) h
set_option maxHeartbeats 400000 in
set_option maxRecDepth 100000 in
theorem sX11_fitsNow_101 (u : Nat) {X : k_X} {ad : Nat → Nat} (C : k_C X cX11_fitsNow RX11 5 ad) (hr : X.meth.sig.returnType = (some .int)) (hR : X.R.frames = 1 ∧ X.R.locals = 22) {I : Nat → Nat → Int32} {L : Nat → Nat → Int64} {Rf : Nat → Nat → Option Nat} {c0_25 : Int32} (ec0_25 : I 0 25 = c0_25) {c0_26 : Int32} (ec0_26 : I 0 26 = c0_26) {c0_54 : Int32} (ec0_54 : I 0 54 = c0_54) {a7 : (Nat → Int32)} (ea7 : I 7 = a7) {a26 : (Nat → Int32)} (ea26 : I 26 = a26) {out : Int32} {k5 : Int32 → Int32 → Option (Int32)} (hk5 : ∀ (v1 : Int32) (v2 : Int32), k5 v1 v2 = some out → k_W X 5 0 0 (k_Q X ad (some (.int out)) (k_ap [] (shM, I, L, Rf))) ad (k_ap [] (shM, I, L, Rf)) 5 [some (.ref 0), some (.int v1), some (.int v2), none, none] []) : ∀ (v2 : Int32) (w0 : Int32) (w1 : Int32), bX11_fitsNow_101 u c0_25 c0_26 c0_54 a7 a26 k5 v2 w0 w1 = some out → k_W X 5 0 0 (k_Q X ad (some (.int out)) (k_ap [] (shM, I, L, Rf))) ad (k_ap [] (shM, I, L, Rf)) 101 [some (.ref 0), none, some (.int v2), none, none] [.int w0, .int w1] := by
  intro v2 w0 w1 h
  unfold bX11_fitsNow_101 at h
  refine r_ior C dX11_fitsNow_101 (rfl : 101 + 1 = 102) ?_
  refine r_istore_n C dX11_fitsNow_102 (rfl : 102 + 1 = 103) (by decide) (Nat.le_of_ble_eq_true rfl) ?_
  show k_W _ _ _ _ _ _ _ _ [some (.ref 0), some (.int (w1 ||| w0)), some (.int v2), none, none] _
  refine r_iinc (v := (v2 + (1 : Int32))) C dX11_fitsNow_103 (rfl : 103 + 3 = 106) rfl rfl (by decide) ?_
  show k_W _ _ _ _ _ _ _ _ [some (.ref 0), some (.int (w1 ||| w0)), some (.int (v2 + (1 : Int32))), none, none] _
  refine r_goto (tgt := 5) C dX11_fitsNow_106 (by decide) ?_
  refine k_mask [true, true, true, false, false] ?_
  exact hk5 (w1 ||| w0) (v2 + (1 : Int32)) h
set_option maxHeartbeats 400000 in
set_option maxRecDepth 100000 in
theorem sX11_fitsNow_16 (u : Nat) {X : k_X} {ad : Nat → Nat} (C : k_C X cX11_fitsNow RX11 5 ad) (hr : X.meth.sig.returnType = (some .int)) (hR : X.R.frames = 1 ∧ X.R.locals = 22) {I : Nat → Nat → Int32} {L : Nat → Nat → Int64} {Rf : Nat → Nat → Option Nat} {c0_25 : Int32} (ec0_25 : I 0 25 = c0_25) {c0_26 : Int32} (ec0_26 : I 0 26 = c0_26) {c0_54 : Int32} (ec0_54 : I 0 54 = c0_54) {a7 : (Nat → Int32)} (ea7 : I 7 = a7) {a26 : (Nat → Int32)} (ea26 : I 26 = a26) {out : Int32} {k5 : Int32 → Int32 → Option (Int32)} (hk5 : ∀ (v1 : Int32) (v2 : Int32), k5 v1 v2 = some out → k_W X 5 0 0 (k_Q X ad (some (.int out)) (k_ap [] (shM, I, L, Rf))) ad (k_ap [] (shM, I, L, Rf)) 5 [some (.ref 0), some (.int v1), some (.int v2), none, none] []) : ∀ (n : Nat) (v1 : Int32) (v2 : Int32) (v3 : Int32) (v4 : Int32), bX11_fitsNow_16 u c0_25 c0_26 c0_54 a7 a26 k5 n v1 v2 v3 v4 = some out → k_W X 5 0 0 (k_Q X ad (some (.int out)) (k_ap [] (shM, I, L, Rf))) ad (k_ap [] (shM, I, L, Rf)) 16 [some (.ref 0), some (.int v1), some (.int v2), some (.int v3), some (.int v4)] [] := by
  intro n
  induction n with
  | zero => intro v1 v2 v3 v4 h; cases h
  | succ n ih =>
    intro v1 v2 v3 v4 h
    refine r_iload C dX11_fitsNow_16 (rfl : 16 + 2 = 18) rfl ?_
    refine r_aload_n C dX11_fitsNow_18 (rfl : 18 + 1 = 19) rfl ?_
    refine r_getI (v := c0_54) C dX11_fitsNow_19 (rfl : 19 + 3 = 22) fl_X11_206 rfl rfl ec0_54 ?_
    refine r_icmp_ge (tgt := 86) C dX11_fitsNow_22 (by decide) (rfl : 22 + 3 = 25) (fun c22 => ?_) (fun c22 => ?_)
    · have h := k_t c22 h
      refine r_iload_n C dX11_fitsNow_86 (rfl : 86 + 1 = 87) rfl ?_
      refine r_iload_n C dX11_fitsNow_87 (rfl : 87 + 1 = 88) rfl ?_
      refine r_if_eq (tgt := 100) C dX11_fitsNow_88 (by decide) (rfl : 88 + 3 = 91) (fun c88 => ?_) (fun c88 => ?_)
      · have h := k_t c88 h
        refine r_iconst (v := (0 : Int32)) C dX11_fitsNow_100 (rfl : 100 + 1 = 101) rfl ?_
        refine k_mask [true, false, true, false, false] ?_
        exact sX11_fitsNow_101 u C hr hR ec0_25 ec0_26 ec0_54 ea7 ea26 hk5 v2 (0 : Int32) v1 h
      · have h := k_f c88 h
        refine r_iconst (v := (1 : Int32)) C dX11_fitsNow_91 (rfl : 91 + 1 = 92) rfl ?_
        refine r_iload_n C dX11_fitsNow_92 (rfl : 92 + 1 = 93) rfl ?_
        refine r_bipush (v := (7 : Int32)) C dX11_fitsNow_93 (rfl : 93 + 2 = 95) rfl ?_
        refine r_iadd C dX11_fitsNow_95 (rfl : 95 + 1 = 96) ?_
        refine r_ishl C dX11_fitsNow_96 (rfl : 96 + 1 = 97) ?_
        refine r_goto (tgt := 101) C dX11_fitsNow_97 (by decide) ?_
        refine k_mask [true, false, true, false, false] ?_
        exact sX11_fitsNow_101 u C hr hR ec0_25 ec0_26 ec0_54 ea7 ea26 hk5 v2 ((1 : Int32) <<< ((v2 + (7 : Int32)) &&& 31)) v1 h
    · have h := k_f c22 h
      refine r_iload_n C dX11_fitsNow_25 (rfl : 25 + 1 = 26) rfl ?_
      refine r_if_eq (tgt := 78) C dX11_fitsNow_26 (by decide) (rfl : 26 + 3 = 29) (fun c26 => ?_) (fun c26 => ?_)
      · have h := k_t c26 h
        refine k_mask [true, true, true, false, true] ?_
        exact sX11_fitsNow_78 u C hr hR ec0_25 ec0_26 ec0_54 ea7 ea26 hk5 ih v1 v2 v4 h
      · have h := k_f c26 h
        refine r_aload_n C dX11_fitsNow_29 (rfl : 29 + 1 = 30) rfl ?_
        refine r_aload_n C dX11_fitsNow_30 (rfl : 30 + 1 = 31) rfl ?_
        refine r_getR (q := 26) C dX11_fitsNow_31 (rfl : 31 + 3 = 34) fl_X11_93 rfl rfl ?_
        refine r_iconst (v := (2 : Int32)) C dX11_fitsNow_34 (rfl : 34 + 1 = 35) rfl ?_
        refine r_iload C dX11_fitsNow_35 (rfl : 35 + 2 = 37) rfl ?_
        refine r_imul C dX11_fitsNow_37 (rfl : 37 + 1 = 38) ?_
        obtain ⟨hi38, h⟩ := k_i_of h
        refine a_i (j := (((2 : Int32) * v4)).toNatClampNeg) (f := a26) C dX11_fitsNow_38 (rfl : 38 + 1 = 39) rfl ea26 hi38 rfl ?_
        obtain ⟨r39, q39, h⟩ := k_b_of h
        refine d_V (As := [.int (a26 ((((2 : Int32) * v4)).toNatClampNeg))]) (st := []) (st' := [.int r39]) (h' := k_ap [] (shM, I, L, Rf)) C hR ⟨Nat.zero_le _, Nat.zero_le _⟩ mv_X11_isColumn lk_X11_452 dX11_fitsNow_39 (rfl : 39 + 3 = 42) rfl rfl rfl rfl (c_X11_isColumn X.l u (k_ap [] (shM, I, L, Rf)) rfl ec0_25 q39) rfl rfl rfl rfl rfl ?_
        refine r_if_eq (tgt := 78) C dX11_fitsNow_42 (by decide) (rfl : 42 + 3 = 45) (fun c42 => ?_) (fun c42 => ?_)
        · have h := k_t c42 h
          refine k_mask [true, true, true, false, true] ?_
          exact sX11_fitsNow_78 u C hr hR ec0_25 ec0_26 ec0_54 ea7 ea26 hk5 ih v1 v2 v4 h
        · have h := k_f c42 h
          refine r_aload_n C dX11_fitsNow_45 (rfl : 45 + 1 = 46) rfl ?_
          refine r_aload_n C dX11_fitsNow_46 (rfl : 46 + 1 = 47) rfl ?_
          refine r_getR (q := 26) C dX11_fitsNow_47 (rfl : 47 + 3 = 50) fl_X11_93 rfl rfl ?_
          refine r_iconst (v := (2 : Int32)) C dX11_fitsNow_50 (rfl : 50 + 1 = 51) rfl ?_
          refine r_iload C dX11_fitsNow_51 (rfl : 51 + 2 = 53) rfl ?_
          refine r_imul C dX11_fitsNow_53 (rfl : 53 + 1 = 54) ?_
          obtain ⟨hi54, h⟩ := k_i_of h
          refine a_i (j := (((2 : Int32) * v4)).toNatClampNeg) (f := a26) C dX11_fitsNow_54 (rfl : 54 + 1 = 55) rfl ea26 hi54 rfl ?_
          refine r_iload_n C dX11_fitsNow_55 (rfl : 55 + 1 = 56) rfl ?_
          refine r_isub C dX11_fitsNow_56 (rfl : 56 + 1 = 57) ?_
          obtain ⟨r57, q57, h⟩ := k_b_of h
          refine d_V (As := [.int ((a26 ((((2 : Int32) * v4)).toNatClampNeg)) - v2)]) (st := []) (st' := [.int r57]) (h' := k_ap [] (shM, I, L, Rf)) C hR ⟨Nat.zero_le _, Nat.zero_le _⟩ mv_X11_tapAt lk_X11_455 dX11_fitsNow_57 (rfl : 57 + 3 = 60) rfl rfl rfl rfl (c_X11_tapAt X.l u (k_ap [] (shM, I, L, Rf)) rfl ec0_25 ec0_26 ea7 q57) rfl rfl rfl rfl rfl ?_
          refine r_aload_n C dX11_fitsNow_60 (rfl : 60 + 1 = 61) rfl ?_
          refine r_getR (q := 26) C dX11_fitsNow_61 (rfl : 61 + 3 = 64) fl_X11_93 rfl rfl ?_
          refine r_iconst (v := (2 : Int32)) C dX11_fitsNow_64 (rfl : 64 + 1 = 65) rfl ?_
          refine r_iload C dX11_fitsNow_65 (rfl : 65 + 2 = 67) rfl ?_
          refine r_imul C dX11_fitsNow_67 (rfl : 67 + 1 = 68) ?_
          refine r_iconst (v := (1 : Int32)) C dX11_fitsNow_68 (rfl : 68 + 1 = 69) rfl ?_
          refine r_iadd C dX11_fitsNow_69 (rfl : 69 + 1 = 70) ?_
          obtain ⟨hi70, h⟩ := k_i_of h
          refine a_i (j := ((((2 : Int32) * v4) + (1 : Int32))).toNatClampNeg) (f := a26) C dX11_fitsNow_70 (rfl : 70 + 1 = 71) rfl ea26 hi70 rfl ?_
          refine r_icmp_ne (tgt := 78) C dX11_fitsNow_71 (by decide) (rfl : 71 + 3 = 74) (fun c71 => ?_) (fun c71 => ?_)
          · have h := k_f c71 h
            refine k_mask [true, true, true, false, true] ?_
            exact sX11_fitsNow_78 u C hr hR ec0_25 ec0_26 ec0_54 ea7 ea26 hk5 ih v1 v2 v4 h
          · have h := k_t c71 h
            refine r_iconst (v := (1 : Int32)) C dX11_fitsNow_74 (rfl : 74 + 1 = 75) rfl ?_
            refine r_goto (tgt := 79) C dX11_fitsNow_75 (by decide) ?_
            refine k_mask [true, true, true, false, true] ?_
            exact sX11_fitsNow_79 u C hr hR ec0_25 ec0_26 ec0_54 ea7 ea26 hk5 ih v1 v2 v4 (1 : Int32) h
set_option maxHeartbeats 400000 in
set_option maxRecDepth 100000 in
theorem sX11_fitsNow_5 (u : Nat) {X : k_X} {ad : Nat → Nat} (C : k_C X cX11_fitsNow RX11 5 ad) (hr : X.meth.sig.returnType = (some .int)) (hR : X.R.frames = 1 ∧ X.R.locals = 22) {I : Nat → Nat → Int32} {L : Nat → Nat → Int64} {Rf : Nat → Nat → Option Nat} {c0_25 : Int32} (ec0_25 : I 0 25 = c0_25) {c0_26 : Int32} (ec0_26 : I 0 26 = c0_26) {c0_54 : Int32} (ec0_54 : I 0 54 = c0_54) {a7 : (Nat → Int32)} (ea7 : I 7 = a7) {a26 : (Nat → Int32)} (ea26 : I 26 = a26) {out : Int32} : ∀ (n : Nat) (v1 : Int32) (v2 : Int32), bX11_fitsNow_5 u c0_25 c0_26 c0_54 a7 a26 n v1 v2 = some out → k_W X 5 0 0 (k_Q X ad (some (.int out)) (k_ap [] (shM, I, L, Rf))) ad (k_ap [] (shM, I, L, Rf)) 5 [some (.ref 0), some (.int v1), some (.int v2), none, none] [] := by
  intro n
  induction n with
  | zero => intro v1 v2 h; cases h
  | succ n ih =>
    intro v1 v2 h
    refine r_iload_n C dX11_fitsNow_5 (rfl : 5 + 1 = 6) rfl ?_
    refine r_bipush (v := (7 : Int32)) C dX11_fitsNow_6 (rfl : 6 + 2 = 8) rfl ?_
    refine r_icmp_gt (tgt := 109) C dX11_fitsNow_8 (by decide) (rfl : 8 + 3 = 11) (fun c8 => ?_) (fun c8 => ?_)
    · have h := k_t c8 h
      refine r_iload_n C dX11_fitsNow_109 (rfl : 109 + 1 = 110) rfl ?_
      cases h
      exact r_iret C hr dX11_fitsNow_110
    · have h := k_f c8 h
      refine r_iconst (v := (1 : Int32)) C dX11_fitsNow_11 (rfl : 11 + 1 = 12) rfl ?_
      refine r_istore_n C dX11_fitsNow_12 (rfl : 12 + 1 = 13) (by decide) (Nat.le_of_ble_eq_true rfl) ?_
      show k_W _ _ _ _ _ _ _ _ [some (.ref 0), some (.int v1), some (.int v2), some (.int (1 : Int32)), none] _
      refine r_iconst (v := (0 : Int32)) C dX11_fitsNow_13 (rfl : 13 + 1 = 14) rfl ?_
      refine r_istore C dX11_fitsNow_14 (rfl : 14 + 2 = 16) (by decide) (Nat.le_of_ble_eq_true rfl) ?_
      show k_W _ _ _ _ _ _ _ _ [some (.ref 0), some (.int v1), some (.int v2), some (.int (1 : Int32)), some (.int (0 : Int32))] _
      refine k_mask [true, true, true, true, true] ?_
      exact sX11_fitsNow_16 u C hr hR ec0_25 ec0_26 ec0_54 ea7 ea26 ih u v1 v2 (1 : Int32) (0 : Int32) h
set_option maxHeartbeats 400000 in
set_option maxRecDepth 100000 in
theorem sX11_fitsNow_0 (u : Nat) {X : k_X} {ad : Nat → Nat} (C : k_C X cX11_fitsNow RX11 5 ad) (hr : X.meth.sig.returnType = (some .int)) (hR : X.R.frames = 1 ∧ X.R.locals = 22) {I : Nat → Nat → Int32} {L : Nat → Nat → Int64} {Rf : Nat → Nat → Option Nat} {c0_25 : Int32} (ec0_25 : I 0 25 = c0_25) {c0_26 : Int32} (ec0_26 : I 0 26 = c0_26) {c0_54 : Int32} (ec0_54 : I 0 54 = c0_54) {a7 : (Nat → Int32)} (ea7 : I 7 = a7) {a26 : (Nat → Int32)} (ea26 : I 26 = a26) {out : Int32} : bX11_fitsNow_0 u c0_25 c0_26 c0_54 a7 a26 = some out → k_W X 5 0 0 (k_Q X ad (some (.int out)) (k_ap [] (shM, I, L, Rf))) ad (k_ap [] (shM, I, L, Rf)) 0 [some (.ref 0), none, none, none, none] [] := by
  intro h
  unfold bX11_fitsNow_0 at h
  refine r_iconst (v := (0 : Int32)) C dX11_fitsNow_0 (rfl : 0 + 1 = 1) rfl ?_
  refine r_istore_n C dX11_fitsNow_1 (rfl : 1 + 1 = 2) (by decide) (Nat.le_of_ble_eq_true rfl) ?_
  show k_W _ _ _ _ _ _ _ _ [some (.ref 0), some (.int (0 : Int32)), none, none, none] _
  refine r_bipush (v := (-7 : Int32)) C dX11_fitsNow_2 (rfl : 2 + 2 = 4) rfl ?_
  refine r_istore_n C dX11_fitsNow_4 (rfl : 4 + 1 = 5) (by decide) (Nat.le_of_ble_eq_true rfl) ?_
  show k_W _ _ _ _ _ _ _ _ [some (.ref 0), some (.int (0 : Int32)), some (.int (-7 : Int32)), none, none] _
  refine k_mask [true, true, true, false, false] ?_
  exact sX11_fitsNow_5 u C hr hR ec0_25 ec0_26 ec0_54 ea7 ea26 u (0 : Int32) (-7 : Int32) h
set_option maxHeartbeats 400000 in
set_option maxRecDepth 100000 in
theorem c_X11_fitsNow (l : Launch) (u : Nat) (h : k_H) (hsh : h.1 = shM) {c0_25 : Int32} (ec0_25 : h.2.1 0 25 = c0_25) {c0_26 : Int32} (ec0_26 : h.2.1 0 26 = c0_26) {c0_54 : Int32} (ec0_54 : h.2.1 0 54 = c0_54) {a7 : (Nat → Int32)} (ea7 : h.2.1 7 = a7) {a26 : (Nat → Int32)} (ea26 : h.2.1 26 = a26) {out : Int32} (hf : f_X11_fitsNow u c0_25 c0_26 c0_54 a7 a26 = some out) : k_CT l yX11_fitsNow cX11_fitsNow 5 (some .int) 1 22 [.ref 0] h (some (.int out)) [] := by
  obtain ⟨sh, I, L, Rf⟩ := h
  try dsimp only
  obtain rfl : sh = shM := hsh
  refine k_ofW (by decide) (Nat.le_of_ble_eq_true rfl) ?_
  intro X ad hl hR0 hr C
  have hR : X.R.frames = 1 ∧ X.R.locals = 22 := by rw [hR0]; exact ⟨rfl, rfl⟩
  have h := hf
  unfold f_X11_fitsNow at h
  refine k_start (us := []) k_ap_0 ?_
  show k_W X 5 0 0 _ ad (k_ap [] (shM, I, L, Rf)) 0 [some (.ref 0), none, none, none, none] []
  refine k_mask [true, false, false, false, false] ?_
  exact sX11_fitsNow_0 u C hr hR ec0_25 ec0_26 ec0_54 ea7 ea26 h
/-! LullabyPitModel.fits()I -/
theorem ds_X11_fits : k_ds [(0, 0, 0)] = true := by decide +kernel
set_option maxHeartbeats 400000 in
set_option maxRecDepth 100000 in
theorem sX11_fits_0 (u : Nat) {X : k_X} {ad : Nat → Nat} (C : k_C X cX11_fits RX11 1 ad) (hr : X.meth.sig.returnType = (some .int)) (hR : X.R.frames = 2 ∧ X.R.locals = 46) {I : Nat → Nat → Int32} {L : Nat → Nat → Int64} {Rf : Nat → Nat → Option Nat} {c0_25 : Int32} (ec0_25 : I 0 25 = c0_25) {c0_26 : Int32} (ec0_26 : I 0 26 = c0_26) {c0_54 : Int32} (ec0_54 : I 0 54 = c0_54) {a7 : (Nat → Int32)} (ea7 : I 7 = a7) {a26 : (Nat → Int32)} (ea26 : I 26 = a26) {out : Int32 × Int32} : ∀ (c0_0 : Int32), bX11_fits_0 u c0_25 c0_26 c0_54 a7 a26 c0_0 = some out → k_W X 1 0 0 (k_Q X ad (some (.int out.1)) (k_ap [(0, .inl (0, out.2))] (shM, I, L, Rf))) ad (k_ap [(0, .inl (0, c0_0))] (shM, I, L, Rf)) 0 [some (.ref 0)] [] := by
  intro c0_0 h
  unfold bX11_fits_0 at h
  refine r_aload_n C dX11_fits_0 (rfl : 0 + 1 = 1) rfl ?_
  refine r_iconst (v := (0 : Int32)) C dX11_fits_1 (rfl : 1 + 1 = 2) rfl ?_
  refine p_I (us' := [(0, .inl (0, (0 : Int32)))]) C dX11_fits_2 (rfl : 2 + 3 = 5) fp_X11_3 rfl rfl ds_X11_fits rfl rfl rfl ?_
  refine r_aload_n C dX11_fits_5 (rfl : 5 + 1 = 6) rfl ?_
  obtain ⟨r6, q6, h⟩ := k_b_of h
  refine d_V (As := []) (st := []) (st' := [.int r6]) (h' := k_ap [(0, .inl (0, (0 : Int32)))] (shM, I, L, Rf)) C hR ⟨Nat.zero_le _, Nat.zero_le _⟩ mv_X11_fitsNow lk_X11_458 dX11_fits_6 (rfl : 6 + 3 = 9) rfl rfl rfl rfl (c_X11_fitsNow X.l u (k_ap [(0, .inl (0, (0 : Int32)))] (shM, I, L, Rf)) rfl ec0_25 ec0_26 ec0_54 ea7 ea26 q6) rfl rfl rfl rfl rfl ?_
  cases h
  exact r_iret C hr dX11_fits_9
set_option maxHeartbeats 400000 in
set_option maxRecDepth 100000 in
theorem c_X11_fits (l : Launch) (u : Nat) (h : k_H) (hsh : h.1 = shM) {c0_0 : Int32} (ec0_0 : h.2.1 0 0 = c0_0) {c0_25 : Int32} (ec0_25 : h.2.1 0 25 = c0_25) {c0_26 : Int32} (ec0_26 : h.2.1 0 26 = c0_26) {c0_54 : Int32} (ec0_54 : h.2.1 0 54 = c0_54) {a7 : (Nat → Int32)} (ea7 : h.2.1 7 = a7) {a26 : (Nat → Int32)} (ea26 : h.2.1 26 = a26) {out : Int32 × Int32} (hf : f_X11_fits u c0_0 c0_25 c0_26 c0_54 a7 a26 = some out) : k_CT l yX11_fits cX11_fits 1 (some .int) 2 46 [.ref 0] h (some (.int out.1)) [(0, .inl (0, out.2))] := by
  obtain ⟨sh, I, L, Rf⟩ := h
  try dsimp only
  obtain rfl : sh = shM := hsh
  refine k_ofW (by decide) (Nat.le_of_ble_eq_true rfl) ?_
  intro X ad hl hR0 hr C
  have hR : X.R.frames = 2 ∧ X.R.locals = 46 := by rw [hR0]; exact ⟨rfl, rfl⟩
  have h := hf
  unfold f_X11_fits at h
  refine k_start (us := [(0, .inl (0, c0_0))]) (k_ao_I ec0_0 k_ap_0) ?_
  show k_W X 1 0 0 _ ad (k_ap [(0, .inl (0, c0_0))] (shM, I, L, Rf)) 0 [some (.ref 0)] []
  refine k_mask [true] ?_
  exact sX11_fits_0 u C hr hR ec0_25 ec0_26 ec0_54 ea7 ea26 c0_0 h
/-! LullabyPitModel.worstAt(II)I -/
theorem ds_X11_worstAt : k_ds [(30, 2, 0)] = true := by decide +kernel
set_option maxHeartbeats 400000 in
set_option maxRecDepth 100000 in
theorem sX11_worstAt_93 (u : Nat) {X : k_X} {ad : Nat → Nat} (C : k_C X cX11_worstAt RX11 6 ad) (hr : X.meth.sig.returnType = (some .int)) (hR : X.R.frames = 1 ∧ X.R.locals = 22) {I : Nat → Nat → Int32} {L : Nat → Nat → Int64} {Rf : Nat → Nat → Option Nat} {c0_25 : Int32} (ec0_25 : I 0 25 = c0_25) {c0_26 : Int32} (ec0_26 : I 0 26 = c0_26) {a7 : (Nat → Int32)} (ea7 : I 7 = a7) {out : Int32 × (Nat → Int32)} {k27 : (Nat → Int32) → Int32 → Int32 → Int32 → Int32 → Option (Int32 × (Nat → Int32))} (hk27 : ∀ (a30 : (Nat → Int32)) (v1 : Int32) (v2 : Int32) (v3 : Int32) (v4 : Int32), k27 a30 v1 v2 v3 v4 = some out → k_W X 6 0 0 (k_Q X ad (some (.int out.1)) (k_ap [(30, .inr (.inr (.inl out.2)))] (shM, I, L, Rf))) ad (k_ap [(30, .inr (.inr (.inl a30)))] (shM, I, L, Rf)) 27 [some (.ref 0), some (.int v1), some (.int v2), some (.int v3), some (.int v4), none] []) : ∀ (a30 : (Nat → Int32)) (v1 : Int32) (v2 : Int32) (v3 : Int32) (v4 : Int32), bX11_worstAt_93 u c0_25 c0_26 a7 k27 a30 v1 v2 v3 v4 = some out → k_W X 6 0 0 (k_Q X ad (some (.int out.1)) (k_ap [(30, .inr (.inr (.inl out.2)))] (shM, I, L, Rf))) ad (k_ap [(30, .inr (.inr (.inl a30)))] (shM, I, L, Rf)) 93 [some (.ref 0), some (.int v1), some (.int v2), some (.int v3), some (.int v4), none] [] := by
  intro a30 v1 v2 v3 v4 h
  unfold bX11_worstAt_93 at h
  refine r_iinc (v := (v4 + (1 : Int32))) C dX11_worstAt_93 (rfl : 93 + 3 = 96) rfl rfl (by decide) ?_
  show k_W _ _ _ _ _ _ _ _ [some (.ref 0), some (.int v1), some (.int v2), some (.int v3), some (.int (v4 + (1 : Int32))), none] _
  refine r_goto (tgt := 27) C dX11_worstAt_96 (by decide) ?_
  refine k_mask [true, true, true, true, true, false] ?_
  exact hk27 a30 v1 v2 v3 (v4 + (1 : Int32)) h
set_option maxHeartbeats 400000 in
set_option maxRecDepth 100000 in
theorem sX11_worstAt_92 (u : Nat) {X : k_X} {ad : Nat → Nat} (C : k_C X cX11_worstAt RX11 6 ad) (hr : X.meth.sig.returnType = (some .int)) (hR : X.R.frames = 1 ∧ X.R.locals = 22) {I : Nat → Nat → Int32} {L : Nat → Nat → Int64} {Rf : Nat → Nat → Option Nat} {c0_25 : Int32} (ec0_25 : I 0 25 = c0_25) {c0_26 : Int32} (ec0_26 : I 0 26 = c0_26) {a7 : (Nat → Int32)} (ea7 : I 7 = a7) {out : Int32 × (Nat → Int32)} {k27 : (Nat → Int32) → Int32 → Int32 → Int32 → Int32 → Option (Int32 × (Nat → Int32))} (hk27 : ∀ (a30 : (Nat → Int32)) (v1 : Int32) (v2 : Int32) (v3 : Int32) (v4 : Int32), k27 a30 v1 v2 v3 v4 = some out → k_W X 6 0 0 (k_Q X ad (some (.int out.1)) (k_ap [(30, .inr (.inr (.inl out.2)))] (shM, I, L, Rf))) ad (k_ap [(30, .inr (.inr (.inl a30)))] (shM, I, L, Rf)) 27 [some (.ref 0), some (.int v1), some (.int v2), some (.int v3), some (.int v4), none] []) : ∀ (a30 : (Nat → Int32)) (v1 : Int32) (v2 : Int32) (v4 : Int32) (w0 : Int32), bX11_worstAt_92 u c0_25 c0_26 a7 k27 a30 v1 v2 v4 w0 = some out → k_W X 6 0 0 (k_Q X ad (some (.int out.1)) (k_ap [(30, .inr (.inr (.inl out.2)))] (shM, I, L, Rf))) ad (k_ap [(30, .inr (.inr (.inl a30)))] (shM, I, L, Rf)) 92 [some (.ref 0), some (.int v1), some (.int v2), none, some (.int v4), none] [.int w0] := by
  intro a30 v1 v2 v4 w0 h
  unfold bX11_worstAt_92 at h
  refine r_istore_n C dX11_worstAt_92 (rfl : 92 + 1 = 93) (by decide) (Nat.le_of_ble_eq_true rfl) ?_
  show k_W _ _ _ _ _ _ _ _ [some (.ref 0), some (.int v1), some (.int v2), some (.int w0), some (.int v4), none] _
  refine k_mask [true, true, true, true, true, false] ?_
  exact sX11_worstAt_93 u C hr hR ec0_25 ec0_26 ea7 hk27 a30 v1 v2 w0 v4 h
set_option maxHeartbeats 400000 in
set_option maxRecDepth 100000 in
theorem sX11_worstAt_27 (u : Nat) {X : k_X} {ad : Nat → Nat} (C : k_C X cX11_worstAt RX11 6 ad) (hr : X.meth.sig.returnType = (some .int)) (hR : X.R.frames = 1 ∧ X.R.locals = 22) {I : Nat → Nat → Int32} {L : Nat → Nat → Int64} {Rf : Nat → Nat → Option Nat} {c0_25 : Int32} (ec0_25 : I 0 25 = c0_25) {c0_26 : Int32} (ec0_26 : I 0 26 = c0_26) {a7 : (Nat → Int32)} (ea7 : I 7 = a7) {out : Int32 × (Nat → Int32)} : ∀ (n : Nat) (a30 : (Nat → Int32)) (v1 : Int32) (v2 : Int32) (v3 : Int32) (v4 : Int32), bX11_worstAt_27 u c0_25 c0_26 a7 n a30 v1 v2 v3 v4 = some out → k_W X 6 0 0 (k_Q X ad (some (.int out.1)) (k_ap [(30, .inr (.inr (.inl out.2)))] (shM, I, L, Rf))) ad (k_ap [(30, .inr (.inr (.inl a30)))] (shM, I, L, Rf)) 27 [some (.ref 0), some (.int v1), some (.int v2), some (.int v3), some (.int v4), none] [] := by
  intro n
  induction n with
  | zero => intro a30 v1 v2 v3 v4 h; cases h
  | succ n ih =>
    intro a30 v1 v2 v3 v4 h
    refine r_iload C dX11_worstAt_27 (rfl : 27 + 2 = 29) rfl ?_
    refine r_bipush (v := (7 : Int32)) C dX11_worstAt_29 (rfl : 29 + 2 = 31) rfl ?_
    refine r_icmp_gt (tgt := 99) C dX11_worstAt_31 (by decide) (rfl : 31 + 3 = 34) (fun c31 => ?_) (fun c31 => ?_)
    · have h := k_t c31 h
      refine r_iload_n C dX11_worstAt_99 (rfl : 99 + 1 = 100) rfl ?_
      cases h
      exact r_iret C hr dX11_worstAt_100
    · have h := k_f c31 h
      refine r_iload_n C dX11_worstAt_34 (rfl : 34 + 1 = 35) rfl ?_
      refine r_iload C dX11_worstAt_35 (rfl : 35 + 2 = 37) rfl ?_
      refine r_bipush (v := (7 : Int32)) C dX11_worstAt_37 (rfl : 37 + 2 = 39) rfl ?_
      refine r_iadd C dX11_worstAt_39 (rfl : 39 + 1 = 40) ?_
      refine r_ishr C dX11_worstAt_40 (rfl : 40 + 1 = 41) ?_
      refine r_iconst (v := (1 : Int32)) C dX11_worstAt_41 (rfl : 41 + 1 = 42) rfl ?_
      refine r_iand C dX11_worstAt_42 (rfl : 42 + 1 = 43) ?_
      refine r_if_ne (tgt := 49) C dX11_worstAt_43 (by decide) (rfl : 43 + 3 = 46) (fun c43 => ?_) (fun c43 => ?_)
      · have h := k_f c43 h
        refine r_aload_n C dX11_worstAt_49 (rfl : 49 + 1 = 50) rfl ?_
        refine r_iload_n C dX11_worstAt_50 (rfl : 50 + 1 = 51) rfl ?_
        refine r_iload C dX11_worstAt_51 (rfl : 51 + 2 = 53) rfl ?_
        refine r_isub C dX11_worstAt_53 (rfl : 53 + 1 = 54) ?_
        obtain ⟨r54, q54, h⟩ := k_b_of h
        refine d_V (As := [.int (v1 - v4)]) (st := []) (st' := [.int r54]) (h' := k_ap [(30, .inr (.inr (.inl a30)))] (shM, I, L, Rf)) C hR ⟨Nat.zero_le _, Nat.zero_le _⟩ mv_X11_tapAt lk_X11_455 dX11_worstAt_54 (rfl : 54 + 3 = 57) rfl rfl rfl rfl (c_X11_tapAt X.l u (k_ap [(30, .inr (.inr (.inl a30)))] (shM, I, L, Rf)) rfl ec0_25 ec0_26 ea7 q54) rfl rfl rfl rfl rfl ?_
        refine r_istore C dX11_worstAt_57 (rfl : 57 + 2 = 59) (by decide) (Nat.le_of_ble_eq_true rfl) ?_
        show k_W _ _ _ _ _ _ _ _ [some (.ref 0), some (.int v1), some (.int v2), some (.int v3), some (.int v4), some (.int r54)] _
        refine r_aload_n C dX11_worstAt_59 (rfl : 59 + 1 = 60) rfl ?_
        refine r_getR (q := 30) C dX11_worstAt_60 (rfl : 60 + 3 = 63) fl_X11_105 rfl rfl ?_
        refine r_iload C dX11_worstAt_63 (rfl : 63 + 2 = 65) rfl ?_
        refine r_dup2 C dX11_worstAt_65 (rfl : 65 + 1 = 66) rfl rfl ?_
        obtain ⟨hi66, h⟩ := k_i_of h
        refine a_i (j := (r54).toNatClampNeg) (f := a30) C dX11_worstAt_66 (rfl : 66 + 1 = 67) rfl rfl hi66 rfl ?_
        refine r_iconst (v := (1 : Int32)) C dX11_worstAt_67 (rfl : 67 + 1 = 68) rfl ?_
        refine r_iadd C dX11_worstAt_68 (rfl : 68 + 1 = 69) ?_
        obtain ⟨hi69, h⟩ := k_i_of h
        refine s_i (j := (r54).toNatClampNeg) (f := a30) (us' := [(30, .inr (.inr (.inl (upd a30 ((r54).toNatClampNeg) ((a30 ((r54).toNatClampNeg)) + (1 : Int32))))))]) C dX11_worstAt_69 (rfl : 69 + 1 = 70) rfl rfl hi69 rfl ds_X11_worstAt rfl rfl rfl ?_
        refine r_aload_n C dX11_worstAt_70 (rfl : 70 + 1 = 71) rfl ?_
        refine r_getR (q := 30) C dX11_worstAt_71 (rfl : 71 + 3 = 74) fl_X11_105 rfl rfl ?_
        refine r_iload C dX11_worstAt_74 (rfl : 74 + 2 = 76) rfl ?_
        obtain ⟨hi76, h⟩ := k_i_of h
        refine a_i (j := (r54).toNatClampNeg) (f := (upd a30 ((r54).toNatClampNeg) ((a30 ((r54).toNatClampNeg)) + (1 : Int32)))) C dX11_worstAt_76 (rfl : 76 + 1 = 77) rfl rfl hi76 rfl ?_
        refine r_iload_n C dX11_worstAt_77 (rfl : 77 + 1 = 78) rfl ?_
        refine r_icmp_le (tgt := 91) C dX11_worstAt_78 (by decide) (rfl : 78 + 3 = 81) (fun c78 => ?_) (fun c78 => ?_)
        · have h := k_t c78 h
          refine r_iload_n C dX11_worstAt_91 (rfl : 91 + 1 = 92) rfl ?_
          refine k_mask [true, true, true, false, true, false] ?_
          exact sX11_worstAt_92 u C hr hR ec0_25 ec0_26 ea7 ih (upd a30 ((r54).toNatClampNeg) ((a30 ((r54).toNatClampNeg)) + (1 : Int32))) v1 v2 v4 v3 h
        · have h := k_f c78 h
          refine r_aload_n C dX11_worstAt_81 (rfl : 81 + 1 = 82) rfl ?_
          refine r_getR (q := 30) C dX11_worstAt_82 (rfl : 82 + 3 = 85) fl_X11_105 rfl rfl ?_
          refine r_iload C dX11_worstAt_85 (rfl : 85 + 2 = 87) rfl ?_
          obtain ⟨hi87, h⟩ := k_i_of h
          refine a_i (j := (r54).toNatClampNeg) (f := (upd a30 ((r54).toNatClampNeg) ((a30 ((r54).toNatClampNeg)) + (1 : Int32)))) C dX11_worstAt_87 (rfl : 87 + 1 = 88) rfl rfl hi87 rfl ?_
          refine r_goto (tgt := 92) C dX11_worstAt_88 (by decide) ?_
          refine k_mask [true, true, true, false, true, false] ?_
          exact sX11_worstAt_92 u C hr hR ec0_25 ec0_26 ea7 ih (upd a30 ((r54).toNatClampNeg) ((a30 ((r54).toNatClampNeg)) + (1 : Int32))) v1 v2 v4 ((upd a30 ((r54).toNatClampNeg) ((a30 ((r54).toNatClampNeg)) + (1 : Int32))) ((r54).toNatClampNeg)) h
      · have h := k_t c43 h
        refine r_goto (tgt := 93) C dX11_worstAt_46 (by decide) ?_
        refine k_mask [true, true, true, true, true, false] ?_
        exact sX11_worstAt_93 u C hr hR ec0_25 ec0_26 ea7 ih a30 v1 v2 v3 v4 h
set_option maxHeartbeats 400000 in
set_option maxRecDepth 100000 in
theorem sX11_worstAt_2 (u : Nat) {X : k_X} {ad : Nat → Nat} (C : k_C X cX11_worstAt RX11 6 ad) (hr : X.meth.sig.returnType = (some .int)) (hR : X.R.frames = 1 ∧ X.R.locals = 22) {I : Nat → Nat → Int32} {L : Nat → Nat → Int64} {Rf : Nat → Nat → Option Nat} {c0_25 : Int32} (ec0_25 : I 0 25 = c0_25) {c0_26 : Int32} (ec0_26 : I 0 26 = c0_26) {a7 : (Nat → Int32)} (ea7 : I 7 = a7) {out : Int32 × (Nat → Int32)} : ∀ (n : Nat) (a30 : (Nat → Int32)) (v1 : Int32) (v2 : Int32) (v3 : Int32), bX11_worstAt_2 u c0_25 c0_26 a7 n a30 v1 v2 v3 = some out → k_W X 6 0 0 (k_Q X ad (some (.int out.1)) (k_ap [(30, .inr (.inr (.inl out.2)))] (shM, I, L, Rf))) ad (k_ap [(30, .inr (.inr (.inl a30)))] (shM, I, L, Rf)) 2 [some (.ref 0), some (.int v1), some (.int v2), some (.int v3), none, none] [] := by
  intro n
  induction n with
  | zero => intro a30 v1 v2 v3 h; cases h
  | succ n ih =>
    intro a30 v1 v2 v3 h
    refine r_iload_n C dX11_worstAt_2 (rfl : 2 + 1 = 3) rfl ?_
    refine r_bipush (v := (6 : Int32)) C dX11_worstAt_3 (rfl : 3 + 2 = 5) rfl ?_
    refine r_icmp_gt (tgt := 21) C dX11_worstAt_5 (by decide) (rfl : 5 + 3 = 8) (fun c5 => ?_) (fun c5 => ?_)
    · have h := k_t c5 h
      refine r_iconst (v := (0 : Int32)) C dX11_worstAt_21 (rfl : 21 + 1 = 22) rfl ?_
      refine r_istore_n C dX11_worstAt_22 (rfl : 22 + 1 = 23) (by decide) (Nat.le_of_ble_eq_true rfl) ?_
      show k_W _ _ _ _ _ _ _ _ [some (.ref 0), some (.int v1), some (.int v2), some (.int (0 : Int32)), none, none] _
      refine r_bipush (v := (-7 : Int32)) C dX11_worstAt_23 (rfl : 23 + 2 = 25) rfl ?_
      refine r_istore C dX11_worstAt_25 (rfl : 25 + 2 = 27) (by decide) (Nat.le_of_ble_eq_true rfl) ?_
      show k_W _ _ _ _ _ _ _ _ [some (.ref 0), some (.int v1), some (.int v2), some (.int (0 : Int32)), some (.int (-7 : Int32)), none] _
      refine k_mask [true, true, true, true, true, false] ?_
      exact sX11_worstAt_27 u C hr hR ec0_25 ec0_26 ea7 u a30 v1 v2 (0 : Int32) (-7 : Int32) h
    · have h := k_f c5 h
      refine r_aload_n C dX11_worstAt_8 (rfl : 8 + 1 = 9) rfl ?_
      refine r_getR (q := 30) C dX11_worstAt_9 (rfl : 9 + 3 = 12) fl_X11_105 rfl rfl ?_
      refine r_iload_n C dX11_worstAt_12 (rfl : 12 + 1 = 13) rfl ?_
      refine r_iconst (v := (0 : Int32)) C dX11_worstAt_13 (rfl : 13 + 1 = 14) rfl ?_
      obtain ⟨hi14, h⟩ := k_i_of h
      refine s_i (j := (v3).toNatClampNeg) (f := a30) (us' := [(30, .inr (.inr (.inl (upd a30 ((v3).toNatClampNeg) (0 : Int32)))))]) C dX11_worstAt_14 (rfl : 14 + 1 = 15) rfl rfl hi14 rfl ds_X11_worstAt rfl rfl rfl ?_
      refine r_iinc (v := (v3 + (1 : Int32))) C dX11_worstAt_15 (rfl : 15 + 3 = 18) rfl rfl (by decide) ?_
      show k_W _ _ _ _ _ _ _ _ [some (.ref 0), some (.int v1), some (.int v2), some (.int (v3 + (1 : Int32))), none, none] _
      refine r_goto (tgt := 2) C dX11_worstAt_18 (by decide) ?_
      refine k_mask [true, true, true, true, false, false] ?_
      exact ih (upd a30 ((v3).toNatClampNeg) (0 : Int32)) v1 v2 (v3 + (1 : Int32)) h
set_option maxHeartbeats 400000 in
set_option maxRecDepth 100000 in
theorem sX11_worstAt_0 (u : Nat) {X : k_X} {ad : Nat → Nat} (C : k_C X cX11_worstAt RX11 6 ad) (hr : X.meth.sig.returnType = (some .int)) (hR : X.R.frames = 1 ∧ X.R.locals = 22) {I : Nat → Nat → Int32} {L : Nat → Nat → Int64} {Rf : Nat → Nat → Option Nat} {c0_25 : Int32} (ec0_25 : I 0 25 = c0_25) {c0_26 : Int32} (ec0_26 : I 0 26 = c0_26) {a7 : (Nat → Int32)} (ea7 : I 7 = a7) {out : Int32 × (Nat → Int32)} : ∀ (a30 : (Nat → Int32)) (v1 : Int32) (v2 : Int32), bX11_worstAt_0 u c0_25 c0_26 a7 a30 v1 v2 = some out → k_W X 6 0 0 (k_Q X ad (some (.int out.1)) (k_ap [(30, .inr (.inr (.inl out.2)))] (shM, I, L, Rf))) ad (k_ap [(30, .inr (.inr (.inl a30)))] (shM, I, L, Rf)) 0 [some (.ref 0), some (.int v1), some (.int v2), none, none, none] [] := by
  intro a30 v1 v2 h
  unfold bX11_worstAt_0 at h
  refine r_iconst (v := (0 : Int32)) C dX11_worstAt_0 (rfl : 0 + 1 = 1) rfl ?_
  refine r_istore_n C dX11_worstAt_1 (rfl : 1 + 1 = 2) (by decide) (Nat.le_of_ble_eq_true rfl) ?_
  show k_W _ _ _ _ _ _ _ _ [some (.ref 0), some (.int v1), some (.int v2), some (.int (0 : Int32)), none, none] _
  refine k_mask [true, true, true, true, false, false] ?_
  exact sX11_worstAt_2 u C hr hR ec0_25 ec0_26 ea7 u a30 v1 v2 (0 : Int32) h
set_option maxHeartbeats 400000 in
set_option maxRecDepth 100000 in
theorem c_X11_worstAt (l : Launch) (u : Nat) (h : k_H) (hsh : h.1 = shM) {c0_25 : Int32} (ec0_25 : h.2.1 0 25 = c0_25) {c0_26 : Int32} (ec0_26 : h.2.1 0 26 = c0_26) {a7 : (Nat → Int32)} (ea7 : h.2.1 7 = a7) {a30 : (Nat → Int32)} (ea30 : h.2.1 30 = a30) {x0 : Int32} {x1 : Int32} {out : Int32 × (Nat → Int32)} (hf : f_X11_worstAt u c0_25 c0_26 a7 a30 x0 x1 = some out) : k_CT l yX11_worstAt cX11_worstAt 6 (some .int) 1 22 [.ref 0, .int x0, .int x1] h (some (.int out.1)) [(30, .inr (.inr (.inl out.2)))] := by
  obtain ⟨sh, I, L, Rf⟩ := h
  try dsimp only
  obtain rfl : sh = shM := hsh
  refine k_ofW (by decide) (Nat.le_of_ble_eq_true rfl) ?_
  intro X ad hl hR0 hr C
  have hR : X.R.frames = 1 ∧ X.R.locals = 22 := by rw [hR0]; exact ⟨rfl, rfl⟩
  have h := hf
  unfold f_X11_worstAt at h
  refine k_start (us := [(30, .inr (.inr (.inl a30)))]) (k_ao_A ea30 k_ap_0) ?_
  show k_W X 6 0 0 _ ad (k_ap [(30, .inr (.inr (.inl a30)))] (shM, I, L, Rf)) 0 [some (.ref 0), some (.int x0), some (.int x1), none, none, none] []
  refine k_mask [true, true, true, false, false, false] ?_
  exact sX11_worstAt_0 u C hr hR ec0_25 ec0_26 ea7 a30 x0 x1 h
/-! LullabyPitModel.isTapped(I)Z -/
theorem ds_X11_isTapped : k_ds [] = true := by decide +kernel
set_option maxHeartbeats 400000 in
set_option maxRecDepth 100000 in
theorem sX11_isTapped_2 (u : Nat) {X : k_X} {ad : Nat → Nat} (C : k_C X cX11_isTapped RX11 3 ad) (hr : X.meth.sig.returnType = (some .boolean)) (hR : X.R.frames = 0 ∧ X.R.locals = 0) {I : Nat → Nat → Int32} {L : Nat → Nat → Int64} {Rf : Nat → Nat → Option Nat} {c0_54 : Int32} (ec0_54 : I 0 54 = c0_54) {a26 : (Nat → Int32)} (ea26 : I 26 = a26) {out : Int32} : ∀ (n : Nat) (v1 : Int32) (v2 : Int32), bX11_isTapped_2 u c0_54 a26 n v1 v2 = some out → k_W X 3 0 0 (k_Q X ad (some (.int out)) (k_ap [] (shM, I, L, Rf))) ad (k_ap [] (shM, I, L, Rf)) 2 [some (.ref 0), some (.int v1), some (.int v2)] [] := by
  intro n
  induction n with
  | zero => intro v1 v2 h; cases h
  | succ n ih =>
    intro v1 v2 h
    refine r_iload_n C dX11_isTapped_2 (rfl : 2 + 1 = 3) rfl ?_
    refine r_aload_n C dX11_isTapped_3 (rfl : 3 + 1 = 4) rfl ?_
    refine r_getI (v := c0_54) C dX11_isTapped_4 (rfl : 4 + 3 = 7) fl_X11_206 rfl rfl ec0_54 ?_
    refine r_icmp_ge (tgt := 30) C dX11_isTapped_7 (by decide) (rfl : 7 + 3 = 10) (fun c7 => ?_) (fun c7 => ?_)
    · have h := k_t c7 h
      refine r_iconst (v := (0 : Int32)) C dX11_isTapped_30 (rfl : 30 + 1 = 31) rfl ?_
      cases h
      exact r_zret C hr (Or.inl rfl) dX11_isTapped_31
    · have h := k_f c7 h
      refine r_aload_n C dX11_isTapped_10 (rfl : 10 + 1 = 11) rfl ?_
      refine r_getR (q := 26) C dX11_isTapped_11 (rfl : 11 + 3 = 14) fl_X11_93 rfl rfl ?_
      refine r_iconst (v := (2 : Int32)) C dX11_isTapped_14 (rfl : 14 + 1 = 15) rfl ?_
      refine r_iload_n C dX11_isTapped_15 (rfl : 15 + 1 = 16) rfl ?_
      refine r_imul C dX11_isTapped_16 (rfl : 16 + 1 = 17) ?_
      obtain ⟨hi17, h⟩ := k_i_of h
      refine a_i (j := (((2 : Int32) * v2)).toNatClampNeg) (f := a26) C dX11_isTapped_17 (rfl : 17 + 1 = 18) rfl ea26 hi17 rfl ?_
      refine r_iload_n C dX11_isTapped_18 (rfl : 18 + 1 = 19) rfl ?_
      refine r_icmp_ne (tgt := 24) C dX11_isTapped_19 (by decide) (rfl : 19 + 3 = 22) (fun c19 => ?_) (fun c19 => ?_)
      · have h := k_f c19 h
        refine r_iinc (v := (v2 + (1 : Int32))) C dX11_isTapped_24 (rfl : 24 + 3 = 27) rfl rfl (by decide) ?_
        show k_W _ _ _ _ _ _ _ _ [some (.ref 0), some (.int v1), some (.int (v2 + (1 : Int32)))] _
        refine r_goto (tgt := 2) C dX11_isTapped_27 (by decide) ?_
        refine k_mask [true, true, true] ?_
        exact ih v1 (v2 + (1 : Int32)) h
      · have h := k_t c19 h
        refine r_iconst (v := (1 : Int32)) C dX11_isTapped_22 (rfl : 22 + 1 = 23) rfl ?_
        cases h
        exact r_zret C hr (Or.inr rfl) dX11_isTapped_23
set_option maxHeartbeats 400000 in
set_option maxRecDepth 100000 in
theorem sX11_isTapped_0 (u : Nat) {X : k_X} {ad : Nat → Nat} (C : k_C X cX11_isTapped RX11 3 ad) (hr : X.meth.sig.returnType = (some .boolean)) (hR : X.R.frames = 0 ∧ X.R.locals = 0) {I : Nat → Nat → Int32} {L : Nat → Nat → Int64} {Rf : Nat → Nat → Option Nat} {c0_54 : Int32} (ec0_54 : I 0 54 = c0_54) {a26 : (Nat → Int32)} (ea26 : I 26 = a26) {out : Int32} : ∀ (v1 : Int32), bX11_isTapped_0 u c0_54 a26 v1 = some out → k_W X 3 0 0 (k_Q X ad (some (.int out)) (k_ap [] (shM, I, L, Rf))) ad (k_ap [] (shM, I, L, Rf)) 0 [some (.ref 0), some (.int v1), none] [] := by
  intro v1 h
  unfold bX11_isTapped_0 at h
  refine r_iconst (v := (0 : Int32)) C dX11_isTapped_0 (rfl : 0 + 1 = 1) rfl ?_
  refine r_istore_n C dX11_isTapped_1 (rfl : 1 + 1 = 2) (by decide) (Nat.le_of_ble_eq_true rfl) ?_
  show k_W _ _ _ _ _ _ _ _ [some (.ref 0), some (.int v1), some (.int (0 : Int32))] _
  refine k_mask [true, true, true] ?_
  exact sX11_isTapped_2 u C hr hR ec0_54 ea26 u v1 (0 : Int32) h
set_option maxHeartbeats 400000 in
set_option maxRecDepth 100000 in
theorem c_X11_isTapped (l : Launch) (u : Nat) (h : k_H) (hsh : h.1 = shM) {c0_54 : Int32} (ec0_54 : h.2.1 0 54 = c0_54) {a26 : (Nat → Int32)} (ea26 : h.2.1 26 = a26) {x0 : Int32} {out : Int32} (hf : f_X11_isTapped u c0_54 a26 x0 = some out) : k_CT l yX11_isTapped cX11_isTapped 3 (some .boolean) 0 0 [.ref 0, .int x0] h (some (.int out)) [] := by
  obtain ⟨sh, I, L, Rf⟩ := h
  try dsimp only
  obtain rfl : sh = shM := hsh
  refine k_ofW (by decide) (Nat.le_of_ble_eq_true rfl) ?_
  intro X ad hl hR0 hr C
  have hR : X.R.frames = 0 ∧ X.R.locals = 0 := by rw [hR0]; exact ⟨rfl, rfl⟩
  have h := hf
  unfold f_X11_isTapped at h
  refine k_start (us := []) k_ap_0 ?_
  show k_W X 3 0 0 _ ad (k_ap [] (shM, I, L, Rf)) 0 [some (.ref 0), some (.int x0), none] []
  refine k_mask [true, true, false] ?_
  exact sX11_isTapped_0 u C hr hR ec0_54 ea26 x0 h
