/-! LullabyPitModel.emit(II)V -/
theorem ds_X11_emit : k_ds [(0, 0, 37), (11, 2, 0), (12, 2, 0)] = true := by decide +kernel
set_option maxHeartbeats 400000 in
set_option maxRecDepth 100000 in
theorem sX11_emit_0 (u : Nat) {X : k_X} {ad : Nat → Nat} (C : k_C X cX11_emit RX11 3 ad) (hr : X.meth.sig.returnType = none) (hR : X.R.frames = 1 ∧ X.R.locals = 20) {I : Nat → Nat → Int32} {L : Nat → Nat → Int64} {Rf : Nat → Nat → Option Nat} {c0_5 : Int32} (ec0_5 : I 0 5 = c0_5) {out : Int32 × (Nat → Int32) × (Nat → Int32)} : ∀ (c0_37 : Int32) (a11 : (Nat → Int32)) (a12 : (Nat → Int32)) (v1 : Int32) (v2 : Int32), bX11_emit_0 u c0_5 c0_37 a11 a12 v1 v2 = some out → k_W X 3 0 0 (k_Q X ad none (k_ap [(0, .inl (37, out.1)), (11, .inr (.inr (.inl out.2.1))), (12, .inr (.inr (.inl out.2.2)))] (shM, I, L, Rf))) ad (k_ap [(0, .inl (37, c0_37)), (11, .inr (.inr (.inl a11))), (12, .inr (.inr (.inl a12)))] (shM, I, L, Rf)) 0 [some (.ref 0), some (.int v1), some (.int v2)] [] := by
  intro c0_37 a11 a12 v1 v2 h
  unfold bX11_emit_0 at h
  refine r_aload_n C dX11_emit_0 (rfl : 0 + 1 = 1) rfl ?_
  obtain ⟨r1, q1, h⟩ := k_b_of h
  refine d_V (As := []) (st := []) (st' := [.int r1]) (h' := k_ap [(0, .inl (37, c0_37)), (11, .inr (.inr (.inl a11))), (12, .inr (.inr (.inl a12)))] (shM, I, L, Rf)) C hR ⟨Nat.zero_le _, Nat.zero_le _⟩ mv_X11_fine lk_X11_149 dX11_emit_1 (rfl : 1 + 3 = 4) rfl rfl rfl rfl (c_X11_fine X.l u (k_ap [(0, .inl (37, c0_37)), (11, .inr (.inr (.inl a11))), (12, .inr (.inr (.inl a12)))] (shM, I, L, Rf)) rfl ec0_5 q1) rfl rfl rfl rfl rfl ?_
  refine r_if_ne (tgt := 8) C dX11_emit_4 (by decide) (rfl : 4 + 3 = 7) (fun c4 => ?_) (fun c4 => ?_)
  · have h := k_f c4 h
    refine r_aload_n C dX11_emit_8 (rfl : 8 + 1 = 9) rfl ?_
    refine r_getR (q := 11) C dX11_emit_9 (rfl : 9 + 3 = 12) fl_X11_47 rfl rfl ?_
    refine r_aload_n C dX11_emit_12 (rfl : 12 + 1 = 13) rfl ?_
    refine r_getI (v := c0_37) C dX11_emit_13 (rfl : 13 + 3 = 16) fl_X11_276 rfl rfl rfl ?_
    refine r_iload_n C dX11_emit_16 (rfl : 16 + 1 = 17) rfl ?_
    obtain ⟨hi17, h⟩ := k_i_of h
    refine s_i (j := (c0_37).toNatClampNeg) (f := a11) (us' := [(0, .inl (37, c0_37)), (11, .inr (.inr (.inl (upd a11 ((c0_37).toNatClampNeg) v1)))), (12, .inr (.inr (.inl a12)))]) C dX11_emit_17 (rfl : 17 + 1 = 18) rfl rfl hi17 rfl ds_X11_emit rfl rfl rfl ?_
    refine r_aload_n C dX11_emit_18 (rfl : 18 + 1 = 19) rfl ?_
    refine r_getR (q := 12) C dX11_emit_19 (rfl : 19 + 3 = 22) fl_X11_50 rfl rfl ?_
    refine r_aload_n C dX11_emit_22 (rfl : 22 + 1 = 23) rfl ?_
    refine r_getI (v := c0_37) C dX11_emit_23 (rfl : 23 + 3 = 26) fl_X11_276 rfl rfl rfl ?_
    refine r_iload_n C dX11_emit_26 (rfl : 26 + 1 = 27) rfl ?_
    obtain ⟨hi27, h⟩ := k_i_of h
    refine s_i (j := (c0_37).toNatClampNeg) (f := a12) (us' := [(0, .inl (37, c0_37)), (11, .inr (.inr (.inl (upd a11 ((c0_37).toNatClampNeg) v1)))), (12, .inr (.inr (.inl (upd a12 ((c0_37).toNatClampNeg) v2))))]) C dX11_emit_27 (rfl : 27 + 1 = 28) rfl rfl hi27 rfl ds_X11_emit rfl rfl rfl ?_
    refine r_aload_n C dX11_emit_28 (rfl : 28 + 1 = 29) rfl ?_
    refine r_dup C dX11_emit_29 (rfl : 29 + 1 = 30) rfl ?_
    refine r_getI (v := c0_37) C dX11_emit_30 (rfl : 30 + 3 = 33) fl_X11_276 rfl rfl rfl ?_
    refine r_iconst (v := (1 : Int32)) C dX11_emit_33 (rfl : 33 + 1 = 34) rfl ?_
    refine r_iadd C dX11_emit_34 (rfl : 34 + 1 = 35) ?_
    refine p_I (us' := [(0, .inl (37, (c0_37 + (1 : Int32)))), (11, .inr (.inr (.inl (upd a11 ((c0_37).toNatClampNeg) v1)))), (12, .inr (.inr (.inl (upd a12 ((c0_37).toNatClampNeg) v2))))]) C dX11_emit_35 (rfl : 35 + 3 = 38) fp_X11_276 rfl rfl ds_X11_emit rfl rfl rfl ?_
    cases h
    exact r_vret C hr dX11_emit_38
  · have h := k_t c4 h
    cases h
    exact r_vret C hr dX11_emit_7
set_option maxHeartbeats 400000 in
set_option maxRecDepth 100000 in
theorem c_X11_emit (l : Launch) (u : Nat) (h : k_H) (hsh : h.1 = shM) {c0_5 : Int32} (ec0_5 : h.2.1 0 5 = c0_5) {c0_37 : Int32} (ec0_37 : h.2.1 0 37 = c0_37) {a11 : (Nat → Int32)} (ea11 : h.2.1 11 = a11) {a12 : (Nat → Int32)} (ea12 : h.2.1 12 = a12) {x0 : Int32} {x1 : Int32} {out : Int32 × (Nat → Int32) × (Nat → Int32)} (hf : f_X11_emit u c0_5 c0_37 a11 a12 x0 x1 = some out) : k_CT l yX11_emit cX11_emit 3 none 1 20 [.ref 0, .int x0, .int x1] h none [(0, .inl (37, out.1)), (11, .inr (.inr (.inl out.2.1))), (12, .inr (.inr (.inl out.2.2)))] := by
  obtain ⟨sh, I, L, Rf⟩ := h
  try dsimp only
  obtain rfl : sh = shM := hsh
  refine k_ofW (by decide) (Nat.le_of_ble_eq_true rfl) ?_
  intro X ad hl hR0 hr C
  have hR : X.R.frames = 1 ∧ X.R.locals = 20 := by rw [hR0]; exact ⟨rfl, rfl⟩
  have h := hf
  unfold f_X11_emit at h
  refine k_start (us := [(0, .inl (37, c0_37)), (11, .inr (.inr (.inl a11))), (12, .inr (.inr (.inl a12)))]) (k_ao_I ec0_37 (k_ao_A ea11 (k_ao_A ea12 k_ap_0))) ?_
  show k_W X 3 0 0 _ ad (k_ap [(0, .inl (37, c0_37)), (11, .inr (.inr (.inl a11))), (12, .inr (.inr (.inl a12)))] (shM, I, L, Rf)) 0 [some (.ref 0), some (.int x0), some (.int x1)] []
  refine k_mask [true, true, true] ?_
  exact sX11_emit_0 u C hr hR ec0_5 c0_37 a11 a12 x0 x1 h
/-! LullabyPitModel.opensOne(I)V -/
theorem ds_X11_opensOne : k_ds [(0, 0, 4), (0, 0, 5), (0, 0, 6), (0, 0, 7)] = true := by decide +kernel
set_option maxHeartbeats 400000 in
set_option maxRecDepth 100000 in
theorem sX11_opensOne_42 (u : Nat) {X : k_X} {ad : Nat → Nat} (C : k_C X cX11_opensOne RX11 2 ad) (hr : X.meth.sig.returnType = none) (hR : X.R.frames = 1 ∧ X.R.locals = 22) {I : Nat → Nat → Int32} {L : Nat → Nat → Int64} {Rf : Nat → Nat → Option Nat} {out : Int32 × Int32 × Int32 × Int32} : ∀ (c0_4 : Int32) (c0_5 : Int32) (c0_6 : Int32) (c0_7 : Int32), bX11_opensOne_42 u c0_4 c0_5 c0_6 c0_7 = some out → k_W X 2 0 0 (k_Q X ad none (k_ap [(0, .inl (4, out.1)), (0, .inl (5, out.2.1)), (0, .inl (6, out.2.2.1)), (0, .inl (7, out.2.2.2))] (shM, I, L, Rf))) ad (k_ap [(0, .inl (4, c0_4)), (0, .inl (5, c0_5)), (0, .inl (6, c0_6)), (0, .inl (7, c0_7))] (shM, I, L, Rf)) 42 [some (.ref 0), none] [] := by
  intro c0_4 c0_5 c0_6 c0_7 h
  unfold bX11_opensOne_42 at h
  refine r_aload_n C dX11_opensOne_42 (rfl : 42 + 1 = 43) rfl ?_
  refine r_dup C dX11_opensOne_43 (rfl : 43 + 1 = 44) rfl ?_
  refine r_getI (v := c0_7) C dX11_opensOne_44 (rfl : 44 + 3 = 47) fl_X11_160 rfl rfl rfl ?_
  refine r_iconst (v := (1 : Int32)) C dX11_opensOne_47 (rfl : 47 + 1 = 48) rfl ?_
  refine r_iadd C dX11_opensOne_48 (rfl : 48 + 1 = 49) ?_
  refine p_I (us' := [(0, .inl (4, c0_4)), (0, .inl (5, c0_5)), (0, .inl (6, c0_6)), (0, .inl (7, (c0_7 + (1 : Int32))))]) C dX11_opensOne_49 (rfl : 49 + 3 = 52) fp_X11_160 rfl rfl ds_X11_opensOne rfl rfl rfl ?_
  cases h
  exact r_vret C hr dX11_opensOne_52
set_option maxHeartbeats 400000 in
set_option maxRecDepth 100000 in
theorem sX11_opensOne_25 (u : Nat) {X : k_X} {ad : Nat → Nat} (C : k_C X cX11_opensOne RX11 2 ad) (hr : X.meth.sig.returnType = none) (hR : X.R.frames = 1 ∧ X.R.locals = 22) {I : Nat → Nat → Int32} {L : Nat → Nat → Int64} {Rf : Nat → Nat → Option Nat} {out : Int32 × Int32 × Int32 × Int32} : ∀ (c0_4 : Int32) (c0_5 : Int32) (c0_6 : Int32) (c0_7 : Int32) (v1 : Int32), bX11_opensOne_25 u c0_4 c0_5 c0_6 c0_7 v1 = some out → k_W X 2 0 0 (k_Q X ad none (k_ap [(0, .inl (4, out.1)), (0, .inl (5, out.2.1)), (0, .inl (6, out.2.2.1)), (0, .inl (7, out.2.2.2))] (shM, I, L, Rf))) ad (k_ap [(0, .inl (4, c0_4)), (0, .inl (5, c0_5)), (0, .inl (6, c0_6)), (0, .inl (7, c0_7))] (shM, I, L, Rf)) 25 [some (.ref 0), some (.int v1)] [] := by
  intro c0_4 c0_5 c0_6 c0_7 v1 h
  unfold bX11_opensOne_25 at h
  refine r_aload_n C dX11_opensOne_25 (rfl : 25 + 1 = 26) rfl ?_
  obtain ⟨r26, q26, h⟩ := k_b_of h
  refine d_V (As := []) (st := []) (st' := [.int r26]) (h' := k_ap [(0, .inl (4, c0_4)), (0, .inl (5, c0_5)), (0, .inl (6, c0_6)), (0, .inl (7, c0_7))] (shM, I, L, Rf)) C hR ⟨Nat.zero_le _, Nat.zero_le _⟩ mv_X11_fine lk_X11_149 dX11_opensOne_26 (rfl : 26 + 3 = 29) rfl rfl rfl rfl (c_X11_fine X.l u (k_ap [(0, .inl (4, c0_4)), (0, .inl (5, c0_5)), (0, .inl (6, c0_6)), (0, .inl (7, c0_7))] (shM, I, L, Rf)) rfl rfl q26) rfl rfl rfl rfl rfl ?_
  refine r_if_eq (tgt := 42) C dX11_opensOne_29 (by decide) (rfl : 29 + 3 = 32) (fun c29 => ?_) (fun c29 => ?_)
  · have h := k_t c29 h
    refine k_mask [true, false] ?_
    exact sX11_opensOne_42 u C hr hR c0_4 c0_5 c0_6 c0_7 h
  · have h := k_f c29 h
    refine r_aload_n C dX11_opensOne_32 (rfl : 32 + 1 = 33) rfl ?_
    refine r_dup C dX11_opensOne_33 (rfl : 33 + 1 = 34) rfl ?_
    refine r_getI (v := c0_4) C dX11_opensOne_34 (rfl : 34 + 3 = 37) fl_X11_127 rfl rfl rfl ?_
    refine r_iload_n C dX11_opensOne_37 (rfl : 37 + 1 = 38) rfl ?_
    refine r_iadd C dX11_opensOne_38 (rfl : 38 + 1 = 39) ?_
    refine p_I (us' := [(0, .inl (4, (c0_4 + v1))), (0, .inl (5, c0_5)), (0, .inl (6, c0_6)), (0, .inl (7, c0_7))]) C dX11_opensOne_39 (rfl : 39 + 3 = 42) fp_X11_127 rfl rfl ds_X11_opensOne rfl rfl rfl ?_
    refine k_mask [true, false] ?_
    exact sX11_opensOne_42 u C hr hR (c0_4 + v1) c0_5 c0_6 c0_7 h
set_option maxHeartbeats 400000 in
set_option maxRecDepth 100000 in
theorem sX11_opensOne_0 (u : Nat) {X : k_X} {ad : Nat → Nat} (C : k_C X cX11_opensOne RX11 2 ad) (hr : X.meth.sig.returnType = none) (hR : X.R.frames = 1 ∧ X.R.locals = 22) {I : Nat → Nat → Int32} {L : Nat → Nat → Int64} {Rf : Nat → Nat → Option Nat} {out : Int32 × Int32 × Int32 × Int32} : ∀ (c0_4 : Int32) (c0_5 : Int32) (c0_6 : Int32) (c0_7 : Int32) (v1 : Int32), bX11_opensOne_0 u c0_4 c0_5 c0_6 c0_7 v1 = some out → k_W X 2 0 0 (k_Q X ad none (k_ap [(0, .inl (4, out.1)), (0, .inl (5, out.2.1)), (0, .inl (6, out.2.2.1)), (0, .inl (7, out.2.2.2))] (shM, I, L, Rf))) ad (k_ap [(0, .inl (4, c0_4)), (0, .inl (5, c0_5)), (0, .inl (6, c0_6)), (0, .inl (7, c0_7))] (shM, I, L, Rf)) 0 [some (.ref 0), some (.int v1)] [] := by
  intro c0_4 c0_5 c0_6 c0_7 v1 h
  unfold bX11_opensOne_0 at h
  refine r_aload_n C dX11_opensOne_0 (rfl : 0 + 1 = 1) rfl ?_
  obtain ⟨r1, q1, h⟩ := k_b_of h
  refine d_V (As := []) (st := []) (st' := [.int r1]) (h' := k_ap [(0, .inl (4, c0_4)), (0, .inl (5, c0_5)), (0, .inl (6, c0_6)), (0, .inl (7, c0_7))] (shM, I, L, Rf)) C hR ⟨Nat.zero_le _, Nat.zero_le _⟩ mv_X11_fine lk_X11_149 dX11_opensOne_1 (rfl : 1 + 3 = 4) rfl rfl rfl rfl (c_X11_fine X.l u (k_ap [(0, .inl (4, c0_4)), (0, .inl (5, c0_5)), (0, .inl (6, c0_6)), (0, .inl (7, c0_7))] (shM, I, L, Rf)) rfl rfl q1) rfl rfl rfl rfl rfl ?_
  refine r_if_eq (tgt := 25) C dX11_opensOne_4 (by decide) (rfl : 4 + 3 = 7) (fun c4 => ?_) (fun c4 => ?_)
  · have h := k_t c4 h
    refine k_mask [true, true] ?_
    exact sX11_opensOne_25 u C hr hR c0_4 c0_5 c0_6 c0_7 v1 h
  · have h := k_f c4 h
    refine r_aload_n C dX11_opensOne_7 (rfl : 7 + 1 = 8) rfl ?_
    refine r_getI (v := c0_7) C dX11_opensOne_8 (rfl : 8 + 3 = 11) fl_X11_160 rfl rfl rfl ?_
    refine r_bipush (v := (6 : Int32)) C dX11_opensOne_11 (rfl : 11 + 2 = 13) rfl ?_
    refine r_icmp_ne (tgt := 25) C dX11_opensOne_13 (by decide) (rfl : 13 + 3 = 16) (fun c13 => ?_) (fun c13 => ?_)
    · have h := k_f c13 h
      refine k_mask [true, true] ?_
      exact sX11_opensOne_25 u C hr hR c0_4 c0_5 c0_6 c0_7 v1 h
    · have h := k_t c13 h
      refine r_aload_n C dX11_opensOne_16 (rfl : 16 + 1 = 17) rfl ?_
      refine r_iconst (v := (3 : Int32)) C dX11_opensOne_17 (rfl : 17 + 1 = 18) rfl ?_
      refine r_aload_n C dX11_opensOne_18 (rfl : 18 + 1 = 19) rfl ?_
      refine r_getI (v := c0_4) C dX11_opensOne_19 (rfl : 19 + 3 = 22) fl_X11_127 rfl rfl rfl ?_
      obtain ⟨r22, q22, h⟩ := k_b_of h
      refine d_V (As := [.int (3 : Int32), .int c0_4]) (st := []) (st' := []) (h' := k_ap [(0, .inl (4, c0_4)), (0, .inl (5, r22.1)), (0, .inl (6, r22.2)), (0, .inl (7, c0_7))] (shM, I, L, Rf)) C hR ⟨Nat.zero_le _, Nat.zero_le _⟩ mv_X11_wrong lk_X11_156 dX11_opensOne_22 (rfl : 22 + 3 = 25) rfl rfl rfl rfl (c_X11_wrong X.l u (k_ap [(0, .inl (4, c0_4)), (0, .inl (5, c0_5)), (0, .inl (6, c0_6)), (0, .inl (7, c0_7))] (shM, I, L, Rf)) rfl rfl rfl q22) rfl rfl rfl (k_jn (us' := [(0, .inl (4, c0_4)), (0, .inl (5, r22.1)), (0, .inl (6, r22.2)), (0, .inl (7, c0_7))]) ds_X11_opensOne rfl rfl rfl) rfl ?_
      refine k_mask [true, true] ?_
      exact sX11_opensOne_25 u C hr hR c0_4 r22.1 r22.2 c0_7 v1 h
set_option maxHeartbeats 400000 in
set_option maxRecDepth 100000 in
theorem c_X11_opensOne (l : Launch) (u : Nat) (h : k_H) (hsh : h.1 = shM) {c0_4 : Int32} (ec0_4 : h.2.1 0 4 = c0_4) {c0_5 : Int32} (ec0_5 : h.2.1 0 5 = c0_5) {c0_6 : Int32} (ec0_6 : h.2.1 0 6 = c0_6) {c0_7 : Int32} (ec0_7 : h.2.1 0 7 = c0_7) {x0 : Int32} {out : Int32 × Int32 × Int32 × Int32} (hf : f_X11_opensOne u c0_4 c0_5 c0_6 c0_7 x0 = some out) : k_CT l yX11_opensOne cX11_opensOne 2 none 1 22 [.ref 0, .int x0] h none [(0, .inl (4, out.1)), (0, .inl (5, out.2.1)), (0, .inl (6, out.2.2.1)), (0, .inl (7, out.2.2.2))] := by
  obtain ⟨sh, I, L, Rf⟩ := h
  try dsimp only
  obtain rfl : sh = shM := hsh
  refine k_ofW (by decide) (Nat.le_of_ble_eq_true rfl) ?_
  intro X ad hl hR0 hr C
  have hR : X.R.frames = 1 ∧ X.R.locals = 22 := by rw [hR0]; exact ⟨rfl, rfl⟩
  have h := hf
  unfold f_X11_opensOne at h
  refine k_start (us := [(0, .inl (4, c0_4)), (0, .inl (5, c0_5)), (0, .inl (6, c0_6)), (0, .inl (7, c0_7))]) (k_ao_I ec0_4 (k_ao_I ec0_5 (k_ao_I ec0_6 (k_ao_I ec0_7 k_ap_0)))) ?_
  show k_W X 2 0 0 _ ad (k_ap [(0, .inl (4, c0_4)), (0, .inl (5, c0_5)), (0, .inl (6, c0_6)), (0, .inl (7, c0_7))] (shM, I, L, Rf)) 0 [some (.ref 0), some (.int x0)] []
  refine k_mask [true, true] ?_
  exact sX11_opensOne_0 u C hr hR c0_4 c0_5 c0_6 c0_7 x0 h
/-! LullabyPitModel.factHere()I -/
theorem ds_X11_factHere : k_ds [(0, 0, 4)] = true := by decide +kernel
set_option maxHeartbeats 400000 in
set_option maxRecDepth 100000 in
theorem sX11_factHere_0 (u : Nat) {X : k_X} {ad : Nat → Nat} (C : k_C X cX11_factHere RX11 2 ad) (hr : X.meth.sig.returnType = (some .int)) (hR : X.R.frames = 5 ∧ X.R.locals = 107) {I : Nat → Nat → Int32} {L : Nat → Nat → Int64} {Rf : Nat → Nat → Option Nat} {c0_3 : Int32} (ec0_3 : I 0 3 = c0_3) {a2 : (Nat → Int32)} (ea2 : I 2 = a2) {out : Int32 × Int32} : ∀ (c0_4 : Int32), bX11_factHere_0 u c0_3 a2 c0_4 = some out → k_W X 2 0 0 (k_Q X ad (some (.int out.1)) (k_ap [(0, .inl (4, out.2))] (shM, I, L, Rf))) ad (k_ap [(0, .inl (4, c0_4))] (shM, I, L, Rf)) 0 [some (.ref 0), none] [] := by
  intro c0_4 h
  unfold bX11_factHere_0 at h
  refine r_aload_n C dX11_factHere_0 (rfl : 0 + 1 = 1) rfl ?_
  obtain ⟨r1, q1, h⟩ := k_b_of h
  refine d_V (As := []) (st := []) (st' := [.int r1.1]) (h' := k_ap [(0, .inl (4, r1.2))] (shM, I, L, Rf)) C hR ⟨Nat.zero_le _, Nat.zero_le _⟩ mv_X11_word lk_X11_222 dX11_factHere_1 (rfl : 1 + 3 = 4) rfl rfl rfl rfl (c_X11_word X.l u (k_ap [(0, .inl (4, c0_4))] (shM, I, L, Rf)) rfl ec0_3 rfl ea2 q1) rfl rfl rfl (k_jn (us' := [(0, .inl (4, r1.2))]) ds_X11_factHere rfl rfl rfl) rfl ?_
  refine r_istore_n C dX11_factHere_4 (rfl : 4 + 1 = 5) (by decide) (Nat.le_of_ble_eq_true rfl) ?_
  show k_W _ _ _ _ _ _ _ _ [some (.ref 0), some (.int r1.1)] _
  refine r_iload_n C dX11_factHere_5 (rfl : 5 + 1 = 6) rfl ?_
  refine r_ldcwS (i := 18) C rfl dX11_factHere_6 (rfl : 6 + 3 = 9) ?_
  obtain ⟨r9, q9, h⟩ := k_b_of h
  refine d_S (As := [.ref (1000000 + 18)]) (st := [.int r1.1]) (st' := [.int r9, .int r1.1]) (h' := k_ap [(0, .inl (4, r1.2))] (shM, I, L, Rf)) C hR ⟨Nat.zero_le _, Nat.zero_le _⟩ ms_X11_of lk_X11_227 dX11_factHere_9 (rfl : 9 + 3 = 12) rfl rfl (c_X11_of X.l u 18 (by decide) (k_ap [(0, .inl (4, r1.2))] (shM, I, L, Rf)) rfl  q9) rfl rfl rfl rfl rfl ?_
  refine r_icmp_ne (tgt := 19) C dX11_factHere_12 (by decide) (rfl : 12 + 3 = 15) (fun c12 => ?_) (fun c12 => ?_)
  · have h := k_f c12 h
    refine r_iload_n C dX11_factHere_19 (rfl : 19 + 1 = 20) rfl ?_
    refine r_ldcwS (i := 19) C rfl dX11_factHere_20 (rfl : 20 + 3 = 23) ?_
    obtain ⟨r23, q23, h⟩ := k_b_of h
    refine d_S (As := [.ref (1000000 + 19)]) (st := [.int r1.1]) (st' := [.int r23, .int r1.1]) (h' := k_ap [(0, .inl (4, r1.2))] (shM, I, L, Rf)) C hR ⟨Nat.zero_le _, Nat.zero_le _⟩ ms_X11_of lk_X11_227 dX11_factHere_23 (rfl : 23 + 3 = 26) rfl rfl (c_X11_of X.l u 19 (by decide) (k_ap [(0, .inl (4, r1.2))] (shM, I, L, Rf)) rfl  q23) rfl rfl rfl rfl rfl ?_
    refine r_icmp_ne (tgt := 33) C dX11_factHere_26 (by decide) (rfl : 26 + 3 = 29) (fun c26 => ?_) (fun c26 => ?_)
    · have h := k_f c26 h
      refine r_iload_n C dX11_factHere_33 (rfl : 33 + 1 = 34) rfl ?_
      refine r_ldcwS (i := 20) C rfl dX11_factHere_34 (rfl : 34 + 3 = 37) ?_
      obtain ⟨r37, q37, h⟩ := k_b_of h
      refine d_S (As := [.ref (1000000 + 20)]) (st := [.int r1.1]) (st' := [.int r37, .int r1.1]) (h' := k_ap [(0, .inl (4, r1.2))] (shM, I, L, Rf)) C hR ⟨Nat.zero_le _, Nat.zero_le _⟩ ms_X11_of lk_X11_227 dX11_factHere_37 (rfl : 37 + 3 = 40) rfl rfl (c_X11_of X.l u 20 (by decide) (k_ap [(0, .inl (4, r1.2))] (shM, I, L, Rf)) rfl  q37) rfl rfl rfl rfl rfl ?_
      refine r_icmp_ne (tgt := 47) C dX11_factHere_40 (by decide) (rfl : 40 + 3 = 43) (fun c40 => ?_) (fun c40 => ?_)
      · have h := k_f c40 h
        refine r_iload_n C dX11_factHere_47 (rfl : 47 + 1 = 48) rfl ?_
        refine r_ldcwS (i := 21) C rfl dX11_factHere_48 (rfl : 48 + 3 = 51) ?_
        obtain ⟨r51, q51, h⟩ := k_b_of h
        refine d_S (As := [.ref (1000000 + 21)]) (st := [.int r1.1]) (st' := [.int r51, .int r1.1]) (h' := k_ap [(0, .inl (4, r1.2))] (shM, I, L, Rf)) C hR ⟨Nat.zero_le _, Nat.zero_le _⟩ ms_X11_of lk_X11_227 dX11_factHere_51 (rfl : 51 + 3 = 54) rfl rfl (c_X11_of X.l u 21 (by decide) (k_ap [(0, .inl (4, r1.2))] (shM, I, L, Rf)) rfl  q51) rfl rfl rfl rfl rfl ?_
        refine r_icmp_ne (tgt := 61) C dX11_factHere_54 (by decide) (rfl : 54 + 3 = 57) (fun c54 => ?_) (fun c54 => ?_)
        · have h := k_f c54 h
          refine r_iload_n C dX11_factHere_61 (rfl : 61 + 1 = 62) rfl ?_
          refine r_ldcwS (i := 22) C rfl dX11_factHere_62 (rfl : 62 + 3 = 65) ?_
          obtain ⟨r65, q65, h⟩ := k_b_of h
          refine d_S (As := [.ref (1000000 + 22)]) (st := [.int r1.1]) (st' := [.int r65, .int r1.1]) (h' := k_ap [(0, .inl (4, r1.2))] (shM, I, L, Rf)) C hR ⟨Nat.zero_le _, Nat.zero_le _⟩ ms_X11_of lk_X11_227 dX11_factHere_65 (rfl : 65 + 3 = 68) rfl rfl (c_X11_of X.l u 22 (by decide) (k_ap [(0, .inl (4, r1.2))] (shM, I, L, Rf)) rfl  q65) rfl rfl rfl rfl rfl ?_
          refine r_icmp_ne (tgt := 75) C dX11_factHere_68 (by decide) (rfl : 68 + 3 = 71) (fun c68 => ?_) (fun c68 => ?_)
          · have h := k_f c68 h
            refine r_iload_n C dX11_factHere_75 (rfl : 75 + 1 = 76) rfl ?_
            refine r_ldcwS (i := 23) C rfl dX11_factHere_76 (rfl : 76 + 3 = 79) ?_
            obtain ⟨r79, q79, h⟩ := k_b_of h
            refine d_S (As := [.ref (1000000 + 23)]) (st := [.int r1.1]) (st' := [.int r79, .int r1.1]) (h' := k_ap [(0, .inl (4, r1.2))] (shM, I, L, Rf)) C hR ⟨Nat.zero_le _, Nat.zero_le _⟩ ms_X11_of lk_X11_227 dX11_factHere_79 (rfl : 79 + 3 = 82) rfl rfl (c_X11_of X.l u 23 (by decide) (k_ap [(0, .inl (4, r1.2))] (shM, I, L, Rf)) rfl  q79) rfl rfl rfl rfl rfl ?_
            refine r_icmp_ne (tgt := 89) C dX11_factHere_82 (by decide) (rfl : 82 + 3 = 85) (fun c82 => ?_) (fun c82 => ?_)
            · have h := k_f c82 h
              refine r_iload_n C dX11_factHere_89 (rfl : 89 + 1 = 90) rfl ?_
              refine r_ldcwS (i := 24) C rfl dX11_factHere_90 (rfl : 90 + 3 = 93) ?_
              obtain ⟨r93, q93, h⟩ := k_b_of h
              refine d_S (As := [.ref (1000000 + 24)]) (st := [.int r1.1]) (st' := [.int r93, .int r1.1]) (h' := k_ap [(0, .inl (4, r1.2))] (shM, I, L, Rf)) C hR ⟨Nat.zero_le _, Nat.zero_le _⟩ ms_X11_of lk_X11_227 dX11_factHere_93 (rfl : 93 + 3 = 96) rfl rfl (c_X11_of X.l u 24 (by decide) (k_ap [(0, .inl (4, r1.2))] (shM, I, L, Rf)) rfl  q93) rfl rfl rfl rfl rfl ?_
              refine r_icmp_ne (tgt := 104) C dX11_factHere_96 (by decide) (rfl : 96 + 3 = 99) (fun c96 => ?_) (fun c96 => ?_)
              · have h := k_f c96 h
                refine r_iload_n C dX11_factHere_104 (rfl : 104 + 1 = 105) rfl ?_
                refine r_ldcwS (i := 25) C rfl dX11_factHere_105 (rfl : 105 + 3 = 108) ?_
                obtain ⟨r108, q108, h⟩ := k_b_of h
                refine d_S (As := [.ref (1000000 + 25)]) (st := [.int r1.1]) (st' := [.int r108, .int r1.1]) (h' := k_ap [(0, .inl (4, r1.2))] (shM, I, L, Rf)) C hR ⟨Nat.zero_le _, Nat.zero_le _⟩ ms_X11_of lk_X11_227 dX11_factHere_108 (rfl : 108 + 3 = 111) rfl rfl (c_X11_of X.l u 25 (by decide) (k_ap [(0, .inl (4, r1.2))] (shM, I, L, Rf)) rfl  q108) rfl rfl rfl rfl rfl ?_
                refine r_icmp_ne (tgt := 119) C dX11_factHere_111 (by decide) (rfl : 111 + 3 = 114) (fun c111 => ?_) (fun c111 => ?_)
                · have h := k_f c111 h
                  refine r_iconst (v := (-1 : Int32)) C dX11_factHere_119 (rfl : 119 + 1 = 120) rfl ?_
                  cases h
                  exact r_iret C hr dX11_factHere_120
                · have h := k_t c111 h
                  refine r_bipush (v := (7 : Int32)) C dX11_factHere_114 (rfl : 114 + 2 = 116) rfl ?_
                  refine r_goto (tgt := 120) C dX11_factHere_116 (by decide) ?_
                  cases h
                  exact r_iret C hr dX11_factHere_120
              · have h := k_t c96 h
                refine r_bipush (v := (6 : Int32)) C dX11_factHere_99 (rfl : 99 + 2 = 101) rfl ?_
                refine r_goto (tgt := 120) C dX11_factHere_101 (by decide) ?_
                cases h
                exact r_iret C hr dX11_factHere_120
            · have h := k_t c82 h
              refine r_iconst (v := (5 : Int32)) C dX11_factHere_85 (rfl : 85 + 1 = 86) rfl ?_
              refine r_goto (tgt := 120) C dX11_factHere_86 (by decide) ?_
              cases h
              exact r_iret C hr dX11_factHere_120
          · have h := k_t c68 h
            refine r_iconst (v := (4 : Int32)) C dX11_factHere_71 (rfl : 71 + 1 = 72) rfl ?_
            refine r_goto (tgt := 120) C dX11_factHere_72 (by decide) ?_
            cases h
            exact r_iret C hr dX11_factHere_120
        · have h := k_t c54 h
          refine r_iconst (v := (3 : Int32)) C dX11_factHere_57 (rfl : 57 + 1 = 58) rfl ?_
          refine r_goto (tgt := 120) C dX11_factHere_58 (by decide) ?_
          cases h
          exact r_iret C hr dX11_factHere_120
      · have h := k_t c40 h
        refine r_iconst (v := (2 : Int32)) C dX11_factHere_43 (rfl : 43 + 1 = 44) rfl ?_
        refine r_goto (tgt := 120) C dX11_factHere_44 (by decide) ?_
        cases h
        exact r_iret C hr dX11_factHere_120
    · have h := k_t c26 h
      refine r_iconst (v := (1 : Int32)) C dX11_factHere_29 (rfl : 29 + 1 = 30) rfl ?_
      refine r_goto (tgt := 120) C dX11_factHere_30 (by decide) ?_
      cases h
      exact r_iret C hr dX11_factHere_120
  · have h := k_t c12 h
    refine r_iconst (v := (0 : Int32)) C dX11_factHere_15 (rfl : 15 + 1 = 16) rfl ?_
    refine r_goto (tgt := 120) C dX11_factHere_16 (by decide) ?_
    cases h
    exact r_iret C hr dX11_factHere_120
set_option maxHeartbeats 400000 in
set_option maxRecDepth 100000 in
theorem c_X11_factHere (l : Launch) (u : Nat) (h : k_H) (hsh : h.1 = shM) {c0_3 : Int32} (ec0_3 : h.2.1 0 3 = c0_3) {c0_4 : Int32} (ec0_4 : h.2.1 0 4 = c0_4) {a2 : (Nat → Int32)} (ea2 : h.2.1 2 = a2) {out : Int32 × Int32} (hf : f_X11_factHere u c0_3 c0_4 a2 = some out) : k_CT l yX11_factHere cX11_factHere 2 (some .int) 5 107 [.ref 0] h (some (.int out.1)) [(0, .inl (4, out.2))] := by
  obtain ⟨sh, I, L, Rf⟩ := h
  try dsimp only
  obtain rfl : sh = shM := hsh
  refine k_ofW (by decide) (Nat.le_of_ble_eq_true rfl) ?_
  intro X ad hl hR0 hr C
  have hR : X.R.frames = 5 ∧ X.R.locals = 107 := by rw [hR0]; exact ⟨rfl, rfl⟩
  have h := hf
  unfold f_X11_factHere at h
  refine k_start (us := [(0, .inl (4, c0_4))]) (k_ao_I ec0_4 k_ap_0) ?_
  show k_W X 2 0 0 _ ad (k_ap [(0, .inl (4, c0_4))] (shM, I, L, Rf)) 0 [some (.ref 0), none] []
  refine k_mask [true, false] ?_
  exact sX11_factHere_0 u C hr hR ec0_3 ea2 c0_4 h
/-! LullabyPitModel.both(III)I -/
theorem ds_X11_both : k_ds [] = true := by decide +kernel
set_option maxHeartbeats 400000 in
set_option maxRecDepth 100000 in
theorem sX11_both_65 (u : Nat) {X : k_X} {ad : Nat → Nat} (C : k_C X cX11_both RX11 3 ad) (hr : X.meth.sig.returnType = (some .int)) (hR : X.R.frames = 0 ∧ X.R.locals = 0) {I : Nat → Nat → Int32} {L : Nat → Nat → Int64} {Rf : Nat → Nat → Option Nat} {out : Int32} : ∀ (v1 : Int32) (v2 : Int32) (w0 : Int32) (w1 : Int32), bX11_both_65 u v1 v2 w0 w1 = some out → k_W X 3 0 0 (k_Q X ad (some (.int out)) (k_ap [] (shM, I, L, Rf))) ad (k_ap [] (shM, I, L, Rf)) 65 [none, some (.int v1), some (.int v2)] [.int w0, .int w1] := by
  intro v1 v2 w0 w1 h
  unfold bX11_both_65 at h
  refine r_icmp_ne (tgt := 72) C dX11_both_65 (by decide) (rfl : 65 + 3 = 68) (fun c65 => ?_) (fun c65 => ?_)
  · have h := k_f c65 h
    refine r_iload_n C dX11_both_72 (rfl : 72 + 1 = 73) rfl ?_
    cases h
    exact r_iret C hr dX11_both_73
  · have h := k_t c65 h
    refine r_iload_n C dX11_both_68 (rfl : 68 + 1 = 69) rfl ?_
    refine r_goto (tgt := 73) C dX11_both_69 (by decide) ?_
    cases h
    exact r_iret C hr dX11_both_73
set_option maxHeartbeats 400000 in
set_option maxRecDepth 100000 in
theorem sX11_both_54 (u : Nat) {X : k_X} {ad : Nat → Nat} (C : k_C X cX11_both RX11 3 ad) (hr : X.meth.sig.returnType = (some .int)) (hR : X.R.frames = 0 ∧ X.R.locals = 0) {I : Nat → Nat → Int32} {L : Nat → Nat → Int64} {Rf : Nat → Nat → Option Nat} {out : Int32} : ∀ (v0 : Int32) (v1 : Int32) (v2 : Int32) (w0 : Int32), bX11_both_54 u v0 v1 v2 w0 = some out → k_W X 3 0 0 (k_Q X ad (some (.int out)) (k_ap [] (shM, I, L, Rf))) ad (k_ap [] (shM, I, L, Rf)) 54 [some (.int v0), some (.int v1), some (.int v2)] [.int w0] := by
  intro v0 v1 v2 w0 h
  unfold bX11_both_54 at h
  refine r_iload_n C dX11_both_54 (rfl : 54 + 1 = 55) rfl ?_
  refine r_bipush (v := (6 : Int32)) C dX11_both_55 (rfl : 55 + 2 = 57) rfl ?_
  refine r_icmp_ne (tgt := 64) C dX11_both_57 (by decide) (rfl : 57 + 3 = 60) (fun c57 => ?_) (fun c57 => ?_)
  · have h := k_f c57 h
    refine r_iconst (v := (0 : Int32)) C dX11_both_64 (rfl : 64 + 1 = 65) rfl ?_
    refine k_mask [false, true, true] ?_
    exact sX11_both_65 u C hr hR v1 v2 (0 : Int32) w0 h
  · have h := k_t c57 h
    refine r_iconst (v := (1 : Int32)) C dX11_both_60 (rfl : 60 + 1 = 61) rfl ?_
    refine r_goto (tgt := 65) C dX11_both_61 (by decide) ?_
    refine k_mask [false, true, true] ?_
    exact sX11_both_65 u C hr hR v1 v2 (1 : Int32) w0 h
set_option maxHeartbeats 400000 in
set_option maxRecDepth 100000 in
theorem sX11_both_0 (u : Nat) {X : k_X} {ad : Nat → Nat} (C : k_C X cX11_both RX11 3 ad) (hr : X.meth.sig.returnType = (some .int)) (hR : X.R.frames = 0 ∧ X.R.locals = 0) {I : Nat → Nat → Int32} {L : Nat → Nat → Int64} {Rf : Nat → Nat → Option Nat} {out : Int32} : ∀ (v0 : Int32) (v1 : Int32) (v2 : Int32), bX11_both_0 u v0 v1 v2 = some out → k_W X 3 0 0 (k_Q X ad (some (.int out)) (k_ap [] (shM, I, L, Rf))) ad (k_ap [] (shM, I, L, Rf)) 0 [some (.int v0), some (.int v1), some (.int v2)] [] := by
  intro v0 v1 v2 h
  unfold bX11_both_0 at h
  refine r_iload_n C dX11_both_0 (rfl : 0 + 1 = 1) rfl ?_
  refine r_iconst (v := (2 : Int32)) C dX11_both_1 (rfl : 1 + 1 = 2) rfl ?_
  refine r_icmp_ne (tgt := 9) C dX11_both_2 (by decide) (rfl : 2 + 3 = 5) (fun c2 => ?_) (fun c2 => ?_)
  · have h := k_f c2 h
    refine r_iload_n C dX11_both_9 (rfl : 9 + 1 = 10) rfl ?_
    refine r_iconst (v := (3 : Int32)) C dX11_both_10 (rfl : 10 + 1 = 11) rfl ?_
    refine r_icmp_ne (tgt := 18) C dX11_both_11 (by decide) (rfl : 11 + 3 = 14) (fun c11 => ?_) (fun c11 => ?_)
    · have h := k_f c11 h
      refine r_iload_n C dX11_both_18 (rfl : 18 + 1 = 19) rfl ?_
      refine r_iconst (v := (4 : Int32)) C dX11_both_19 (rfl : 19 + 1 = 20) rfl ?_
      refine r_icmp_ne (tgt := 27) C dX11_both_20 (by decide) (rfl : 20 + 3 = 23) (fun c20 => ?_) (fun c20 => ?_)
      · have h := k_f c20 h
        refine r_iload_n C dX11_both_27 (rfl : 27 + 1 = 28) rfl ?_
        refine r_iconst (v := (5 : Int32)) C dX11_both_28 (rfl : 28 + 1 = 29) rfl ?_
        refine r_icmp_ne (tgt := 44) C dX11_both_29 (by decide) (rfl : 29 + 3 = 32) (fun c29 => ?_) (fun c29 => ?_)
        · have h := k_f c29 h
          refine r_iload_n C dX11_both_44 (rfl : 44 + 1 = 45) rfl ?_
          refine r_iload_n C dX11_both_45 (rfl : 45 + 1 = 46) rfl ?_
          refine r_icmp_ge (tgt := 53) C dX11_both_46 (by decide) (rfl : 46 + 3 = 49) (fun c46 => ?_) (fun c46 => ?_)
          · have h := k_t c46 h
            refine r_iconst (v := (0 : Int32)) C dX11_both_53 (rfl : 53 + 1 = 54) rfl ?_
            refine k_mask [true, true, true] ?_
            exact sX11_both_54 u C hr hR v0 v1 v2 (0 : Int32) h
          · have h := k_f c46 h
            refine r_iconst (v := (1 : Int32)) C dX11_both_49 (rfl : 49 + 1 = 50) rfl ?_
            refine r_goto (tgt := 54) C dX11_both_50 (by decide) ?_
            refine k_mask [true, true, true] ?_
            exact sX11_both_54 u C hr hR v0 v1 v2 (1 : Int32) h
        · have h := k_t c29 h
          refine r_iload_n C dX11_both_32 (rfl : 32 + 1 = 33) rfl ?_
          refine r_if_ne (tgt := 40) C dX11_both_33 (by decide) (rfl : 33 + 3 = 36) (fun c33 => ?_) (fun c33 => ?_)
          · have h := k_f c33 h
            refine r_iload_n C dX11_both_40 (rfl : 40 + 1 = 41) rfl ?_
            refine r_iload_n C dX11_both_41 (rfl : 41 + 1 = 42) rfl ?_
            obtain ⟨hz42, h⟩ := k_d_of h
            refine r_idiv C dX11_both_42 (rfl : 42 + 1 = 43) hz42 ?_
            cases h
            exact r_iret C hr dX11_both_43
          · have h := k_t c33 h
            refine r_iconst (v := (0 : Int32)) C dX11_both_36 (rfl : 36 + 1 = 37) rfl ?_
            refine r_goto (tgt := 43) C dX11_both_37 (by decide) ?_
            cases h
            exact r_iret C hr dX11_both_43
      · have h := k_t c20 h
        refine r_iload_n C dX11_both_23 (rfl : 23 + 1 = 24) rfl ?_
        refine r_iload_n C dX11_both_24 (rfl : 24 + 1 = 25) rfl ?_
        refine r_imul C dX11_both_25 (rfl : 25 + 1 = 26) ?_
        cases h
        exact r_iret C hr dX11_both_26
    · have h := k_t c11 h
      refine r_iload_n C dX11_both_14 (rfl : 14 + 1 = 15) rfl ?_
      refine r_iload_n C dX11_both_15 (rfl : 15 + 1 = 16) rfl ?_
      refine r_isub C dX11_both_16 (rfl : 16 + 1 = 17) ?_
      cases h
      exact r_iret C hr dX11_both_17
  · have h := k_t c2 h
    refine r_iload_n C dX11_both_5 (rfl : 5 + 1 = 6) rfl ?_
    refine r_iload_n C dX11_both_6 (rfl : 6 + 1 = 7) rfl ?_
    refine r_iadd C dX11_both_7 (rfl : 7 + 1 = 8) ?_
    cases h
    exact r_iret C hr dX11_both_8
set_option maxHeartbeats 400000 in
set_option maxRecDepth 100000 in
theorem c_X11_both (l : Launch) (u : Nat) (h : k_H) (hsh : h.1 = shM) {x0 : Int32} {x1 : Int32} {x2 : Int32} {out : Int32} (hf : f_X11_both u x0 x1 x2 = some out) : k_CT l yX11_both cX11_both 3 (some .int) 0 0 [.int x0, .int x1, .int x2] h (some (.int out)) [] := by
  obtain ⟨sh, I, L, Rf⟩ := h
  try dsimp only
  obtain rfl : sh = shM := hsh
  refine k_ofW (by decide) (Nat.le_of_ble_eq_true rfl) ?_
  intro X ad hl hR0 hr C
  have hR : X.R.frames = 0 ∧ X.R.locals = 0 := by rw [hR0]; exact ⟨rfl, rfl⟩
  have h := hf
  unfold f_X11_both at h
  refine k_start (us := []) k_ap_0 ?_
  show k_W X 3 0 0 _ ad (k_ap [] (shM, I, L, Rf)) 0 [some (.int x0), some (.int x1), some (.int x2)] []
  refine k_mask [true, true, true] ?_
  exact sX11_both_0 u C hr hR x0 x1 x2 h
/-! LullabyPitModel.valueOf(I)I -/
theorem ds_X11_valueOf : k_ds [(16, 2, 0)] = true := by decide +kernel
set_option maxHeartbeats 400000 in
set_option maxRecDepth 100000 in
theorem sX11_valueOf_105 (u : Nat) {X : k_X} {ad : Nat → Nat} (C : k_C X cX11_valueOf RX11 5 ad) (hr : X.meth.sig.returnType = (some .int)) (hR : X.R.frames = 1 ∧ X.R.locals = 22) {I : Nat → Nat → Int32} {L : Nat → Nat → Int64} {Rf : Nat → Nat → Option Nat} {a13 : (Nat → Int32)} (ea13 : I 13 = a13) {a14 : (Nat → Int32)} (ea14 : I 14 = a14) {a15 : (Nat → Int32)} (ea15 : I 15 = a15) {a17 : (Nat → Int32)} (ea17 : I 17 = a17) {out : Int32 × (Nat → Int32)} {k8 : (Nat → Int32) → Int32 → Int32 → Int32 → Option (Int32 × (Nat → Int32))} (hk8 : ∀ (a16 : (Nat → Int32)) (v1 : Int32) (v2 : Int32) (v3 : Int32), k8 a16 v1 v2 v3 = some out → k_W X 5 0 0 (k_Q X ad (some (.int out.1)) (k_ap [(16, .inr (.inr (.inl out.2)))] (shM, I, L, Rf))) ad (k_ap [(16, .inr (.inr (.inl a16)))] (shM, I, L, Rf)) 8 [some (.ref 0), some (.int v1), some (.int v2), some (.int v3), none] []) : ∀ (a16 : (Nat → Int32)) (v1 : Int32) (v2 : Int32) (v3 : Int32), bX11_valueOf_105 u a13 a14 a15 a17 k8 a16 v1 v2 v3 = some out → k_W X 5 0 0 (k_Q X ad (some (.int out.1)) (k_ap [(16, .inr (.inr (.inl out.2)))] (shM, I, L, Rf))) ad (k_ap [(16, .inr (.inr (.inl a16)))] (shM, I, L, Rf)) 105 [some (.ref 0), some (.int v1), some (.int v2), some (.int v3), none] [] := by
  intro a16 v1 v2 v3 h
  unfold bX11_valueOf_105 at h
  refine r_iinc (v := (v3 + (1 : Int32))) C dX11_valueOf_105 (rfl : 105 + 3 = 108) rfl rfl (by decide) ?_
  show k_W _ _ _ _ _ _ _ _ [some (.ref 0), some (.int v1), some (.int v2), some (.int (v3 + (1 : Int32))), none] _
  refine r_goto (tgt := 8) C dX11_valueOf_108 (by decide) ?_
  refine k_mask [true, true, true, true, false] ?_
  exact hk8 a16 v1 v2 (v3 + (1 : Int32)) h
set_option maxHeartbeats 400000 in
set_option maxRecDepth 100000 in
theorem sX11_valueOf_68 (u : Nat) {X : k_X} {ad : Nat → Nat} (C : k_C X cX11_valueOf RX11 5 ad) (hr : X.meth.sig.returnType = (some .int)) (hR : X.R.frames = 1 ∧ X.R.locals = 22) {I : Nat → Nat → Int32} {L : Nat → Nat → Int64} {Rf : Nat → Nat → Option Nat} {a13 : (Nat → Int32)} (ea13 : I 13 = a13) {a14 : (Nat → Int32)} (ea14 : I 14 = a14) {a15 : (Nat → Int32)} (ea15 : I 15 = a15) {a17 : (Nat → Int32)} (ea17 : I 17 = a17) {out : Int32 × (Nat → Int32)} {k8 : (Nat → Int32) → Int32 → Int32 → Int32 → Option (Int32 × (Nat → Int32))} (hk8 : ∀ (a16 : (Nat → Int32)) (v1 : Int32) (v2 : Int32) (v3 : Int32), k8 a16 v1 v2 v3 = some out → k_W X 5 0 0 (k_Q X ad (some (.int out.1)) (k_ap [(16, .inr (.inr (.inl out.2)))] (shM, I, L, Rf))) ad (k_ap [(16, .inr (.inr (.inl a16)))] (shM, I, L, Rf)) 8 [some (.ref 0), some (.int v1), some (.int v2), some (.int v3), none] []) : ∀ (a16 : (Nat → Int32)) (v1 : Int32) (v2 : Int32) (v3 : Int32) (w0 : Int32) (w1 : Int32), bX11_valueOf_68 u a13 a14 a15 a17 k8 a16 v1 v2 v3 w0 w1 = some out → k_W X 5 0 0 (k_Q X ad (some (.int out.1)) (k_ap [(16, .inr (.inr (.inl out.2)))] (shM, I, L, Rf))) ad (k_ap [(16, .inr (.inr (.inl a16)))] (shM, I, L, Rf)) 68 [some (.ref 0), some (.int v1), some (.int v2), some (.int v3), none] [.int w0, .int w1, .ref 16] := by
  intro a16 v1 v2 v3 w0 w1 h
  unfold bX11_valueOf_68 at h
  obtain ⟨hi68, h⟩ := k_i_of h
  refine s_i (j := (w1).toNatClampNeg) (f := a16) (us' := [(16, .inr (.inr (.inl (upd a16 ((w1).toNatClampNeg) w0))))]) C dX11_valueOf_68 (rfl : 68 + 1 = 69) rfl rfl hi68 rfl ds_X11_valueOf rfl rfl rfl ?_
  refine r_iinc (v := (v2 + (1 : Int32))) C dX11_valueOf_69 (rfl : 69 + 3 = 72) rfl rfl (by decide) ?_
  show k_W _ _ _ _ _ _ _ _ [some (.ref 0), some (.int v1), some (.int (v2 + (1 : Int32))), some (.int v3), none] _
  refine r_goto (tgt := 105) C dX11_valueOf_72 (by decide) ?_
  refine k_mask [true, true, true, true, false] ?_
  exact sX11_valueOf_105 u C hr hR ea13 ea14 ea15 ea17 hk8 (upd a16 ((w1).toNatClampNeg) w0) v1 (v2 + (1 : Int32)) v3 h
set_option maxHeartbeats 400000 in
set_option maxRecDepth 100000 in
theorem sX11_valueOf_8 (u : Nat) {X : k_X} {ad : Nat → Nat} (C : k_C X cX11_valueOf RX11 5 ad) (hr : X.meth.sig.returnType = (some .int)) (hR : X.R.frames = 1 ∧ X.R.locals = 22) {I : Nat → Nat → Int32} {L : Nat → Nat → Int64} {Rf : Nat → Nat → Option Nat} {a13 : (Nat → Int32)} (ea13 : I 13 = a13) {a14 : (Nat → Int32)} (ea14 : I 14 = a14) {a15 : (Nat → Int32)} (ea15 : I 15 = a15) {a17 : (Nat → Int32)} (ea17 : I 17 = a17) {out : Int32 × (Nat → Int32)} : ∀ (n : Nat) (a16 : (Nat → Int32)) (v1 : Int32) (v2 : Int32) (v3 : Int32), bX11_valueOf_8 u a13 a14 a15 a17 n a16 v1 v2 v3 = some out → k_W X 5 0 0 (k_Q X ad (some (.int out.1)) (k_ap [(16, .inr (.inr (.inl out.2)))] (shM, I, L, Rf))) ad (k_ap [(16, .inr (.inr (.inl a16)))] (shM, I, L, Rf)) 8 [some (.ref 0), some (.int v1), some (.int v2), some (.int v3), none] [] := by
  intro n
  induction n with
  | zero => intro a16 v1 v2 v3 h; cases h
  | succ n ih =>
    intro a16 v1 v2 v3 h
    refine r_iload_n C dX11_valueOf_8 (rfl : 8 + 1 = 9) rfl ?_
    refine r_sipush (v := (150 : Int32)) C dX11_valueOf_9 (rfl : 9 + 3 = 12) rfl ?_
    refine r_iload_n C dX11_valueOf_12 (rfl : 12 + 1 = 13) rfl ?_
    refine r_imul C dX11_valueOf_13 (rfl : 13 + 1 = 14) ?_
    refine r_aload_n C dX11_valueOf_14 (rfl : 14 + 1 = 15) rfl ?_
    refine r_getR (q := 15) C dX11_valueOf_15 (rfl : 15 + 3 = 18) fl_X11_59 rfl rfl ?_
    refine r_iload_n C dX11_valueOf_18 (rfl : 18 + 1 = 19) rfl ?_
    obtain ⟨hi19, h⟩ := k_i_of h
    refine a_i (j := (v1).toNatClampNeg) (f := a15) C dX11_valueOf_19 (rfl : 19 + 1 = 20) rfl ea15 hi19 rfl ?_
    refine r_iadd C dX11_valueOf_20 (rfl : 20 + 1 = 21) ?_
    refine r_icmp_ge (tgt := 111) C dX11_valueOf_21 (by decide) (rfl : 21 + 3 = 24) (fun c21 => ?_) (fun c21 => ?_)
    · have h := k_t c21 h
      refine r_aload_n C dX11_valueOf_111 (rfl : 111 + 1 = 112) rfl ?_
      refine r_getR (q := 16) C dX11_valueOf_112 (rfl : 112 + 3 = 115) fl_X11_62 rfl rfl ?_
      refine r_iconst (v := (0 : Int32)) C dX11_valueOf_115 (rfl : 115 + 1 = 116) rfl ?_
      refine a_i (j := 0) (f := a16) C dX11_valueOf_116 (rfl : 116 + 1 = 117) rfl rfl (show ¬ ((0 : Int32) < 0 ∨ 150 ≤ ((0 : Int32)).toNatClampNeg) by decide) rfl ?_
      cases h
      exact r_iret C hr dX11_valueOf_117
    · have h := k_f c21 h
      refine r_aload_n C dX11_valueOf_24 (rfl : 24 + 1 = 25) rfl ?_
      refine r_getR (q := 13) C dX11_valueOf_25 (rfl : 25 + 3 = 28) fl_X11_53 rfl rfl ?_
      refine r_iload_n C dX11_valueOf_28 (rfl : 28 + 1 = 29) rfl ?_
      obtain ⟨hi29, h⟩ := k_i_of h
      refine a_i (j := (v3).toNatClampNeg) (f := a13) C dX11_valueOf_29 (rfl : 29 + 1 = 30) rfl ea13 hi29 rfl ?_
      refine r_istore C dX11_valueOf_30 (rfl : 30 + 2 = 32) (by decide) (Nat.le_of_ble_eq_true rfl) ?_
      show k_W _ _ _ _ _ _ _ _ [some (.ref 0), some (.int v1), some (.int v2), some (.int v3), some (.int (a13 ((v3).toNatClampNeg)))] _
      refine r_iload C dX11_valueOf_32 (rfl : 32 + 2 = 34) rfl ?_
      refine r_iconst (v := (1 : Int32)) C dX11_valueOf_34 (rfl : 34 + 1 = 35) rfl ?_
      refine r_icmp_gt (tgt := 75) C dX11_valueOf_35 (by decide) (rfl : 35 + 3 = 38) (fun c35 => ?_) (fun c35 => ?_)
      · have h := k_t c35 h
        refine r_iinc (v := (v2 + (-1 : Int32))) C dX11_valueOf_75 (rfl : 75 + 3 = 78) rfl rfl (by decide) ?_
        show k_W _ _ _ _ _ _ _ _ [some (.ref 0), some (.int v1), some (.int (v2 + (-1 : Int32))), some (.int v3), some (.int (a13 ((v3).toNatClampNeg)))] _
        refine r_aload_n C dX11_valueOf_78 (rfl : 78 + 1 = 79) rfl ?_
        refine r_getR (q := 16) C dX11_valueOf_79 (rfl : 79 + 3 = 82) fl_X11_62 rfl rfl ?_
        refine r_iload_n C dX11_valueOf_82 (rfl : 82 + 1 = 83) rfl ?_
        refine r_iconst (v := (1 : Int32)) C dX11_valueOf_83 (rfl : 83 + 1 = 84) rfl ?_
        refine r_isub C dX11_valueOf_84 (rfl : 84 + 1 = 85) ?_
        refine r_iload C dX11_valueOf_85 (rfl : 85 + 2 = 87) rfl ?_
        refine r_aload_n C dX11_valueOf_87 (rfl : 87 + 1 = 88) rfl ?_
        refine r_getR (q := 16) C dX11_valueOf_88 (rfl : 88 + 3 = 91) fl_X11_62 rfl rfl ?_
        refine r_iload_n C dX11_valueOf_91 (rfl : 91 + 1 = 92) rfl ?_
        refine r_iconst (v := (1 : Int32)) C dX11_valueOf_92 (rfl : 92 + 1 = 93) rfl ?_
        refine r_isub C dX11_valueOf_93 (rfl : 93 + 1 = 94) ?_
        obtain ⟨hi94, h⟩ := k_i_of h
        refine a_i (j := (((v2 + (-1 : Int32)) - (1 : Int32))).toNatClampNeg) (f := a16) C dX11_valueOf_94 (rfl : 94 + 1 = 95) rfl rfl hi94 rfl ?_
        refine r_aload_n C dX11_valueOf_95 (rfl : 95 + 1 = 96) rfl ?_
        refine r_getR (q := 16) C dX11_valueOf_96 (rfl : 96 + 3 = 99) fl_X11_62 rfl rfl ?_
        refine r_iload_n C dX11_valueOf_99 (rfl : 99 + 1 = 100) rfl ?_
        obtain ⟨hi100, h⟩ := k_i_of h
        refine a_i (j := ((v2 + (-1 : Int32))).toNatClampNeg) (f := a16) C dX11_valueOf_100 (rfl : 100 + 1 = 101) rfl rfl hi100 rfl ?_
        obtain ⟨r101, q101, h⟩ := k_b_of h
        refine d_S (As := [.int (a13 ((v3).toNatClampNeg)), .int (a16 ((((v2 + (-1 : Int32)) - (1 : Int32))).toNatClampNeg)), .int (a16 (((v2 + (-1 : Int32))).toNatClampNeg))]) (st := [.int ((v2 + (-1 : Int32)) - (1 : Int32)), .ref 16]) (st' := [.int r101, .int ((v2 + (-1 : Int32)) - (1 : Int32)), .ref 16]) (h' := k_ap [(16, .inr (.inr (.inl a16)))] (shM, I, L, Rf)) C hR ⟨Nat.zero_le _, Nat.zero_le _⟩ ms_X11_both lk_X11_321 dX11_valueOf_101 (rfl : 101 + 3 = 104) rfl rfl (c_X11_both X.l u (k_ap [(16, .inr (.inr (.inl a16)))] (shM, I, L, Rf)) rfl  q101) rfl rfl rfl rfl rfl ?_
        obtain ⟨hi104, h⟩ := k_i_of h
        refine s_i (j := (((v2 + (-1 : Int32)) - (1 : Int32))).toNatClampNeg) (f := a16) (us' := [(16, .inr (.inr (.inl (upd a16 ((((v2 + (-1 : Int32)) - (1 : Int32))).toNatClampNeg) r101))))]) C dX11_valueOf_104 (rfl : 104 + 1 = 105) rfl rfl hi104 rfl ds_X11_valueOf rfl rfl rfl ?_
        refine k_mask [true, true, true, true, false] ?_
        exact sX11_valueOf_105 u C hr hR ea13 ea14 ea15 ea17 ih (upd a16 ((((v2 + (-1 : Int32)) - (1 : Int32))).toNatClampNeg) r101) v1 (v2 + (-1 : Int32)) v3 h
      · have h := k_f c35 h
        refine r_aload_n C dX11_valueOf_38 (rfl : 38 + 1 = 39) rfl ?_
        refine r_getR (q := 16) C dX11_valueOf_39 (rfl : 39 + 3 = 42) fl_X11_62 rfl rfl ?_
        refine r_iload_n C dX11_valueOf_42 (rfl : 42 + 1 = 43) rfl ?_
        refine r_iload C dX11_valueOf_43 (rfl : 43 + 2 = 45) rfl ?_
        refine r_if_ne (tgt := 57) C dX11_valueOf_45 (by decide) (rfl : 45 + 3 = 48) (fun c45 => ?_) (fun c45 => ?_)
        · have h := k_f c45 h
          refine r_aload_n C dX11_valueOf_57 (rfl : 57 + 1 = 58) rfl ?_
          refine r_getR (q := 17) C dX11_valueOf_58 (rfl : 58 + 3 = 61) fl_X11_65 rfl rfl ?_
          refine r_aload_n C dX11_valueOf_61 (rfl : 61 + 1 = 62) rfl ?_
          refine r_getR (q := 14) C dX11_valueOf_62 (rfl : 62 + 3 = 65) fl_X11_56 rfl rfl ?_
          refine r_iload_n C dX11_valueOf_65 (rfl : 65 + 1 = 66) rfl ?_
          obtain ⟨hi66, h⟩ := k_i_of h
          refine a_i (j := (v3).toNatClampNeg) (f := a14) C dX11_valueOf_66 (rfl : 66 + 1 = 67) rfl ea14 hi66 rfl ?_
          obtain ⟨hi67, h⟩ := k_i_of h
          refine a_i (j := ((a14 ((v3).toNatClampNeg))).toNatClampNeg) (f := a17) C dX11_valueOf_67 (rfl : 67 + 1 = 68) rfl ea17 hi67 rfl ?_
          refine k_mask [true, true, true, true, false] ?_
          exact sX11_valueOf_68 u C hr hR ea13 ea14 ea15 ea17 ih a16 v1 v2 v3 (a17 (((a14 ((v3).toNatClampNeg))).toNatClampNeg)) v2 h
        · have h := k_t c45 h
          refine r_aload_n C dX11_valueOf_48 (rfl : 48 + 1 = 49) rfl ?_
          refine r_getR (q := 14) C dX11_valueOf_49 (rfl : 49 + 3 = 52) fl_X11_56 rfl rfl ?_
          refine r_iload_n C dX11_valueOf_52 (rfl : 52 + 1 = 53) rfl ?_
          obtain ⟨hi53, h⟩ := k_i_of h
          refine a_i (j := (v3).toNatClampNeg) (f := a14) C dX11_valueOf_53 (rfl : 53 + 1 = 54) rfl ea14 hi53 rfl ?_
          refine r_goto (tgt := 68) C dX11_valueOf_54 (by decide) ?_
          refine k_mask [true, true, true, true, false] ?_
          exact sX11_valueOf_68 u C hr hR ea13 ea14 ea15 ea17 ih a16 v1 v2 v3 (a14 ((v3).toNatClampNeg)) v2 h
set_option maxHeartbeats 400000 in
set_option maxRecDepth 100000 in
theorem sX11_valueOf_0 (u : Nat) {X : k_X} {ad : Nat → Nat} (C : k_C X cX11_valueOf RX11 5 ad) (hr : X.meth.sig.returnType = (some .int)) (hR : X.R.frames = 1 ∧ X.R.locals = 22) {I : Nat → Nat → Int32} {L : Nat → Nat → Int64} {Rf : Nat → Nat → Option Nat} {a13 : (Nat → Int32)} (ea13 : I 13 = a13) {a14 : (Nat → Int32)} (ea14 : I 14 = a14) {a15 : (Nat → Int32)} (ea15 : I 15 = a15) {a17 : (Nat → Int32)} (ea17 : I 17 = a17) {out : Int32 × (Nat → Int32)} : ∀ (a16 : (Nat → Int32)) (v1 : Int32), bX11_valueOf_0 u a13 a14 a15 a17 a16 v1 = some out → k_W X 5 0 0 (k_Q X ad (some (.int out.1)) (k_ap [(16, .inr (.inr (.inl out.2)))] (shM, I, L, Rf))) ad (k_ap [(16, .inr (.inr (.inl a16)))] (shM, I, L, Rf)) 0 [some (.ref 0), some (.int v1), none, none, none] [] := by
  intro a16 v1 h
  unfold bX11_valueOf_0 at h
  refine r_iconst (v := (0 : Int32)) C dX11_valueOf_0 (rfl : 0 + 1 = 1) rfl ?_
  refine r_istore_n C dX11_valueOf_1 (rfl : 1 + 1 = 2) (by decide) (Nat.le_of_ble_eq_true rfl) ?_
  show k_W _ _ _ _ _ _ _ _ [some (.ref 0), some (.int v1), some (.int (0 : Int32)), none, none] _
  refine r_sipush (v := (150 : Int32)) C dX11_valueOf_2 (rfl : 2 + 3 = 5) rfl ?_
  refine r_iload_n C dX11_valueOf_5 (rfl : 5 + 1 = 6) rfl ?_
  refine r_imul C dX11_valueOf_6 (rfl : 6 + 1 = 7) ?_
  refine r_istore_n C dX11_valueOf_7 (rfl : 7 + 1 = 8) (by decide) (Nat.le_of_ble_eq_true rfl) ?_
  show k_W _ _ _ _ _ _ _ _ [some (.ref 0), some (.int v1), some (.int (0 : Int32)), some (.int ((150 : Int32) * v1)), none] _
  refine k_mask [true, true, true, true, false] ?_
  exact sX11_valueOf_8 u C hr hR ea13 ea14 ea15 ea17 u a16 v1 (0 : Int32) ((150 : Int32) * v1) h
set_option maxHeartbeats 400000 in
set_option maxRecDepth 100000 in
theorem c_X11_valueOf (l : Launch) (u : Nat) (h : k_H) (hsh : h.1 = shM) {a13 : (Nat → Int32)} (ea13 : h.2.1 13 = a13) {a14 : (Nat → Int32)} (ea14 : h.2.1 14 = a14) {a15 : (Nat → Int32)} (ea15 : h.2.1 15 = a15) {a16 : (Nat → Int32)} (ea16 : h.2.1 16 = a16) {a17 : (Nat → Int32)} (ea17 : h.2.1 17 = a17) {x0 : Int32} {out : Int32 × (Nat → Int32)} (hf : f_X11_valueOf u a13 a14 a15 a16 a17 x0 = some out) : k_CT l yX11_valueOf cX11_valueOf 5 (some .int) 1 22 [.ref 0, .int x0] h (some (.int out.1)) [(16, .inr (.inr (.inl out.2)))] := by
  obtain ⟨sh, I, L, Rf⟩ := h
  try dsimp only
  obtain rfl : sh = shM := hsh
  refine k_ofW (by decide) (Nat.le_of_ble_eq_true rfl) ?_
  intro X ad hl hR0 hr C
  have hR : X.R.frames = 1 ∧ X.R.locals = 22 := by rw [hR0]; exact ⟨rfl, rfl⟩
  have h := hf
  unfold f_X11_valueOf at h
  refine k_start (us := [(16, .inr (.inr (.inl a16)))]) (k_ao_A ea16 k_ap_0) ?_
  show k_W X 5 0 0 _ ad (k_ap [(16, .inr (.inr (.inl a16)))] (shM, I, L, Rf)) 0 [some (.ref 0), some (.int x0), none, none, none] []
  refine k_mask [true, true, false, false, false] ?_
  exact sX11_valueOf_0 u C hr hR ea13 ea14 ea15 ea17 a16 x0 h
/-! LullabyPitModel.tellsStep(III)V -/
theorem ds_X11_tellsStep : k_ds [(0, 0, 41), (18, 2, 0)] = true := by decide +kernel
set_option maxHeartbeats 400000 in
set_option maxRecDepth 100000 in
theorem sX11_tellsStep_0 (u : Nat) {X : k_X} {ad : Nat → Nat} (C : k_C X cX11_tellsStep RX11 4 ad) (hr : X.meth.sig.returnType = none) (hR : X.R.frames = 1 ∧ X.R.locals = 20) {I : Nat → Nat → Int32} {L : Nat → Nat → Int64} {Rf : Nat → Nat → Option Nat} {c0_5 : Int32} (ec0_5 : I 0 5 = c0_5) {out : Int32 × (Nat → Int32)} : ∀ (c0_41 : Int32) (a18 : (Nat → Int32)) (v1 : Int32) (v2 : Int32) (v3 : Int32), bX11_tellsStep_0 u c0_5 c0_41 a18 v1 v2 v3 = some out → k_W X 4 0 0 (k_Q X ad none (k_ap [(0, .inl (41, out.1)), (18, .inr (.inr (.inl out.2)))] (shM, I, L, Rf))) ad (k_ap [(0, .inl (41, c0_41)), (18, .inr (.inr (.inl a18)))] (shM, I, L, Rf)) 0 [some (.ref 0), some (.int v1), some (.int v2), some (.int v3)] [] := by
  intro c0_41 a18 v1 v2 v3 h
  unfold bX11_tellsStep_0 at h
  refine r_aload_n C dX11_tellsStep_0 (rfl : 0 + 1 = 1) rfl ?_
  obtain ⟨r1, q1, h⟩ := k_b_of h
  refine d_V (As := []) (st := []) (st' := [.int r1]) (h' := k_ap [(0, .inl (41, c0_41)), (18, .inr (.inr (.inl a18)))] (shM, I, L, Rf)) C hR ⟨Nat.zero_le _, Nat.zero_le _⟩ mv_X11_fine lk_X11_149 dX11_tellsStep_1 (rfl : 1 + 3 = 4) rfl rfl rfl rfl (c_X11_fine X.l u (k_ap [(0, .inl (41, c0_41)), (18, .inr (.inr (.inl a18)))] (shM, I, L, Rf)) rfl ec0_5 q1) rfl rfl rfl rfl rfl ?_
  refine r_if_ne (tgt := 8) C dX11_tellsStep_4 (by decide) (rfl : 4 + 3 = 7) (fun c4 => ?_) (fun c4 => ?_)
  · have h := k_f c4 h
    refine r_aload_n C dX11_tellsStep_8 (rfl : 8 + 1 = 9) rfl ?_
    refine r_getR (q := 18) C dX11_tellsStep_9 (rfl : 9 + 3 = 12) fl_X11_68 rfl rfl ?_
    refine r_aload_n C dX11_tellsStep_12 (rfl : 12 + 1 = 13) rfl ?_
    refine r_getI (v := c0_41) C dX11_tellsStep_13 (rfl : 13 + 3 = 16) fl_X11_325 rfl rfl rfl ?_
    refine r_iload_n C dX11_tellsStep_16 (rfl : 16 + 1 = 17) rfl ?_
    obtain ⟨hi17, h⟩ := k_i_of h
    refine s_i (j := (c0_41).toNatClampNeg) (f := a18) (us' := [(0, .inl (41, c0_41)), (18, .inr (.inr (.inl (upd a18 ((c0_41).toNatClampNeg) v1))))]) C dX11_tellsStep_17 (rfl : 17 + 1 = 18) rfl rfl hi17 rfl ds_X11_tellsStep rfl rfl rfl ?_
    refine r_aload_n C dX11_tellsStep_18 (rfl : 18 + 1 = 19) rfl ?_
    refine r_getR (q := 18) C dX11_tellsStep_19 (rfl : 19 + 3 = 22) fl_X11_68 rfl rfl ?_
    refine r_aload_n C dX11_tellsStep_22 (rfl : 22 + 1 = 23) rfl ?_
    refine r_getI (v := c0_41) C dX11_tellsStep_23 (rfl : 23 + 3 = 26) fl_X11_325 rfl rfl rfl ?_
    refine r_iconst (v := (1 : Int32)) C dX11_tellsStep_26 (rfl : 26 + 1 = 27) rfl ?_
    refine r_iadd C dX11_tellsStep_27 (rfl : 27 + 1 = 28) ?_
    refine r_iload_n C dX11_tellsStep_28 (rfl : 28 + 1 = 29) rfl ?_
    obtain ⟨hi29, h⟩ := k_i_of h
    refine s_i (j := ((c0_41 + (1 : Int32))).toNatClampNeg) (f := (upd a18 ((c0_41).toNatClampNeg) v1)) (us' := [(0, .inl (41, c0_41)), (18, .inr (.inr (.inl (upd (upd a18 ((c0_41).toNatClampNeg) v1) (((c0_41 + (1 : Int32))).toNatClampNeg) v2))))]) C dX11_tellsStep_29 (rfl : 29 + 1 = 30) rfl rfl hi29 rfl ds_X11_tellsStep rfl rfl rfl ?_
    refine r_aload_n C dX11_tellsStep_30 (rfl : 30 + 1 = 31) rfl ?_
    refine r_getR (q := 18) C dX11_tellsStep_31 (rfl : 31 + 3 = 34) fl_X11_68 rfl rfl ?_
    refine r_aload_n C dX11_tellsStep_34 (rfl : 34 + 1 = 35) rfl ?_
    refine r_getI (v := c0_41) C dX11_tellsStep_35 (rfl : 35 + 3 = 38) fl_X11_325 rfl rfl rfl ?_
    refine r_iconst (v := (2 : Int32)) C dX11_tellsStep_38 (rfl : 38 + 1 = 39) rfl ?_
    refine r_iadd C dX11_tellsStep_39 (rfl : 39 + 1 = 40) ?_
    refine r_iload_n C dX11_tellsStep_40 (rfl : 40 + 1 = 41) rfl ?_
    obtain ⟨hi41, h⟩ := k_i_of h
    refine s_i (j := ((c0_41 + (2 : Int32))).toNatClampNeg) (f := (upd (upd a18 ((c0_41).toNatClampNeg) v1) (((c0_41 + (1 : Int32))).toNatClampNeg) v2)) (us' := [(0, .inl (41, c0_41)), (18, .inr (.inr (.inl (upd (upd (upd a18 ((c0_41).toNatClampNeg) v1) (((c0_41 + (1 : Int32))).toNatClampNeg) v2) (((c0_41 + (2 : Int32))).toNatClampNeg) v3))))]) C dX11_tellsStep_41 (rfl : 41 + 1 = 42) rfl rfl hi41 rfl ds_X11_tellsStep rfl rfl rfl ?_
    refine r_aload_n C dX11_tellsStep_42 (rfl : 42 + 1 = 43) rfl ?_
    refine r_dup C dX11_tellsStep_43 (rfl : 43 + 1 = 44) rfl ?_
    refine r_getI (v := c0_41) C dX11_tellsStep_44 (rfl : 44 + 3 = 47) fl_X11_325 rfl rfl rfl ?_
    refine r_iconst (v := (3 : Int32)) C dX11_tellsStep_47 (rfl : 47 + 1 = 48) rfl ?_
    refine r_iadd C dX11_tellsStep_48 (rfl : 48 + 1 = 49) ?_
    refine p_I (us' := [(0, .inl (41, (c0_41 + (3 : Int32)))), (18, .inr (.inr (.inl (upd (upd (upd a18 ((c0_41).toNatClampNeg) v1) (((c0_41 + (1 : Int32))).toNatClampNeg) v2) (((c0_41 + (2 : Int32))).toNatClampNeg) v3))))]) C dX11_tellsStep_49 (rfl : 49 + 3 = 52) fp_X11_325 rfl rfl ds_X11_tellsStep rfl rfl rfl ?_
    cases h
    exact r_vret C hr dX11_tellsStep_52
  · have h := k_t c4 h
    cases h
    exact r_vret C hr dX11_tellsStep_7
set_option maxHeartbeats 400000 in
set_option maxRecDepth 100000 in
theorem c_X11_tellsStep (l : Launch) (u : Nat) (h : k_H) (hsh : h.1 = shM) {c0_5 : Int32} (ec0_5 : h.2.1 0 5 = c0_5) {c0_41 : Int32} (ec0_41 : h.2.1 0 41 = c0_41) {a18 : (Nat → Int32)} (ea18 : h.2.1 18 = a18) {x0 : Int32} {x1 : Int32} {x2 : Int32} {out : Int32 × (Nat → Int32)} (hf : f_X11_tellsStep u c0_5 c0_41 a18 x0 x1 x2 = some out) : k_CT l yX11_tellsStep cX11_tellsStep 4 none 1 20 [.ref 0, .int x0, .int x1, .int x2] h none [(0, .inl (41, out.1)), (18, .inr (.inr (.inl out.2)))] := by
  obtain ⟨sh, I, L, Rf⟩ := h
  try dsimp only
  obtain rfl : sh = shM := hsh
  refine k_ofW (by decide) (Nat.le_of_ble_eq_true rfl) ?_
  intro X ad hl hR0 hr C
  have hR : X.R.frames = 1 ∧ X.R.locals = 20 := by rw [hR0]; exact ⟨rfl, rfl⟩
  have h := hf
  unfold f_X11_tellsStep at h
  refine k_start (us := [(0, .inl (41, c0_41)), (18, .inr (.inr (.inl a18)))]) (k_ao_I ec0_41 (k_ao_A ea18 k_ap_0)) ?_
  show k_W X 4 0 0 _ ad (k_ap [(0, .inl (41, c0_41)), (18, .inr (.inr (.inl a18)))] (shM, I, L, Rf)) 0 [some (.ref 0), some (.int x0), some (.int x1), some (.int x2)] []
  refine k_mask [true, true, true, true] ?_
  exact sX11_tellsStep_0 u C hr hR ec0_5 c0_41 a18 x0 x1 x2 h
/-! LullabyPitModel.isIn(II)Z -/
theorem ds_X11_isIn : k_ds [] = true := by decide +kernel
set_option maxHeartbeats 400000 in
set_option maxRecDepth 100000 in
theorem sX11_isIn_0 (u : Nat) {X : k_X} {ad : Nat → Nat} (C : k_C X cX11_isIn RX11 3 ad) (hr : X.meth.sig.returnType = (some .boolean)) (hR : X.R.frames = 0 ∧ X.R.locals = 0) {I : Nat → Nat → Int32} {L : Nat → Nat → Int64} {Rf : Nat → Nat → Option Nat} {c0_25 : Int32} (ec0_25 : I 0 25 = c0_25) {c0_26 : Int32} (ec0_26 : I 0 26 = c0_26) {out : Int32} : ∀ (v1 : Int32) (v2 : Int32), bX11_isIn_0 u c0_25 c0_26 v1 v2 = some out → k_W X 3 0 0 (k_Q X ad (some (.int out)) (k_ap [] (shM, I, L, Rf))) ad (k_ap [] (shM, I, L, Rf)) 0 [some (.ref 0), some (.int v1), some (.int v2)] [] := by
  intro v1 v2 h
  unfold bX11_isIn_0 at h
  refine r_iload_n C dX11_isIn_0 (rfl : 0 + 1 = 1) rfl ?_
  refine r_if_lt (tgt := 28) C dX11_isIn_1 (by decide) (rfl : 1 + 3 = 4) (fun c1 => ?_) (fun c1 => ?_)
  · have h := k_t c1 h
    refine r_iconst (v := (0 : Int32)) C dX11_isIn_28 (rfl : 28 + 1 = 29) rfl ?_
    cases h
    exact r_zret C hr (Or.inl rfl) dX11_isIn_29
  · have h := k_f c1 h
    refine r_iload_n C dX11_isIn_4 (rfl : 4 + 1 = 5) rfl ?_
    refine r_aload_n C dX11_isIn_5 (rfl : 5 + 1 = 6) rfl ?_
    refine r_getI (v := c0_25) C dX11_isIn_6 (rfl : 6 + 3 = 9) fl_X11_184 rfl rfl ec0_25 ?_
    refine r_icmp_ge (tgt := 28) C dX11_isIn_9 (by decide) (rfl : 9 + 3 = 12) (fun c9 => ?_) (fun c9 => ?_)
    · have h := k_t c9 h
      refine r_iconst (v := (0 : Int32)) C dX11_isIn_28 (rfl : 28 + 1 = 29) rfl ?_
      cases h
      exact r_zret C hr (Or.inl rfl) dX11_isIn_29
    · have h := k_f c9 h
      refine r_iload_n C dX11_isIn_12 (rfl : 12 + 1 = 13) rfl ?_
      refine r_if_lt (tgt := 28) C dX11_isIn_13 (by decide) (rfl : 13 + 3 = 16) (fun c13 => ?_) (fun c13 => ?_)
      · have h := k_t c13 h
        refine r_iconst (v := (0 : Int32)) C dX11_isIn_28 (rfl : 28 + 1 = 29) rfl ?_
        cases h
        exact r_zret C hr (Or.inl rfl) dX11_isIn_29
      · have h := k_f c13 h
        refine r_iload_n C dX11_isIn_16 (rfl : 16 + 1 = 17) rfl ?_
        refine r_aload_n C dX11_isIn_17 (rfl : 17 + 1 = 18) rfl ?_
        refine r_getI (v := c0_26) C dX11_isIn_18 (rfl : 18 + 3 = 21) fl_X11_187 rfl rfl ec0_26 ?_
        refine r_icmp_ge (tgt := 28) C dX11_isIn_21 (by decide) (rfl : 21 + 3 = 24) (fun c21 => ?_) (fun c21 => ?_)
        · have h := k_t c21 h
          refine r_iconst (v := (0 : Int32)) C dX11_isIn_28 (rfl : 28 + 1 = 29) rfl ?_
          cases h
          exact r_zret C hr (Or.inl rfl) dX11_isIn_29
        · have h := k_f c21 h
          refine r_iconst (v := (1 : Int32)) C dX11_isIn_24 (rfl : 24 + 1 = 25) rfl ?_
          refine r_goto (tgt := 29) C dX11_isIn_25 (by decide) ?_
          cases h
          exact r_zret C hr (Or.inr rfl) dX11_isIn_29
set_option maxHeartbeats 400000 in
set_option maxRecDepth 100000 in
theorem c_X11_isIn (l : Launch) (u : Nat) (h : k_H) (hsh : h.1 = shM) {c0_25 : Int32} (ec0_25 : h.2.1 0 25 = c0_25) {c0_26 : Int32} (ec0_26 : h.2.1 0 26 = c0_26) {x0 : Int32} {x1 : Int32} {out : Int32} (hf : f_X11_isIn u c0_25 c0_26 x0 x1 = some out) : k_CT l yX11_isIn cX11_isIn 3 (some .boolean) 0 0 [.ref 0, .int x0, .int x1] h (some (.int out)) [] := by
  obtain ⟨sh, I, L, Rf⟩ := h
  try dsimp only
  obtain rfl : sh = shM := hsh
  refine k_ofW (by decide) (Nat.le_of_ble_eq_true rfl) ?_
  intro X ad hl hR0 hr C
  have hR : X.R.frames = 0 ∧ X.R.locals = 0 := by rw [hR0]; exact ⟨rfl, rfl⟩
  have h := hf
  unfold f_X11_isIn at h
  refine k_start (us := []) k_ap_0 ?_
  show k_W X 3 0 0 _ ad (k_ap [] (shM, I, L, Rf)) 0 [some (.ref 0), some (.int x0), some (.int x1)] []
  refine k_mask [true, true, true] ?_
  exact sX11_isIn_0 u C hr hR ec0_25 ec0_26 x0 x1 h
/-! LullabyPitModel.isOpen(II)Z -/
theorem ds_X11_isOpen : k_ds [] = true := by decide +kernel
set_option maxHeartbeats 400000 in
set_option maxRecDepth 100000 in
theorem sX11_isOpen_0 (u : Nat) {X : k_X} {ad : Nat → Nat} (C : k_C X cX11_isOpen RX11 3 ad) (hr : X.meth.sig.returnType = (some .boolean)) (hR : X.R.frames = 1 ∧ X.R.locals = 22) {I : Nat → Nat → Int32} {L : Nat → Nat → Int64} {Rf : Nat → Nat → Option Nat} {c0_25 : Int32} (ec0_25 : I 0 25 = c0_25) {c0_26 : Int32} (ec0_26 : I 0 26 = c0_26) {a21 : (Nat → Int32)} (ea21 : I 21 = a21) {out : Int32} : ∀ (v1 : Int32) (v2 : Int32), bX11_isOpen_0 u c0_25 c0_26 a21 v1 v2 = some out → k_W X 3 0 0 (k_Q X ad (some (.int out)) (k_ap [] (shM, I, L, Rf))) ad (k_ap [] (shM, I, L, Rf)) 0 [some (.ref 0), some (.int v1), some (.int v2)] [] := by
  intro v1 v2 h
  unfold bX11_isOpen_0 at h
  refine r_aload_n C dX11_isOpen_0 (rfl : 0 + 1 = 1) rfl ?_
  refine r_iload_n C dX11_isOpen_1 (rfl : 1 + 1 = 2) rfl ?_
  refine r_iload_n C dX11_isOpen_2 (rfl : 2 + 1 = 3) rfl ?_
  obtain ⟨r3, q3, h⟩ := k_b_of h
  refine d_V (As := [.int v1, .int v2]) (st := []) (st' := [.int r3]) (h' := k_ap [] (shM, I, L, Rf)) C hR ⟨Nat.zero_le _, Nat.zero_le _⟩ mv_X11_isIn lk_X11_363 dX11_isOpen_3 (rfl : 3 + 3 = 6) rfl rfl rfl rfl (c_X11_isIn X.l u (k_ap [] (shM, I, L, Rf)) rfl ec0_25 ec0_26 q3) rfl rfl rfl rfl rfl ?_
  refine r_if_eq (tgt := 43) C dX11_isOpen_6 (by decide) (rfl : 6 + 3 = 9) (fun c6 => ?_) (fun c6 => ?_)
  · have h := k_t c6 h
    refine r_iconst (v := (0 : Int32)) C dX11_isOpen_43 (rfl : 43 + 1 = 44) rfl ?_
    cases h
    exact r_zret C hr (Or.inl rfl) dX11_isOpen_44
  · have h := k_f c6 h
    refine r_aload_n C dX11_isOpen_9 (rfl : 9 + 1 = 10) rfl ?_
    refine r_getR (q := 21) C dX11_isOpen_10 (rfl : 10 + 3 = 13) fl_X11_77 rfl rfl ?_
    refine r_bipush (v := (8 : Int32)) C dX11_isOpen_13 (rfl : 13 + 2 = 15) rfl ?_
    refine r_iload_n C dX11_isOpen_15 (rfl : 15 + 1 = 16) rfl ?_
    refine r_imul C dX11_isOpen_16 (rfl : 16 + 1 = 17) ?_
    refine r_iload_n C dX11_isOpen_17 (rfl : 17 + 1 = 18) rfl ?_
    refine r_iadd C dX11_isOpen_18 (rfl : 18 + 1 = 19) ?_
    obtain ⟨hi19, h⟩ := k_i_of h
    refine a_i (j := ((((8 : Int32) * v2) + v1)).toNatClampNeg) (f := a21) C dX11_isOpen_19 (rfl : 19 + 1 = 20) rfl ea21 hi19 rfl ?_
    refine r_iconst (v := (1 : Int32)) C dX11_isOpen_20 (rfl : 20 + 1 = 21) rfl ?_
    refine r_icmp_eq (tgt := 39) C dX11_isOpen_21 (by decide) (rfl : 21 + 3 = 24) (fun c21 => ?_) (fun c21 => ?_)
    · have h := k_t c21 h
      refine r_iconst (v := (1 : Int32)) C dX11_isOpen_39 (rfl : 39 + 1 = 40) rfl ?_
      refine r_goto (tgt := 44) C dX11_isOpen_40 (by decide) ?_
      cases h
      exact r_zret C hr (Or.inr rfl) dX11_isOpen_44
    · have h := k_f c21 h
      refine r_aload_n C dX11_isOpen_24 (rfl : 24 + 1 = 25) rfl ?_
      refine r_getR (q := 21) C dX11_isOpen_25 (rfl : 25 + 3 = 28) fl_X11_77 rfl rfl ?_
      refine r_bipush (v := (8 : Int32)) C dX11_isOpen_28 (rfl : 28 + 2 = 30) rfl ?_
      refine r_iload_n C dX11_isOpen_30 (rfl : 30 + 1 = 31) rfl ?_
      refine r_imul C dX11_isOpen_31 (rfl : 31 + 1 = 32) ?_
      refine r_iload_n C dX11_isOpen_32 (rfl : 32 + 1 = 33) rfl ?_
      refine r_iadd C dX11_isOpen_33 (rfl : 33 + 1 = 34) ?_
      obtain ⟨hi34, h⟩ := k_i_of h
      refine a_i (j := ((((8 : Int32) * v2) + v1)).toNatClampNeg) (f := a21) C dX11_isOpen_34 (rfl : 34 + 1 = 35) rfl ea21 hi34 rfl ?_
      refine r_iconst (v := (2 : Int32)) C dX11_isOpen_35 (rfl : 35 + 1 = 36) rfl ?_
      refine r_icmp_ne (tgt := 43) C dX11_isOpen_36 (by decide) (rfl : 36 + 3 = 39) (fun c36 => ?_) (fun c36 => ?_)
      · have h := k_f c36 h
        refine r_iconst (v := (0 : Int32)) C dX11_isOpen_43 (rfl : 43 + 1 = 44) rfl ?_
        cases h
        exact r_zret C hr (Or.inl rfl) dX11_isOpen_44
      · have h := k_t c36 h
        refine r_iconst (v := (1 : Int32)) C dX11_isOpen_39 (rfl : 39 + 1 = 40) rfl ?_
        refine r_goto (tgt := 44) C dX11_isOpen_40 (by decide) ?_
        cases h
        exact r_zret C hr (Or.inr rfl) dX11_isOpen_44
set_option maxHeartbeats 400000 in
set_option maxRecDepth 100000 in
theorem c_X11_isOpen (l : Launch) (u : Nat) (h : k_H) (hsh : h.1 = shM) {c0_25 : Int32} (ec0_25 : h.2.1 0 25 = c0_25) {c0_26 : Int32} (ec0_26 : h.2.1 0 26 = c0_26) {a21 : (Nat → Int32)} (ea21 : h.2.1 21 = a21) {x0 : Int32} {x1 : Int32} {out : Int32} (hf : f_X11_isOpen u c0_25 c0_26 a21 x0 x1 = some out) : k_CT l yX11_isOpen cX11_isOpen 3 (some .boolean) 1 22 [.ref 0, .int x0, .int x1] h (some (.int out)) [] := by
  obtain ⟨sh, I, L, Rf⟩ := h
  try dsimp only
  obtain rfl : sh = shM := hsh
  refine k_ofW (by decide) (Nat.le_of_ble_eq_true rfl) ?_
  intro X ad hl hR0 hr C
  have hR : X.R.frames = 1 ∧ X.R.locals = 22 := by rw [hR0]; exact ⟨rfl, rfl⟩
  have h := hf
  unfold f_X11_isOpen at h
  refine k_start (us := []) k_ap_0 ?_
  show k_W X 3 0 0 _ ad (k_ap [] (shM, I, L, Rf)) 0 [some (.ref 0), some (.int x0), some (.int x1)] []
  refine k_mask [true, true, true] ?_
  exact sX11_isOpen_0 u C hr hR ec0_25 ec0_26 ea21 x0 x1 h
