/-! LullabyPitModel.note(II)I -/
theorem ds_X11_note : k_ds [(0, 0, 0), (1, 2, 0)] = true := by decide +kernel
set_option maxHeartbeats 400000 in
set_option maxRecDepth 100000 in
theorem sX11_note_39 (u : Nat) {X : k_X} {ad : Nat → Nat} (C : k_C X cX11_note RX11 3 ad) (hr : X.meth.sig.returnType = (some .int)) (hR : X.R.frames = 2 ∧ X.R.locals = 45) {I : Nat → Nat → Int32} {L : Nat → Nat → Int64} {Rf : Nat → Nat → Option Nat} {c0_30 : Int32} (ec0_30 : I 0 30 = c0_30) {a10 : (Nat → Int32)} (ea10 : I 10 = a10) {out : Int32 × Int32 × (Nat → Int32)} : ∀ (c0_0 : Int32) (a1 : (Nat → Int32)) (v1 : Int32) (v2 : Int32) (w0 : Int32), bX11_note_39 u c0_30 a10 c0_0 a1 v1 v2 w0 = some out → k_W X 3 0 0 (k_Q X ad (some (.int out.1)) (k_ap [(0, .inl (0, out.2.1)), (1, .inr (.inr (.inl out.2.2)))] (shM, I, L, Rf))) ad (k_ap [(0, .inl (0, c0_0)), (1, .inr (.inr (.inl a1)))] (shM, I, L, Rf)) 39 [some (.ref 0), some (.int v1), some (.int v2)] [.int w0, .ref 0] := by
  intro c0_0 a1 v1 v2 w0 h
  unfold bX11_note_39 at h
  refine r_iconst (v := (2 : Int32)) C dX11_note_39 (rfl : 39 + 1 = 40) rfl ?_
  refine r_iconst (v := (2 : Int32)) C dX11_note_40 (rfl : 40 + 1 = 41) rfl ?_
  obtain ⟨r41, q41, h⟩ := k_b_of h
  refine d_V (As := [.int w0, .int (2 : Int32), .int (2 : Int32)]) (st := []) (st' := [.int r41.1]) (h' := k_ap [(0, .inl (0, r41.2.1)), (1, .inr (.inr (.inl r41.2.2)))] (shM, I, L, Rf)) C hR ⟨Nat.zero_le _, Nat.zero_le _⟩ mv_X11_may lk_X11_252 dX11_note_41 (rfl : 41 + 3 = 44) rfl rfl rfl rfl (c_X11_may X.l u (k_ap [(0, .inl (0, c0_0)), (1, .inr (.inr (.inl a1)))] (shM, I, L, Rf)) rfl rfl rfl q41) rfl rfl rfl (k_jn (us' := [(0, .inl (0, r41.2.1)), (1, .inr (.inr (.inl r41.2.2)))]) ds_X11_note rfl rfl rfl) rfl ?_
  refine r_if_ne (tgt := 49) C dX11_note_44 (by decide) (rfl : 44 + 3 = 47) (fun c44 => ?_) (fun c44 => ?_)
  · have h := k_f c44 h
    refine r_aload_n C dX11_note_49 (rfl : 49 + 1 = 50) rfl ?_
    refine r_getR (q := 10) C dX11_note_50 (rfl : 50 + 3 = 53) fl_X11_44 rfl rfl ?_
    refine r_bipush (v := (10 : Int32)) C dX11_note_53 (rfl : 53 + 2 = 55) rfl ?_
    refine r_iload_n C dX11_note_55 (rfl : 55 + 1 = 56) rfl ?_
    refine r_imul C dX11_note_56 (rfl : 56 + 1 = 57) ?_
    refine r_iconst (v := (2 : Int32)) C dX11_note_57 (rfl : 57 + 1 = 58) rfl ?_
    refine r_iadd C dX11_note_58 (rfl : 58 + 1 = 59) ?_
    refine r_iload_n C dX11_note_59 (rfl : 59 + 1 = 60) rfl ?_
    refine r_iadd C dX11_note_60 (rfl : 60 + 1 = 61) ?_
    obtain ⟨hi61, h⟩ := k_i_of h
    refine a_i (j := (((((10 : Int32) * v1) + (2 : Int32)) + v2)).toNatClampNeg) (f := a10) C dX11_note_61 (rfl : 61 + 1 = 62) rfl ea10 hi61 rfl ?_
    cases h
    exact r_iret C hr dX11_note_62
  · have h := k_t c44 h
    refine r_iconst (v := (0 : Int32)) C dX11_note_47 (rfl : 47 + 1 = 48) rfl ?_
    cases h
    exact r_iret C hr dX11_note_48
set_option maxHeartbeats 400000 in
set_option maxRecDepth 100000 in
theorem sX11_note_38 (u : Nat) {X : k_X} {ad : Nat → Nat} (C : k_C X cX11_note RX11 3 ad) (hr : X.meth.sig.returnType = (some .int)) (hR : X.R.frames = 2 ∧ X.R.locals = 45) {I : Nat → Nat → Int32} {L : Nat → Nat → Int64} {Rf : Nat → Nat → Option Nat} {c0_30 : Int32} (ec0_30 : I 0 30 = c0_30) {a10 : (Nat → Int32)} (ea10 : I 10 = a10) {out : Int32 × Int32 × (Nat → Int32)} : ∀ (c0_0 : Int32) (a1 : (Nat → Int32)) (v1 : Int32) (v2 : Int32), bX11_note_38 u c0_30 a10 c0_0 a1 v1 v2 = some out → k_W X 3 0 0 (k_Q X ad (some (.int out.1)) (k_ap [(0, .inl (0, out.2.1)), (1, .inr (.inr (.inl out.2.2)))] (shM, I, L, Rf))) ad (k_ap [(0, .inl (0, c0_0)), (1, .inr (.inr (.inl a1)))] (shM, I, L, Rf)) 38 [some (.ref 0), some (.int v1), some (.int v2)] [.ref 0] := by
  intro c0_0 a1 v1 v2 h
  unfold bX11_note_38 at h
  refine r_iconst (v := (0 : Int32)) C dX11_note_38 (rfl : 38 + 1 = 39) rfl ?_
  refine k_mask [true, true, true] ?_
  exact sX11_note_39 u C hr hR ec0_30 ea10 c0_0 a1 v1 v2 (0 : Int32) h
set_option maxHeartbeats 400000 in
set_option maxRecDepth 100000 in
theorem sX11_note_0 (u : Nat) {X : k_X} {ad : Nat → Nat} (C : k_C X cX11_note RX11 3 ad) (hr : X.meth.sig.returnType = (some .int)) (hR : X.R.frames = 2 ∧ X.R.locals = 45) {I : Nat → Nat → Int32} {L : Nat → Nat → Int64} {Rf : Nat → Nat → Option Nat} {c0_30 : Int32} (ec0_30 : I 0 30 = c0_30) {a10 : (Nat → Int32)} (ea10 : I 10 = a10) {out : Int32 × Int32 × (Nat → Int32)} : ∀ (c0_0 : Int32) (a1 : (Nat → Int32)) (v1 : Int32) (v2 : Int32), bX11_note_0 u c0_30 a10 c0_0 a1 v1 v2 = some out → k_W X 3 0 0 (k_Q X ad (some (.int out.1)) (k_ap [(0, .inl (0, out.2.1)), (1, .inr (.inr (.inl out.2.2)))] (shM, I, L, Rf))) ad (k_ap [(0, .inl (0, c0_0)), (1, .inr (.inr (.inl a1)))] (shM, I, L, Rf)) 0 [some (.ref 0), some (.int v1), some (.int v2)] [] := by
  intro c0_0 a1 v1 v2 h
  unfold bX11_note_0 at h
  refine r_aload_n C dX11_note_0 (rfl : 0 + 1 = 1) rfl ?_
  refine r_iconst (v := (0 : Int32)) C dX11_note_1 (rfl : 1 + 1 = 2) rfl ?_
  refine p_I (us' := [(0, .inl (0, (0 : Int32))), (1, .inr (.inr (.inl a1)))]) C dX11_note_2 (rfl : 2 + 3 = 5) fp_X11_3 rfl rfl ds_X11_note rfl rfl rfl ?_
  refine r_aload_n C dX11_note_5 (rfl : 5 + 1 = 6) rfl ?_
  refine r_iload_n C dX11_note_6 (rfl : 6 + 1 = 7) rfl ?_
  refine r_iconst (v := (1 : Int32)) C dX11_note_7 (rfl : 7 + 1 = 8) rfl ?_
  obtain ⟨r8, q8, h⟩ := k_b_of h
  refine d_V (As := [.int v1, .int (1 : Int32)]) (st := []) (st' := [.int r8.1]) (h' := k_ap [(0, .inl (0, r8.2.1)), (1, .inr (.inr (.inl r8.2.2)))] (shM, I, L, Rf)) C hR ⟨Nat.zero_le _, Nat.zero_le _⟩ mv_X11_isOrder lk_X11_418 dX11_note_8 (rfl : 8 + 3 = 11) rfl rfl rfl rfl (c_X11_isOrder X.l u (k_ap [(0, .inl (0, (0 : Int32))), (1, .inr (.inr (.inl a1)))] (shM, I, L, Rf)) rfl rfl ec0_30 rfl q8) rfl rfl rfl (k_jn (us' := [(0, .inl (0, r8.2.1)), (1, .inr (.inr (.inl r8.2.2)))]) ds_X11_note rfl rfl rfl) rfl ?_
  refine r_if_eq (tgt := 47) C dX11_note_11 (by decide) (rfl : 11 + 3 = 14) (fun c11 => ?_) (fun c11 => ?_)
  · have h := k_t c11 h
    refine r_iconst (v := (0 : Int32)) C dX11_note_47 (rfl : 47 + 1 = 48) rfl ?_
    cases h
    exact r_iret C hr dX11_note_48
  · have h := k_f c11 h
    refine r_aload_n C dX11_note_14 (rfl : 14 + 1 = 15) rfl ?_
    refine r_iload_n C dX11_note_15 (rfl : 15 + 1 = 16) rfl ?_
    refine r_if_lt (tgt := 38) C dX11_note_16 (by decide) (rfl : 16 + 3 = 19) (fun c16 => ?_) (fun c16 => ?_)
    · have h := k_t c16 h
      refine k_mask [true, true, true] ?_
      exact sX11_note_38 u C hr hR ec0_30 ea10 r8.2.1 r8.2.2 v1 v2 h
    · have h := k_f c16 h
      refine r_iload_n C dX11_note_19 (rfl : 19 + 1 = 20) rfl ?_
      refine r_aload_n C dX11_note_20 (rfl : 20 + 1 = 21) rfl ?_
      refine r_getR (q := 10) C dX11_note_21 (rfl : 21 + 3 = 24) fl_X11_44 rfl rfl ?_
      refine r_bipush (v := (10 : Int32)) C dX11_note_24 (rfl : 24 + 2 = 26) rfl ?_
      refine r_iload_n C dX11_note_26 (rfl : 26 + 1 = 27) rfl ?_
      refine r_imul C dX11_note_27 (rfl : 27 + 1 = 28) ?_
      refine r_iconst (v := (1 : Int32)) C dX11_note_28 (rfl : 28 + 1 = 29) rfl ?_
      refine r_iadd C dX11_note_29 (rfl : 29 + 1 = 30) ?_
      obtain ⟨hi30, h⟩ := k_i_of h
      refine a_i (j := ((((10 : Int32) * v1) + (1 : Int32))).toNatClampNeg) (f := a10) C dX11_note_30 (rfl : 30 + 1 = 31) rfl ea10 hi30 rfl ?_
      refine r_icmp_ge (tgt := 38) C dX11_note_31 (by decide) (rfl : 31 + 3 = 34) (fun c31 => ?_) (fun c31 => ?_)
      · have h := k_t c31 h
        refine k_mask [true, true, true] ?_
        exact sX11_note_38 u C hr hR ec0_30 ea10 r8.2.1 r8.2.2 v1 v2 h
      · have h := k_f c31 h
        refine r_iconst (v := (1 : Int32)) C dX11_note_34 (rfl : 34 + 1 = 35) rfl ?_
        refine r_goto (tgt := 39) C dX11_note_35 (by decide) ?_
        refine k_mask [true, true, true] ?_
        exact sX11_note_39 u C hr hR ec0_30 ea10 r8.2.1 r8.2.2 v1 v2 (1 : Int32) h
set_option maxHeartbeats 400000 in
set_option maxRecDepth 100000 in
theorem c_X11_note (l : Launch) (u : Nat) (h : k_H) (hsh : h.1 = shM) {c0_0 : Int32} (ec0_0 : h.2.1 0 0 = c0_0) {c0_30 : Int32} (ec0_30 : h.2.1 0 30 = c0_30) {a1 : (Nat → Int32)} (ea1 : h.2.1 1 = a1) {a10 : (Nat → Int32)} (ea10 : h.2.1 10 = a10) {x0 : Int32} {x1 : Int32} {out : Int32 × Int32 × (Nat → Int32)} (hf : f_X11_note u c0_0 c0_30 a1 a10 x0 x1 = some out) : k_CT l yX11_note cX11_note 3 (some .int) 2 45 [.ref 0, .int x0, .int x1] h (some (.int out.1)) [(0, .inl (0, out.2.1)), (1, .inr (.inr (.inl out.2.2)))] := by
  obtain ⟨sh, I, L, Rf⟩ := h
  try dsimp only
  obtain rfl : sh = shM := hsh
  refine k_ofW (by decide) (Nat.le_of_ble_eq_true rfl) ?_
  intro X ad hl hR0 hr C
  have hR : X.R.frames = 2 ∧ X.R.locals = 45 := by rw [hR0]; exact ⟨rfl, rfl⟩
  have h := hf
  unfold f_X11_note at h
  refine k_start (us := [(0, .inl (0, c0_0)), (1, .inr (.inr (.inl a1)))]) (k_ao_I ec0_0 (k_ao_A ea1 k_ap_0)) ?_
  show k_W X 3 0 0 _ ad (k_ap [(0, .inl (0, c0_0)), (1, .inr (.inr (.inl a1)))] (shM, I, L, Rf)) 0 [some (.ref 0), some (.int x0), some (.int x1)] []
  refine k_mask [true, true, true] ?_
  exact sX11_note_0 u C hr hR ec0_30 ea10 c0_0 a1 x0 x1 h
/-! LullabyPitModel.lacks(I)I -/
theorem ds_X11_lacks : k_ds [(0, 0, 0), (1, 2, 0), (21, 2, 0), (24, 2, 0)] = true := by decide +kernel
set_option maxHeartbeats 400000 in
set_option maxRecDepth 100000 in
theorem sX11_lacks_0 (u : Nat) {X : k_X} {ad : Nat → Nat} (C : k_C X cX11_lacks RX11 2 ad) (hr : X.meth.sig.returnType = (some .int)) (hR : X.R.frames = 2 ∧ X.R.locals = 45) {I : Nat → Nat → Int32} {L : Nat → Nat → Int64} {Rf : Nat → Nat → Option Nat} {c0_30 : Int32} (ec0_30 : I 0 30 = c0_30) {a10 : (Nat → Int32)} (ea10 : I 10 = a10) {a20 : (Nat → Int32)} (ea20 : I 20 = a20) {out : Int32 × Int32 × (Nat → Int32) × (Nat → Int32) × (Nat → Int32)} : ∀ (c0_0 : Int32) (a1 : (Nat → Int32)) (a21 : (Nat → Int32)) (a24 : (Nat → Int32)) (v1 : Int32), bX11_lacks_0 u c0_30 a10 a20 c0_0 a1 a21 a24 v1 = some out → k_W X 2 0 0 (k_Q X ad (some (.int out.1)) (k_ap [(0, .inl (0, out.2.1)), (1, .inr (.inr (.inl out.2.2.1))), (21, .inr (.inr (.inl out.2.2.2.1))), (24, .inr (.inr (.inl out.2.2.2.2)))] (shM, I, L, Rf))) ad (k_ap [(0, .inl (0, c0_0)), (1, .inr (.inr (.inl a1))), (21, .inr (.inr (.inl a21))), (24, .inr (.inr (.inl a24)))] (shM, I, L, Rf)) 0 [some (.ref 0), some (.int v1)] [] := by
  intro c0_0 a1 a21 a24 v1 h
  unfold bX11_lacks_0 at h
  refine r_aload_n C dX11_lacks_0 (rfl : 0 + 1 = 1) rfl ?_
  refine r_iconst (v := (0 : Int32)) C dX11_lacks_1 (rfl : 1 + 1 = 2) rfl ?_
  refine p_I (us' := [(0, .inl (0, (0 : Int32))), (1, .inr (.inr (.inl a1))), (21, .inr (.inr (.inl a21))), (24, .inr (.inr (.inl a24)))]) C dX11_lacks_2 (rfl : 2 + 3 = 5) fp_X11_3 rfl rfl ds_X11_lacks rfl rfl rfl ?_
  refine r_aload_n C dX11_lacks_5 (rfl : 5 + 1 = 6) rfl ?_
  refine r_iload_n C dX11_lacks_6 (rfl : 6 + 1 = 7) rfl ?_
  refine r_iconst (v := (1 : Int32)) C dX11_lacks_7 (rfl : 7 + 1 = 8) rfl ?_
  obtain ⟨r8, q8, h⟩ := k_b_of h
  refine d_V (As := [.int v1, .int (1 : Int32)]) (st := []) (st' := [.int r8.1]) (h' := k_ap [(0, .inl (0, r8.2.1)), (1, .inr (.inr (.inl r8.2.2))), (21, .inr (.inr (.inl a21))), (24, .inr (.inr (.inl a24)))] (shM, I, L, Rf)) C hR ⟨Nat.zero_le _, Nat.zero_le _⟩ mv_X11_isOrder lk_X11_418 dX11_lacks_8 (rfl : 8 + 3 = 11) rfl rfl rfl rfl (c_X11_isOrder X.l u (k_ap [(0, .inl (0, (0 : Int32))), (1, .inr (.inr (.inl a1))), (21, .inr (.inr (.inl a21))), (24, .inr (.inr (.inl a24)))] (shM, I, L, Rf)) rfl rfl ec0_30 rfl q8) rfl rfl rfl (k_jn (us' := [(0, .inl (0, r8.2.1)), (1, .inr (.inr (.inl r8.2.2))), (21, .inr (.inr (.inl a21))), (24, .inr (.inr (.inl a24)))]) ds_X11_lacks rfl rfl rfl) rfl ?_
  refine r_if_ne (tgt := 16) C dX11_lacks_11 (by decide) (rfl : 11 + 3 = 14) (fun c11 => ?_) (fun c11 => ?_)
  · have h := k_f c11 h
    refine r_aload_n C dX11_lacks_16 (rfl : 16 + 1 = 17) rfl ?_
    obtain ⟨r17, q17, h⟩ := k_b_of h
    refine d_V (As := []) (st := []) (st' := []) (h' := k_ap [(0, .inl (0, r8.2.1)), (1, .inr (.inr (.inl r8.2.2))), (21, .inr (.inr (.inl r17))), (24, .inr (.inr (.inl a24)))] (shM, I, L, Rf)) C hR ⟨Nat.zero_le _, Nat.zero_le _⟩ mv_X11_take lk_X11_345 dX11_lacks_17 (rfl : 17 + 3 = 20) rfl rfl rfl rfl (c_X11_take X.l u (k_ap [(0, .inl (0, r8.2.1)), (1, .inr (.inr (.inl r8.2.2))), (21, .inr (.inr (.inl a21))), (24, .inr (.inr (.inl a24)))] (shM, I, L, Rf)) rfl ea20 rfl q17) rfl rfl rfl (k_jn (us' := [(0, .inl (0, r8.2.1)), (1, .inr (.inr (.inl r8.2.2))), (21, .inr (.inr (.inl r17))), (24, .inr (.inr (.inl a24)))]) ds_X11_lacks rfl rfl rfl) rfl ?_
    refine r_aload_n C dX11_lacks_20 (rfl : 20 + 1 = 21) rfl ?_
    obtain ⟨r21, q21, h⟩ := k_b_of h
    refine d_V (As := []) (st := []) (st' := []) (h' := k_ap [(0, .inl (0, r8.2.1)), (1, .inr (.inr (.inl r8.2.2))), (21, .inr (.inr (.inl r17))), (24, .inr (.inr (.inl r21)))] (shM, I, L, Rf)) C hR ⟨Nat.zero_le _, Nat.zero_le _⟩ mv_X11_wantsNothing lk_X11_394 dX11_lacks_21 (rfl : 21 + 3 = 24) rfl rfl rfl rfl (c_X11_wantsNothing X.l u (k_ap [(0, .inl (0, r8.2.1)), (1, .inr (.inr (.inl r8.2.2))), (21, .inr (.inr (.inl r17))), (24, .inr (.inr (.inl a24)))] (shM, I, L, Rf)) rfl rfl q21) rfl rfl rfl (k_jn (us' := [(0, .inl (0, r8.2.1)), (1, .inr (.inr (.inl r8.2.2))), (21, .inr (.inr (.inl r17))), (24, .inr (.inr (.inl r21)))]) ds_X11_lacks rfl rfl rfl) rfl ?_
    refine r_aload_n C dX11_lacks_24 (rfl : 24 + 1 = 25) rfl ?_
    refine r_iload_n C dX11_lacks_25 (rfl : 25 + 1 = 26) rfl ?_
    obtain ⟨r26, q26, h⟩ := k_b_of h
    refine d_V (As := [.int v1]) (st := []) (st' := []) (h' := k_ap [(0, .inl (0, r8.2.1)), (1, .inr (.inr (.inl r8.2.2))), (21, .inr (.inr (.inl r17))), (24, .inr (.inr (.inl r26)))] (shM, I, L, Rf)) C hR ⟨Nat.zero_le _, Nat.zero_le _⟩ mv_X11_adds lk_X11_397 dX11_lacks_26 (rfl : 26 + 3 = 29) rfl rfl rfl rfl (c_X11_adds X.l u (k_ap [(0, .inl (0, r8.2.1)), (1, .inr (.inr (.inl r8.2.2))), (21, .inr (.inr (.inl r17))), (24, .inr (.inr (.inl r21)))] (shM, I, L, Rf)) rfl ea10 rfl q26) rfl rfl rfl (k_jn (us' := [(0, .inl (0, r8.2.1)), (1, .inr (.inr (.inl r8.2.2))), (21, .inr (.inr (.inl r17))), (24, .inr (.inr (.inl r26)))]) ds_X11_lacks rfl rfl rfl) rfl ?_
    refine r_aload_n C dX11_lacks_29 (rfl : 29 + 1 = 30) rfl ?_
    obtain ⟨r30, q30, h⟩ := k_b_of h
    refine d_V (As := []) (st := []) (st' := [.int r30]) (h' := k_ap [(0, .inl (0, r8.2.1)), (1, .inr (.inr (.inl r8.2.2))), (21, .inr (.inr (.inl r17))), (24, .inr (.inr (.inl r26)))] (shM, I, L, Rf)) C hR ⟨Nat.zero_le _, Nat.zero_le _⟩ mv_X11_lackNow lk_X11_400 dX11_lacks_30 (rfl : 30 + 3 = 33) rfl rfl rfl rfl (c_X11_lackNow X.l u (k_ap [(0, .inl (0, r8.2.1)), (1, .inr (.inr (.inl r8.2.2))), (21, .inr (.inr (.inl r17))), (24, .inr (.inr (.inl r26)))] (shM, I, L, Rf)) rfl rfl rfl q30) rfl rfl rfl rfl rfl ?_
    cases h
    exact r_iret C hr dX11_lacks_33
  · have h := k_t c11 h
    refine r_iconst (v := (0 : Int32)) C dX11_lacks_14 (rfl : 14 + 1 = 15) rfl ?_
    cases h
    exact r_iret C hr dX11_lacks_15
set_option maxHeartbeats 400000 in
set_option maxRecDepth 100000 in
theorem c_X11_lacks (l : Launch) (u : Nat) (h : k_H) (hsh : h.1 = shM) {c0_0 : Int32} (ec0_0 : h.2.1 0 0 = c0_0) {c0_30 : Int32} (ec0_30 : h.2.1 0 30 = c0_30) {a1 : (Nat → Int32)} (ea1 : h.2.1 1 = a1) {a10 : (Nat → Int32)} (ea10 : h.2.1 10 = a10) {a20 : (Nat → Int32)} (ea20 : h.2.1 20 = a20) {a21 : (Nat → Int32)} (ea21 : h.2.1 21 = a21) {a24 : (Nat → Int32)} (ea24 : h.2.1 24 = a24) {x0 : Int32} {out : Int32 × Int32 × (Nat → Int32) × (Nat → Int32) × (Nat → Int32)} (hf : f_X11_lacks u c0_0 c0_30 a1 a10 a20 a21 a24 x0 = some out) : k_CT l yX11_lacks cX11_lacks 2 (some .int) 2 45 [.ref 0, .int x0] h (some (.int out.1)) [(0, .inl (0, out.2.1)), (1, .inr (.inr (.inl out.2.2.1))), (21, .inr (.inr (.inl out.2.2.2.1))), (24, .inr (.inr (.inl out.2.2.2.2)))] := by
  obtain ⟨sh, I, L, Rf⟩ := h
  try dsimp only
  obtain rfl : sh = shM := hsh
  refine k_ofW (by decide) (Nat.le_of_ble_eq_true rfl) ?_
  intro X ad hl hR0 hr C
  have hR : X.R.frames = 2 ∧ X.R.locals = 45 := by rw [hR0]; exact ⟨rfl, rfl⟩
  have h := hf
  unfold f_X11_lacks at h
  refine k_start (us := [(0, .inl (0, c0_0)), (1, .inr (.inr (.inl a1))), (21, .inr (.inr (.inl a21))), (24, .inr (.inr (.inl a24)))]) (k_ao_I ec0_0 (k_ao_A ea1 (k_ao_A ea21 (k_ao_A ea24 k_ap_0)))) ?_
  show k_W X 2 0 0 _ ad (k_ap [(0, .inl (0, c0_0)), (1, .inr (.inr (.inl a1))), (21, .inr (.inr (.inl a21))), (24, .inr (.inr (.inl a24)))] (shM, I, L, Rf)) 0 [some (.ref 0), some (.int x0)] []
  refine k_mask [true, true] ?_
  exact sX11_lacks_0 u C hr hR ec0_30 ea10 ea20 c0_0 a1 a21 a24 x0 h
/-! LullabyPitModel.can(II)I -/
theorem ds_X11_can : k_ds [(0, 0, 0), (1, 2, 0), (21, 2, 0)] = true := by decide +kernel
set_option maxHeartbeats 400000 in
set_option maxRecDepth 100000 in
theorem sX11_can_0 (u : Nat) {X : k_X} {ad : Nat → Nat} (C : k_C X cX11_can RX11 4 ad) (hr : X.meth.sig.returnType = (some .int)) (hR : X.R.frames = 4 ∧ X.R.locals = 88) {I : Nat → Nat → Int32} {L : Nat → Nat → Int64} {Rf : Nat → Nat → Option Nat} {c0_25 : Int32} (ec0_25 : I 0 25 = c0_25) {c0_26 : Int32} (ec0_26 : I 0 26 = c0_26) {c0_27 : Int32} (ec0_27 : I 0 27 = c0_27) {c0_28 : Int32} (ec0_28 : I 0 28 = c0_28) {a20 : (Nat → Int32)} (ea20 : I 20 = a20) {out : Int32 × Int32 × (Nat → Int32) × (Nat → Int32)} : ∀ (c0_0 : Int32) (a1 : (Nat → Int32)) (a21 : (Nat → Int32)) (v1 : Int32) (v2 : Int32), bX11_can_0 u c0_25 c0_26 c0_27 c0_28 a20 c0_0 a1 a21 v1 v2 = some out → k_W X 4 0 0 (k_Q X ad (some (.int out.1)) (k_ap [(0, .inl (0, out.2.1)), (1, .inr (.inr (.inl out.2.2.1))), (21, .inr (.inr (.inl out.2.2.2)))] (shM, I, L, Rf))) ad (k_ap [(0, .inl (0, c0_0)), (1, .inr (.inr (.inl a1))), (21, .inr (.inr (.inl a21)))] (shM, I, L, Rf)) 0 [some (.ref 0), some (.int v1), some (.int v2), none] [] := by
  intro c0_0 a1 a21 v1 v2 h
  unfold bX11_can_0 at h
  refine r_aload_n C dX11_can_0 (rfl : 0 + 1 = 1) rfl ?_
  refine r_iconst (v := (0 : Int32)) C dX11_can_1 (rfl : 1 + 1 = 2) rfl ?_
  refine p_I (us' := [(0, .inl (0, (0 : Int32))), (1, .inr (.inr (.inl a1))), (21, .inr (.inr (.inl a21)))]) C dX11_can_2 (rfl : 2 + 3 = 5) fp_X11_3 rfl rfl ds_X11_can rfl rfl rfl ?_
  refine r_aload_n C dX11_can_5 (rfl : 5 + 1 = 6) rfl ?_
  refine r_iload_n C dX11_can_6 (rfl : 6 + 1 = 7) rfl ?_
  refine r_iload_n C dX11_can_7 (rfl : 7 + 1 = 8) rfl ?_
  refine r_iconst (v := (1 : Int32)) C dX11_can_8 (rfl : 8 + 1 = 9) rfl ?_
  obtain ⟨r9, q9, h⟩ := k_b_of h
  refine d_V (As := [.int v1, .int v2, .int (1 : Int32)]) (st := []) (st' := [.int r9.1]) (h' := k_ap [(0, .inl (0, r9.2.1)), (1, .inr (.inr (.inl r9.2.2))), (21, .inr (.inr (.inl a21)))] (shM, I, L, Rf)) C hR ⟨Nat.zero_le _, Nat.zero_le _⟩ mv_X11_isCell lk_X11_415 dX11_can_9 (rfl : 9 + 3 = 12) rfl rfl rfl rfl (c_X11_isCell X.l u (k_ap [(0, .inl (0, (0 : Int32))), (1, .inr (.inr (.inl a1))), (21, .inr (.inr (.inl a21)))] (shM, I, L, Rf)) rfl rfl ec0_25 ec0_26 rfl q9) rfl rfl rfl (k_jn (us' := [(0, .inl (0, r9.2.1)), (1, .inr (.inr (.inl r9.2.2))), (21, .inr (.inr (.inl a21)))]) ds_X11_can rfl rfl rfl) rfl ?_
  refine r_if_ne (tgt := 17) C dX11_can_12 (by decide) (rfl : 12 + 3 = 15) (fun c12 => ?_) (fun c12 => ?_)
  · have h := k_f c12 h
    refine r_aload_n C dX11_can_17 (rfl : 17 + 1 = 18) rfl ?_
    obtain ⟨r18, q18, h⟩ := k_b_of h
    refine d_V (As := []) (st := []) (st' := []) (h' := k_ap [(0, .inl (0, r9.2.1)), (1, .inr (.inr (.inl r9.2.2))), (21, .inr (.inr (.inl r18)))] (shM, I, L, Rf)) C hR ⟨Nat.zero_le _, Nat.zero_le _⟩ mv_X11_take lk_X11_345 dX11_can_18 (rfl : 18 + 3 = 21) rfl rfl rfl rfl (c_X11_take X.l u (k_ap [(0, .inl (0, r9.2.1)), (1, .inr (.inr (.inl r9.2.2))), (21, .inr (.inr (.inl a21)))] (shM, I, L, Rf)) rfl ea20 rfl q18) rfl rfl rfl (k_jn (us' := [(0, .inl (0, r9.2.1)), (1, .inr (.inr (.inl r9.2.2))), (21, .inr (.inr (.inl r18)))]) ds_X11_can rfl rfl rfl) rfl ?_
    refine r_aload_n C dX11_can_21 (rfl : 21 + 1 = 22) rfl ?_
    refine r_bipush (v := (8 : Int32)) C dX11_can_22 (rfl : 22 + 2 = 24) rfl ?_
    refine r_iload_n C dX11_can_24 (rfl : 24 + 1 = 25) rfl ?_
    refine r_imul C dX11_can_25 (rfl : 25 + 1 = 26) ?_
    refine r_iload_n C dX11_can_26 (rfl : 26 + 1 = 27) rfl ?_
    refine r_iadd C dX11_can_27 (rfl : 27 + 1 = 28) ?_
    obtain ⟨r28, q28, h⟩ := k_b_of h
    refine d_V (As := [.int (((8 : Int32) * v2) + v1)]) (st := []) (st' := [.int r28]) (h' := k_ap [(0, .inl (0, r9.2.1)), (1, .inr (.inr (.inl r9.2.2))), (21, .inr (.inr (.inl r18)))] (shM, I, L, Rf)) C hR ⟨Nat.zero_le _, Nat.zero_le _⟩ mv_X11_whyNot lk_X11_409 dX11_can_28 (rfl : 28 + 3 = 31) rfl rfl rfl rfl (c_X11_whyNot X.l u (k_ap [(0, .inl (0, r9.2.1)), (1, .inr (.inr (.inl r9.2.2))), (21, .inr (.inr (.inl r18)))] (shM, I, L, Rf)) rfl ec0_25 ec0_26 ec0_27 rfl q28) rfl rfl rfl rfl rfl ?_
    refine r_istore_n C dX11_can_31 (rfl : 31 + 1 = 32) (by decide) (Nat.le_of_ble_eq_true rfl) ?_
    show k_W _ _ _ _ _ _ _ _ [some (.ref 0), some (.int v1), some (.int v2), some (.int r28)] _
    refine r_iload_n C dX11_can_32 (rfl : 32 + 1 = 33) rfl ?_
    refine r_if_ne (tgt := 54) C dX11_can_33 (by decide) (rfl : 33 + 3 = 36) (fun c33 => ?_) (fun c33 => ?_)
    · have h := k_f c33 h
      refine r_iload_n C dX11_can_54 (rfl : 54 + 1 = 55) rfl ?_
      cases h
      exact r_iret C hr dX11_can_55
    · have h := k_t c33 h
      refine r_aload_n C dX11_can_36 (rfl : 36 + 1 = 37) rfl ?_
      refine r_getR (q := 21) C dX11_can_37 (rfl : 37 + 3 = 40) fl_X11_77 rfl rfl ?_
      refine r_bipush (v := (70 : Int32)) C dX11_can_40 (rfl : 40 + 2 = 42) rfl ?_
      refine a_i (j := 70) (f := r18) C dX11_can_42 (rfl : 42 + 1 = 43) rfl rfl (show ¬ ((70 : Int32) < 0 ∨ 77 ≤ ((70 : Int32)).toNatClampNeg) by decide) rfl ?_
      refine r_aload_n C dX11_can_43 (rfl : 43 + 1 = 44) rfl ?_
      refine r_getI (v := c0_28) C dX11_can_44 (rfl : 44 + 3 = 47) fl_X11_193 rfl rfl ec0_28 ?_
      refine r_icmp_ne (tgt := 54) C dX11_can_47 (by decide) (rfl : 47 + 3 = 50) (fun c47 => ?_) (fun c47 => ?_)
      · have h := k_f c47 h
        refine r_iload_n C dX11_can_54 (rfl : 54 + 1 = 55) rfl ?_
        cases h
        exact r_iret C hr dX11_can_55
      · have h := k_t c47 h
        refine r_iconst (v := (4 : Int32)) C dX11_can_50 (rfl : 50 + 1 = 51) rfl ?_
        refine r_goto (tgt := 55) C dX11_can_51 (by decide) ?_
        cases h
        exact r_iret C hr dX11_can_55
  · have h := k_t c12 h
    refine r_iconst (v := (0 : Int32)) C dX11_can_15 (rfl : 15 + 1 = 16) rfl ?_
    cases h
    exact r_iret C hr dX11_can_16
set_option maxHeartbeats 400000 in
set_option maxRecDepth 100000 in
theorem c_X11_can (l : Launch) (u : Nat) (h : k_H) (hsh : h.1 = shM) {c0_0 : Int32} (ec0_0 : h.2.1 0 0 = c0_0) {c0_25 : Int32} (ec0_25 : h.2.1 0 25 = c0_25) {c0_26 : Int32} (ec0_26 : h.2.1 0 26 = c0_26) {c0_27 : Int32} (ec0_27 : h.2.1 0 27 = c0_27) {c0_28 : Int32} (ec0_28 : h.2.1 0 28 = c0_28) {a1 : (Nat → Int32)} (ea1 : h.2.1 1 = a1) {a20 : (Nat → Int32)} (ea20 : h.2.1 20 = a20) {a21 : (Nat → Int32)} (ea21 : h.2.1 21 = a21) {x0 : Int32} {x1 : Int32} {out : Int32 × Int32 × (Nat → Int32) × (Nat → Int32)} (hf : f_X11_can u c0_0 c0_25 c0_26 c0_27 c0_28 a1 a20 a21 x0 x1 = some out) : k_CT l yX11_can cX11_can 4 (some .int) 4 88 [.ref 0, .int x0, .int x1] h (some (.int out.1)) [(0, .inl (0, out.2.1)), (1, .inr (.inr (.inl out.2.2.1))), (21, .inr (.inr (.inl out.2.2.2)))] := by
  obtain ⟨sh, I, L, Rf⟩ := h
  try dsimp only
  obtain rfl : sh = shM := hsh
  refine k_ofW (by decide) (Nat.le_of_ble_eq_true rfl) ?_
  intro X ad hl hR0 hr C
  have hR : X.R.frames = 4 ∧ X.R.locals = 88 := by rw [hR0]; exact ⟨rfl, rfl⟩
  have h := hf
  unfold f_X11_can at h
  refine k_start (us := [(0, .inl (0, c0_0)), (1, .inr (.inr (.inl a1))), (21, .inr (.inr (.inl a21)))]) (k_ao_I ec0_0 (k_ao_A ea1 (k_ao_A ea21 k_ap_0))) ?_
  show k_W X 4 0 0 _ ad (k_ap [(0, .inl (0, c0_0)), (1, .inr (.inr (.inl a1))), (21, .inr (.inr (.inl a21)))] (shM, I, L, Rf)) 0 [some (.ref 0), some (.int x0), some (.int x1), none] []
  refine k_mask [true, true, true, false] ?_
  exact sX11_can_0 u C hr hR ec0_25 ec0_26 ec0_27 ec0_28 ea20 c0_0 a1 a21 x0 x1 h
/-! LullabyPitModel.falls(II)Z -/
theorem ds_X11_falls : k_ds [(0, 0, 0), (1, 2, 0), (16, 2, 0), (17, 2, 0), (21, 2, 0)] = true := by decide +kernel
set_option maxHeartbeats 400000 in
set_option maxRecDepth 100000 in
theorem sX11_falls_0 (u : Nat) {X : k_X} {ad : Nat → Nat} (C : k_C X cX11_falls RX11 3 ad) (hr : X.meth.sig.returnType = (some .boolean)) (hR : X.R.frames = 4 ∧ X.R.locals = 89) {I : Nat → Nat → Int32} {L : Nat → Nat → Int64} {Rf : Nat → Nat → Option Nat} {c0_25 : Int32} (ec0_25 : I 0 25 = c0_25) {c0_26 : Int32} (ec0_26 : I 0 26 = c0_26) {a7 : (Nat → Int32)} (ea7 : I 7 = a7) {a8 : (Nat → Int32)} (ea8 : I 8 = a8) {a13 : (Nat → Int32)} (ea13 : I 13 = a13) {a14 : (Nat → Int32)} (ea14 : I 14 = a14) {a15 : (Nat → Int32)} (ea15 : I 15 = a15) {a20 : (Nat → Int32)} (ea20 : I 20 = a20) {out : Int32 × Int32 × (Nat → Int32) × (Nat → Int32) × (Nat → Int32) × (Nat → Int32)} : ∀ (c0_0 : Int32) (a1 : (Nat → Int32)) (a16 : (Nat → Int32)) (a17 : (Nat → Int32)) (a21 : (Nat → Int32)) (v1 : Int32) (v2 : Int32), bX11_falls_0 u c0_25 c0_26 a7 a8 a13 a14 a15 a20 c0_0 a1 a16 a17 a21 v1 v2 = some out → k_W X 3 0 0 (k_Q X ad (some (.int out.1)) (k_ap [(0, .inl (0, out.2.1)), (1, .inr (.inr (.inl out.2.2.1))), (16, .inr (.inr (.inl out.2.2.2.1))), (17, .inr (.inr (.inl out.2.2.2.2.1))), (21, .inr (.inr (.inl out.2.2.2.2.2)))] (shM, I, L, Rf))) ad (k_ap [(0, .inl (0, c0_0)), (1, .inr (.inr (.inl a1))), (16, .inr (.inr (.inl a16))), (17, .inr (.inr (.inl a17))), (21, .inr (.inr (.inl a21)))] (shM, I, L, Rf)) 0 [some (.ref 0), some (.int v1), some (.int v2)] [] := by
  intro c0_0 a1 a16 a17 a21 v1 v2 h
  unfold bX11_falls_0 at h
  refine r_aload_n C dX11_falls_0 (rfl : 0 + 1 = 1) rfl ?_
  refine r_iconst (v := (0 : Int32)) C dX11_falls_1 (rfl : 1 + 1 = 2) rfl ?_
  refine p_I (us' := [(0, .inl (0, (0 : Int32))), (1, .inr (.inr (.inl a1))), (16, .inr (.inr (.inl a16))), (17, .inr (.inr (.inl a17))), (21, .inr (.inr (.inl a21)))]) C dX11_falls_2 (rfl : 2 + 3 = 5) fp_X11_3 rfl rfl ds_X11_falls rfl rfl rfl ?_
  refine r_aload_n C dX11_falls_5 (rfl : 5 + 1 = 6) rfl ?_
  refine r_iload_n C dX11_falls_6 (rfl : 6 + 1 = 7) rfl ?_
  refine r_iload_n C dX11_falls_7 (rfl : 7 + 1 = 8) rfl ?_
  refine r_iconst (v := (1 : Int32)) C dX11_falls_8 (rfl : 8 + 1 = 9) rfl ?_
  obtain ⟨r9, q9, h⟩ := k_b_of h
  refine d_V (As := [.int v1, .int v2, .int (1 : Int32)]) (st := []) (st' := [.int r9.1]) (h' := k_ap [(0, .inl (0, r9.2.1)), (1, .inr (.inr (.inl r9.2.2))), (16, .inr (.inr (.inl a16))), (17, .inr (.inr (.inl a17))), (21, .inr (.inr (.inl a21)))] (shM, I, L, Rf)) C hR ⟨Nat.zero_le _, Nat.zero_le _⟩ mv_X11_isCell lk_X11_415 dX11_falls_9 (rfl : 9 + 3 = 12) rfl rfl rfl rfl (c_X11_isCell X.l u (k_ap [(0, .inl (0, (0 : Int32))), (1, .inr (.inr (.inl a1))), (16, .inr (.inr (.inl a16))), (17, .inr (.inr (.inl a17))), (21, .inr (.inr (.inl a21)))] (shM, I, L, Rf)) rfl rfl ec0_25 ec0_26 rfl q9) rfl rfl rfl (k_jn (us' := [(0, .inl (0, r9.2.1)), (1, .inr (.inr (.inl r9.2.2))), (16, .inr (.inr (.inl a16))), (17, .inr (.inr (.inl a17))), (21, .inr (.inr (.inl a21)))]) ds_X11_falls rfl rfl rfl) rfl ?_
  refine r_if_ne (tgt := 17) C dX11_falls_12 (by decide) (rfl : 12 + 3 = 15) (fun c12 => ?_) (fun c12 => ?_)
  · have h := k_f c12 h
    refine r_aload_n C dX11_falls_17 (rfl : 17 + 1 = 18) rfl ?_
    obtain ⟨r18, q18, h⟩ := k_b_of h
    refine d_V (As := []) (st := []) (st' := []) (h' := k_ap [(0, .inl (0, r9.2.1)), (1, .inr (.inr (.inl r9.2.2))), (16, .inr (.inr (.inl a16))), (17, .inr (.inr (.inl a17))), (21, .inr (.inr (.inl r18)))] (shM, I, L, Rf)) C hR ⟨Nat.zero_le _, Nat.zero_le _⟩ mv_X11_take lk_X11_345 dX11_falls_18 (rfl : 18 + 3 = 21) rfl rfl rfl rfl (c_X11_take X.l u (k_ap [(0, .inl (0, r9.2.1)), (1, .inr (.inr (.inl r9.2.2))), (16, .inr (.inr (.inl a16))), (17, .inr (.inr (.inl a17))), (21, .inr (.inr (.inl a21)))] (shM, I, L, Rf)) rfl ea20 rfl q18) rfl rfl rfl (k_jn (us' := [(0, .inl (0, r9.2.1)), (1, .inr (.inr (.inl r9.2.2))), (16, .inr (.inr (.inl a16))), (17, .inr (.inr (.inl a17))), (21, .inr (.inr (.inl r18)))]) ds_X11_falls rfl rfl rfl) rfl ?_
    refine r_aload_n C dX11_falls_21 (rfl : 21 + 1 = 22) rfl ?_
    refine r_bipush (v := (8 : Int32)) C dX11_falls_22 (rfl : 22 + 2 = 24) rfl ?_
    refine r_iload_n C dX11_falls_24 (rfl : 24 + 1 = 25) rfl ?_
    refine r_imul C dX11_falls_25 (rfl : 25 + 1 = 26) ?_
    refine r_iload_n C dX11_falls_26 (rfl : 26 + 1 = 27) rfl ?_
    refine r_iadd C dX11_falls_27 (rfl : 27 + 1 = 28) ?_
    obtain ⟨r28, q28, h⟩ := k_b_of h
    refine d_V (As := [.int (((8 : Int32) * v2) + v1)]) (st := []) (st' := [.int r28.1]) (h' := k_ap [(0, .inl (0, r9.2.1)), (1, .inr (.inr (.inl r9.2.2))), (16, .inr (.inr (.inl r28.2.1))), (17, .inr (.inr (.inl r28.2.2))), (21, .inr (.inr (.inl r18)))] (shM, I, L, Rf)) C hR ⟨Nat.zero_le _, Nat.zero_le _⟩ mv_X11_isFalling lk_X11_382 dX11_falls_28 (rfl : 28 + 3 = 31) rfl rfl rfl rfl (c_X11_isFalling X.l u (k_ap [(0, .inl (0, r9.2.1)), (1, .inr (.inr (.inl r9.2.2))), (16, .inr (.inr (.inl a16))), (17, .inr (.inr (.inl a17))), (21, .inr (.inr (.inl r18)))] (shM, I, L, Rf)) rfl ec0_25 ec0_26 ea7 ea8 ea13 ea14 ea15 rfl rfl rfl q28) rfl rfl rfl (k_jn (us' := [(0, .inl (0, r9.2.1)), (1, .inr (.inr (.inl r9.2.2))), (16, .inr (.inr (.inl r28.2.1))), (17, .inr (.inr (.inl r28.2.2))), (21, .inr (.inr (.inl r18)))]) ds_X11_falls rfl rfl rfl) rfl ?_
    obtain ⟨hz, h⟩ := k_z_of h
    cases h
    exact r_zret C hr hz dX11_falls_31
  · have h := k_t c12 h
    refine r_iconst (v := (0 : Int32)) C dX11_falls_15 (rfl : 15 + 1 = 16) rfl ?_
    cases h
    exact r_zret C hr (Or.inl rfl) dX11_falls_16
set_option maxHeartbeats 400000 in
set_option maxRecDepth 100000 in
theorem c_X11_falls (l : Launch) (u : Nat) (h : k_H) (hsh : h.1 = shM) {c0_0 : Int32} (ec0_0 : h.2.1 0 0 = c0_0) {c0_25 : Int32} (ec0_25 : h.2.1 0 25 = c0_25) {c0_26 : Int32} (ec0_26 : h.2.1 0 26 = c0_26) {a1 : (Nat → Int32)} (ea1 : h.2.1 1 = a1) {a7 : (Nat → Int32)} (ea7 : h.2.1 7 = a7) {a8 : (Nat → Int32)} (ea8 : h.2.1 8 = a8) {a13 : (Nat → Int32)} (ea13 : h.2.1 13 = a13) {a14 : (Nat → Int32)} (ea14 : h.2.1 14 = a14) {a15 : (Nat → Int32)} (ea15 : h.2.1 15 = a15) {a16 : (Nat → Int32)} (ea16 : h.2.1 16 = a16) {a17 : (Nat → Int32)} (ea17 : h.2.1 17 = a17) {a20 : (Nat → Int32)} (ea20 : h.2.1 20 = a20) {a21 : (Nat → Int32)} (ea21 : h.2.1 21 = a21) {x0 : Int32} {x1 : Int32} {out : Int32 × Int32 × (Nat → Int32) × (Nat → Int32) × (Nat → Int32) × (Nat → Int32)} (hf : f_X11_falls u c0_0 c0_25 c0_26 a1 a7 a8 a13 a14 a15 a16 a17 a20 a21 x0 x1 = some out) : k_CT l yX11_falls cX11_falls 3 (some .boolean) 4 89 [.ref 0, .int x0, .int x1] h (some (.int out.1)) [(0, .inl (0, out.2.1)), (1, .inr (.inr (.inl out.2.2.1))), (16, .inr (.inr (.inl out.2.2.2.1))), (17, .inr (.inr (.inl out.2.2.2.2.1))), (21, .inr (.inr (.inl out.2.2.2.2.2)))] := by
  obtain ⟨sh, I, L, Rf⟩ := h
  try dsimp only
  obtain rfl : sh = shM := hsh
  refine k_ofW (by decide) (Nat.le_of_ble_eq_true rfl) ?_
  intro X ad hl hR0 hr C
  have hR : X.R.frames = 4 ∧ X.R.locals = 89 := by rw [hR0]; exact ⟨rfl, rfl⟩
  have h := hf
  unfold f_X11_falls at h
  refine k_start (us := [(0, .inl (0, c0_0)), (1, .inr (.inr (.inl a1))), (16, .inr (.inr (.inl a16))), (17, .inr (.inr (.inl a17))), (21, .inr (.inr (.inl a21)))]) (k_ao_I ec0_0 (k_ao_A ea1 (k_ao_A ea16 (k_ao_A ea17 (k_ao_A ea21 k_ap_0))))) ?_
  show k_W X 3 0 0 _ ad (k_ap [(0, .inl (0, c0_0)), (1, .inr (.inr (.inl a1))), (16, .inr (.inr (.inl a16))), (17, .inr (.inr (.inl a17))), (21, .inr (.inr (.inl a21)))] (shM, I, L, Rf)) 0 [some (.ref 0), some (.int x0), some (.int x1)] []
  refine k_mask [true, true, true] ?_
  exact sX11_falls_0 u C hr hR ec0_25 ec0_26 ea7 ea8 ea13 ea14 ea15 ea20 c0_0 a1 a16 a17 a21 x0 x1 h
/-! LullabyPitModel.risks(II)I -/
theorem ds_X11_risks : k_ds [(0, 0, 0), (1, 2, 0), (16, 2, 0), (17, 2, 0), (21, 2, 0), (23, 2, 0)] = true := by decide +kernel
set_option maxHeartbeats 400000 in
set_option maxRecDepth 100000 in
theorem sX11_risks_0 (u : Nat) {X : k_X} {ad : Nat → Nat} (C : k_C X cX11_risks RX11 4 ad) (hr : X.meth.sig.returnType = (some .int)) (hR : X.R.frames = 5 ∧ X.R.locals = 111) {I : Nat → Nat → Int32} {L : Nat → Nat → Int64} {Rf : Nat → Nat → Option Nat} {c0_25 : Int32} (ec0_25 : I 0 25 = c0_25) {c0_26 : Int32} (ec0_26 : I 0 26 = c0_26) {c0_27 : Int32} (ec0_27 : I 0 27 = c0_27) {a7 : (Nat → Int32)} (ea7 : I 7 = a7) {a8 : (Nat → Int32)} (ea8 : I 8 = a8) {a13 : (Nat → Int32)} (ea13 : I 13 = a13) {a14 : (Nat → Int32)} (ea14 : I 14 = a14) {a15 : (Nat → Int32)} (ea15 : I 15 = a15) {a20 : (Nat → Int32)} (ea20 : I 20 = a20) {out : Int32 × Int32 × (Nat → Int32) × (Nat → Int32) × (Nat → Int32) × (Nat → Int32) × (Nat → Int32)} : ∀ (c0_0 : Int32) (a1 : (Nat → Int32)) (a16 : (Nat → Int32)) (a17 : (Nat → Int32)) (a21 : (Nat → Int32)) (a23 : (Nat → Int32)) (v1 : Int32) (v2 : Int32), bX11_risks_0 u c0_25 c0_26 c0_27 a7 a8 a13 a14 a15 a20 c0_0 a1 a16 a17 a21 a23 v1 v2 = some out → k_W X 4 0 0 (k_Q X ad (some (.int out.1)) (k_ap [(0, .inl (0, out.2.1)), (1, .inr (.inr (.inl out.2.2.1))), (16, .inr (.inr (.inl out.2.2.2.1))), (17, .inr (.inr (.inl out.2.2.2.2.1))), (21, .inr (.inr (.inl out.2.2.2.2.2.1))), (23, .inr (.inr (.inl out.2.2.2.2.2.2)))] (shM, I, L, Rf))) ad (k_ap [(0, .inl (0, c0_0)), (1, .inr (.inr (.inl a1))), (16, .inr (.inr (.inl a16))), (17, .inr (.inr (.inl a17))), (21, .inr (.inr (.inl a21))), (23, .inr (.inr (.inl a23)))] (shM, I, L, Rf)) 0 [some (.ref 0), some (.int v1), some (.int v2), none] [] := by
  intro c0_0 a1 a16 a17 a21 a23 v1 v2 h
  unfold bX11_risks_0 at h
  refine r_aload_n C dX11_risks_0 (rfl : 0 + 1 = 1) rfl ?_
  refine r_iconst (v := (0 : Int32)) C dX11_risks_1 (rfl : 1 + 1 = 2) rfl ?_
  refine p_I (us' := [(0, .inl (0, (0 : Int32))), (1, .inr (.inr (.inl a1))), (16, .inr (.inr (.inl a16))), (17, .inr (.inr (.inl a17))), (21, .inr (.inr (.inl a21))), (23, .inr (.inr (.inl a23)))]) C dX11_risks_2 (rfl : 2 + 3 = 5) fp_X11_3 rfl rfl ds_X11_risks rfl rfl rfl ?_
  refine r_aload_n C dX11_risks_5 (rfl : 5 + 1 = 6) rfl ?_
  refine r_iload_n C dX11_risks_6 (rfl : 6 + 1 = 7) rfl ?_
  refine r_iload_n C dX11_risks_7 (rfl : 7 + 1 = 8) rfl ?_
  refine r_iconst (v := (1 : Int32)) C dX11_risks_8 (rfl : 8 + 1 = 9) rfl ?_
  obtain ⟨r9, q9, h⟩ := k_b_of h
  refine d_V (As := [.int v1, .int v2, .int (1 : Int32)]) (st := []) (st' := [.int r9.1]) (h' := k_ap [(0, .inl (0, r9.2.1)), (1, .inr (.inr (.inl r9.2.2))), (16, .inr (.inr (.inl a16))), (17, .inr (.inr (.inl a17))), (21, .inr (.inr (.inl a21))), (23, .inr (.inr (.inl a23)))] (shM, I, L, Rf)) C hR ⟨Nat.zero_le _, Nat.zero_le _⟩ mv_X11_isCell lk_X11_415 dX11_risks_9 (rfl : 9 + 3 = 12) rfl rfl rfl rfl (c_X11_isCell X.l u (k_ap [(0, .inl (0, (0 : Int32))), (1, .inr (.inr (.inl a1))), (16, .inr (.inr (.inl a16))), (17, .inr (.inr (.inl a17))), (21, .inr (.inr (.inl a21))), (23, .inr (.inr (.inl a23)))] (shM, I, L, Rf)) rfl rfl ec0_25 ec0_26 rfl q9) rfl rfl rfl (k_jn (us' := [(0, .inl (0, r9.2.1)), (1, .inr (.inr (.inl r9.2.2))), (16, .inr (.inr (.inl a16))), (17, .inr (.inr (.inl a17))), (21, .inr (.inr (.inl a21))), (23, .inr (.inr (.inl a23)))]) ds_X11_risks rfl rfl rfl) rfl ?_
  refine r_if_ne (tgt := 17) C dX11_risks_12 (by decide) (rfl : 12 + 3 = 15) (fun c12 => ?_) (fun c12 => ?_)
  · have h := k_f c12 h
    refine r_aload_n C dX11_risks_17 (rfl : 17 + 1 = 18) rfl ?_
    obtain ⟨r18, q18, h⟩ := k_b_of h
    refine d_V (As := []) (st := []) (st' := []) (h' := k_ap [(0, .inl (0, r9.2.1)), (1, .inr (.inr (.inl r9.2.2))), (16, .inr (.inr (.inl a16))), (17, .inr (.inr (.inl a17))), (21, .inr (.inr (.inl r18))), (23, .inr (.inr (.inl a23)))] (shM, I, L, Rf)) C hR ⟨Nat.zero_le _, Nat.zero_le _⟩ mv_X11_take lk_X11_345 dX11_risks_18 (rfl : 18 + 3 = 21) rfl rfl rfl rfl (c_X11_take X.l u (k_ap [(0, .inl (0, r9.2.1)), (1, .inr (.inr (.inl r9.2.2))), (16, .inr (.inr (.inl a16))), (17, .inr (.inr (.inl a17))), (21, .inr (.inr (.inl a21))), (23, .inr (.inr (.inl a23)))] (shM, I, L, Rf)) rfl ea20 rfl q18) rfl rfl rfl (k_jn (us' := [(0, .inl (0, r9.2.1)), (1, .inr (.inr (.inl r9.2.2))), (16, .inr (.inr (.inl a16))), (17, .inr (.inr (.inl a17))), (21, .inr (.inr (.inl r18))), (23, .inr (.inr (.inl a23)))]) ds_X11_risks rfl rfl rfl) rfl ?_
    refine r_bipush (v := (8 : Int32)) C dX11_risks_21 (rfl : 21 + 2 = 23) rfl ?_
    refine r_iload_n C dX11_risks_23 (rfl : 23 + 1 = 24) rfl ?_
    refine r_imul C dX11_risks_24 (rfl : 24 + 1 = 25) ?_
    refine r_iload_n C dX11_risks_25 (rfl : 25 + 1 = 26) rfl ?_
    refine r_iadd C dX11_risks_26 (rfl : 26 + 1 = 27) ?_
    refine r_istore_n C dX11_risks_27 (rfl : 27 + 1 = 28) (by decide) (Nat.le_of_ble_eq_true rfl) ?_
    show k_W _ _ _ _ _ _ _ _ [some (.ref 0), some (.int v1), some (.int v2), some (.int (((8 : Int32) * v2) + v1))] _
    refine r_aload_n C dX11_risks_28 (rfl : 28 + 1 = 29) rfl ?_
    refine r_iload_n C dX11_risks_29 (rfl : 29 + 1 = 30) rfl ?_
    refine r_iload_n C dX11_risks_30 (rfl : 30 + 1 = 31) rfl ?_
    obtain ⟨r31, q31, h⟩ := k_b_of h
    refine d_V (As := [.int v1, .int v2]) (st := []) (st' := [.int r31]) (h' := k_ap [(0, .inl (0, r9.2.1)), (1, .inr (.inr (.inl r9.2.2))), (16, .inr (.inr (.inl a16))), (17, .inr (.inr (.inl a17))), (21, .inr (.inr (.inl r18))), (23, .inr (.inr (.inl a23)))] (shM, I, L, Rf)) C hR ⟨Nat.zero_le _, Nat.zero_le _⟩ mv_X11_isOpen lk_X11_367 dX11_risks_31 (rfl : 31 + 3 = 34) rfl rfl rfl rfl (c_X11_isOpen X.l u (k_ap [(0, .inl (0, r9.2.1)), (1, .inr (.inr (.inl r9.2.2))), (16, .inr (.inr (.inl a16))), (17, .inr (.inr (.inl a17))), (21, .inr (.inr (.inl r18))), (23, .inr (.inr (.inl a23)))] (shM, I, L, Rf)) rfl ec0_25 ec0_26 rfl q31) rfl rfl rfl rfl rfl ?_
    refine r_if_ne (tgt := 45) C dX11_risks_34 (by decide) (rfl : 34 + 3 = 37) (fun c34 => ?_) (fun c34 => ?_)
    · have h := k_f c34 h
      refine r_iconst (v := (-1 : Int32)) C dX11_risks_45 (rfl : 45 + 1 = 46) rfl ?_
      cases h
      exact r_iret C hr dX11_risks_46
    · have h := k_t c34 h
      refine r_aload_n C dX11_risks_37 (rfl : 37 + 1 = 38) rfl ?_
      refine r_iload_n C dX11_risks_38 (rfl : 38 + 1 = 39) rfl ?_
      obtain ⟨r39, q39, h⟩ := k_b_of h
      refine d_V (As := [.int (((8 : Int32) * v2) + v1)]) (st := []) (st' := [.int r39]) (h' := k_ap [(0, .inl (0, r9.2.1)), (1, .inr (.inr (.inl r9.2.2))), (16, .inr (.inr (.inl a16))), (17, .inr (.inr (.inl a17))), (21, .inr (.inr (.inl r18))), (23, .inr (.inr (.inl a23)))] (shM, I, L, Rf)) C hR ⟨Nat.zero_le _, Nat.zero_le _⟩ mv_X11_isAtHand lk_X11_385 dX11_risks_39 (rfl : 39 + 3 = 42) rfl rfl rfl rfl (c_X11_isAtHand X.l u (k_ap [(0, .inl (0, r9.2.1)), (1, .inr (.inr (.inl r9.2.2))), (16, .inr (.inr (.inl a16))), (17, .inr (.inr (.inl a17))), (21, .inr (.inr (.inl r18))), (23, .inr (.inr (.inl a23)))] (shM, I, L, Rf)) rfl ec0_25 ec0_26 ec0_27 rfl q39) rfl rfl rfl rfl rfl ?_
      refine r_if_ne (tgt := 47) C dX11_risks_42 (by decide) (rfl : 42 + 3 = 45) (fun c42 => ?_) (fun c42 => ?_)
      · have h := k_f c42 h
        refine r_aload_n C dX11_risks_47 (rfl : 47 + 1 = 48) rfl ?_
        refine r_getR (q := 21) C dX11_risks_48 (rfl : 48 + 3 = 51) fl_X11_77 rfl rfl ?_
        refine r_iload_n C dX11_risks_51 (rfl : 51 + 1 = 52) rfl ?_
        refine r_iconst (v := (1 : Int32)) C dX11_risks_52 (rfl : 52 + 1 = 53) rfl ?_
        obtain ⟨hi53, h⟩ := k_i_of h
        refine s_i (j := ((((8 : Int32) * v2) + v1)).toNatClampNeg) (f := r18) (us' := [(0, .inl (0, r9.2.1)), (1, .inr (.inr (.inl r9.2.2))), (16, .inr (.inr (.inl a16))), (17, .inr (.inr (.inl a17))), (21, .inr (.inr (.inl (upd r18 (((((8 : Int32) * v2) + v1)).toNatClampNeg) (1 : Int32))))), (23, .inr (.inr (.inl a23)))]) C dX11_risks_53 (rfl : 53 + 1 = 54) rfl rfl hi53 rfl ds_X11_risks rfl rfl rfl ?_
        refine r_aload_n C dX11_risks_54 (rfl : 54 + 1 = 55) rfl ?_
        obtain ⟨r55, q55, h⟩ := k_b_of h
        refine d_V (As := []) (st := []) (st' := [.int r55.1]) (h' := k_ap [(0, .inl (0, r9.2.1)), (1, .inr (.inr (.inl r9.2.2))), (16, .inr (.inr (.inl r55.2.1))), (17, .inr (.inr (.inl r55.2.2.1))), (21, .inr (.inr (.inl (upd r18 (((((8 : Int32) * v2) + v1)).toNatClampNeg) (1 : Int32))))), (23, .inr (.inr (.inl r55.2.2.2)))] (shM, I, L, Rf)) C hR ⟨Nat.zero_le _, Nat.zero_le _⟩ mv_X11_fallNow lk_X11_391 dX11_risks_55 (rfl : 55 + 3 = 58) rfl rfl rfl rfl (c_X11_fallNow X.l u (k_ap [(0, .inl (0, r9.2.1)), (1, .inr (.inr (.inl r9.2.2))), (16, .inr (.inr (.inl a16))), (17, .inr (.inr (.inl a17))), (21, .inr (.inr (.inl (upd r18 (((((8 : Int32) * v2) + v1)).toNatClampNeg) (1 : Int32))))), (23, .inr (.inr (.inl a23)))] (shM, I, L, Rf)) rfl ec0_25 ec0_26 ea7 ea8 ea13 ea14 ea15 rfl rfl rfl rfl q55) rfl rfl rfl (k_jn (us' := [(0, .inl (0, r9.2.1)), (1, .inr (.inr (.inl r9.2.2))), (16, .inr (.inr (.inl r55.2.1))), (17, .inr (.inr (.inl r55.2.2.1))), (21, .inr (.inr (.inl (upd r18 (((((8 : Int32) * v2) + v1)).toNatClampNeg) (1 : Int32))))), (23, .inr (.inr (.inl r55.2.2.2)))]) ds_X11_risks rfl rfl rfl) rfl ?_
        cases h
        exact r_iret C hr dX11_risks_58
      · have h := k_t c42 h
        refine r_iconst (v := (-1 : Int32)) C dX11_risks_45 (rfl : 45 + 1 = 46) rfl ?_
        cases h
        exact r_iret C hr dX11_risks_46
  · have h := k_t c12 h
    refine r_iconst (v := (0 : Int32)) C dX11_risks_15 (rfl : 15 + 1 = 16) rfl ?_
    cases h
    exact r_iret C hr dX11_risks_16
set_option maxHeartbeats 400000 in
set_option maxRecDepth 100000 in
theorem c_X11_risks (l : Launch) (u : Nat) (h : k_H) (hsh : h.1 = shM) {c0_0 : Int32} (ec0_0 : h.2.1 0 0 = c0_0) {c0_25 : Int32} (ec0_25 : h.2.1 0 25 = c0_25) {c0_26 : Int32} (ec0_26 : h.2.1 0 26 = c0_26) {c0_27 : Int32} (ec0_27 : h.2.1 0 27 = c0_27) {a1 : (Nat → Int32)} (ea1 : h.2.1 1 = a1) {a7 : (Nat → Int32)} (ea7 : h.2.1 7 = a7) {a8 : (Nat → Int32)} (ea8 : h.2.1 8 = a8) {a13 : (Nat → Int32)} (ea13 : h.2.1 13 = a13) {a14 : (Nat → Int32)} (ea14 : h.2.1 14 = a14) {a15 : (Nat → Int32)} (ea15 : h.2.1 15 = a15) {a16 : (Nat → Int32)} (ea16 : h.2.1 16 = a16) {a17 : (Nat → Int32)} (ea17 : h.2.1 17 = a17) {a20 : (Nat → Int32)} (ea20 : h.2.1 20 = a20) {a21 : (Nat → Int32)} (ea21 : h.2.1 21 = a21) {a23 : (Nat → Int32)} (ea23 : h.2.1 23 = a23) {x0 : Int32} {x1 : Int32} {out : Int32 × Int32 × (Nat → Int32) × (Nat → Int32) × (Nat → Int32) × (Nat → Int32) × (Nat → Int32)} (hf : f_X11_risks u c0_0 c0_25 c0_26 c0_27 a1 a7 a8 a13 a14 a15 a16 a17 a20 a21 a23 x0 x1 = some out) : k_CT l yX11_risks cX11_risks 4 (some .int) 5 111 [.ref 0, .int x0, .int x1] h (some (.int out.1)) [(0, .inl (0, out.2.1)), (1, .inr (.inr (.inl out.2.2.1))), (16, .inr (.inr (.inl out.2.2.2.1))), (17, .inr (.inr (.inl out.2.2.2.2.1))), (21, .inr (.inr (.inl out.2.2.2.2.2.1))), (23, .inr (.inr (.inl out.2.2.2.2.2.2)))] := by
  obtain ⟨sh, I, L, Rf⟩ := h
  try dsimp only
  obtain rfl : sh = shM := hsh
  refine k_ofW (by decide) (Nat.le_of_ble_eq_true rfl) ?_
  intro X ad hl hR0 hr C
  have hR : X.R.frames = 5 ∧ X.R.locals = 111 := by rw [hR0]; exact ⟨rfl, rfl⟩
  have h := hf
  unfold f_X11_risks at h
  refine k_start (us := [(0, .inl (0, c0_0)), (1, .inr (.inr (.inl a1))), (16, .inr (.inr (.inl a16))), (17, .inr (.inr (.inl a17))), (21, .inr (.inr (.inl a21))), (23, .inr (.inr (.inl a23)))]) (k_ao_I ec0_0 (k_ao_A ea1 (k_ao_A ea16 (k_ao_A ea17 (k_ao_A ea21 (k_ao_A ea23 k_ap_0)))))) ?_
  show k_W X 4 0 0 _ ad (k_ap [(0, .inl (0, c0_0)), (1, .inr (.inr (.inl a1))), (16, .inr (.inr (.inl a16))), (17, .inr (.inr (.inl a17))), (21, .inr (.inr (.inl a21))), (23, .inr (.inr (.inl a23)))] (shM, I, L, Rf)) 0 [some (.ref 0), some (.int x0), some (.int x1), none] []
  refine k_mask [true, true, true, false] ?_
  exact sX11_risks_0 u C hr hR ec0_25 ec0_26 ec0_27 ea7 ea8 ea13 ea14 ea15 ea20 c0_0 a1 a16 a17 a21 a23 x0 x1 h
/-! LullabyPitModel.harm(II)I -/
theorem ds_X11_harm : k_ds [(0, 0, 0), (1, 2, 0), (16, 2, 0), (17, 2, 0), (21, 2, 0)] = true := by decide +kernel
set_option maxHeartbeats 400000 in
set_option maxRecDepth 100000 in
theorem sX11_harm_0 (u : Nat) {X : k_X} {ad : Nat → Nat} (C : k_C X cX11_harm RX11 3 ad) (hr : X.meth.sig.returnType = (some .int)) (hR : X.R.frames = 4 ∧ X.R.locals = 90) {I : Nat → Nat → Int32} {L : Nat → Nat → Int64} {Rf : Nat → Nat → Option Nat} {c0_25 : Int32} (ec0_25 : I 0 25 = c0_25) {c0_26 : Int32} (ec0_26 : I 0 26 = c0_26) {a7 : (Nat → Int32)} (ea7 : I 7 = a7) {a8 : (Nat → Int32)} (ea8 : I 8 = a8) {a13 : (Nat → Int32)} (ea13 : I 13 = a13) {a14 : (Nat → Int32)} (ea14 : I 14 = a14) {a15 : (Nat → Int32)} (ea15 : I 15 = a15) {a20 : (Nat → Int32)} (ea20 : I 20 = a20) {out : Int32 × Int32 × (Nat → Int32) × (Nat → Int32) × (Nat → Int32) × (Nat → Int32)} : ∀ (c0_0 : Int32) (a1 : (Nat → Int32)) (a16 : (Nat → Int32)) (a17 : (Nat → Int32)) (a21 : (Nat → Int32)) (v1 : Int32) (v2 : Int32), bX11_harm_0 u c0_25 c0_26 a7 a8 a13 a14 a15 a20 c0_0 a1 a16 a17 a21 v1 v2 = some out → k_W X 3 0 0 (k_Q X ad (some (.int out.1)) (k_ap [(0, .inl (0, out.2.1)), (1, .inr (.inr (.inl out.2.2.1))), (16, .inr (.inr (.inl out.2.2.2.1))), (17, .inr (.inr (.inl out.2.2.2.2.1))), (21, .inr (.inr (.inl out.2.2.2.2.2)))] (shM, I, L, Rf))) ad (k_ap [(0, .inl (0, c0_0)), (1, .inr (.inr (.inl a1))), (16, .inr (.inr (.inl a16))), (17, .inr (.inr (.inl a17))), (21, .inr (.inr (.inl a21)))] (shM, I, L, Rf)) 0 [some (.ref 0), some (.int v1), some (.int v2)] [] := by
  intro c0_0 a1 a16 a17 a21 v1 v2 h
  unfold bX11_harm_0 at h
  refine r_aload_n C dX11_harm_0 (rfl : 0 + 1 = 1) rfl ?_
  refine r_iconst (v := (0 : Int32)) C dX11_harm_1 (rfl : 1 + 1 = 2) rfl ?_
  refine p_I (us' := [(0, .inl (0, (0 : Int32))), (1, .inr (.inr (.inl a1))), (16, .inr (.inr (.inl a16))), (17, .inr (.inr (.inl a17))), (21, .inr (.inr (.inl a21)))]) C dX11_harm_2 (rfl : 2 + 3 = 5) fp_X11_3 rfl rfl ds_X11_harm rfl rfl rfl ?_
  refine r_aload_n C dX11_harm_5 (rfl : 5 + 1 = 6) rfl ?_
  refine r_iload_n C dX11_harm_6 (rfl : 6 + 1 = 7) rfl ?_
  refine r_iload_n C dX11_harm_7 (rfl : 7 + 1 = 8) rfl ?_
  refine r_iconst (v := (1 : Int32)) C dX11_harm_8 (rfl : 8 + 1 = 9) rfl ?_
  obtain ⟨r9, q9, h⟩ := k_b_of h
  refine d_V (As := [.int v1, .int v2, .int (1 : Int32)]) (st := []) (st' := [.int r9.1]) (h' := k_ap [(0, .inl (0, r9.2.1)), (1, .inr (.inr (.inl r9.2.2))), (16, .inr (.inr (.inl a16))), (17, .inr (.inr (.inl a17))), (21, .inr (.inr (.inl a21)))] (shM, I, L, Rf)) C hR ⟨Nat.zero_le _, Nat.zero_le _⟩ mv_X11_isCell lk_X11_415 dX11_harm_9 (rfl : 9 + 3 = 12) rfl rfl rfl rfl (c_X11_isCell X.l u (k_ap [(0, .inl (0, (0 : Int32))), (1, .inr (.inr (.inl a1))), (16, .inr (.inr (.inl a16))), (17, .inr (.inr (.inl a17))), (21, .inr (.inr (.inl a21)))] (shM, I, L, Rf)) rfl rfl ec0_25 ec0_26 rfl q9) rfl rfl rfl (k_jn (us' := [(0, .inl (0, r9.2.1)), (1, .inr (.inr (.inl r9.2.2))), (16, .inr (.inr (.inl a16))), (17, .inr (.inr (.inl a17))), (21, .inr (.inr (.inl a21)))]) ds_X11_harm rfl rfl rfl) rfl ?_
  refine r_if_ne (tgt := 17) C dX11_harm_12 (by decide) (rfl : 12 + 3 = 15) (fun c12 => ?_) (fun c12 => ?_)
  · have h := k_f c12 h
    refine r_aload_n C dX11_harm_17 (rfl : 17 + 1 = 18) rfl ?_
    obtain ⟨r18, q18, h⟩ := k_b_of h
    refine d_V (As := []) (st := []) (st' := []) (h' := k_ap [(0, .inl (0, r9.2.1)), (1, .inr (.inr (.inl r9.2.2))), (16, .inr (.inr (.inl a16))), (17, .inr (.inr (.inl a17))), (21, .inr (.inr (.inl r18)))] (shM, I, L, Rf)) C hR ⟨Nat.zero_le _, Nat.zero_le _⟩ mv_X11_take lk_X11_345 dX11_harm_18 (rfl : 18 + 3 = 21) rfl rfl rfl rfl (c_X11_take X.l u (k_ap [(0, .inl (0, r9.2.1)), (1, .inr (.inr (.inl r9.2.2))), (16, .inr (.inr (.inl a16))), (17, .inr (.inr (.inl a17))), (21, .inr (.inr (.inl a21)))] (shM, I, L, Rf)) rfl ea20 rfl q18) rfl rfl rfl (k_jn (us' := [(0, .inl (0, r9.2.1)), (1, .inr (.inr (.inl r9.2.2))), (16, .inr (.inr (.inl a16))), (17, .inr (.inr (.inl a17))), (21, .inr (.inr (.inl r18)))]) ds_X11_harm rfl rfl rfl) rfl ?_
    refine r_aload_n C dX11_harm_21 (rfl : 21 + 1 = 22) rfl ?_
    refine r_bipush (v := (8 : Int32)) C dX11_harm_22 (rfl : 22 + 2 = 24) rfl ?_
    refine r_iload_n C dX11_harm_24 (rfl : 24 + 1 = 25) rfl ?_
    refine r_imul C dX11_harm_25 (rfl : 25 + 1 = 26) ?_
    refine r_iload_n C dX11_harm_26 (rfl : 26 + 1 = 27) rfl ?_
    refine r_iadd C dX11_harm_27 (rfl : 27 + 1 = 28) ?_
    obtain ⟨r28, q28, h⟩ := k_b_of h
    refine d_V (As := [.int (((8 : Int32) * v2) + v1)]) (st := []) (st' := [.int r28.1]) (h' := k_ap [(0, .inl (0, r9.2.1)), (1, .inr (.inr (.inl r9.2.2))), (16, .inr (.inr (.inl r28.2.1))), (17, .inr (.inr (.inl r28.2.2))), (21, .inr (.inr (.inl r18)))] (shM, I, L, Rf)) C hR ⟨Nat.zero_le _, Nat.zero_le _⟩ mv_X11_harmOf lk_X11_388 dX11_harm_28 (rfl : 28 + 3 = 31) rfl rfl rfl rfl (c_X11_harmOf X.l u (k_ap [(0, .inl (0, r9.2.1)), (1, .inr (.inr (.inl r9.2.2))), (16, .inr (.inr (.inl a16))), (17, .inr (.inr (.inl a17))), (21, .inr (.inr (.inl r18)))] (shM, I, L, Rf)) rfl ec0_25 ec0_26 ea7 ea8 ea13 ea14 ea15 rfl rfl rfl q28) rfl rfl rfl (k_jn (us' := [(0, .inl (0, r9.2.1)), (1, .inr (.inr (.inl r9.2.2))), (16, .inr (.inr (.inl r28.2.1))), (17, .inr (.inr (.inl r28.2.2))), (21, .inr (.inr (.inl r18)))]) ds_X11_harm rfl rfl rfl) rfl ?_
    cases h
    exact r_iret C hr dX11_harm_31
  · have h := k_t c12 h
    refine r_iconst (v := (0 : Int32)) C dX11_harm_15 (rfl : 15 + 1 = 16) rfl ?_
    cases h
    exact r_iret C hr dX11_harm_16
set_option maxHeartbeats 400000 in
set_option maxRecDepth 100000 in
theorem c_X11_harm (l : Launch) (u : Nat) (h : k_H) (hsh : h.1 = shM) {c0_0 : Int32} (ec0_0 : h.2.1 0 0 = c0_0) {c0_25 : Int32} (ec0_25 : h.2.1 0 25 = c0_25) {c0_26 : Int32} (ec0_26 : h.2.1 0 26 = c0_26) {a1 : (Nat → Int32)} (ea1 : h.2.1 1 = a1) {a7 : (Nat → Int32)} (ea7 : h.2.1 7 = a7) {a8 : (Nat → Int32)} (ea8 : h.2.1 8 = a8) {a13 : (Nat → Int32)} (ea13 : h.2.1 13 = a13) {a14 : (Nat → Int32)} (ea14 : h.2.1 14 = a14) {a15 : (Nat → Int32)} (ea15 : h.2.1 15 = a15) {a16 : (Nat → Int32)} (ea16 : h.2.1 16 = a16) {a17 : (Nat → Int32)} (ea17 : h.2.1 17 = a17) {a20 : (Nat → Int32)} (ea20 : h.2.1 20 = a20) {a21 : (Nat → Int32)} (ea21 : h.2.1 21 = a21) {x0 : Int32} {x1 : Int32} {out : Int32 × Int32 × (Nat → Int32) × (Nat → Int32) × (Nat → Int32) × (Nat → Int32)} (hf : f_X11_harm u c0_0 c0_25 c0_26 a1 a7 a8 a13 a14 a15 a16 a17 a20 a21 x0 x1 = some out) : k_CT l yX11_harm cX11_harm 3 (some .int) 4 90 [.ref 0, .int x0, .int x1] h (some (.int out.1)) [(0, .inl (0, out.2.1)), (1, .inr (.inr (.inl out.2.2.1))), (16, .inr (.inr (.inl out.2.2.2.1))), (17, .inr (.inr (.inl out.2.2.2.2.1))), (21, .inr (.inr (.inl out.2.2.2.2.2)))] := by
  obtain ⟨sh, I, L, Rf⟩ := h
  try dsimp only
  obtain rfl : sh = shM := hsh
  refine k_ofW (by decide) (Nat.le_of_ble_eq_true rfl) ?_
  intro X ad hl hR0 hr C
  have hR : X.R.frames = 4 ∧ X.R.locals = 90 := by rw [hR0]; exact ⟨rfl, rfl⟩
  have h := hf
  unfold f_X11_harm at h
  refine k_start (us := [(0, .inl (0, c0_0)), (1, .inr (.inr (.inl a1))), (16, .inr (.inr (.inl a16))), (17, .inr (.inr (.inl a17))), (21, .inr (.inr (.inl a21)))]) (k_ao_I ec0_0 (k_ao_A ea1 (k_ao_A ea16 (k_ao_A ea17 (k_ao_A ea21 k_ap_0))))) ?_
  show k_W X 3 0 0 _ ad (k_ap [(0, .inl (0, c0_0)), (1, .inr (.inr (.inl a1))), (16, .inr (.inr (.inl a16))), (17, .inr (.inr (.inl a17))), (21, .inr (.inr (.inl a21)))] (shM, I, L, Rf)) 0 [some (.ref 0), some (.int x0), some (.int x1)] []
  refine k_mask [true, true, true] ?_
  exact sX11_harm_0 u C hr hR ec0_25 ec0_26 ea7 ea8 ea13 ea14 ea15 ea20 c0_0 a1 a16 a17 a21 x0 x1 h
/-! LullabyPitModel.barsIn(I)I -/
theorem ds_X11_barsIn : k_ds [] = true := by decide +kernel
set_option maxHeartbeats 400000 in
set_option maxRecDepth 100000 in
theorem sX11_barsIn_0 (u : Nat) {X : k_X} {ad : Nat → Nat} (C : k_C X cX11_barsIn RX11 2 ad) (hr : X.meth.sig.returnType = (some .int)) (hR : X.R.frames = 0 ∧ X.R.locals = 0) {I : Nat → Nat → Int32} {L : Nat → Nat → Int64} {Rf : Nat → Nat → Option Nat} {a8 : (Nat → Int32)} (ea8 : I 8 = a8) {a21 : (Nat → Int32)} (ea21 : I 21 = a21) {out : Int32} : ∀ (v1 : Int32), bX11_barsIn_0 u a8 a21 v1 = some out → k_W X 2 0 0 (k_Q X ad (some (.int out)) (k_ap [] (shM, I, L, Rf))) ad (k_ap [] (shM, I, L, Rf)) 0 [some (.ref 0), some (.int v1)] [] := by
  intro v1 h
  unfold bX11_barsIn_0 at h
  refine r_aload_n C dX11_barsIn_0 (rfl : 0 + 1 = 1) rfl ?_
  refine r_getR (q := 21) C dX11_barsIn_1 (rfl : 1 + 3 = 4) fl_X11_77 rfl rfl ?_
  refine r_iload_n C dX11_barsIn_4 (rfl : 4 + 1 = 5) rfl ?_
  obtain ⟨hi5, h⟩ := k_i_of h
  refine a_i (j := (v1).toNatClampNeg) (f := a21) C dX11_barsIn_5 (rfl : 5 + 1 = 6) rfl ea21 hi5 rfl ?_
  refine r_if_ne (tgt := 18) C dX11_barsIn_6 (by decide) (rfl : 6 + 3 = 9) (fun c6 => ?_) (fun c6 => ?_)
  · have h := k_f c6 h
    refine r_iconst (v := (0 : Int32)) C dX11_barsIn_18 (rfl : 18 + 1 = 19) rfl ?_
    cases h
    exact r_iret C hr dX11_barsIn_19
  · have h := k_t c6 h
    refine r_aload_n C dX11_barsIn_9 (rfl : 9 + 1 = 10) rfl ?_
    refine r_getR (q := 8) C dX11_barsIn_10 (rfl : 10 + 3 = 13) fl_X11_38 rfl rfl ?_
    refine r_iload_n C dX11_barsIn_13 (rfl : 13 + 1 = 14) rfl ?_
    obtain ⟨hi14, h⟩ := k_i_of h
    refine a_i (j := (v1).toNatClampNeg) (f := a8) C dX11_barsIn_14 (rfl : 14 + 1 = 15) rfl ea8 hi14 rfl ?_
    refine r_goto (tgt := 19) C dX11_barsIn_15 (by decide) ?_
    cases h
    exact r_iret C hr dX11_barsIn_19
set_option maxHeartbeats 400000 in
set_option maxRecDepth 100000 in
theorem c_X11_barsIn (l : Launch) (u : Nat) (h : k_H) (hsh : h.1 = shM) {a8 : (Nat → Int32)} (ea8 : h.2.1 8 = a8) {a21 : (Nat → Int32)} (ea21 : h.2.1 21 = a21) {x0 : Int32} {out : Int32} (hf : f_X11_barsIn u a8 a21 x0 = some out) : k_CT l yX11_barsIn cX11_barsIn 2 (some .int) 0 0 [.ref 0, .int x0] h (some (.int out)) [] := by
  obtain ⟨sh, I, L, Rf⟩ := h
  try dsimp only
  obtain rfl : sh = shM := hsh
  refine k_ofW (by decide) (Nat.le_of_ble_eq_true rfl) ?_
  intro X ad hl hR0 hr C
  have hR : X.R.frames = 0 ∧ X.R.locals = 0 := by rw [hR0]; exact ⟨rfl, rfl⟩
  have h := hf
  unfold f_X11_barsIn at h
  refine k_start (us := []) k_ap_0 ?_
  show k_W X 2 0 0 _ ad (k_ap [] (shM, I, L, Rf)) 0 [some (.ref 0), some (.int x0)] []
  refine k_mask [true, true] ?_
  exact sX11_barsIn_0 u C hr hR ea8 ea21 x0 h
