/-! LullabyPitModel.isFalling(I)Z -/
theorem ds_X11_isFalling : k_ds [(16, 2, 0), (17, 2, 0)] = true := by decide +kernel
set_option maxHeartbeats 400000 in
set_option maxRecDepth 100000 in
theorem sX11_isFalling_47 (u : Nat) {X : k_X} {ad : Nat → Nat} (C : k_C X cX11_isFalling RX11 2 ad) (hr : X.meth.sig.returnType = (some .boolean)) (hR : X.R.frames = 3 ∧ X.R.locals = 68) {I : Nat → Nat → Int32} {L : Nat → Nat → Int64} {Rf : Nat → Nat → Option Nat} {c0_25 : Int32} (ec0_25 : I 0 25 = c0_25) {c0_26 : Int32} (ec0_26 : I 0 26 = c0_26) {a7 : (Nat → Int32)} (ea7 : I 7 = a7) {a8 : (Nat → Int32)} (ea8 : I 8 = a8) {a13 : (Nat → Int32)} (ea13 : I 13 = a13) {a14 : (Nat → Int32)} (ea14 : I 14 = a14) {a15 : (Nat → Int32)} (ea15 : I 15 = a15) {a21 : (Nat → Int32)} (ea21 : I 21 = a21) {out : Int32 × (Nat → Int32) × (Nat → Int32)} : ∀ (a16 : (Nat → Int32)) (a17 : (Nat → Int32)) (w0 : Int32), bX11_isFalling_47 u c0_25 c0_26 a7 a8 a13 a14 a15 a21 a16 a17 w0 = some out → k_W X 2 0 0 (k_Q X ad (some (.int out.1)) (k_ap [(16, .inr (.inr (.inl out.2.1))), (17, .inr (.inr (.inl out.2.2)))] (shM, I, L, Rf))) ad (k_ap [(16, .inr (.inr (.inl a16))), (17, .inr (.inr (.inl a17)))] (shM, I, L, Rf)) 47 [none, none] [.int w0] := by
  intro a16 a17 w0 h
  unfold bX11_isFalling_47 at h
  refine r_if_le (tgt := 54) C dX11_isFalling_47 (by decide) (rfl : 47 + 3 = 50) (fun c47 => ?_) (fun c47 => ?_)
  · have h := k_t c47 h
    refine r_iconst (v := (0 : Int32)) C dX11_isFalling_54 (rfl : 54 + 1 = 55) rfl ?_
    cases h
    exact r_zret C hr (Or.inl rfl) dX11_isFalling_55
  · have h := k_f c47 h
    refine r_iconst (v := (1 : Int32)) C dX11_isFalling_50 (rfl : 50 + 1 = 51) rfl ?_
    refine r_goto (tgt := 55) C dX11_isFalling_51 (by decide) ?_
    cases h
    exact r_zret C hr (Or.inr rfl) dX11_isFalling_55
set_option maxHeartbeats 400000 in
set_option maxRecDepth 100000 in
theorem sX11_isFalling_0 (u : Nat) {X : k_X} {ad : Nat → Nat} (C : k_C X cX11_isFalling RX11 2 ad) (hr : X.meth.sig.returnType = (some .boolean)) (hR : X.R.frames = 3 ∧ X.R.locals = 68) {I : Nat → Nat → Int32} {L : Nat → Nat → Int64} {Rf : Nat → Nat → Option Nat} {c0_25 : Int32} (ec0_25 : I 0 25 = c0_25) {c0_26 : Int32} (ec0_26 : I 0 26 = c0_26) {a7 : (Nat → Int32)} (ea7 : I 7 = a7) {a8 : (Nat → Int32)} (ea8 : I 8 = a8) {a13 : (Nat → Int32)} (ea13 : I 13 = a13) {a14 : (Nat → Int32)} (ea14 : I 14 = a14) {a15 : (Nat → Int32)} (ea15 : I 15 = a15) {a21 : (Nat → Int32)} (ea21 : I 21 = a21) {out : Int32 × (Nat → Int32) × (Nat → Int32)} : ∀ (a16 : (Nat → Int32)) (a17 : (Nat → Int32)) (v1 : Int32), bX11_isFalling_0 u c0_25 c0_26 a7 a8 a13 a14 a15 a21 a16 a17 v1 = some out → k_W X 2 0 0 (k_Q X ad (some (.int out.1)) (k_ap [(16, .inr (.inr (.inl out.2.1))), (17, .inr (.inr (.inl out.2.2)))] (shM, I, L, Rf))) ad (k_ap [(16, .inr (.inr (.inl a16))), (17, .inr (.inr (.inl a17)))] (shM, I, L, Rf)) 0 [some (.ref 0), some (.int v1)] [] := by
  intro a16 a17 v1 h
  unfold bX11_isFalling_0 at h
  refine r_aload_n C dX11_isFalling_0 (rfl : 0 + 1 = 1) rfl ?_
  refine r_getR (q := 21) C dX11_isFalling_1 (rfl : 1 + 3 = 4) fl_X11_77 rfl rfl ?_
  refine r_iload_n C dX11_isFalling_4 (rfl : 4 + 1 = 5) rfl ?_
  obtain ⟨hi5, h⟩ := k_i_of h
  refine a_i (j := (v1).toNatClampNeg) (f := a21) C dX11_isFalling_5 (rfl : 5 + 1 = 6) rfl ea21 hi5 rfl ?_
  refine r_iconst (v := (1 : Int32)) C dX11_isFalling_6 (rfl : 6 + 1 = 7) rfl ?_
  refine r_icmp_eq (tgt := 12) C dX11_isFalling_7 (by decide) (rfl : 7 + 3 = 10) (fun c7 => ?_) (fun c7 => ?_)
  · have h := k_t c7 h
    refine r_aload_n C dX11_isFalling_12 (rfl : 12 + 1 = 13) rfl ?_
    refine r_iload_n C dX11_isFalling_13 (rfl : 13 + 1 = 14) rfl ?_
    refine r_aload_n C dX11_isFalling_14 (rfl : 14 + 1 = 15) rfl ?_
    refine r_iload_n C dX11_isFalling_15 (rfl : 15 + 1 = 16) rfl ?_
    obtain ⟨r16, q16, h⟩ := k_b_of h
    refine d_V (As := [.int v1]) (st := [.int v1, .ref 0]) (st' := [.int r16, .int v1, .ref 0]) (h' := k_ap [(16, .inr (.inr (.inl a16))), (17, .inr (.inr (.inl a17)))] (shM, I, L, Rf)) C hR ⟨Nat.zero_le _, Nat.zero_le _⟩ mv_X11_wideAt lk_X11_373 dX11_isFalling_16 (rfl : 16 + 3 = 19) rfl rfl rfl rfl (c_X11_wideAt X.l u (k_ap [(16, .inr (.inr (.inl a16))), (17, .inr (.inr (.inl a17)))] (shM, I, L, Rf)) rfl ec0_25 ea21 q16) rfl rfl rfl rfl rfl ?_
    obtain ⟨r19, q19, h⟩ := k_b_of h
    refine d_V (As := [.int v1, .int r16]) (st := []) (st' := []) (h' := k_ap [(16, .inr (.inr (.inl a16))), (17, .inr (.inr (.inl r19)))] (shM, I, L, Rf)) C hR ⟨Nat.zero_le _, Nat.zero_le _⟩ mv_X11_findFacts lk_X11_376 dX11_isFalling_19 (rfl : 19 + 3 = 22) rfl rfl rfl rfl (c_X11_findFacts X.l u (k_ap [(16, .inr (.inr (.inl a16))), (17, .inr (.inr (.inl a17)))] (shM, I, L, Rf)) rfl ec0_25 ec0_26 ea7 ea8 rfl ea21 q19) rfl rfl rfl (k_jn (us' := [(16, .inr (.inr (.inl a16))), (17, .inr (.inr (.inl r19)))]) ds_X11_isFalling rfl rfl rfl) rfl ?_
    refine r_aload_n C dX11_isFalling_22 (rfl : 22 + 1 = 23) rfl ?_
    refine r_getR (q := 15) C dX11_isFalling_23 (rfl : 23 + 3 = 26) fl_X11_59 rfl rfl ?_
    refine r_iconst (v := (0 : Int32)) C dX11_isFalling_26 (rfl : 26 + 1 = 27) rfl ?_
    refine a_i (j := 0) (f := a15) C dX11_isFalling_27 (rfl : 27 + 1 = 28) rfl ea15 (show ¬ ((0 : Int32) < 0 ∨ 2 ≤ ((0 : Int32)).toNatClampNeg) by decide) rfl ?_
    refine r_if_ne (tgt := 42) C dX11_isFalling_28 (by decide) (rfl : 28 + 3 = 31) (fun c28 => ?_) (fun c28 => ?_)
    · have h := k_f c28 h
      refine r_aload_n C dX11_isFalling_42 (rfl : 42 + 1 = 43) rfl ?_
      refine r_iconst (v := (0 : Int32)) C dX11_isFalling_43 (rfl : 43 + 1 = 44) rfl ?_
      obtain ⟨r44, q44, h⟩ := k_b_of h
      refine d_V (As := [.int (0 : Int32)]) (st := []) (st' := [.int r44.1]) (h' := k_ap [(16, .inr (.inr (.inl r44.2))), (17, .inr (.inr (.inl r19)))] (shM, I, L, Rf)) C hR ⟨Nat.zero_le _, Nat.zero_le _⟩ mv_X11_valueOf lk_X11_379 dX11_isFalling_44 (rfl : 44 + 3 = 47) rfl rfl rfl rfl (c_X11_valueOf X.l u (k_ap [(16, .inr (.inr (.inl a16))), (17, .inr (.inr (.inl r19)))] (shM, I, L, Rf)) rfl ea13 ea14 ea15 rfl rfl q44) rfl rfl rfl (k_jn (us' := [(16, .inr (.inr (.inl r44.2))), (17, .inr (.inr (.inl r19)))]) ds_X11_isFalling rfl rfl rfl) rfl ?_
      refine k_mask [false, false] ?_
      exact sX11_isFalling_47 u C hr hR ec0_25 ec0_26 ea7 ea8 ea13 ea14 ea15 ea21 r44.2 r19 r44.1 h
    · have h := k_t c28 h
      refine r_aload_n C dX11_isFalling_31 (rfl : 31 + 1 = 32) rfl ?_
      refine r_getR (q := 17) C dX11_isFalling_32 (rfl : 32 + 3 = 35) fl_X11_65 rfl rfl ?_
      refine r_iconst (v := (0 : Int32)) C dX11_isFalling_35 (rfl : 35 + 1 = 36) rfl ?_
      refine a_i (j := 0) (f := r19) C dX11_isFalling_36 (rfl : 36 + 1 = 37) rfl rfl (show ¬ ((0 : Int32) < 0 ∨ 8 ≤ ((0 : Int32)).toNatClampNeg) by decide) rfl ?_
      refine r_iconst (v := (2 : Int32)) C dX11_isFalling_37 (rfl : 37 + 1 = 38) rfl ?_
      refine r_isub C dX11_isFalling_38 (rfl : 38 + 1 = 39) ?_
      refine r_goto (tgt := 47) C dX11_isFalling_39 (by decide) ?_
      refine k_mask [false, false] ?_
      exact sX11_isFalling_47 u C hr hR ec0_25 ec0_26 ea7 ea8 ea13 ea14 ea15 ea21 a16 r19 ((r19 0) - (2 : Int32)) h
  · have h := k_f c7 h
    refine r_iconst (v := (0 : Int32)) C dX11_isFalling_10 (rfl : 10 + 1 = 11) rfl ?_
    cases h
    exact r_zret C hr (Or.inl rfl) dX11_isFalling_11
set_option maxHeartbeats 400000 in
set_option maxRecDepth 100000 in
theorem c_X11_isFalling (l : Launch) (u : Nat) (h : k_H) (hsh : h.1 = shM) {c0_25 : Int32} (ec0_25 : h.2.1 0 25 = c0_25) {c0_26 : Int32} (ec0_26 : h.2.1 0 26 = c0_26) {a7 : (Nat → Int32)} (ea7 : h.2.1 7 = a7) {a8 : (Nat → Int32)} (ea8 : h.2.1 8 = a8) {a13 : (Nat → Int32)} (ea13 : h.2.1 13 = a13) {a14 : (Nat → Int32)} (ea14 : h.2.1 14 = a14) {a15 : (Nat → Int32)} (ea15 : h.2.1 15 = a15) {a16 : (Nat → Int32)} (ea16 : h.2.1 16 = a16) {a17 : (Nat → Int32)} (ea17 : h.2.1 17 = a17) {a21 : (Nat → Int32)} (ea21 : h.2.1 21 = a21) {x0 : Int32} {out : Int32 × (Nat → Int32) × (Nat → Int32)} (hf : f_X11_isFalling u c0_25 c0_26 a7 a8 a13 a14 a15 a16 a17 a21 x0 = some out) : k_CT l yX11_isFalling cX11_isFalling 2 (some .boolean) 3 68 [.ref 0, .int x0] h (some (.int out.1)) [(16, .inr (.inr (.inl out.2.1))), (17, .inr (.inr (.inl out.2.2)))] := by
  obtain ⟨sh, I, L, Rf⟩ := h
  try dsimp only
  obtain rfl : sh = shM := hsh
  refine k_ofW (by decide) (Nat.le_of_ble_eq_true rfl) ?_
  intro X ad hl hR0 hr C
  have hR : X.R.frames = 3 ∧ X.R.locals = 68 := by rw [hR0]; exact ⟨rfl, rfl⟩
  have h := hf
  unfold f_X11_isFalling at h
  refine k_start (us := [(16, .inr (.inr (.inl a16))), (17, .inr (.inr (.inl a17)))]) (k_ao_A ea16 (k_ao_A ea17 k_ap_0)) ?_
  show k_W X 2 0 0 _ ad (k_ap [(16, .inr (.inr (.inl a16))), (17, .inr (.inr (.inl a17)))] (shM, I, L, Rf)) 0 [some (.ref 0), some (.int x0)] []
  refine k_mask [true, true] ?_
  exact sX11_isFalling_0 u C hr hR ec0_25 ec0_26 ea7 ea8 ea13 ea14 ea15 ea21 a16 a17 x0 h
/-! LullabyPitModel.fallNow()I -/
theorem ds_X11_fallNow : k_ds [(16, 2, 0), (17, 2, 0), (23, 2, 0)] = true := by decide +kernel
set_option maxHeartbeats 400000 in
set_option maxRecDepth 100000 in
theorem sX11_fallNow_36 (u : Nat) {X : k_X} {ad : Nat → Nat} (C : k_C X cX11_fallNow RX11 3 ad) (hr : X.meth.sig.returnType = (some .int)) (hR : X.R.frames = 4 ∧ X.R.locals = 89) {I : Nat → Nat → Int32} {L : Nat → Nat → Int64} {Rf : Nat → Nat → Option Nat} {c0_25 : Int32} (ec0_25 : I 0 25 = c0_25) {c0_26 : Int32} (ec0_26 : I 0 26 = c0_26) {a7 : (Nat → Int32)} (ea7 : I 7 = a7) {a8 : (Nat → Int32)} (ea8 : I 8 = a8) {a13 : (Nat → Int32)} (ea13 : I 13 = a13) {a14 : (Nat → Int32)} (ea14 : I 14 = a14) {a15 : (Nat → Int32)} (ea15 : I 15 = a15) {a21 : (Nat → Int32)} (ea21 : I 21 = a21) {out : Int32 × (Nat → Int32) × (Nat → Int32) × (Nat → Int32)} {k4 : (Nat → Int32) → (Nat → Int32) → (Nat → Int32) → Int32 → Int32 → Option (Int32 × (Nat → Int32) × (Nat → Int32) × (Nat → Int32))} (hk4 : ∀ (a16 : (Nat → Int32)) (a17 : (Nat → Int32)) (a23 : (Nat → Int32)) (v1 : Int32) (v2 : Int32), k4 a16 a17 a23 v1 v2 = some out → k_W X 3 0 0 (k_Q X ad (some (.int out.1)) (k_ap [(16, .inr (.inr (.inl out.2.1))), (17, .inr (.inr (.inl out.2.2.1))), (23, .inr (.inr (.inl out.2.2.2)))] (shM, I, L, Rf))) ad (k_ap [(16, .inr (.inr (.inl a16))), (17, .inr (.inr (.inl a17))), (23, .inr (.inr (.inl a23)))] (shM, I, L, Rf)) 4 [some (.ref 0), some (.int v1), some (.int v2)] []) : ∀ (a16 : (Nat → Int32)) (a17 : (Nat → Int32)) (a23 : (Nat → Int32)) (v2 : Int32) (w0 : Int32) (w1 : Int32), bX11_fallNow_36 u c0_25 c0_26 a7 a8 a13 a14 a15 a21 k4 a16 a17 a23 v2 w0 w1 = some out → k_W X 3 0 0 (k_Q X ad (some (.int out.1)) (k_ap [(16, .inr (.inr (.inl out.2.1))), (17, .inr (.inr (.inl out.2.2.1))), (23, .inr (.inr (.inl out.2.2.2)))] (shM, I, L, Rf))) ad (k_ap [(16, .inr (.inr (.inl a16))), (17, .inr (.inr (.inl a17))), (23, .inr (.inr (.inl a23)))] (shM, I, L, Rf)) 36 [some (.ref 0), none, some (.int v2)] [.int w0, .int w1] := by
  intro a16 a17 a23 v2 w0 w1 h
  unfold bX11_fallNow_36 at h
  refine r_iadd C dX11_fallNow_36 (rfl : 36 + 1 = 37) ?_
  refine r_istore_n C dX11_fallNow_37 (rfl : 37 + 1 = 38) (by decide) (Nat.le_of_ble_eq_true rfl) ?_
  show k_W _ _ _ _ _ _ _ _ [some (.ref 0), some (.int (w1 + w0)), some (.int v2)] _
  refine r_iinc (v := (v2 + (1 : Int32))) C dX11_fallNow_38 (rfl : 38 + 3 = 41) rfl rfl (by decide) ?_
  show k_W _ _ _ _ _ _ _ _ [some (.ref 0), some (.int (w1 + w0)), some (.int (v2 + (1 : Int32)))] _
  refine r_goto (tgt := 4) C dX11_fallNow_41 (by decide) ?_
  refine k_mask [true, true, true] ?_
  exact hk4 a16 a17 a23 (w1 + w0) (v2 + (1 : Int32)) h
set_option maxHeartbeats 400000 in
set_option maxRecDepth 100000 in
theorem sX11_fallNow_4 (u : Nat) {X : k_X} {ad : Nat → Nat} (C : k_C X cX11_fallNow RX11 3 ad) (hr : X.meth.sig.returnType = (some .int)) (hR : X.R.frames = 4 ∧ X.R.locals = 89) {I : Nat → Nat → Int32} {L : Nat → Nat → Int64} {Rf : Nat → Nat → Option Nat} {c0_25 : Int32} (ec0_25 : I 0 25 = c0_25) {c0_26 : Int32} (ec0_26 : I 0 26 = c0_26) {a7 : (Nat → Int32)} (ea7 : I 7 = a7) {a8 : (Nat → Int32)} (ea8 : I 8 = a8) {a13 : (Nat → Int32)} (ea13 : I 13 = a13) {a14 : (Nat → Int32)} (ea14 : I 14 = a14) {a15 : (Nat → Int32)} (ea15 : I 15 = a15) {a21 : (Nat → Int32)} (ea21 : I 21 = a21) {out : Int32 × (Nat → Int32) × (Nat → Int32) × (Nat → Int32)} : ∀ (n : Nat) (a16 : (Nat → Int32)) (a17 : (Nat → Int32)) (a23 : (Nat → Int32)) (v1 : Int32) (v2 : Int32), bX11_fallNow_4 u c0_25 c0_26 a7 a8 a13 a14 a15 a21 n a16 a17 a23 v1 v2 = some out → k_W X 3 0 0 (k_Q X ad (some (.int out.1)) (k_ap [(16, .inr (.inr (.inl out.2.1))), (17, .inr (.inr (.inl out.2.2.1))), (23, .inr (.inr (.inl out.2.2.2)))] (shM, I, L, Rf))) ad (k_ap [(16, .inr (.inr (.inl a16))), (17, .inr (.inr (.inl a17))), (23, .inr (.inr (.inl a23)))] (shM, I, L, Rf)) 4 [some (.ref 0), some (.int v1), some (.int v2)] [] := by
  intro n
  induction n with
  | zero => intro a16 a17 a23 v1 v2 h; cases h
  | succ n ih =>
    intro a16 a17 a23 v1 v2 h
    refine r_iload_n C dX11_fallNow_4 (rfl : 4 + 1 = 5) rfl ?_
    refine r_bipush (v := (48 : Int32)) C dX11_fallNow_5 (rfl : 5 + 2 = 7) rfl ?_
    refine r_icmp_ge (tgt := 44) C dX11_fallNow_7 (by decide) (rfl : 7 + 3 = 10) (fun c7 => ?_) (fun c7 => ?_)
    · have h := k_t c7 h
      refine r_iload_n C dX11_fallNow_44 (rfl : 44 + 1 = 45) rfl ?_
      cases h
      exact r_iret C hr dX11_fallNow_45
    · have h := k_f c7 h
      refine r_aload_n C dX11_fallNow_10 (rfl : 10 + 1 = 11) rfl ?_
      refine r_getR (q := 23) C dX11_fallNow_11 (rfl : 11 + 3 = 14) fl_X11_83 rfl rfl ?_
      refine r_iload_n C dX11_fallNow_14 (rfl : 14 + 1 = 15) rfl ?_
      refine r_aload_n C dX11_fallNow_15 (rfl : 15 + 1 = 16) rfl ?_
      refine r_iload_n C dX11_fallNow_16 (rfl : 16 + 1 = 17) rfl ?_
      obtain ⟨r17, q17, h⟩ := k_b_of h
      refine d_V (As := [.int v2]) (st := [.int v2, .ref 23]) (st' := [.int r17.1, .int v2, .ref 23]) (h' := k_ap [(16, .inr (.inr (.inl r17.2.1))), (17, .inr (.inr (.inl r17.2.2))), (23, .inr (.inr (.inl a23)))] (shM, I, L, Rf)) C hR ⟨Nat.zero_le _, Nat.zero_le _⟩ mv_X11_isFalling lk_X11_382 dX11_fallNow_17 (rfl : 17 + 3 = 20) rfl rfl rfl rfl (c_X11_isFalling X.l u (k_ap [(16, .inr (.inr (.inl a16))), (17, .inr (.inr (.inl a17))), (23, .inr (.inr (.inl a23)))] (shM, I, L, Rf)) rfl ec0_25 ec0_26 ea7 ea8 ea13 ea14 ea15 rfl rfl ea21 q17) rfl rfl rfl (k_jn (us' := [(16, .inr (.inr (.inl r17.2.1))), (17, .inr (.inr (.inl r17.2.2))), (23, .inr (.inr (.inl a23)))]) ds_X11_fallNow rfl rfl rfl) rfl ?_
      obtain ⟨hi20, h⟩ := k_i_of h
      refine s_z (j := (v2).toNatClampNeg) (f := a23) (us' := [(16, .inr (.inr (.inl r17.2.1))), (17, .inr (.inr (.inl r17.2.2))), (23, .inr (.inr (.inl (upd a23 ((v2).toNatClampNeg) (vp_nar .boolean r17.1)))))]) C dX11_fallNow_20 (rfl : 20 + 1 = 21) rfl rfl hi20 rfl ds_X11_fallNow rfl rfl rfl ?_
      refine r_iload_n C dX11_fallNow_21 (rfl : 21 + 1 = 22) rfl ?_
      refine r_aload_n C dX11_fallNow_22 (rfl : 22 + 1 = 23) rfl ?_
      refine r_getR (q := 23) C dX11_fallNow_23 (rfl : 23 + 3 = 26) fl_X11_83 rfl rfl ?_
      refine r_iload_n C dX11_fallNow_26 (rfl : 26 + 1 = 27) rfl ?_
      obtain ⟨hi27, h⟩ := k_i_of h
      refine a_z (j := (v2).toNatClampNeg) (f := (upd a23 ((v2).toNatClampNeg) (vp_nar .boolean r17.1))) C dX11_fallNow_27 (rfl : 27 + 1 = 28) rfl rfl hi27 rfl ?_
      refine r_if_eq (tgt := 35) C dX11_fallNow_28 (by decide) (rfl : 28 + 3 = 31) (fun c28 => ?_) (fun c28 => ?_)
      · have h := k_t c28 h
        refine r_iconst (v := (0 : Int32)) C dX11_fallNow_35 (rfl : 35 + 1 = 36) rfl ?_
        refine k_mask [true, false, true] ?_
        exact sX11_fallNow_36 u C hr hR ec0_25 ec0_26 ea7 ea8 ea13 ea14 ea15 ea21 ih r17.2.1 r17.2.2 (upd a23 ((v2).toNatClampNeg) (vp_nar .boolean r17.1)) v2 (0 : Int32) v1 h
      · have h := k_f c28 h
        refine r_iconst (v := (1 : Int32)) C dX11_fallNow_31 (rfl : 31 + 1 = 32) rfl ?_
        refine r_goto (tgt := 36) C dX11_fallNow_32 (by decide) ?_
        refine k_mask [true, false, true] ?_
        exact sX11_fallNow_36 u C hr hR ec0_25 ec0_26 ea7 ea8 ea13 ea14 ea15 ea21 ih r17.2.1 r17.2.2 (upd a23 ((v2).toNatClampNeg) (vp_nar .boolean r17.1)) v2 (1 : Int32) v1 h
set_option maxHeartbeats 400000 in
set_option maxRecDepth 100000 in
theorem sX11_fallNow_0 (u : Nat) {X : k_X} {ad : Nat → Nat} (C : k_C X cX11_fallNow RX11 3 ad) (hr : X.meth.sig.returnType = (some .int)) (hR : X.R.frames = 4 ∧ X.R.locals = 89) {I : Nat → Nat → Int32} {L : Nat → Nat → Int64} {Rf : Nat → Nat → Option Nat} {c0_25 : Int32} (ec0_25 : I 0 25 = c0_25) {c0_26 : Int32} (ec0_26 : I 0 26 = c0_26) {a7 : (Nat → Int32)} (ea7 : I 7 = a7) {a8 : (Nat → Int32)} (ea8 : I 8 = a8) {a13 : (Nat → Int32)} (ea13 : I 13 = a13) {a14 : (Nat → Int32)} (ea14 : I 14 = a14) {a15 : (Nat → Int32)} (ea15 : I 15 = a15) {a21 : (Nat → Int32)} (ea21 : I 21 = a21) {out : Int32 × (Nat → Int32) × (Nat → Int32) × (Nat → Int32)} : ∀ (a16 : (Nat → Int32)) (a17 : (Nat → Int32)) (a23 : (Nat → Int32)), bX11_fallNow_0 u c0_25 c0_26 a7 a8 a13 a14 a15 a21 a16 a17 a23 = some out → k_W X 3 0 0 (k_Q X ad (some (.int out.1)) (k_ap [(16, .inr (.inr (.inl out.2.1))), (17, .inr (.inr (.inl out.2.2.1))), (23, .inr (.inr (.inl out.2.2.2)))] (shM, I, L, Rf))) ad (k_ap [(16, .inr (.inr (.inl a16))), (17, .inr (.inr (.inl a17))), (23, .inr (.inr (.inl a23)))] (shM, I, L, Rf)) 0 [some (.ref 0), none, none] [] := by
  intro a16 a17 a23 h
  unfold bX11_fallNow_0 at h
  refine r_iconst (v := (0 : Int32)) C dX11_fallNow_0 (rfl : 0 + 1 = 1) rfl ?_
  refine r_istore_n C dX11_fallNow_1 (rfl : 1 + 1 = 2) (by decide) (Nat.le_of_ble_eq_true rfl) ?_
  show k_W _ _ _ _ _ _ _ _ [some (.ref 0), some (.int (0 : Int32)), none] _
  refine r_iconst (v := (0 : Int32)) C dX11_fallNow_2 (rfl : 2 + 1 = 3) rfl ?_
  refine r_istore_n C dX11_fallNow_3 (rfl : 3 + 1 = 4) (by decide) (Nat.le_of_ble_eq_true rfl) ?_
  show k_W _ _ _ _ _ _ _ _ [some (.ref 0), some (.int (0 : Int32)), some (.int (0 : Int32))] _
  refine k_mask [true, true, true] ?_
  exact sX11_fallNow_4 u C hr hR ec0_25 ec0_26 ea7 ea8 ea13 ea14 ea15 ea21 u a16 a17 a23 (0 : Int32) (0 : Int32) h
set_option maxHeartbeats 400000 in
set_option maxRecDepth 100000 in
theorem c_X11_fallNow (l : Launch) (u : Nat) (h : k_H) (hsh : h.1 = shM) {c0_25 : Int32} (ec0_25 : h.2.1 0 25 = c0_25) {c0_26 : Int32} (ec0_26 : h.2.1 0 26 = c0_26) {a7 : (Nat → Int32)} (ea7 : h.2.1 7 = a7) {a8 : (Nat → Int32)} (ea8 : h.2.1 8 = a8) {a13 : (Nat → Int32)} (ea13 : h.2.1 13 = a13) {a14 : (Nat → Int32)} (ea14 : h.2.1 14 = a14) {a15 : (Nat → Int32)} (ea15 : h.2.1 15 = a15) {a16 : (Nat → Int32)} (ea16 : h.2.1 16 = a16) {a17 : (Nat → Int32)} (ea17 : h.2.1 17 = a17) {a21 : (Nat → Int32)} (ea21 : h.2.1 21 = a21) {a23 : (Nat → Int32)} (ea23 : h.2.1 23 = a23) {out : Int32 × (Nat → Int32) × (Nat → Int32) × (Nat → Int32)} (hf : f_X11_fallNow u c0_25 c0_26 a7 a8 a13 a14 a15 a16 a17 a21 a23 = some out) : k_CT l yX11_fallNow cX11_fallNow 3 (some .int) 4 89 [.ref 0] h (some (.int out.1)) [(16, .inr (.inr (.inl out.2.1))), (17, .inr (.inr (.inl out.2.2.1))), (23, .inr (.inr (.inl out.2.2.2)))] := by
  obtain ⟨sh, I, L, Rf⟩ := h
  try dsimp only
  obtain rfl : sh = shM := hsh
  refine k_ofW (by decide) (Nat.le_of_ble_eq_true rfl) ?_
  intro X ad hl hR0 hr C
  have hR : X.R.frames = 4 ∧ X.R.locals = 89 := by rw [hR0]; exact ⟨rfl, rfl⟩
  have h := hf
  unfold f_X11_fallNow at h
  refine k_start (us := [(16, .inr (.inr (.inl a16))), (17, .inr (.inr (.inl a17))), (23, .inr (.inr (.inl a23)))]) (k_ao_A ea16 (k_ao_A ea17 (k_ao_A ea23 k_ap_0))) ?_
  show k_W X 3 0 0 _ ad (k_ap [(16, .inr (.inr (.inl a16))), (17, .inr (.inr (.inl a17))), (23, .inr (.inr (.inl a23)))] (shM, I, L, Rf)) 0 [some (.ref 0), none, none] []
  refine k_mask [true, false, false] ?_
  exact sX11_fallNow_0 u C hr hR ec0_25 ec0_26 ea7 ea8 ea13 ea14 ea15 ea21 a16 a17 a23 h
/-! LullabyPitModel.digs(I)V -/
theorem ds_X11_digs : k_ds [(16, 2, 0), (17, 2, 0), (21, 2, 0), (23, 2, 0)] = true := by decide +kernel
set_option maxHeartbeats 400000 in
set_option maxRecDepth 100000 in
theorem sX11_digs_156 (u : Nat) {X : k_X} {ad : Nat → Nat} (C : k_C X cX11_digs RX11 3 ad) (hr : X.meth.sig.returnType = none) (hR : X.R.frames = 5 ∧ X.R.locals = 111) {I : Nat → Nat → Int32} {L : Nat → Nat → Int64} {Rf : Nat → Nat → Option Nat} {c0_25 : Int32} (ec0_25 : I 0 25 = c0_25) {c0_26 : Int32} (ec0_26 : I 0 26 = c0_26) {a7 : (Nat → Int32)} (ea7 : I 7 = a7) {a8 : (Nat → Int32)} (ea8 : I 8 = a8) {a13 : (Nat → Int32)} (ea13 : I 13 = a13) {a14 : (Nat → Int32)} (ea14 : I 14 = a14) {a15 : (Nat → Int32)} (ea15 : I 15 = a15) {out : (Nat → Int32) × (Nat → Int32) × (Nat → Int32) × (Nat → Int32)} {k134 : (Nat → Int32) → (Nat → Int32) → (Nat → Int32) → (Nat → Int32) → Int32 → Option ((Nat → Int32) × (Nat → Int32) × (Nat → Int32) × (Nat → Int32))} (hk134 : ∀ (a16 : (Nat → Int32)) (a17 : (Nat → Int32)) (a21 : (Nat → Int32)) (a23 : (Nat → Int32)) (v2 : Int32), k134 a16 a17 a21 a23 v2 = some out → k_W X 3 0 0 (k_Q X ad none (k_ap [(16, .inr (.inr (.inl out.1))), (17, .inr (.inr (.inl out.2.1))), (21, .inr (.inr (.inl out.2.2.1))), (23, .inr (.inr (.inl out.2.2.2)))] (shM, I, L, Rf))) ad (k_ap [(16, .inr (.inr (.inl a16))), (17, .inr (.inr (.inl a17))), (21, .inr (.inr (.inl a21))), (23, .inr (.inr (.inl a23)))] (shM, I, L, Rf)) 134 [some (.ref 0), none, some (.int v2)] []) : ∀ (a16 : (Nat → Int32)) (a17 : (Nat → Int32)) (a21 : (Nat → Int32)) (a23 : (Nat → Int32)) (v2 : Int32), bX11_digs_156 u c0_25 c0_26 a7 a8 a13 a14 a15 k134 a16 a17 a21 a23 v2 = some out → k_W X 3 0 0 (k_Q X ad none (k_ap [(16, .inr (.inr (.inl out.1))), (17, .inr (.inr (.inl out.2.1))), (21, .inr (.inr (.inl out.2.2.1))), (23, .inr (.inr (.inl out.2.2.2)))] (shM, I, L, Rf))) ad (k_ap [(16, .inr (.inr (.inl a16))), (17, .inr (.inr (.inl a17))), (21, .inr (.inr (.inl a21))), (23, .inr (.inr (.inl a23)))] (shM, I, L, Rf)) 156 [some (.ref 0), none, some (.int v2)] [] := by
  intro a16 a17 a21 a23 v2 h
  unfold bX11_digs_156 at h
  refine r_iinc (v := (v2 + (1 : Int32))) C dX11_digs_156 (rfl : 156 + 3 = 159) rfl rfl (by decide) ?_
  show k_W _ _ _ _ _ _ _ _ [some (.ref 0), none, some (.int (v2 + (1 : Int32)))] _
  refine r_goto (tgt := 134) C dX11_digs_159 (by decide) ?_
  refine k_mask [true, false, true] ?_
  exact hk134 a16 a17 a21 a23 (v2 + (1 : Int32)) h
set_option maxHeartbeats 400000 in
set_option maxRecDepth 100000 in
theorem sX11_digs_134 (u : Nat) {X : k_X} {ad : Nat → Nat} (C : k_C X cX11_digs RX11 3 ad) (hr : X.meth.sig.returnType = none) (hR : X.R.frames = 5 ∧ X.R.locals = 111) {I : Nat → Nat → Int32} {L : Nat → Nat → Int64} {Rf : Nat → Nat → Option Nat} {c0_25 : Int32} (ec0_25 : I 0 25 = c0_25) {c0_26 : Int32} (ec0_26 : I 0 26 = c0_26) {a7 : (Nat → Int32)} (ea7 : I 7 = a7) {a8 : (Nat → Int32)} (ea8 : I 8 = a8) {a13 : (Nat → Int32)} (ea13 : I 13 = a13) {a14 : (Nat → Int32)} (ea14 : I 14 = a14) {a15 : (Nat → Int32)} (ea15 : I 15 = a15) {out : (Nat → Int32) × (Nat → Int32) × (Nat → Int32) × (Nat → Int32)} : ∀ (n : Nat) (a16 : (Nat → Int32)) (a17 : (Nat → Int32)) (a21 : (Nat → Int32)) (a23 : (Nat → Int32)) (v2 : Int32), bX11_digs_134 u c0_25 c0_26 a7 a8 a13 a14 a15 n a16 a17 a21 a23 v2 = some out → k_W X 3 0 0 (k_Q X ad none (k_ap [(16, .inr (.inr (.inl out.1))), (17, .inr (.inr (.inl out.2.1))), (21, .inr (.inr (.inl out.2.2.1))), (23, .inr (.inr (.inl out.2.2.2)))] (shM, I, L, Rf))) ad (k_ap [(16, .inr (.inr (.inl a16))), (17, .inr (.inr (.inl a17))), (21, .inr (.inr (.inl a21))), (23, .inr (.inr (.inl a23)))] (shM, I, L, Rf)) 134 [some (.ref 0), none, some (.int v2)] [] := by
  intro n
  induction n with
  | zero => intro a16 a17 a21 a23 v2 h; cases h
  | succ n ih =>
    intro a16 a17 a21 a23 v2 h
    refine r_iload_n C dX11_digs_134 (rfl : 134 + 1 = 135) rfl ?_
    refine r_bipush (v := (48 : Int32)) C dX11_digs_135 (rfl : 135 + 2 = 137) rfl ?_
    refine r_icmp_ge (tgt := 162) C dX11_digs_137 (by decide) (rfl : 137 + 3 = 140) (fun c137 => ?_) (fun c137 => ?_)
    · have h := k_t c137 h
      cases h
      exact r_vret C hr dX11_digs_162
    · have h := k_f c137 h
      refine r_aload_n C dX11_digs_140 (rfl : 140 + 1 = 141) rfl ?_
      refine r_getR (q := 23) C dX11_digs_141 (rfl : 141 + 3 = 144) fl_X11_83 rfl rfl ?_
      refine r_iload_n C dX11_digs_144 (rfl : 144 + 1 = 145) rfl ?_
      obtain ⟨hi145, h⟩ := k_i_of h
      refine a_z (j := (v2).toNatClampNeg) (f := a23) C dX11_digs_145 (rfl : 145 + 1 = 146) rfl rfl hi145 rfl ?_
      refine r_if_eq (tgt := 156) C dX11_digs_146 (by decide) (rfl : 146 + 3 = 149) (fun c146 => ?_) (fun c146 => ?_)
      · have h := k_t c146 h
        refine k_mask [true, false, true] ?_
        exact sX11_digs_156 u C hr hR ec0_25 ec0_26 ea7 ea8 ea13 ea14 ea15 ih a16 a17 a21 a23 v2 h
      · have h := k_f c146 h
        refine r_aload_n C dX11_digs_149 (rfl : 149 + 1 = 150) rfl ?_
        refine r_getR (q := 21) C dX11_digs_150 (rfl : 150 + 3 = 153) fl_X11_77 rfl rfl ?_
        refine r_iload_n C dX11_digs_153 (rfl : 153 + 1 = 154) rfl ?_
        refine r_iconst (v := (3 : Int32)) C dX11_digs_154 (rfl : 154 + 1 = 155) rfl ?_
        obtain ⟨hi155, h⟩ := k_i_of h
        refine s_i (j := (v2).toNatClampNeg) (f := a21) (us' := [(16, .inr (.inr (.inl a16))), (17, .inr (.inr (.inl a17))), (21, .inr (.inr (.inl (upd a21 ((v2).toNatClampNeg) (3 : Int32))))), (23, .inr (.inr (.inl a23)))]) C dX11_digs_155 (rfl : 155 + 1 = 156) rfl rfl hi155 rfl ds_X11_digs rfl rfl rfl ?_
        refine k_mask [true, false, true] ?_
        exact sX11_digs_156 u C hr hR ec0_25 ec0_26 ea7 ea8 ea13 ea14 ea15 ih a16 a17 (upd a21 ((v2).toNatClampNeg) (3 : Int32)) a23 v2 h
set_option maxHeartbeats 400000 in
set_option maxRecDepth 100000 in
theorem sX11_digs_111 (u : Nat) {X : k_X} {ad : Nat → Nat} (C : k_C X cX11_digs RX11 3 ad) (hr : X.meth.sig.returnType = none) (hR : X.R.frames = 5 ∧ X.R.locals = 111) {I : Nat → Nat → Int32} {L : Nat → Nat → Int64} {Rf : Nat → Nat → Option Nat} {c0_25 : Int32} (ec0_25 : I 0 25 = c0_25) {c0_26 : Int32} (ec0_26 : I 0 26 = c0_26) {a7 : (Nat → Int32)} (ea7 : I 7 = a7) {a8 : (Nat → Int32)} (ea8 : I 8 = a8) {a13 : (Nat → Int32)} (ea13 : I 13 = a13) {a14 : (Nat → Int32)} (ea14 : I 14 = a14) {a15 : (Nat → Int32)} (ea15 : I 15 = a15) {out : (Nat → Int32) × (Nat → Int32) × (Nat → Int32) × (Nat → Int32)} : ∀ (a16 : (Nat → Int32)) (a17 : (Nat → Int32)) (a21 : (Nat → Int32)) (a23 : (Nat → Int32)) (v1 : Int32), bX11_digs_111 u c0_25 c0_26 a7 a8 a13 a14 a15 a16 a17 a21 a23 v1 = some out → k_W X 3 0 0 (k_Q X ad none (k_ap [(16, .inr (.inr (.inl out.1))), (17, .inr (.inr (.inl out.2.1))), (21, .inr (.inr (.inl out.2.2.1))), (23, .inr (.inr (.inl out.2.2.2)))] (shM, I, L, Rf))) ad (k_ap [(16, .inr (.inr (.inl a16))), (17, .inr (.inr (.inl a17))), (21, .inr (.inr (.inl a21))), (23, .inr (.inr (.inl a23)))] (shM, I, L, Rf)) 111 [some (.ref 0), some (.int v1), none] [] := by
  intro a16 a17 a21 a23 v1 h
  unfold bX11_digs_111 at h
  refine r_aload_n C dX11_digs_111 (rfl : 111 + 1 = 112) rfl ?_
  refine r_getR (q := 21) C dX11_digs_112 (rfl : 112 + 3 = 115) fl_X11_77 rfl rfl ?_
  refine r_iload_n C dX11_digs_115 (rfl : 115 + 1 = 116) rfl ?_
  refine r_iconst (v := (1 : Int32)) C dX11_digs_116 (rfl : 116 + 1 = 117) rfl ?_
  obtain ⟨hi117, h⟩ := k_i_of h
  refine s_i (j := (v1).toNatClampNeg) (f := a21) (us' := [(16, .inr (.inr (.inl a16))), (17, .inr (.inr (.inl a17))), (21, .inr (.inr (.inl (upd a21 ((v1).toNatClampNeg) (1 : Int32))))), (23, .inr (.inr (.inl a23)))]) C dX11_digs_117 (rfl : 117 + 1 = 118) rfl rfl hi117 rfl ds_X11_digs rfl rfl rfl ?_
  refine r_aload_n C dX11_digs_118 (rfl : 118 + 1 = 119) rfl ?_
  refine r_getR (q := 21) C dX11_digs_119 (rfl : 119 + 3 = 122) fl_X11_77 rfl rfl ?_
  refine r_bipush (v := (76 : Int32)) C dX11_digs_122 (rfl : 122 + 2 = 124) rfl ?_
  refine r_dup2 C dX11_digs_124 (rfl : 124 + 1 = 125) rfl rfl ?_
  refine a_i (j := 76) (f := (upd a21 ((v1).toNatClampNeg) (1 : Int32))) C dX11_digs_125 (rfl : 125 + 1 = 126) rfl rfl (show ¬ ((76 : Int32) < 0 ∨ 77 ≤ ((76 : Int32)).toNatClampNeg) by decide) rfl ?_
  refine r_aload_n C dX11_digs_126 (rfl : 126 + 1 = 127) rfl ?_
  obtain ⟨r127, q127, h⟩ := k_b_of h
  refine d_V (As := []) (st := [.int ((upd a21 ((v1).toNatClampNeg) (1 : Int32)) 76), .int (76 : Int32), .ref 21]) (st' := [.int r127.1, .int ((upd a21 ((v1).toNatClampNeg) (1 : Int32)) 76), .int (76 : Int32), .ref 21]) (h' := k_ap [(16, .inr (.inr (.inl r127.2.1))), (17, .inr (.inr (.inl r127.2.2.1))), (21, .inr (.inr (.inl (upd a21 ((v1).toNatClampNeg) (1 : Int32))))), (23, .inr (.inr (.inl r127.2.2.2)))] (shM, I, L, Rf)) C hR ⟨Nat.zero_le _, Nat.zero_le _⟩ mv_X11_fallNow lk_X11_391 dX11_digs_127 (rfl : 127 + 3 = 130) rfl rfl rfl rfl (c_X11_fallNow X.l u (k_ap [(16, .inr (.inr (.inl a16))), (17, .inr (.inr (.inl a17))), (21, .inr (.inr (.inl (upd a21 ((v1).toNatClampNeg) (1 : Int32))))), (23, .inr (.inr (.inl a23)))] (shM, I, L, Rf)) rfl ec0_25 ec0_26 ea7 ea8 ea13 ea14 ea15 rfl rfl rfl rfl q127) rfl rfl rfl (k_jn (us' := [(16, .inr (.inr (.inl r127.2.1))), (17, .inr (.inr (.inl r127.2.2.1))), (21, .inr (.inr (.inl (upd a21 ((v1).toNatClampNeg) (1 : Int32))))), (23, .inr (.inr (.inl r127.2.2.2)))]) ds_X11_digs rfl rfl rfl) rfl ?_
  refine r_iadd C dX11_digs_130 (rfl : 130 + 1 = 131) ?_
  refine s_i (j := 76) (f := (upd a21 ((v1).toNatClampNeg) (1 : Int32))) (us' := [(16, .inr (.inr (.inl r127.2.1))), (17, .inr (.inr (.inl r127.2.2.1))), (21, .inr (.inr (.inl (upd (upd a21 ((v1).toNatClampNeg) (1 : Int32)) 76 (((upd a21 ((v1).toNatClampNeg) (1 : Int32)) 76) + r127.1))))), (23, .inr (.inr (.inl r127.2.2.2)))]) C dX11_digs_131 (rfl : 131 + 1 = 132) rfl rfl (show ¬ ((76 : Int32) < 0 ∨ 77 ≤ ((76 : Int32)).toNatClampNeg) by decide) rfl ds_X11_digs rfl rfl rfl ?_
  refine r_iconst (v := (0 : Int32)) C dX11_digs_132 (rfl : 132 + 1 = 133) rfl ?_
  refine r_istore_n C dX11_digs_133 (rfl : 133 + 1 = 134) (by decide) (Nat.le_of_ble_eq_true rfl) ?_
  show k_W _ _ _ _ _ _ _ _ [some (.ref 0), some (.int v1), some (.int (0 : Int32))] _
  refine k_mask [true, false, true] ?_
  exact sX11_digs_134 u C hr hR ec0_25 ec0_26 ea7 ea8 ea13 ea14 ea15 u r127.2.1 r127.2.2.1 (upd (upd a21 ((v1).toNatClampNeg) (1 : Int32)) 76 (((upd a21 ((v1).toNatClampNeg) (1 : Int32)) 76) + r127.1)) r127.2.2.2 (0 : Int32) h
set_option maxHeartbeats 400000 in
set_option maxRecDepth 100000 in
theorem sX11_digs_81 (u : Nat) {X : k_X} {ad : Nat → Nat} (C : k_C X cX11_digs RX11 3 ad) (hr : X.meth.sig.returnType = none) (hR : X.R.frames = 5 ∧ X.R.locals = 111) {I : Nat → Nat → Int32} {L : Nat → Nat → Int64} {Rf : Nat → Nat → Option Nat} {c0_25 : Int32} (ec0_25 : I 0 25 = c0_25) {c0_26 : Int32} (ec0_26 : I 0 26 = c0_26) {a7 : (Nat → Int32)} (ea7 : I 7 = a7) {a8 : (Nat → Int32)} (ea8 : I 8 = a8) {a13 : (Nat → Int32)} (ea13 : I 13 = a13) {a14 : (Nat → Int32)} (ea14 : I 14 = a14) {a15 : (Nat → Int32)} (ea15 : I 15 = a15) {out : (Nat → Int32) × (Nat → Int32) × (Nat → Int32) × (Nat → Int32)} : ∀ (a16 : (Nat → Int32)) (a17 : (Nat → Int32)) (a21 : (Nat → Int32)) (a23 : (Nat → Int32)) (v1 : Int32) (v2 : Int32), bX11_digs_81 u c0_25 c0_26 a7 a8 a13 a14 a15 a16 a17 a21 a23 v1 v2 = some out → k_W X 3 0 0 (k_Q X ad none (k_ap [(16, .inr (.inr (.inl out.1))), (17, .inr (.inr (.inl out.2.1))), (21, .inr (.inr (.inl out.2.2.1))), (23, .inr (.inr (.inl out.2.2.2)))] (shM, I, L, Rf))) ad (k_ap [(16, .inr (.inr (.inl a16))), (17, .inr (.inr (.inl a17))), (21, .inr (.inr (.inl a21))), (23, .inr (.inr (.inl a23)))] (shM, I, L, Rf)) 81 [some (.ref 0), some (.int v1), some (.int v2)] [] := by
  intro a16 a17 a21 a23 v1 v2 h
  unfold bX11_digs_81 at h
  refine r_iload_n C dX11_digs_81 (rfl : 81 + 1 = 82) rfl ?_
  refine r_iconst (v := (5 : Int32)) C dX11_digs_82 (rfl : 82 + 1 = 83) rfl ?_
  refine r_icmp_ne (tgt := 111) C dX11_digs_83 (by decide) (rfl : 83 + 3 = 86) (fun c83 => ?_) (fun c83 => ?_)
  · have h := k_f c83 h
    refine k_mask [true, true, false] ?_
    exact sX11_digs_111 u C hr hR ec0_25 ec0_26 ea7 ea8 ea13 ea14 ea15 a16 a17 a21 a23 v1 h
  · have h := k_t c83 h
    refine r_iload_n C dX11_digs_86 (rfl : 86 + 1 = 87) rfl ?_
    refine r_bipush (v := (8 : Int32)) C dX11_digs_87 (rfl : 87 + 2 = 89) rfl ?_
    refine r_idiv C dX11_digs_89 (rfl : 89 + 1 = 90) (by decide) ?_
    refine r_aload_n C dX11_digs_90 (rfl : 90 + 1 = 91) rfl ?_
    refine r_getR (q := 21) C dX11_digs_91 (rfl : 91 + 3 = 94) fl_X11_77 rfl rfl ?_
    refine r_bipush (v := (74 : Int32)) C dX11_digs_94 (rfl : 94 + 2 = 96) rfl ?_
    refine a_i (j := 74) (f := a21) C dX11_digs_96 (rfl : 96 + 1 = 97) rfl rfl (show ¬ ((74 : Int32) < 0 ∨ 77 ≤ ((74 : Int32)).toNatClampNeg) by decide) rfl ?_
    refine r_icmp_ge (tgt := 111) C dX11_digs_97 (by decide) (rfl : 97 + 3 = 100) (fun c97 => ?_) (fun c97 => ?_)
    · have h := k_t c97 h
      refine k_mask [true, true, false] ?_
      exact sX11_digs_111 u C hr hR ec0_25 ec0_26 ea7 ea8 ea13 ea14 ea15 a16 a17 a21 a23 v1 h
    · have h := k_f c97 h
      refine r_aload_n C dX11_digs_100 (rfl : 100 + 1 = 101) rfl ?_
      refine r_getR (q := 21) C dX11_digs_101 (rfl : 101 + 3 = 104) fl_X11_77 rfl rfl ?_
      refine r_bipush (v := (74 : Int32)) C dX11_digs_104 (rfl : 104 + 2 = 106) rfl ?_
      refine r_iload_n C dX11_digs_106 (rfl : 106 + 1 = 107) rfl ?_
      refine r_bipush (v := (8 : Int32)) C dX11_digs_107 (rfl : 107 + 2 = 109) rfl ?_
      refine r_idiv C dX11_digs_109 (rfl : 109 + 1 = 110) (by decide) ?_
      refine s_i (j := 74) (f := a21) (us' := [(16, .inr (.inr (.inl a16))), (17, .inr (.inr (.inl a17))), (21, .inr (.inr (.inl (upd a21 74 (v1 / (8 : Int32)))))), (23, .inr (.inr (.inl a23)))]) C dX11_digs_110 (rfl : 110 + 1 = 111) rfl rfl (show ¬ ((74 : Int32) < 0 ∨ 77 ≤ ((74 : Int32)).toNatClampNeg) by decide) rfl ds_X11_digs rfl rfl rfl ?_
      refine k_mask [true, true, false] ?_
      exact sX11_digs_111 u C hr hR ec0_25 ec0_26 ea7 ea8 ea13 ea14 ea15 a16 a17 (upd a21 74 (v1 / (8 : Int32))) a23 v1 h
set_option maxHeartbeats 400000 in
set_option maxRecDepth 100000 in
theorem sX11_digs_0 (u : Nat) {X : k_X} {ad : Nat → Nat} (C : k_C X cX11_digs RX11 3 ad) (hr : X.meth.sig.returnType = none) (hR : X.R.frames = 5 ∧ X.R.locals = 111) {I : Nat → Nat → Int32} {L : Nat → Nat → Int64} {Rf : Nat → Nat → Option Nat} {c0_25 : Int32} (ec0_25 : I 0 25 = c0_25) {c0_26 : Int32} (ec0_26 : I 0 26 = c0_26) {a7 : (Nat → Int32)} (ea7 : I 7 = a7) {a8 : (Nat → Int32)} (ea8 : I 8 = a8) {a13 : (Nat → Int32)} (ea13 : I 13 = a13) {a14 : (Nat → Int32)} (ea14 : I 14 = a14) {a15 : (Nat → Int32)} (ea15 : I 15 = a15) {out : (Nat → Int32) × (Nat → Int32) × (Nat → Int32) × (Nat → Int32)} : ∀ (a16 : (Nat → Int32)) (a17 : (Nat → Int32)) (a21 : (Nat → Int32)) (a23 : (Nat → Int32)) (v1 : Int32), bX11_digs_0 u c0_25 c0_26 a7 a8 a13 a14 a15 a16 a17 a21 a23 v1 = some out → k_W X 3 0 0 (k_Q X ad none (k_ap [(16, .inr (.inr (.inl out.1))), (17, .inr (.inr (.inl out.2.1))), (21, .inr (.inr (.inl out.2.2.1))), (23, .inr (.inr (.inl out.2.2.2)))] (shM, I, L, Rf))) ad (k_ap [(16, .inr (.inr (.inl a16))), (17, .inr (.inr (.inl a17))), (21, .inr (.inr (.inl a21))), (23, .inr (.inr (.inl a23)))] (shM, I, L, Rf)) 0 [some (.ref 0), some (.int v1), none] [] := by
  intro a16 a17 a21 a23 v1 h
  unfold bX11_digs_0 at h
  refine r_aload_n C dX11_digs_0 (rfl : 0 + 1 = 1) rfl ?_
  refine r_getR (q := 21) C dX11_digs_1 (rfl : 1 + 3 = 4) fl_X11_77 rfl rfl ?_
  refine r_iload_n C dX11_digs_4 (rfl : 4 + 1 = 5) rfl ?_
  obtain ⟨hi5, h⟩ := k_i_of h
  refine a_i (j := (v1).toNatClampNeg) (f := a21) C dX11_digs_5 (rfl : 5 + 1 = 6) rfl rfl hi5 rfl ?_
  refine r_if_ne (tgt := 111) C dX11_digs_6 (by decide) (rfl : 6 + 3 = 9) (fun c6 => ?_) (fun c6 => ?_)
  · have h := k_f c6 h
    refine k_mask [true, true, false] ?_
    exact sX11_digs_111 u C hr hR ec0_25 ec0_26 ea7 ea8 ea13 ea14 ea15 a16 a17 a21 a23 v1 h
  · have h := k_t c6 h
    refine r_aload_n C dX11_digs_9 (rfl : 9 + 1 = 10) rfl ?_
    refine r_getR (q := 7) C dX11_digs_10 (rfl : 10 + 3 = 13) fl_X11_35 rfl rfl ?_
    refine r_iload_n C dX11_digs_13 (rfl : 13 + 1 = 14) rfl ?_
    obtain ⟨hi14, h⟩ := k_i_of h
    refine a_i (j := (v1).toNatClampNeg) (f := a7) C dX11_digs_14 (rfl : 14 + 1 = 15) rfl ea7 hi14 rfl ?_
    refine r_istore_n C dX11_digs_15 (rfl : 15 + 1 = 16) (by decide) (Nat.le_of_ble_eq_true rfl) ?_
    show k_W _ _ _ _ _ _ _ _ [some (.ref 0), some (.int v1), some (.int (a7 ((v1).toNatClampNeg)))] _
    refine r_aload_n C dX11_digs_16 (rfl : 16 + 1 = 17) rfl ?_
    refine r_getR (q := 8) C dX11_digs_17 (rfl : 17 + 3 = 20) fl_X11_38 rfl rfl ?_
    refine r_iload_n C dX11_digs_20 (rfl : 20 + 1 = 21) rfl ?_
    obtain ⟨hi21, h⟩ := k_i_of h
    refine a_i (j := (v1).toNatClampNeg) (f := a8) C dX11_digs_21 (rfl : 21 + 1 = 22) rfl ea8 hi21 rfl ?_
    refine r_if_le (tgt := 81) C dX11_digs_22 (by decide) (rfl : 22 + 3 = 25) (fun c22 => ?_) (fun c22 => ?_)
    · have h := k_t c22 h
      refine k_mask [true, true, true] ?_
      exact sX11_digs_81 u C hr hR ec0_25 ec0_26 ea7 ea8 ea13 ea14 ea15 a16 a17 a21 a23 v1 (a7 ((v1).toNatClampNeg)) h
    · have h := k_f c22 h
      refine r_aload_n C dX11_digs_25 (rfl : 25 + 1 = 26) rfl ?_
      refine r_getR (q := 21) C dX11_digs_26 (rfl : 26 + 3 = 29) fl_X11_77 rfl rfl ?_
      refine r_bipush (v := (73 : Int32)) C dX11_digs_29 (rfl : 29 + 2 = 31) rfl ?_
      refine r_dup2 C dX11_digs_31 (rfl : 31 + 1 = 32) rfl rfl ?_
      refine a_i (j := 73) (f := a21) C dX11_digs_32 (rfl : 32 + 1 = 33) rfl rfl (show ¬ ((73 : Int32) < 0 ∨ 77 ≤ ((73 : Int32)).toNatClampNeg) by decide) rfl ?_
      refine r_aload_n C dX11_digs_33 (rfl : 33 + 1 = 34) rfl ?_
      refine r_getR (q := 8) C dX11_digs_34 (rfl : 34 + 3 = 37) fl_X11_38 rfl rfl ?_
      refine r_iload_n C dX11_digs_37 (rfl : 37 + 1 = 38) rfl ?_
      obtain ⟨hi38, h⟩ := k_i_of h
      refine a_i (j := (v1).toNatClampNeg) (f := a8) C dX11_digs_38 (rfl : 38 + 1 = 39) rfl ea8 hi38 rfl ?_
      refine r_aload_n C dX11_digs_39 (rfl : 39 + 1 = 40) rfl ?_
      refine r_iload_n C dX11_digs_40 (rfl : 40 + 1 = 41) rfl ?_
      obtain ⟨r41, q41, h⟩ := k_b_of h
      refine d_V (As := [.int v1]) (st := [.int (a8 ((v1).toNatClampNeg)), .int (a21 73), .int (73 : Int32), .ref 21]) (st' := [.int r41.1, .int (a8 ((v1).toNatClampNeg)), .int (a21 73), .int (73 : Int32), .ref 21]) (h' := k_ap [(16, .inr (.inr (.inl r41.2.1))), (17, .inr (.inr (.inl r41.2.2))), (21, .inr (.inr (.inl a21))), (23, .inr (.inr (.inl a23)))] (shM, I, L, Rf)) C hR ⟨Nat.zero_le _, Nat.zero_le _⟩ mv_X11_harmOf lk_X11_388 dX11_digs_41 (rfl : 41 + 3 = 44) rfl rfl rfl rfl (c_X11_harmOf X.l u (k_ap [(16, .inr (.inr (.inl a16))), (17, .inr (.inr (.inl a17))), (21, .inr (.inr (.inl a21))), (23, .inr (.inr (.inl a23)))] (shM, I, L, Rf)) rfl ec0_25 ec0_26 ea7 ea8 ea13 ea14 ea15 rfl rfl rfl q41) rfl rfl rfl (k_jn (us' := [(16, .inr (.inr (.inl r41.2.1))), (17, .inr (.inr (.inl r41.2.2))), (21, .inr (.inr (.inl a21))), (23, .inr (.inr (.inl a23)))]) ds_X11_digs rfl rfl rfl) rfl ?_
      refine r_imul C dX11_digs_44 (rfl : 44 + 1 = 45) ?_
      refine r_iadd C dX11_digs_45 (rfl : 45 + 1 = 46) ?_
      refine s_i (j := 73) (f := a21) (us' := [(16, .inr (.inr (.inl r41.2.1))), (17, .inr (.inr (.inl r41.2.2))), (21, .inr (.inr (.inl (upd a21 73 ((a21 73) + ((a8 ((v1).toNatClampNeg)) * r41.1)))))), (23, .inr (.inr (.inl a23)))]) C dX11_digs_46 (rfl : 46 + 1 = 47) rfl rfl (show ¬ ((73 : Int32) < 0 ∨ 77 ≤ ((73 : Int32)).toNatClampNeg) by decide) rfl ds_X11_digs rfl rfl rfl ?_
      refine r_aload_n C dX11_digs_47 (rfl : 47 + 1 = 48) rfl ?_
      refine r_getR (q := 21) C dX11_digs_48 (rfl : 48 + 3 = 51) fl_X11_77 rfl rfl ?_
      refine r_bipush (v := (48 : Int32)) C dX11_digs_51 (rfl : 51 + 2 = 53) rfl ?_
      refine r_iload_n C dX11_digs_53 (rfl : 53 + 1 = 54) rfl ?_
      refine r_iadd C dX11_digs_54 (rfl : 54 + 1 = 55) ?_
      refine r_dup2 C dX11_digs_55 (rfl : 55 + 1 = 56) rfl rfl ?_
      obtain ⟨hi56, h⟩ := k_i_of h
      refine a_i (j := (((48 : Int32) + (a7 ((v1).toNatClampNeg)))).toNatClampNeg) (f := (upd a21 73 ((a21 73) + ((a8 ((v1).toNatClampNeg)) * r41.1)))) C dX11_digs_56 (rfl : 56 + 1 = 57) rfl rfl hi56 rfl ?_
      refine r_aload_n C dX11_digs_57 (rfl : 57 + 1 = 58) rfl ?_
      refine r_getR (q := 8) C dX11_digs_58 (rfl : 58 + 3 = 61) fl_X11_38 rfl rfl ?_
      refine r_iload_n C dX11_digs_61 (rfl : 61 + 1 = 62) rfl ?_
      obtain ⟨hi62, h⟩ := k_i_of h
      refine a_i (j := (v1).toNatClampNeg) (f := a8) C dX11_digs_62 (rfl : 62 + 1 = 63) rfl ea8 hi62 rfl ?_
      refine r_iadd C dX11_digs_63 (rfl : 63 + 1 = 64) ?_
      obtain ⟨hi64, h⟩ := k_i_of h
      refine s_i (j := (((48 : Int32) + (a7 ((v1).toNatClampNeg)))).toNatClampNeg) (f := (upd a21 73 ((a21 73) + ((a8 ((v1).toNatClampNeg)) * r41.1)))) (us' := [(16, .inr (.inr (.inl r41.2.1))), (17, .inr (.inr (.inl r41.2.2))), (21, .inr (.inr (.inl (upd (upd a21 73 ((a21 73) + ((a8 ((v1).toNatClampNeg)) * r41.1))) ((((48 : Int32) + (a7 ((v1).toNatClampNeg)))).toNatClampNeg) (((upd a21 73 ((a21 73) + ((a8 ((v1).toNatClampNeg)) * r41.1))) ((((48 : Int32) + (a7 ((v1).toNatClampNeg)))).toNatClampNeg)) + (a8 ((v1).toNatClampNeg))))))), (23, .inr (.inr (.inl a23)))]) C dX11_digs_64 (rfl : 64 + 1 = 65) rfl rfl hi64 rfl ds_X11_digs rfl rfl rfl ?_
      refine r_aload_n C dX11_digs_65 (rfl : 65 + 1 = 66) rfl ?_
      refine r_getR (q := 21) C dX11_digs_66 (rfl : 66 + 3 = 69) fl_X11_77 rfl rfl ?_
      refine r_bipush (v := (75 : Int32)) C dX11_digs_69 (rfl : 69 + 2 = 71) rfl ?_
      refine r_dup2 C dX11_digs_71 (rfl : 71 + 1 = 72) rfl rfl ?_
      refine a_i (j := 75) (f := (upd (upd a21 73 ((a21 73) + ((a8 ((v1).toNatClampNeg)) * r41.1))) ((((48 : Int32) + (a7 ((v1).toNatClampNeg)))).toNatClampNeg) (((upd a21 73 ((a21 73) + ((a8 ((v1).toNatClampNeg)) * r41.1))) ((((48 : Int32) + (a7 ((v1).toNatClampNeg)))).toNatClampNeg)) + (a8 ((v1).toNatClampNeg))))) C dX11_digs_72 (rfl : 72 + 1 = 73) rfl rfl (show ¬ ((75 : Int32) < 0 ∨ 77 ≤ ((75 : Int32)).toNatClampNeg) by decide) rfl ?_
      refine r_aload_n C dX11_digs_73 (rfl : 73 + 1 = 74) rfl ?_
      refine r_getR (q := 8) C dX11_digs_74 (rfl : 74 + 3 = 77) fl_X11_38 rfl rfl ?_
      refine r_iload_n C dX11_digs_77 (rfl : 77 + 1 = 78) rfl ?_
      obtain ⟨hi78, h⟩ := k_i_of h
      refine a_i (j := (v1).toNatClampNeg) (f := a8) C dX11_digs_78 (rfl : 78 + 1 = 79) rfl ea8 hi78 rfl ?_
      refine r_iadd C dX11_digs_79 (rfl : 79 + 1 = 80) ?_
      refine s_i (j := 75) (f := (upd (upd a21 73 ((a21 73) + ((a8 ((v1).toNatClampNeg)) * r41.1))) ((((48 : Int32) + (a7 ((v1).toNatClampNeg)))).toNatClampNeg) (((upd a21 73 ((a21 73) + ((a8 ((v1).toNatClampNeg)) * r41.1))) ((((48 : Int32) + (a7 ((v1).toNatClampNeg)))).toNatClampNeg)) + (a8 ((v1).toNatClampNeg))))) (us' := [(16, .inr (.inr (.inl r41.2.1))), (17, .inr (.inr (.inl r41.2.2))), (21, .inr (.inr (.inl (upd (upd (upd a21 73 ((a21 73) + ((a8 ((v1).toNatClampNeg)) * r41.1))) ((((48 : Int32) + (a7 ((v1).toNatClampNeg)))).toNatClampNeg) (((upd a21 73 ((a21 73) + ((a8 ((v1).toNatClampNeg)) * r41.1))) ((((48 : Int32) + (a7 ((v1).toNatClampNeg)))).toNatClampNeg)) + (a8 ((v1).toNatClampNeg)))) 75 (((upd (upd a21 73 ((a21 73) + ((a8 ((v1).toNatClampNeg)) * r41.1))) ((((48 : Int32) + (a7 ((v1).toNatClampNeg)))).toNatClampNeg) (((upd a21 73 ((a21 73) + ((a8 ((v1).toNatClampNeg)) * r41.1))) ((((48 : Int32) + (a7 ((v1).toNatClampNeg)))).toNatClampNeg)) + (a8 ((v1).toNatClampNeg)))) 75) + (a8 ((v1).toNatClampNeg))))))), (23, .inr (.inr (.inl a23)))]) C dX11_digs_80 (rfl : 80 + 1 = 81) rfl rfl (show ¬ ((75 : Int32) < 0 ∨ 77 ≤ ((75 : Int32)).toNatClampNeg) by decide) rfl ds_X11_digs rfl rfl rfl ?_
      refine k_mask [true, true, true] ?_
      exact sX11_digs_81 u C hr hR ec0_25 ec0_26 ea7 ea8 ea13 ea14 ea15 r41.2.1 r41.2.2 (upd (upd (upd a21 73 ((a21 73) + ((a8 ((v1).toNatClampNeg)) * r41.1))) ((((48 : Int32) + (a7 ((v1).toNatClampNeg)))).toNatClampNeg) (((upd a21 73 ((a21 73) + ((a8 ((v1).toNatClampNeg)) * r41.1))) ((((48 : Int32) + (a7 ((v1).toNatClampNeg)))).toNatClampNeg)) + (a8 ((v1).toNatClampNeg)))) 75 (((upd (upd a21 73 ((a21 73) + ((a8 ((v1).toNatClampNeg)) * r41.1))) ((((48 : Int32) + (a7 ((v1).toNatClampNeg)))).toNatClampNeg) (((upd a21 73 ((a21 73) + ((a8 ((v1).toNatClampNeg)) * r41.1))) ((((48 : Int32) + (a7 ((v1).toNatClampNeg)))).toNatClampNeg)) + (a8 ((v1).toNatClampNeg)))) 75) + (a8 ((v1).toNatClampNeg)))) a23 v1 (a7 ((v1).toNatClampNeg)) h
set_option maxHeartbeats 400000 in
set_option maxRecDepth 100000 in
theorem c_X11_digs (l : Launch) (u : Nat) (h : k_H) (hsh : h.1 = shM) {c0_25 : Int32} (ec0_25 : h.2.1 0 25 = c0_25) {c0_26 : Int32} (ec0_26 : h.2.1 0 26 = c0_26) {a7 : (Nat → Int32)} (ea7 : h.2.1 7 = a7) {a8 : (Nat → Int32)} (ea8 : h.2.1 8 = a8) {a13 : (Nat → Int32)} (ea13 : h.2.1 13 = a13) {a14 : (Nat → Int32)} (ea14 : h.2.1 14 = a14) {a15 : (Nat → Int32)} (ea15 : h.2.1 15 = a15) {a16 : (Nat → Int32)} (ea16 : h.2.1 16 = a16) {a17 : (Nat → Int32)} (ea17 : h.2.1 17 = a17) {a21 : (Nat → Int32)} (ea21 : h.2.1 21 = a21) {a23 : (Nat → Int32)} (ea23 : h.2.1 23 = a23) {x0 : Int32} {out : (Nat → Int32) × (Nat → Int32) × (Nat → Int32) × (Nat → Int32)} (hf : f_X11_digs u c0_25 c0_26 a7 a8 a13 a14 a15 a16 a17 a21 a23 x0 = some out) : k_CT l yX11_digs cX11_digs 3 none 5 111 [.ref 0, .int x0] h none [(16, .inr (.inr (.inl out.1))), (17, .inr (.inr (.inl out.2.1))), (21, .inr (.inr (.inl out.2.2.1))), (23, .inr (.inr (.inl out.2.2.2)))] := by
  obtain ⟨sh, I, L, Rf⟩ := h
  try dsimp only
  obtain rfl : sh = shM := hsh
  refine k_ofW (by decide) (Nat.le_of_ble_eq_true rfl) ?_
  intro X ad hl hR0 hr C
  have hR : X.R.frames = 5 ∧ X.R.locals = 111 := by rw [hR0]; exact ⟨rfl, rfl⟩
  have h := hf
  unfold f_X11_digs at h
  refine k_start (us := [(16, .inr (.inr (.inl a16))), (17, .inr (.inr (.inl a17))), (21, .inr (.inr (.inl a21))), (23, .inr (.inr (.inl a23)))]) (k_ao_A ea16 (k_ao_A ea17 (k_ao_A ea21 (k_ao_A ea23 k_ap_0)))) ?_
  show k_W X 3 0 0 _ ad (k_ap [(16, .inr (.inr (.inl a16))), (17, .inr (.inr (.inl a17))), (21, .inr (.inr (.inl a21))), (23, .inr (.inr (.inl a23)))] (shM, I, L, Rf)) 0 [some (.ref 0), some (.int x0), none] []
  refine k_mask [true, true, false] ?_
  exact sX11_digs_0 u C hr hR ec0_25 ec0_26 ea7 ea8 ea13 ea14 ea15 a16 a17 a21 a23 x0 h
/-! LullabyPitModel.wantsNothing()V -/
theorem ds_X11_wantsNothing : k_ds [(24, 2, 0)] = true := by decide +kernel
set_option maxHeartbeats 400000 in
set_option maxRecDepth 100000 in
theorem sX11_wantsNothing_2 (u : Nat) {X : k_X} {ad : Nat → Nat} (C : k_C X cX11_wantsNothing RX11 2 ad) (hr : X.meth.sig.returnType = none) (hR : X.R.frames = 0 ∧ X.R.locals = 0) {I : Nat → Nat → Int32} {L : Nat → Nat → Int64} {Rf : Nat → Nat → Option Nat} {out : (Nat → Int32)} : ∀ (n : Nat) (a24 : (Nat → Int32)) (v1 : Int32), bX11_wantsNothing_2 u n a24 v1 = some out → k_W X 2 0 0 (k_Q X ad none (k_ap [(24, .inr (.inr (.inl out)))] (shM, I, L, Rf))) ad (k_ap [(24, .inr (.inr (.inl a24)))] (shM, I, L, Rf)) 2 [some (.ref 0), some (.int v1)] [] := by
  intro n
  induction n with
  | zero => intro a24 v1 h; cases h
  | succ n ih =>
    intro a24 v1 h
    refine r_iload_n C dX11_wantsNothing_2 (rfl : 2 + 1 = 3) rfl ?_
    refine r_iconst (v := (5 : Int32)) C dX11_wantsNothing_3 (rfl : 3 + 1 = 4) rfl ?_
    refine r_icmp_ge (tgt := 20) C dX11_wantsNothing_4 (by decide) (rfl : 4 + 3 = 7) (fun c4 => ?_) (fun c4 => ?_)
    · have h := k_t c4 h
      cases h
      exact r_vret C hr dX11_wantsNothing_20
    · have h := k_f c4 h
      refine r_aload_n C dX11_wantsNothing_7 (rfl : 7 + 1 = 8) rfl ?_
      refine r_getR (q := 24) C dX11_wantsNothing_8 (rfl : 8 + 3 = 11) fl_X11_87 rfl rfl ?_
      refine r_iload_n C dX11_wantsNothing_11 (rfl : 11 + 1 = 12) rfl ?_
      refine r_iconst (v := (0 : Int32)) C dX11_wantsNothing_12 (rfl : 12 + 1 = 13) rfl ?_
      obtain ⟨hi13, h⟩ := k_i_of h
      refine s_i (j := (v1).toNatClampNeg) (f := a24) (us' := [(24, .inr (.inr (.inl (upd a24 ((v1).toNatClampNeg) (0 : Int32)))))]) C dX11_wantsNothing_13 (rfl : 13 + 1 = 14) rfl rfl hi13 rfl ds_X11_wantsNothing rfl rfl rfl ?_
      refine r_iinc (v := (v1 + (1 : Int32))) C dX11_wantsNothing_14 (rfl : 14 + 3 = 17) rfl rfl (by decide) ?_
      show k_W _ _ _ _ _ _ _ _ [some (.ref 0), some (.int (v1 + (1 : Int32)))] _
      refine r_goto (tgt := 2) C dX11_wantsNothing_17 (by decide) ?_
      refine k_mask [true, true] ?_
      exact ih (upd a24 ((v1).toNatClampNeg) (0 : Int32)) (v1 + (1 : Int32)) h
set_option maxHeartbeats 400000 in
set_option maxRecDepth 100000 in
theorem sX11_wantsNothing_0 (u : Nat) {X : k_X} {ad : Nat → Nat} (C : k_C X cX11_wantsNothing RX11 2 ad) (hr : X.meth.sig.returnType = none) (hR : X.R.frames = 0 ∧ X.R.locals = 0) {I : Nat → Nat → Int32} {L : Nat → Nat → Int64} {Rf : Nat → Nat → Option Nat} {out : (Nat → Int32)} : ∀ (a24 : (Nat → Int32)), bX11_wantsNothing_0 u a24 = some out → k_W X 2 0 0 (k_Q X ad none (k_ap [(24, .inr (.inr (.inl out)))] (shM, I, L, Rf))) ad (k_ap [(24, .inr (.inr (.inl a24)))] (shM, I, L, Rf)) 0 [some (.ref 0), none] [] := by
  intro a24 h
  unfold bX11_wantsNothing_0 at h
  refine r_iconst (v := (0 : Int32)) C dX11_wantsNothing_0 (rfl : 0 + 1 = 1) rfl ?_
  refine r_istore_n C dX11_wantsNothing_1 (rfl : 1 + 1 = 2) (by decide) (Nat.le_of_ble_eq_true rfl) ?_
  show k_W _ _ _ _ _ _ _ _ [some (.ref 0), some (.int (0 : Int32))] _
  refine k_mask [true, true] ?_
  exact sX11_wantsNothing_2 u C hr hR u a24 (0 : Int32) h
set_option maxHeartbeats 400000 in
set_option maxRecDepth 100000 in
theorem c_X11_wantsNothing (l : Launch) (u : Nat) (h : k_H) (hsh : h.1 = shM) {a24 : (Nat → Int32)} (ea24 : h.2.1 24 = a24) {out : (Nat → Int32)} (hf : f_X11_wantsNothing u a24 = some out) : k_CT l yX11_wantsNothing cX11_wantsNothing 2 none 0 0 [.ref 0] h none [(24, .inr (.inr (.inl out)))] := by
  obtain ⟨sh, I, L, Rf⟩ := h
  try dsimp only
  obtain rfl : sh = shM := hsh
  refine k_ofW (by decide) (Nat.le_of_ble_eq_true rfl) ?_
  intro X ad hl hR0 hr C
  have hR : X.R.frames = 0 ∧ X.R.locals = 0 := by rw [hR0]; exact ⟨rfl, rfl⟩
  have h := hf
  unfold f_X11_wantsNothing at h
  refine k_start (us := [(24, .inr (.inr (.inl a24)))]) (k_ao_A ea24 k_ap_0) ?_
  show k_W X 2 0 0 _ ad (k_ap [(24, .inr (.inr (.inl a24)))] (shM, I, L, Rf)) 0 [some (.ref 0), none] []
  refine k_mask [true, false] ?_
  exact sX11_wantsNothing_0 u C hr hR a24 h
/-! LullabyPitModel.adds(I)V -/
theorem ds_X11_adds : k_ds [(24, 2, 0)] = true := by decide +kernel
set_option maxHeartbeats 400000 in
set_option maxRecDepth 100000 in
theorem sX11_adds_2 (u : Nat) {X : k_X} {ad : Nat → Nat} (C : k_C X cX11_adds RX11 3 ad) (hr : X.meth.sig.returnType = none) (hR : X.R.frames = 0 ∧ X.R.locals = 0) {I : Nat → Nat → Int32} {L : Nat → Nat → Int64} {Rf : Nat → Nat → Option Nat} {a10 : (Nat → Int32)} (ea10 : I 10 = a10) {out : (Nat → Int32)} : ∀ (n : Nat) (a24 : (Nat → Int32)) (v1 : Int32) (v2 : Int32), bX11_adds_2 u a10 n a24 v1 v2 = some out → k_W X 3 0 0 (k_Q X ad none (k_ap [(24, .inr (.inr (.inl out)))] (shM, I, L, Rf))) ad (k_ap [(24, .inr (.inr (.inl a24)))] (shM, I, L, Rf)) 2 [some (.ref 0), some (.int v1), some (.int v2)] [] := by
  intro n
  induction n with
  | zero => intro a24 v1 v2 h; cases h
  | succ n ih =>
    intro a24 v1 v2 h
    refine r_iload_n C dX11_adds_2 (rfl : 2 + 1 = 3) rfl ?_
    refine r_aload_n C dX11_adds_3 (rfl : 3 + 1 = 4) rfl ?_
    refine r_getR (q := 10) C dX11_adds_4 (rfl : 4 + 3 = 7) fl_X11_44 rfl rfl ?_
    refine r_bipush (v := (10 : Int32)) C dX11_adds_7 (rfl : 7 + 2 = 9) rfl ?_
    refine r_iload_n C dX11_adds_9 (rfl : 9 + 1 = 10) rfl ?_
    refine r_imul C dX11_adds_10 (rfl : 10 + 1 = 11) ?_
    refine r_iconst (v := (1 : Int32)) C dX11_adds_11 (rfl : 11 + 1 = 12) rfl ?_
    refine r_iadd C dX11_adds_12 (rfl : 12 + 1 = 13) ?_
    obtain ⟨hi13, h⟩ := k_i_of h
    refine a_i (j := ((((10 : Int32) * v1) + (1 : Int32))).toNatClampNeg) (f := a10) C dX11_adds_13 (rfl : 13 + 1 = 14) rfl ea10 hi13 rfl ?_
    refine r_icmp_ge (tgt := 45) C dX11_adds_14 (by decide) (rfl : 14 + 3 = 17) (fun c14 => ?_) (fun c14 => ?_)
    · have h := k_t c14 h
      cases h
      exact r_vret C hr dX11_adds_45
    · have h := k_f c14 h
      refine r_aload_n C dX11_adds_17 (rfl : 17 + 1 = 18) rfl ?_
      refine r_getR (q := 24) C dX11_adds_18 (rfl : 18 + 3 = 21) fl_X11_87 rfl rfl ?_
      refine r_aload_n C dX11_adds_21 (rfl : 21 + 1 = 22) rfl ?_
      refine r_getR (q := 10) C dX11_adds_22 (rfl : 22 + 3 = 25) fl_X11_44 rfl rfl ?_
      refine r_bipush (v := (10 : Int32)) C dX11_adds_25 (rfl : 25 + 2 = 27) rfl ?_
      refine r_iload_n C dX11_adds_27 (rfl : 27 + 1 = 28) rfl ?_
      refine r_imul C dX11_adds_28 (rfl : 28 + 1 = 29) ?_
      refine r_iconst (v := (2 : Int32)) C dX11_adds_29 (rfl : 29 + 1 = 30) rfl ?_
      refine r_iadd C dX11_adds_30 (rfl : 30 + 1 = 31) ?_
      refine r_iload_n C dX11_adds_31 (rfl : 31 + 1 = 32) rfl ?_
      refine r_iadd C dX11_adds_32 (rfl : 32 + 1 = 33) ?_
      obtain ⟨hi33, h⟩ := k_i_of h
      refine a_i (j := (((((10 : Int32) * v1) + (2 : Int32)) + v2)).toNatClampNeg) (f := a10) C dX11_adds_33 (rfl : 33 + 1 = 34) rfl ea10 hi33 rfl ?_
      refine r_dup2 C dX11_adds_34 (rfl : 34 + 1 = 35) rfl rfl ?_
      obtain ⟨hi35, h⟩ := k_i_of h
      refine a_i (j := ((a10 ((((((10 : Int32) * v1) + (2 : Int32)) + v2)).toNatClampNeg))).toNatClampNeg) (f := a24) C dX11_adds_35 (rfl : 35 + 1 = 36) rfl rfl hi35 rfl ?_
      refine r_iconst (v := (1 : Int32)) C dX11_adds_36 (rfl : 36 + 1 = 37) rfl ?_
      refine r_iadd C dX11_adds_37 (rfl : 37 + 1 = 38) ?_
      obtain ⟨hi38, h⟩ := k_i_of h
      refine s_i (j := ((a10 ((((((10 : Int32) * v1) + (2 : Int32)) + v2)).toNatClampNeg))).toNatClampNeg) (f := a24) (us' := [(24, .inr (.inr (.inl (upd a24 (((a10 ((((((10 : Int32) * v1) + (2 : Int32)) + v2)).toNatClampNeg))).toNatClampNeg) ((a24 (((a10 ((((((10 : Int32) * v1) + (2 : Int32)) + v2)).toNatClampNeg))).toNatClampNeg)) + (1 : Int32))))))]) C dX11_adds_38 (rfl : 38 + 1 = 39) rfl rfl hi38 rfl ds_X11_adds rfl rfl rfl ?_
      refine r_iinc (v := (v2 + (1 : Int32))) C dX11_adds_39 (rfl : 39 + 3 = 42) rfl rfl (by decide) ?_
      show k_W _ _ _ _ _ _ _ _ [some (.ref 0), some (.int v1), some (.int (v2 + (1 : Int32)))] _
      refine r_goto (tgt := 2) C dX11_adds_42 (by decide) ?_
      refine k_mask [true, true, true] ?_
      exact ih (upd a24 (((a10 ((((((10 : Int32) * v1) + (2 : Int32)) + v2)).toNatClampNeg))).toNatClampNeg) ((a24 (((a10 ((((((10 : Int32) * v1) + (2 : Int32)) + v2)).toNatClampNeg))).toNatClampNeg)) + (1 : Int32))) v1 (v2 + (1 : Int32)) h
set_option maxHeartbeats 400000 in
set_option maxRecDepth 100000 in
theorem sX11_adds_0 (u : Nat) {X : k_X} {ad : Nat → Nat} (C : k_C X cX11_adds RX11 3 ad) (hr : X.meth.sig.returnType = none) (hR : X.R.frames = 0 ∧ X.R.locals = 0) {I : Nat → Nat → Int32} {L : Nat → Nat → Int64} {Rf : Nat → Nat → Option Nat} {a10 : (Nat → Int32)} (ea10 : I 10 = a10) {out : (Nat → Int32)} : ∀ (a24 : (Nat → Int32)) (v1 : Int32), bX11_adds_0 u a10 a24 v1 = some out → k_W X 3 0 0 (k_Q X ad none (k_ap [(24, .inr (.inr (.inl out)))] (shM, I, L, Rf))) ad (k_ap [(24, .inr (.inr (.inl a24)))] (shM, I, L, Rf)) 0 [some (.ref 0), some (.int v1), none] [] := by
  intro a24 v1 h
  unfold bX11_adds_0 at h
  refine r_iconst (v := (0 : Int32)) C dX11_adds_0 (rfl : 0 + 1 = 1) rfl ?_
  refine r_istore_n C dX11_adds_1 (rfl : 1 + 1 = 2) (by decide) (Nat.le_of_ble_eq_true rfl) ?_
  show k_W _ _ _ _ _ _ _ _ [some (.ref 0), some (.int v1), some (.int (0 : Int32))] _
  refine k_mask [true, true, true] ?_
  exact sX11_adds_2 u C hr hR ea10 u a24 v1 (0 : Int32) h
set_option maxHeartbeats 400000 in
set_option maxRecDepth 100000 in
theorem c_X11_adds (l : Launch) (u : Nat) (h : k_H) (hsh : h.1 = shM) {a10 : (Nat → Int32)} (ea10 : h.2.1 10 = a10) {a24 : (Nat → Int32)} (ea24 : h.2.1 24 = a24) {x0 : Int32} {out : (Nat → Int32)} (hf : f_X11_adds u a10 a24 x0 = some out) : k_CT l yX11_adds cX11_adds 3 none 0 0 [.ref 0, .int x0] h none [(24, .inr (.inr (.inl out)))] := by
  obtain ⟨sh, I, L, Rf⟩ := h
  try dsimp only
  obtain rfl : sh = shM := hsh
  refine k_ofW (by decide) (Nat.le_of_ble_eq_true rfl) ?_
  intro X ad hl hR0 hr C
  have hR : X.R.frames = 0 ∧ X.R.locals = 0 := by rw [hR0]; exact ⟨rfl, rfl⟩
  have h := hf
  unfold f_X11_adds at h
  refine k_start (us := [(24, .inr (.inr (.inl a24)))]) (k_ao_A ea24 k_ap_0) ?_
  show k_W X 3 0 0 _ ad (k_ap [(24, .inr (.inr (.inl a24)))] (shM, I, L, Rf)) 0 [some (.ref 0), some (.int x0), none] []
  refine k_mask [true, true, false] ?_
  exact sX11_adds_0 u C hr hR ea10 a24 x0 h
