/-! LullabyPitModel.comes(II)Z -/
theorem ds_X11_comes : k_ds [(28, 2, 0), (29, 2, 0)] = true := by decide +kernel
set_option maxHeartbeats 400000 in
set_option maxRecDepth 100000 in
theorem sX11_comes_56 (u : Nat) {X : k_X} {ad : Nat → Nat} (C : k_C X cX11_comes RX11 5 ad) (hr : X.meth.sig.returnType = (some .boolean)) (hR : X.R.frames = 1 ∧ X.R.locals = 21) {I : Nat → Nat → Int32} {L : Nat → Nat → Int64} {Rf : Nat → Nat → Option Nat} {a8 : (Nat → Int32)} (ea8 : I 8 = a8) {a21 : (Nat → Int32)} (ea21 : I 21 = a21) {out : Int32 × (Nat → Int32) × (Nat → Int32)} : ∀ (a28 : (Nat → Int32)) (a29 : (Nat → Int32)) (v1 : Int32) (v3 : Int32) (v4 : Int32), bX11_comes_56 u a8 a21 a28 a29 v1 v3 v4 = some out → k_W X 5 0 0 (k_Q X ad (some (.int out.1)) (k_ap [(28, .inr (.inr (.inl out.2.1))), (29, .inr (.inr (.inl out.2.2)))] (shM, I, L, Rf))) ad (k_ap [(28, .inr (.inr (.inl a28))), (29, .inr (.inr (.inl a29)))] (shM, I, L, Rf)) 56 [some (.ref 0), some (.int v1), none, some (.int v3), some (.int v4)] [] := by
  intro a28 a29 v1 v3 v4 h
  unfold bX11_comes_56 at h
  refine r_aload_n C dX11_comes_56 (rfl : 56 + 1 = 57) rfl ?_
  refine r_getR (q := 28) C dX11_comes_57 (rfl : 57 + 3 = 60) fl_X11_99 rfl rfl ?_
  refine r_iload_n C dX11_comes_60 (rfl : 60 + 1 = 61) rfl ?_
  refine r_iload_n C dX11_comes_61 (rfl : 61 + 1 = 62) rfl ?_
  obtain ⟨hi62, h⟩ := k_i_of h
  refine s_i (j := (v1).toNatClampNeg) (f := a28) (us' := [(28, .inr (.inr (.inl (upd a28 ((v1).toNatClampNeg) v3)))), (29, .inr (.inr (.inl a29)))]) C dX11_comes_62 (rfl : 62 + 1 = 63) rfl rfl hi62 rfl ds_X11_comes rfl rfl rfl ?_
  refine r_aload_n C dX11_comes_63 (rfl : 63 + 1 = 64) rfl ?_
  refine r_getR (q := 29) C dX11_comes_64 (rfl : 64 + 3 = 67) fl_X11_102 rfl rfl ?_
  refine r_iload_n C dX11_comes_67 (rfl : 67 + 1 = 68) rfl ?_
  refine r_iload C dX11_comes_68 (rfl : 68 + 2 = 70) rfl ?_
  obtain ⟨hi70, h⟩ := k_i_of h
  refine s_i (j := (v1).toNatClampNeg) (f := a29) (us' := [(28, .inr (.inr (.inl (upd a28 ((v1).toNatClampNeg) v3)))), (29, .inr (.inr (.inl (upd a29 ((v1).toNatClampNeg) v4))))]) C dX11_comes_70 (rfl : 70 + 1 = 71) rfl rfl hi70 rfl ds_X11_comes rfl rfl rfl ?_
  refine r_iconst (v := (1 : Int32)) C dX11_comes_71 (rfl : 71 + 1 = 72) rfl ?_
  cases h
  exact r_zret C hr (Or.inr rfl) dX11_comes_72
set_option maxHeartbeats 400000 in
set_option maxRecDepth 100000 in
theorem sX11_comes_0 (u : Nat) {X : k_X} {ad : Nat → Nat} (C : k_C X cX11_comes RX11 5 ad) (hr : X.meth.sig.returnType = (some .boolean)) (hR : X.R.frames = 1 ∧ X.R.locals = 21) {I : Nat → Nat → Int32} {L : Nat → Nat → Int64} {Rf : Nat → Nat → Option Nat} {a8 : (Nat → Int32)} (ea8 : I 8 = a8) {a21 : (Nat → Int32)} (ea21 : I 21 = a21) {out : Int32 × (Nat → Int32) × (Nat → Int32)} : ∀ (a28 : (Nat → Int32)) (a29 : (Nat → Int32)) (v1 : Int32) (v2 : Int32), bX11_comes_0 u a8 a21 a28 a29 v1 v2 = some out → k_W X 5 0 0 (k_Q X ad (some (.int out.1)) (k_ap [(28, .inr (.inr (.inl out.2.1))), (29, .inr (.inr (.inl out.2.2)))] (shM, I, L, Rf))) ad (k_ap [(28, .inr (.inr (.inl a28))), (29, .inr (.inr (.inl a29)))] (shM, I, L, Rf)) 0 [some (.ref 0), some (.int v1), some (.int v2), none, none] [] := by
  intro a28 a29 v1 v2 h
  unfold bX11_comes_0 at h
  refine r_aload_n C dX11_comes_0 (rfl : 0 + 1 = 1) rfl ?_
  refine r_getR (q := 28) C dX11_comes_1 (rfl : 1 + 3 = 4) fl_X11_99 rfl rfl ?_
  refine r_iload_n C dX11_comes_4 (rfl : 4 + 1 = 5) rfl ?_
  obtain ⟨hi5, h⟩ := k_i_of h
  refine a_i (j := (v2).toNatClampNeg) (f := a28) C dX11_comes_5 (rfl : 5 + 1 = 6) rfl rfl hi5 rfl ?_
  refine r_iconst (v := (1 : Int32)) C dX11_comes_6 (rfl : 6 + 1 = 7) rfl ?_
  refine r_iadd C dX11_comes_7 (rfl : 7 + 1 = 8) ?_
  refine r_istore_n C dX11_comes_8 (rfl : 8 + 1 = 9) (by decide) (Nat.le_of_ble_eq_true rfl) ?_
  show k_W _ _ _ _ _ _ _ _ [some (.ref 0), some (.int v1), some (.int v2), some (.int ((a28 ((v2).toNatClampNeg)) + (1 : Int32))), none] _
  refine r_aload_n C dX11_comes_9 (rfl : 9 + 1 = 10) rfl ?_
  refine r_getR (q := 29) C dX11_comes_10 (rfl : 10 + 3 = 13) fl_X11_102 rfl rfl ?_
  refine r_iload_n C dX11_comes_13 (rfl : 13 + 1 = 14) rfl ?_
  obtain ⟨hi14, h⟩ := k_i_of h
  refine a_i (j := (v2).toNatClampNeg) (f := a29) C dX11_comes_14 (rfl : 14 + 1 = 15) rfl rfl hi14 rfl ?_
  refine r_aload_n C dX11_comes_15 (rfl : 15 + 1 = 16) rfl ?_
  refine r_iload_n C dX11_comes_16 (rfl : 16 + 1 = 17) rfl ?_
  obtain ⟨r17, q17, h⟩ := k_b_of h
  refine d_V (As := [.int v1]) (st := [.int (a29 ((v2).toNatClampNeg))]) (st' := [.int r17, .int (a29 ((v2).toNatClampNeg))]) (h' := k_ap [(28, .inr (.inr (.inl a28))), (29, .inr (.inr (.inl a29)))] (shM, I, L, Rf)) C hR ⟨Nat.zero_le _, Nat.zero_le _⟩ mv_X11_barsIn lk_X11_437 dX11_comes_17 (rfl : 17 + 3 = 20) rfl rfl rfl rfl (c_X11_barsIn X.l u (k_ap [(28, .inr (.inr (.inl a28))), (29, .inr (.inr (.inl a29)))] (shM, I, L, Rf)) rfl ea8 ea21 q17) rfl rfl rfl rfl rfl ?_
  refine r_iadd C dX11_comes_20 (rfl : 20 + 1 = 21) ?_
  refine r_istore C dX11_comes_21 (rfl : 21 + 2 = 23) (by decide) (Nat.le_of_ble_eq_true rfl) ?_
  show k_W _ _ _ _ _ _ _ _ [some (.ref 0), some (.int v1), some (.int v2), some (.int ((a28 ((v2).toNatClampNeg)) + (1 : Int32))), some (.int ((a29 ((v2).toNatClampNeg)) + r17))] _
  refine r_iload_n C dX11_comes_23 (rfl : 23 + 1 = 24) rfl ?_
  refine r_aload_n C dX11_comes_24 (rfl : 24 + 1 = 25) rfl ?_
  refine r_getR (q := 28) C dX11_comes_25 (rfl : 25 + 3 = 28) fl_X11_99 rfl rfl ?_
  refine r_iload_n C dX11_comes_28 (rfl : 28 + 1 = 29) rfl ?_
  obtain ⟨hi29, h⟩ := k_i_of h
  refine a_i (j := (v1).toNatClampNeg) (f := a28) C dX11_comes_29 (rfl : 29 + 1 = 30) rfl rfl hi29 rfl ?_
  refine r_icmp_gt (tgt := 54) C dX11_comes_30 (by decide) (rfl : 30 + 3 = 33) (fun c30 => ?_) (fun c30 => ?_)
  · have h := k_t c30 h
    refine r_iconst (v := (0 : Int32)) C dX11_comes_54 (rfl : 54 + 1 = 55) rfl ?_
    cases h
    exact r_zret C hr (Or.inl rfl) dX11_comes_55
  · have h := k_f c30 h
    refine r_iload_n C dX11_comes_33 (rfl : 33 + 1 = 34) rfl ?_
    refine r_aload_n C dX11_comes_34 (rfl : 34 + 1 = 35) rfl ?_
    refine r_getR (q := 28) C dX11_comes_35 (rfl : 35 + 3 = 38) fl_X11_99 rfl rfl ?_
    refine r_iload_n C dX11_comes_38 (rfl : 38 + 1 = 39) rfl ?_
    obtain ⟨hi39, h⟩ := k_i_of h
    refine a_i (j := (v1).toNatClampNeg) (f := a28) C dX11_comes_39 (rfl : 39 + 1 = 40) rfl rfl hi39 rfl ?_
    refine r_icmp_ne (tgt := 56) C dX11_comes_40 (by decide) (rfl : 40 + 3 = 43) (fun c40 => ?_) (fun c40 => ?_)
    · have h := k_f c40 h
      refine k_mask [true, true, false, true, true] ?_
      exact sX11_comes_56 u C hr hR ea8 ea21 a28 a29 v1 ((a28 ((v2).toNatClampNeg)) + (1 : Int32)) ((a29 ((v2).toNatClampNeg)) + r17) h
    · have h := k_t c40 h
      refine r_iload C dX11_comes_43 (rfl : 43 + 2 = 45) rfl ?_
      refine r_aload_n C dX11_comes_45 (rfl : 45 + 1 = 46) rfl ?_
      refine r_getR (q := 29) C dX11_comes_46 (rfl : 46 + 3 = 49) fl_X11_102 rfl rfl ?_
      refine r_iload_n C dX11_comes_49 (rfl : 49 + 1 = 50) rfl ?_
      obtain ⟨hi50, h⟩ := k_i_of h
      refine a_i (j := (v1).toNatClampNeg) (f := a29) C dX11_comes_50 (rfl : 50 + 1 = 51) rfl rfl hi50 rfl ?_
      refine r_icmp_gt (tgt := 56) C dX11_comes_51 (by decide) (rfl : 51 + 3 = 54) (fun c51 => ?_) (fun c51 => ?_)
      · have h := k_t c51 h
        refine k_mask [true, true, false, true, true] ?_
        exact sX11_comes_56 u C hr hR ea8 ea21 a28 a29 v1 ((a28 ((v2).toNatClampNeg)) + (1 : Int32)) ((a29 ((v2).toNatClampNeg)) + r17) h
      · have h := k_f c51 h
        refine r_iconst (v := (0 : Int32)) C dX11_comes_54 (rfl : 54 + 1 = 55) rfl ?_
        cases h
        exact r_zret C hr (Or.inl rfl) dX11_comes_55
set_option maxHeartbeats 400000 in
set_option maxRecDepth 100000 in
theorem c_X11_comes (l : Launch) (u : Nat) (h : k_H) (hsh : h.1 = shM) {a8 : (Nat → Int32)} (ea8 : h.2.1 8 = a8) {a21 : (Nat → Int32)} (ea21 : h.2.1 21 = a21) {a28 : (Nat → Int32)} (ea28 : h.2.1 28 = a28) {a29 : (Nat → Int32)} (ea29 : h.2.1 29 = a29) {x0 : Int32} {x1 : Int32} {out : Int32 × (Nat → Int32) × (Nat → Int32)} (hf : f_X11_comes u a8 a21 a28 a29 x0 x1 = some out) : k_CT l yX11_comes cX11_comes 5 (some .boolean) 1 21 [.ref 0, .int x0, .int x1] h (some (.int out.1)) [(28, .inr (.inr (.inl out.2.1))), (29, .inr (.inr (.inl out.2.2)))] := by
  obtain ⟨sh, I, L, Rf⟩ := h
  try dsimp only
  obtain rfl : sh = shM := hsh
  refine k_ofW (by decide) (Nat.le_of_ble_eq_true rfl) ?_
  intro X ad hl hR0 hr C
  have hR : X.R.frames = 1 ∧ X.R.locals = 21 := by rw [hR0]; exact ⟨rfl, rfl⟩
  have h := hf
  unfold f_X11_comes at h
  refine k_start (us := [(28, .inr (.inr (.inl a28))), (29, .inr (.inr (.inl a29)))]) (k_ao_A ea28 (k_ao_A ea29 k_ap_0)) ?_
  show k_W X 5 0 0 _ ad (k_ap [(28, .inr (.inr (.inl a28))), (29, .inr (.inr (.inl a29)))] (shM, I, L, Rf)) 0 [some (.ref 0), some (.int x0), some (.int x1), none, none] []
  refine k_mask [true, true, true, false, false] ?_
  exact sX11_comes_0 u C hr hR ea8 ea21 a28 a29 x0 x1 h
