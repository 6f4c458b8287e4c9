/-! LullabyPit$Mine.penceLeft(I)I -/
theorem ds_X3_penceLeft : k_ds [] = true := by decide +kernel
set_option maxHeartbeats 400000 in
set_option maxRecDepth 100000 in
theorem sX3_penceLeft_0 (u : Nat) {X : k_X} {ad : Nat → Nat} (C : k_C X cX3_penceLeft RX3 3 ad) (hr : X.meth.sig.returnType = (some .int)) (hR : X.R.frames = 2 ∧ X.R.locals = 42) {I : Nat → Nat → Int32} {L : Nat → Nat → Int64} {Rf : Nat → Nat → Option Nat} {c0_3 : Int64} (ec0_3 : L 0 3 = c0_3) {c0_4 : Int64} (ec0_4 : L 0 4 = c0_4) {c0_5 : Int64} (ec0_5 : L 0 5 = c0_5) {a6 : (Nat → Int32)} (ea6 : I 6 = a6) {a7 : (Nat → Int32)} (ea7 : I 7 = a7) {a8 : (Nat → Int32)} (ea8 : I 8 = a8) {out : Int32} : ∀ (v1 : Int32), bX3_penceLeft_0 u c0_3 c0_4 c0_5 a6 a7 a8 v1 = some out → k_W X 3 0 0 (k_Q X ad (some (.int out)) (k_ap [] (shMine, I, L, Rf))) ad (k_ap [] (shMine, I, L, Rf)) 0 [some (.ref 0), some (.int v1), none] [] := by
  intro v1 h
  unfold bX3_penceLeft_0 at h
  refine r_aload_n C dX3_penceLeft_0 (rfl : 0 + 1 = 1) rfl ?_
  refine r_iload_n C dX3_penceLeft_1 (rfl : 1 + 1 = 2) rfl ?_
  obtain ⟨r2, q2, h⟩ := k_b_of h
  refine d_V (As := [.int v1]) (st := []) (st' := [.int r2]) (h' := k_ap [] (shMine, I, L, Rf)) C hR ⟨Nat.zero_le _, Nat.zero_le _⟩ mv_X3_barsLeft lk_X3_130 dX3_penceLeft_2 (rfl : 2 + 3 = 5) rfl rfl rfl rfl (c_X3_barsLeft X.l u (k_ap [] (shMine, I, L, Rf)) rfl ec0_3 ec0_4 ec0_5 ea7 q2) rfl rfl rfl rfl rfl ?_
  refine r_istore_n C dX3_penceLeft_5 (rfl : 5 + 1 = 6) (by decide) (Nat.le_of_ble_eq_true rfl) ?_
  show k_W _ _ _ _ _ _ _ _ [some (.ref 0), some (.int v1), some (.int r2)] _
  refine r_iload_n C dX3_penceLeft_6 (rfl : 6 + 1 = 7) rfl ?_
  refine r_if_le (tgt := 32) C dX3_penceLeft_7 (by decide) (rfl : 7 + 3 = 10) (fun c7 => ?_) (fun c7 => ?_)
  · have h := k_t c7 h
    refine r_iconst (v := (0 : Int32)) C dX3_penceLeft_32 (rfl : 32 + 1 = 33) rfl ?_
    cases h
    exact r_iret C hr dX3_penceLeft_33
  · have h := k_f c7 h
    refine r_iload_n C dX3_penceLeft_10 (rfl : 10 + 1 = 11) rfl ?_
    refine r_aload_n C dX3_penceLeft_11 (rfl : 11 + 1 = 12) rfl ?_
    refine r_getR (q := 5) C dX3_penceLeft_12 (rfl : 12 + 3 = 15) fl_X3_24 rfl rfl ?_
    refine r_getR (q := 8) C dX3_penceLeft_15 (rfl : 15 + 3 = 18) fl_X3_134 rfl rfl ?_
    refine r_aload_n C dX3_penceLeft_18 (rfl : 18 + 1 = 19) rfl ?_
    refine r_getR (q := 5) C dX3_penceLeft_19 (rfl : 19 + 3 = 22) fl_X3_24 rfl rfl ?_
    refine r_getR (q := 6) C dX3_penceLeft_22 (rfl : 22 + 3 = 25) fl_X3_137 rfl rfl ?_
    refine r_iload_n C dX3_penceLeft_25 (rfl : 25 + 1 = 26) rfl ?_
    obtain ⟨hi26, h⟩ := k_i_of h
    refine a_i (j := (v1).toNatClampNeg) (f := a6) C dX3_penceLeft_26 (rfl : 26 + 1 = 27) rfl ea6 hi26 rfl ?_
    obtain ⟨hi27, h⟩ := k_i_of h
    refine a_i (j := ((a6 ((v1).toNatClampNeg))).toNatClampNeg) (f := a8) C dX3_penceLeft_27 (rfl : 27 + 1 = 28) rfl ea8 hi27 rfl ?_
    refine r_imul C dX3_penceLeft_28 (rfl : 28 + 1 = 29) ?_
    refine r_goto (tgt := 33) C dX3_penceLeft_29 (by decide) ?_
    cases h
    exact r_iret C hr dX3_penceLeft_33
set_option maxHeartbeats 400000 in
set_option maxRecDepth 100000 in
theorem c_X3_penceLeft (l : Launch) (u : Nat) (h : k_H) (hsh : h.1 = shMine) {c0_3 : Int64} (ec0_3 : h.2.2.1 0 3 = c0_3) {c0_4 : Int64} (ec0_4 : h.2.2.1 0 4 = c0_4) {c0_5 : Int64} (ec0_5 : h.2.2.1 0 5 = c0_5) {a6 : (Nat → Int32)} (ea6 : h.2.1 6 = a6) {a7 : (Nat → Int32)} (ea7 : h.2.1 7 = a7) {a8 : (Nat → Int32)} (ea8 : h.2.1 8 = a8) {x0 : Int32} {out : Int32} (hf : f_X3_penceLeft u c0_3 c0_4 c0_5 a6 a7 a8 x0 = some out) : k_CT l yX3_penceLeft cX3_penceLeft 3 (some .int) 2 42 [.ref 0, .int x0] h (some (.int out)) [] := by
  obtain ⟨sh, I, L, Rf⟩ := h
  try dsimp only
  obtain rfl : sh = shMine := hsh
  refine k_ofW (by decide) (Nat.le_of_ble_eq_true rfl) ?_
  intro X ad hl hR0 hr C
  have hR : X.R.frames = 2 ∧ X.R.locals = 42 := by rw [hR0]; exact ⟨rfl, rfl⟩
  have h := hf
  unfold f_X3_penceLeft at h
  refine k_start (us := []) k_ap_0 ?_
  show k_W X 3 0 0 _ ad (k_ap [] (shMine, I, L, Rf)) 0 [some (.ref 0), some (.int x0), none] []
  refine k_mask [true, true, false] ?_
  exact sX3_penceLeft_0 u C hr hR ec0_3 ec0_4 ec0_5 ea6 ea7 ea8 x0 h
/-! LullabyPit$Mine.harmOf(I)I -/
theorem ds_X3_harmOf : k_ds [(17, 2, 0)] = true := by decide +kernel
set_option maxHeartbeats 400000 in
set_option maxRecDepth 100000 in
theorem sX3_harmOf_0 (u : Nat) {X : k_X} {ad : Nat → Nat} (C : k_C X cX3_harmOf RX3 3 ad) (hr : X.meth.sig.returnType = (some .int)) (hR : X.R.frames = 3 ∧ X.R.locals = 73) {I : Nat → Nat → Int32} {L : Nat → Nat → Int64} {Rf : Nat → Nat → Option Nat} {c0_10 : Int32} (ec0_10 : I 0 10 = c0_10) {c0_3 : Int64} (ec0_3 : L 0 3 = c0_3) {c0_4 : Int64} (ec0_4 : L 0 4 = c0_4) {a6 : (Nat → Int32)} (ea6 : I 6 = a6) {a7 : (Nat → Int32)} (ea7 : I 7 = a7) {c15_2 : Int32} (ec15_2 : I 15 2 = c15_2) {a16 : (Nat → Int32)} (ea16 : I 16 = a16) {out : Int32 × (Nat → Int32)} : ∀ (a17 : (Nat → Int32)) (v1 : Int32), bX3_harmOf_0 u c0_10 c0_3 c0_4 a6 a7 c15_2 a16 a17 v1 = some out → k_W X 3 0 0 (k_Q X ad (some (.int out.1)) (k_ap [(17, .inr (.inr (.inl out.2)))] (shMine, I, L, Rf))) ad (k_ap [(17, .inr (.inr (.inl a17)))] (shMine, I, L, Rf)) 0 [some (.ref 0), some (.int v1), none] [] := by
  intro a17 v1 h
  unfold bX3_harmOf_0 at h
  refine r_aload_n C dX3_harmOf_0 (rfl : 0 + 1 = 1) rfl ?_
  refine r_getR (q := 15) C dX3_harmOf_1 (rfl : 1 + 3 = 4) fl_X3_32 rfl rfl ?_
  refine r_aload_n C dX3_harmOf_4 (rfl : 4 + 1 = 5) rfl ?_
  refine r_iload_n C dX3_harmOf_5 (rfl : 5 + 1 = 6) rfl ?_
  refine r_iconst (v := (1 : Int32)) C dX3_harmOf_6 (rfl : 6 + 1 = 7) rfl ?_
  obtain ⟨r7, q7, h⟩ := k_b_of h
  refine d_V (As := [.ref 0, .int v1, .int (1 : Int32)]) (st := []) (st' := [.int r7.1]) (h' := k_ap [(17, .inr (.inr (.inl r7.2)))] (shMine, I, L, Rf)) C hR ⟨Nat.zero_le _, Nat.zero_le _⟩ mv_X1_value lk_X3_149 dX3_harmOf_7 (rfl : 7 + 3 = 10) rfl rfl rfl rfl (c_X1_value_H X.l u (k_ap [(17, .inr (.inr (.inl a17)))] (shMine, I, L, Rf)) rfl ec0_10 ec0_3 ec0_4 ea6 ea7 ec15_2 ea16 rfl q7) rfl rfl rfl (k_jn (us' := [(17, .inr (.inr (.inl r7.2)))]) ds_X3_harmOf rfl rfl rfl) rfl ?_
  refine r_istore_n C dX3_harmOf_10 (rfl : 10 + 1 = 11) (by decide) (Nat.le_of_ble_eq_true rfl) ?_
  show k_W _ _ _ _ _ _ _ _ [some (.ref 0), some (.int v1), some (.int r7.1)] _
  refine r_iload_n C dX3_harmOf_11 (rfl : 11 + 1 = 12) rfl ?_
  refine r_if_ge (tgt := 17) C dX3_harmOf_12 (by decide) (rfl : 12 + 3 = 15) (fun c12 => ?_) (fun c12 => ?_)
  · have h := k_t c12 h
    refine r_iload_n C dX3_harmOf_17 (rfl : 17 + 1 = 18) rfl ?_
    refine r_bipush (v := (99 : Int32)) C dX3_harmOf_18 (rfl : 18 + 2 = 20) rfl ?_
    refine r_icmp_le (tgt := 28) C dX3_harmOf_20 (by decide) (rfl : 20 + 3 = 23) (fun c20 => ?_) (fun c20 => ?_)
    · have h := k_t c20 h
      refine r_iload_n C dX3_harmOf_28 (rfl : 28 + 1 = 29) rfl ?_
      cases h
      exact r_iret C hr dX3_harmOf_29
    · have h := k_f c20 h
      refine r_bipush (v := (99 : Int32)) C dX3_harmOf_23 (rfl : 23 + 2 = 25) rfl ?_
      refine r_goto (tgt := 29) C dX3_harmOf_25 (by decide) ?_
      cases h
      exact r_iret C hr dX3_harmOf_29
  · have h := k_f c12 h
    refine r_iconst (v := (0 : Int32)) C dX3_harmOf_15 (rfl : 15 + 1 = 16) rfl ?_
    cases h
    exact r_iret C hr dX3_harmOf_16
set_option maxHeartbeats 400000 in
set_option maxRecDepth 100000 in
theorem c_X3_harmOf (l : Launch) (u : Nat) (h : k_H) (hsh : h.1 = shMine) {c0_10 : Int32} (ec0_10 : h.2.1 0 10 = c0_10) {c0_3 : Int64} (ec0_3 : h.2.2.1 0 3 = c0_3) {c0_4 : Int64} (ec0_4 : h.2.2.1 0 4 = c0_4) {a6 : (Nat → Int32)} (ea6 : h.2.1 6 = a6) {a7 : (Nat → Int32)} (ea7 : h.2.1 7 = a7) {c15_2 : Int32} (ec15_2 : h.2.1 15 2 = c15_2) {a16 : (Nat → Int32)} (ea16 : h.2.1 16 = a16) {a17 : (Nat → Int32)} (ea17 : h.2.1 17 = a17) {x0 : Int32} {out : Int32 × (Nat → Int32)} (hf : f_X3_harmOf u c0_10 c0_3 c0_4 a6 a7 c15_2 a16 a17 x0 = some out) : k_CT l yX3_harmOf cX3_harmOf 3 (some .int) 3 73 [.ref 0, .int x0] h (some (.int out.1)) [(17, .inr (.inr (.inl out.2)))] := by
  obtain ⟨sh, I, L, Rf⟩ := h
  try dsimp only
  obtain rfl : sh = shMine := hsh
  refine k_ofW (by decide) (Nat.le_of_ble_eq_true rfl) ?_
  intro X ad hl hR0 hr C
  have hR : X.R.frames = 3 ∧ X.R.locals = 73 := by rw [hR0]; exact ⟨rfl, rfl⟩
  have h := hf
  unfold f_X3_harmOf at h
  refine k_start (us := [(17, .inr (.inr (.inl a17)))]) (k_ao_A ea17 k_ap_0) ?_
  show k_W X 3 0 0 _ ad (k_ap [(17, .inr (.inr (.inl a17)))] (shMine, I, L, Rf)) 0 [some (.ref 0), some (.int x0), none] []
  refine k_mask [true, true, false] ?_
  exact sX3_harmOf_0 u C hr hR ec0_10 ec0_3 ec0_4 ea6 ea7 ec15_2 ea16 a17 x0 h
/-! LullabyPit$Mine.wouldFall(I)Z -/
theorem ds_X3_wouldFall : k_ds [(14, 2, 0)] = true := by decide +kernel
set_option maxHeartbeats 400000 in
set_option maxRecDepth 100000 in
theorem sX3_wouldFall_0 (u : Nat) {X : k_X} {ad : Nat → Nat} (C : k_C X cX3_wouldFall RX3 2 ad) (hr : X.meth.sig.returnType = (some .boolean)) (hR : X.R.frames = 3 ∧ X.R.locals = 73) {I : Nat → Nat → Int32} {L : Nat → Nat → Int64} {Rf : Nat → Nat → Option Nat} {c0_10 : Int32} (ec0_10 : I 0 10 = c0_10) {c0_3 : Int64} (ec0_3 : L 0 3 = c0_3) {c0_4 : Int64} (ec0_4 : L 0 4 = c0_4) {a6 : (Nat → Int32)} (ea6 : I 6 = a6) {a7 : (Nat → Int32)} (ea7 : I 7 = a7) {c12_2 : Int32} (ec12_2 : I 12 2 = c12_2) {a13 : (Nat → Int32)} (ea13 : I 13 = a13) {out : Int32 × (Nat → Int32)} : ∀ (a14 : (Nat → Int32)) (v1 : Int32), bX3_wouldFall_0 u c0_10 c0_3 c0_4 a6 a7 c12_2 a13 a14 v1 = some out → k_W X 2 0 0 (k_Q X ad (some (.int out.1)) (k_ap [(14, .inr (.inr (.inl out.2)))] (shMine, I, L, Rf))) ad (k_ap [(14, .inr (.inr (.inl a14)))] (shMine, I, L, Rf)) 0 [some (.ref 0), some (.int v1)] [] := by
  intro a14 v1 h
  unfold bX3_wouldFall_0 at h
  refine r_aload_n C dX3_wouldFall_0 (rfl : 0 + 1 = 1) rfl ?_
  refine r_getL (v := c0_3) C dX3_wouldFall_1 (rfl : 1 + 3 = 4) fl_X3_35 rfl rfl ec0_3 ?_
  refine r_iload_n C dX3_wouldFall_4 (rfl : 4 + 1 = 5) rfl ?_
  refine r_lushr C dX3_wouldFall_5 (rfl : 5 + 1 = 6) ?_
  refine r_lconst (v := (1 : Int64)) C dX3_wouldFall_6 (rfl : 6 + 1 = 7) rfl ?_
  refine r_land C dX3_wouldFall_7 (rfl : 7 + 1 = 8) ?_
  refine r_lconst (v := (0 : Int64)) C dX3_wouldFall_8 (rfl : 8 + 1 = 9) rfl ?_
  refine r_lcmp C dX3_wouldFall_9 (rfl : 9 + 1 = 10) ?_
  refine r_if_eq (tgt := 30) C dX3_wouldFall_10 (by decide) (rfl : 10 + 3 = 13) (fun c10 => ?_) (fun c10 => ?_)
  · have h := k_t c10 h
    refine r_iconst (v := (0 : Int32)) C dX3_wouldFall_30 (rfl : 30 + 1 = 31) rfl ?_
    cases h
    exact r_zret C hr (Or.inl rfl) dX3_wouldFall_31
  · have h := k_f c10 h
    refine r_aload_n C dX3_wouldFall_13 (rfl : 13 + 1 = 14) rfl ?_
    refine r_getR (q := 12) C dX3_wouldFall_14 (rfl : 14 + 3 = 17) fl_X3_28 rfl rfl ?_
    refine r_aload_n C dX3_wouldFall_17 (rfl : 17 + 1 = 18) rfl ?_
    refine r_iload_n C dX3_wouldFall_18 (rfl : 18 + 1 = 19) rfl ?_
    refine r_iconst (v := (0 : Int32)) C dX3_wouldFall_19 (rfl : 19 + 1 = 20) rfl ?_
    obtain ⟨r20, q20, h⟩ := k_b_of h
    refine d_V (As := [.ref 0, .int v1, .int (0 : Int32)]) (st := []) (st' := [.int r20.1]) (h' := k_ap [(14, .inr (.inr (.inl r20.2)))] (shMine, I, L, Rf)) C hR ⟨Nat.zero_le _, Nat.zero_le _⟩ mv_X1_value lk_X3_149 dX3_wouldFall_20 (rfl : 20 + 3 = 23) rfl rfl rfl rfl (c_X1_value_F X.l u (k_ap [(14, .inr (.inr (.inl a14)))] (shMine, I, L, Rf)) rfl ec0_10 ec0_3 ec0_4 ea6 ea7 ec12_2 ea13 rfl q20) rfl rfl rfl (k_jn (us' := [(14, .inr (.inr (.inl r20.2)))]) ds_X3_wouldFall rfl rfl rfl) rfl ?_
    refine r_if_le (tgt := 30) C dX3_wouldFall_23 (by decide) (rfl : 23 + 3 = 26) (fun c23 => ?_) (fun c23 => ?_)
    · have h := k_t c23 h
      refine r_iconst (v := (0 : Int32)) C dX3_wouldFall_30 (rfl : 30 + 1 = 31) rfl ?_
      cases h
      exact r_zret C hr (Or.inl rfl) dX3_wouldFall_31
    · have h := k_f c23 h
      refine r_iconst (v := (1 : Int32)) C dX3_wouldFall_26 (rfl : 26 + 1 = 27) rfl ?_
      refine r_goto (tgt := 31) C dX3_wouldFall_27 (by decide) ?_
      cases h
      exact r_zret C hr (Or.inr rfl) dX3_wouldFall_31
set_option maxHeartbeats 400000 in
set_option maxRecDepth 100000 in
theorem c_X3_wouldFall (l : Launch) (u : Nat) (h : k_H) (hsh : h.1 = shMine) {c0_10 : Int32} (ec0_10 : h.2.1 0 10 = c0_10) {c0_3 : Int64} (ec0_3 : h.2.2.1 0 3 = c0_3) {c0_4 : Int64} (ec0_4 : h.2.2.1 0 4 = c0_4) {a6 : (Nat → Int32)} (ea6 : h.2.1 6 = a6) {a7 : (Nat → Int32)} (ea7 : h.2.1 7 = a7) {c12_2 : Int32} (ec12_2 : h.2.1 12 2 = c12_2) {a13 : (Nat → Int32)} (ea13 : h.2.1 13 = a13) {a14 : (Nat → Int32)} (ea14 : h.2.1 14 = a14) {x0 : Int32} {out : Int32 × (Nat → Int32)} (hf : f_X3_wouldFall u c0_10 c0_3 c0_4 a6 a7 c12_2 a13 a14 x0 = some out) : k_CT l yX3_wouldFall cX3_wouldFall 2 (some .boolean) 3 73 [.ref 0, .int x0] h (some (.int out.1)) [(14, .inr (.inr (.inl out.2)))] := by
  obtain ⟨sh, I, L, Rf⟩ := h
  try dsimp only
  obtain rfl : sh = shMine := hsh
  refine k_ofW (by decide) (Nat.le_of_ble_eq_true rfl) ?_
  intro X ad hl hR0 hr C
  have hR : X.R.frames = 3 ∧ X.R.locals = 73 := by rw [hR0]; exact ⟨rfl, rfl⟩
  have h := hf
  unfold f_X3_wouldFall at h
  refine k_start (us := [(14, .inr (.inr (.inl a14)))]) (k_ao_A ea14 k_ap_0) ?_
  show k_W X 2 0 0 _ ad (k_ap [(14, .inr (.inr (.inl a14)))] (shMine, I, L, Rf)) 0 [some (.ref 0), some (.int x0)] []
  refine k_mask [true, true] ?_
  exact sX3_wouldFall_0 u C hr hR ec0_10 ec0_3 ec0_4 ea6 ea7 ec12_2 ea13 a14 x0 h
/-! LullabyPit$Mine.doomedCells()J -/
theorem ds_X3_doomedCells : k_ds [(14, 2, 0)] = true := by decide +kernel
set_option maxHeartbeats 400000 in
set_option maxRecDepth 100000 in
theorem sX3_doomedCells_42 (u : Nat) {X : k_X} {ad : Nat → Nat} (C : k_C X cX3_doomedCells RX3 4 ad) (hr : X.meth.sig.returnType = (some .long)) (hR : X.R.frames = 3 ∧ X.R.locals = 73) {I : Nat → Nat → Int32} {L : Nat → Nat → Int64} {Rf : Nat → Nat → Option Nat} {c0_10 : Int32} (ec0_10 : I 0 10 = c0_10) {c0_3 : Int64} (ec0_3 : L 0 3 = c0_3) {c0_4 : Int64} (ec0_4 : L 0 4 = c0_4) {a6 : (Nat → Int32)} (ea6 : I 6 = a6) {a7 : (Nat → Int32)} (ea7 : I 7 = a7) {c12_2 : Int32} (ec12_2 : I 12 2 = c12_2) {a13 : (Nat → Int32)} (ea13 : I 13 = a13) {out : Int64 × (Nat → Int32)} {k4 : (Nat → Int32) → Int64 → Int32 → Option (Int64 × (Nat → Int32))} (hk4 : ∀ (a14 : (Nat → Int32)) (v1 : Int64) (v3 : Int32), k4 a14 v1 v3 = some out → k_W X 4 0 0 (k_Q X ad (some (.long out.1)) (k_ap [(14, .inr (.inr (.inl out.2)))] (shMine, I, L, Rf))) ad (k_ap [(14, .inr (.inr (.inl a14)))] (shMine, I, L, Rf)) 4 [some (.ref 0), some (.long v1), none, some (.int v3)] []) : ∀ (a14 : (Nat → Int32)) (v1 : Int64) (v3 : Int32), bX3_doomedCells_42 u c0_10 c0_3 c0_4 a6 a7 c12_2 a13 k4 a14 v1 v3 = some out → k_W X 4 0 0 (k_Q X ad (some (.long out.1)) (k_ap [(14, .inr (.inr (.inl out.2)))] (shMine, I, L, Rf))) ad (k_ap [(14, .inr (.inr (.inl a14)))] (shMine, I, L, Rf)) 42 [some (.ref 0), some (.long v1), none, some (.int v3)] [] := by
  intro a14 v1 v3 h
  unfold bX3_doomedCells_42 at h
  refine r_iinc (v := (v3 + (1 : Int32))) C dX3_doomedCells_42 (rfl : 42 + 3 = 45) rfl rfl (by decide) ?_
  show k_W _ _ _ _ _ _ _ _ [some (.ref 0), some (.long v1), none, some (.int (v3 + (1 : Int32)))] _
  refine r_goto (tgt := 4) C dX3_doomedCells_45 (by decide) ?_
  refine k_mask [true, true, false, true] ?_
  exact hk4 a14 v1 (v3 + (1 : Int32)) h
set_option maxHeartbeats 400000 in
set_option maxRecDepth 100000 in
theorem sX3_doomedCells_4 (u : Nat) {X : k_X} {ad : Nat → Nat} (C : k_C X cX3_doomedCells RX3 4 ad) (hr : X.meth.sig.returnType = (some .long)) (hR : X.R.frames = 3 ∧ X.R.locals = 73) {I : Nat → Nat → Int32} {L : Nat → Nat → Int64} {Rf : Nat → Nat → Option Nat} {c0_10 : Int32} (ec0_10 : I 0 10 = c0_10) {c0_3 : Int64} (ec0_3 : L 0 3 = c0_3) {c0_4 : Int64} (ec0_4 : L 0 4 = c0_4) {a6 : (Nat → Int32)} (ea6 : I 6 = a6) {a7 : (Nat → Int32)} (ea7 : I 7 = a7) {c12_2 : Int32} (ec12_2 : I 12 2 = c12_2) {a13 : (Nat → Int32)} (ea13 : I 13 = a13) {out : Int64 × (Nat → Int32)} : ∀ (n : Nat) (a14 : (Nat → Int32)) (v1 : Int64) (v3 : Int32), bX3_doomedCells_4 u c0_10 c0_3 c0_4 a6 a7 c12_2 a13 n a14 v1 v3 = some out → k_W X 4 0 0 (k_Q X ad (some (.long out.1)) (k_ap [(14, .inr (.inr (.inl out.2)))] (shMine, I, L, Rf))) ad (k_ap [(14, .inr (.inr (.inl a14)))] (shMine, I, L, Rf)) 4 [some (.ref 0), some (.long v1), none, some (.int v3)] [] := by
  intro n
  induction n with
  | zero => intro a14 v1 v3 h; cases h
  | succ n ih =>
    intro a14 v1 v3 h
    refine r_iload_n C dX3_doomedCells_4 (rfl : 4 + 1 = 5) rfl ?_
    refine r_bipush (v := (48 : Int32)) C dX3_doomedCells_5 (rfl : 5 + 2 = 7) rfl ?_
    refine r_icmp_ge (tgt := 48) C dX3_doomedCells_7 (by decide) (rfl : 7 + 3 = 10) (fun c7 => ?_) (fun c7 => ?_)
    · have h := k_t c7 h
      refine r_lload_n C dX3_doomedCells_48 (rfl : 48 + 1 = 49) rfl ?_
      cases h
      exact r_lret C hr dX3_doomedCells_49
    · have h := k_f c7 h
      refine r_aload_n C dX3_doomedCells_10 (rfl : 10 + 1 = 11) rfl ?_
      refine r_getL (v := c0_3) C dX3_doomedCells_11 (rfl : 11 + 3 = 14) fl_X3_35 rfl rfl ec0_3 ?_
      refine r_iload_n C dX3_doomedCells_14 (rfl : 14 + 1 = 15) rfl ?_
      refine r_lushr C dX3_doomedCells_15 (rfl : 15 + 1 = 16) ?_
      refine r_lconst (v := (1 : Int64)) C dX3_doomedCells_16 (rfl : 16 + 1 = 17) rfl ?_
      refine r_land C dX3_doomedCells_17 (rfl : 17 + 1 = 18) ?_
      refine r_lconst (v := (0 : Int64)) C dX3_doomedCells_18 (rfl : 18 + 1 = 19) rfl ?_
      refine r_lcmp C dX3_doomedCells_19 (rfl : 19 + 1 = 20) ?_
      refine r_if_eq (tgt := 42) C dX3_doomedCells_20 (by decide) (rfl : 20 + 3 = 23) (fun c20 => ?_) (fun c20 => ?_)
      · have h := k_t c20 h
        refine k_mask [true, true, false, true] ?_
        exact sX3_doomedCells_42 u C hr hR ec0_10 ec0_3 ec0_4 ea6 ea7 ec12_2 ea13 ih a14 v1 v3 h
      · have h := k_f c20 h
        refine r_aload_n C dX3_doomedCells_23 (rfl : 23 + 1 = 24) rfl ?_
        refine r_getR (q := 12) C dX3_doomedCells_24 (rfl : 24 + 3 = 27) fl_X3_28 rfl rfl ?_
        refine r_aload_n C dX3_doomedCells_27 (rfl : 27 + 1 = 28) rfl ?_
        refine r_iload_n C dX3_doomedCells_28 (rfl : 28 + 1 = 29) rfl ?_
        refine r_iconst (v := (0 : Int32)) C dX3_doomedCells_29 (rfl : 29 + 1 = 30) rfl ?_
        obtain ⟨r30, q30, h⟩ := k_b_of h
        refine d_V (As := [.ref 0, .int v3, .int (0 : Int32)]) (st := []) (st' := [.int r30.1]) (h' := k_ap [(14, .inr (.inr (.inl r30.2)))] (shMine, I, L, Rf)) C hR ⟨Nat.zero_le _, Nat.zero_le _⟩ mv_X1_value lk_X3_149 dX3_doomedCells_30 (rfl : 30 + 3 = 33) rfl rfl rfl rfl (c_X1_value_F X.l u (k_ap [(14, .inr (.inr (.inl a14)))] (shMine, I, L, Rf)) rfl ec0_10 ec0_3 ec0_4 ea6 ea7 ec12_2 ea13 rfl q30) rfl rfl rfl (k_jn (us' := [(14, .inr (.inr (.inl r30.2)))]) ds_X3_doomedCells rfl rfl rfl) rfl ?_
        refine r_if_le (tgt := 42) C dX3_doomedCells_33 (by decide) (rfl : 33 + 3 = 36) (fun c33 => ?_) (fun c33 => ?_)
        · have h := k_t c33 h
          refine k_mask [true, true, false, true] ?_
          exact sX3_doomedCells_42 u C hr hR ec0_10 ec0_3 ec0_4 ea6 ea7 ec12_2 ea13 ih r30.2 v1 v3 h
        · have h := k_f c33 h
          refine r_lload_n C dX3_doomedCells_36 (rfl : 36 + 1 = 37) rfl ?_
          refine r_lconst (v := (1 : Int64)) C dX3_doomedCells_37 (rfl : 37 + 1 = 38) rfl ?_
          refine r_iload_n C dX3_doomedCells_38 (rfl : 38 + 1 = 39) rfl ?_
          refine r_lshl C dX3_doomedCells_39 (rfl : 39 + 1 = 40) ?_
          refine r_lor C dX3_doomedCells_40 (rfl : 40 + 1 = 41) ?_
          refine r_lstore_n C dX3_doomedCells_41 (rfl : 41 + 1 = 42) (by decide) (Nat.le_of_ble_eq_true rfl) ?_
          show k_W _ _ _ _ _ _ _ _ [some (.ref 0), some (.long (v1 ||| ((1 : Int64) <<< ((v3).toInt64 &&& 63)))), none, some (.int v3)] _
          refine k_mask [true, true, false, true] ?_
          exact sX3_doomedCells_42 u C hr hR ec0_10 ec0_3 ec0_4 ea6 ea7 ec12_2 ea13 ih r30.2 (v1 ||| ((1 : Int64) <<< ((v3).toInt64 &&& 63))) v3 h
set_option maxHeartbeats 400000 in
set_option maxRecDepth 100000 in
theorem sX3_doomedCells_0 (u : Nat) {X : k_X} {ad : Nat → Nat} (C : k_C X cX3_doomedCells RX3 4 ad) (hr : X.meth.sig.returnType = (some .long)) (hR : X.R.frames = 3 ∧ X.R.locals = 73) {I : Nat → Nat → Int32} {L : Nat → Nat → Int64} {Rf : Nat → Nat → Option Nat} {c0_10 : Int32} (ec0_10 : I 0 10 = c0_10) {c0_3 : Int64} (ec0_3 : L 0 3 = c0_3) {c0_4 : Int64} (ec0_4 : L 0 4 = c0_4) {a6 : (Nat → Int32)} (ea6 : I 6 = a6) {a7 : (Nat → Int32)} (ea7 : I 7 = a7) {c12_2 : Int32} (ec12_2 : I 12 2 = c12_2) {a13 : (Nat → Int32)} (ea13 : I 13 = a13) {out : Int64 × (Nat → Int32)} : ∀ (a14 : (Nat → Int32)), bX3_doomedCells_0 u c0_10 c0_3 c0_4 a6 a7 c12_2 a13 a14 = some out → k_W X 4 0 0 (k_Q X ad (some (.long out.1)) (k_ap [(14, .inr (.inr (.inl out.2)))] (shMine, I, L, Rf))) ad (k_ap [(14, .inr (.inr (.inl a14)))] (shMine, I, L, Rf)) 0 [some (.ref 0), none, none, none] [] := by
  intro a14 h
  unfold bX3_doomedCells_0 at h
  refine r_lconst (v := (0 : Int64)) C dX3_doomedCells_0 (rfl : 0 + 1 = 1) rfl ?_
  refine r_lstore_n C dX3_doomedCells_1 (rfl : 1 + 1 = 2) (by decide) (Nat.le_of_ble_eq_true rfl) ?_
  show k_W _ _ _ _ _ _ _ _ [some (.ref 0), some (.long (0 : Int64)), none, none] _
  refine r_iconst (v := (0 : Int32)) C dX3_doomedCells_2 (rfl : 2 + 1 = 3) rfl ?_
  refine r_istore_n C dX3_doomedCells_3 (rfl : 3 + 1 = 4) (by decide) (Nat.le_of_ble_eq_true rfl) ?_
  show k_W _ _ _ _ _ _ _ _ [some (.ref 0), some (.long (0 : Int64)), none, some (.int (0 : Int32))] _
  refine k_mask [true, true, false, true] ?_
  exact sX3_doomedCells_4 u C hr hR ec0_10 ec0_3 ec0_4 ea6 ea7 ec12_2 ea13 u a14 (0 : Int64) (0 : Int32) h
set_option maxHeartbeats 400000 in
set_option maxRecDepth 100000 in
theorem c_X3_doomedCells (l : Launch) (u : Nat) (h : k_H) (hsh : h.1 = shMine) {c0_10 : Int32} (ec0_10 : h.2.1 0 10 = c0_10) {c0_3 : Int64} (ec0_3 : h.2.2.1 0 3 = c0_3) {c0_4 : Int64} (ec0_4 : h.2.2.1 0 4 = c0_4) {a6 : (Nat → Int32)} (ea6 : h.2.1 6 = a6) {a7 : (Nat → Int32)} (ea7 : h.2.1 7 = a7) {c12_2 : Int32} (ec12_2 : h.2.1 12 2 = c12_2) {a13 : (Nat → Int32)} (ea13 : h.2.1 13 = a13) {a14 : (Nat → Int32)} (ea14 : h.2.1 14 = a14) {out : Int64 × (Nat → Int32)} (hf : f_X3_doomedCells u c0_10 c0_3 c0_4 a6 a7 c12_2 a13 a14 = some out) : k_CT l yX3_doomedCells cX3_doomedCells 4 (some .long) 3 73 [.ref 0] h (some (.long out.1)) [(14, .inr (.inr (.inl out.2)))] := by
  obtain ⟨sh, I, L, Rf⟩ := h
  try dsimp only
  obtain rfl : sh = shMine := hsh
  refine k_ofW (by decide) (Nat.le_of_ble_eq_true rfl) ?_
  intro X ad hl hR0 hr C
  have hR : X.R.frames = 3 ∧ X.R.locals = 73 := by rw [hR0]; exact ⟨rfl, rfl⟩
  have h := hf
  unfold f_X3_doomedCells at h
  refine k_start (us := [(14, .inr (.inr (.inl a14)))]) (k_ao_A ea14 k_ap_0) ?_
  show k_W X 4 0 0 _ ad (k_ap [(14, .inr (.inr (.inl a14)))] (shMine, I, L, Rf)) 0 [some (.ref 0), none, none, none] []
  refine k_mask [true, false, false, false] ?_
  exact sX3_doomedCells_0 u C hr hR ec0_10 ec0_3 ec0_4 ea6 ea7 ec12_2 ea13 a14 h
/-! LullabyPit$Mine.crewIsDone()Z -/
theorem ds_X3_crewIsDone : k_ds [] = true := by decide +kernel
set_option maxHeartbeats 400000 in
set_option maxRecDepth 100000 in
theorem sX3_crewIsDone_0 (u : Nat) {X : k_X} {ad : Nat → Nat} (C : k_C X cX3_crewIsDone RX3 1 ad) (hr : X.meth.sig.returnType = (some .boolean)) (hR : X.R.frames = 0 ∧ X.R.locals = 0) {I : Nat → Nat → Int32} {L : Nat → Nat → Int64} {Rf : Nat → Nat → Option Nat} {c0_11 : Int32} (ec0_11 : I 0 11 = c0_11) {c5_8 : Int32} (ec5_8 : I 5 8 = c5_8) {out : Int32} : bX3_crewIsDone_0 u c0_11 c5_8 = some out → k_W X 1 0 0 (k_Q X ad (some (.int out)) (k_ap [] (shMine, I, L, Rf))) ad (k_ap [] (shMine, I, L, Rf)) 0 [some (.ref 0)] [] := by
  intro h
  unfold bX3_crewIsDone_0 at h
  refine r_aload_n C dX3_crewIsDone_0 (rfl : 0 + 1 = 1) rfl ?_
  refine r_getI (v := c0_11) C dX3_crewIsDone_1 (rfl : 1 + 3 = 4) fl_X3_55 rfl rfl ec0_11 ?_
  refine r_aload_n C dX3_crewIsDone_4 (rfl : 4 + 1 = 5) rfl ?_
  refine r_getR (q := 5) C dX3_crewIsDone_5 (rfl : 5 + 3 = 8) fl_X3_24 rfl rfl ?_
  refine r_getI (v := c5_8) C dX3_crewIsDone_8 (rfl : 8 + 3 = 11) fl_X3_159 rfl rfl ec5_8 ?_
  refine r_icmp_lt (tgt := 18) C dX3_crewIsDone_11 (by decide) (rfl : 11 + 3 = 14) (fun c11 => ?_) (fun c11 => ?_)
  · have h := k_t c11 h
    refine r_iconst (v := (0 : Int32)) C dX3_crewIsDone_18 (rfl : 18 + 1 = 19) rfl ?_
    cases h
    exact r_zret C hr (Or.inl rfl) dX3_crewIsDone_19
  · have h := k_f c11 h
    refine r_iconst (v := (1 : Int32)) C dX3_crewIsDone_14 (rfl : 14 + 1 = 15) rfl ?_
    refine r_goto (tgt := 19) C dX3_crewIsDone_15 (by decide) ?_
    cases h
    exact r_zret C hr (Or.inr rfl) dX3_crewIsDone_19
set_option maxHeartbeats 400000 in
set_option maxRecDepth 100000 in
theorem c_X3_crewIsDone (l : Launch) (u : Nat) (h : k_H) (hsh : h.1 = shMine) {c0_11 : Int32} (ec0_11 : h.2.1 0 11 = c0_11) {c5_8 : Int32} (ec5_8 : h.2.1 5 8 = c5_8) {out : Int32} (hf : f_X3_crewIsDone u c0_11 c5_8 = some out) : k_CT l yX3_crewIsDone cX3_crewIsDone 1 (some .boolean) 0 0 [.ref 0] h (some (.int out)) [] := by
  obtain ⟨sh, I, L, Rf⟩ := h
  try dsimp only
  obtain rfl : sh = shMine := hsh
  refine k_ofW (by decide) (Nat.le_of_ble_eq_true rfl) ?_
  intro X ad hl hR0 hr C
  have hR : X.R.frames = 0 ∧ X.R.locals = 0 := by rw [hR0]; exact ⟨rfl, rfl⟩
  have h := hf
  unfold f_X3_crewIsDone at h
  refine k_start (us := []) k_ap_0 ?_
  show k_W X 1 0 0 _ ad (k_ap [] (shMine, I, L, Rf)) 0 [some (.ref 0)] []
  refine k_mask [true] ?_
  exact sX3_crewIsDone_0 u C hr hR ec0_11 ec5_8 h
/-! LullabyPit$Mine.obstacle(I)I -/
theorem ds_X3_obstacle : k_ds [] = true := by decide +kernel
set_option maxHeartbeats 400000 in
set_option maxRecDepth 100000 in
theorem sX3_obstacle_0 (u : Nat) {X : k_X} {ad : Nat → Nat} (C : k_C X cX3_obstacle RX3 4 ad) (hr : X.meth.sig.returnType = (some .int)) (hR : X.R.frames = 2 ∧ X.R.locals = 41) {I : Nat → Nat → Int32} {L : Nat → Nat → Int64} {Rf : Nat → Nat → Option Nat} {c0_11 : Int32} (ec0_11 : I 0 11 = c0_11) {c0_15 : Int32} (ec0_15 : I 0 15 = c0_15) {c0_3 : Int64} (ec0_3 : L 0 3 = c0_3) {c0_4 : Int64} (ec0_4 : L 0 4 = c0_4) {c5_8 : Int32} (ec5_8 : I 5 8 = c5_8) {c5_5 : Int64} (ec5_5 : L 5 5 = c5_5) {c5_6 : Int64} (ec5_6 : L 5 6 = c5_6) {out : Int32} : ∀ (v1 : Int32), bX3_obstacle_0 u c0_11 c0_15 c0_3 c0_4 c5_8 c5_5 c5_6 v1 = some out → k_W X 4 0 0 (k_Q X ad (some (.int out)) (k_ap [] (shMine, I, L, Rf))) ad (k_ap [] (shMine, I, L, Rf)) 0 [some (.ref 0), some (.int v1), none, none] [] := by
  intro v1 h
  unfold bX3_obstacle_0 at h
  refine r_lconst (v := (1 : Int64)) C dX3_obstacle_0 (rfl : 0 + 1 = 1) rfl ?_
  refine r_iload_n C dX3_obstacle_1 (rfl : 1 + 1 = 2) rfl ?_
  refine r_lshl C dX3_obstacle_2 (rfl : 2 + 1 = 3) ?_
  refine r_lstore_n C dX3_obstacle_3 (rfl : 3 + 1 = 4) (by decide) (Nat.le_of_ble_eq_true rfl) ?_
  show k_W _ _ _ _ _ _ _ _ [some (.ref 0), some (.int v1), some (.long ((1 : Int64) <<< ((v1).toInt64 &&& 63))), none] _
  refine r_aload_n C dX3_obstacle_4 (rfl : 4 + 1 = 5) rfl ?_
  obtain ⟨r5, q5, h⟩ := k_b_of h
  refine d_V (As := []) (st := []) (st' := [.long r5]) (h' := k_ap [] (shMine, I, L, Rf)) C hR ⟨Nat.zero_le _, Nat.zero_le _⟩ mv_X3_openCells lk_X3_101 dX3_obstacle_5 (rfl : 5 + 3 = 8) rfl rfl rfl rfl (c_X3_openCells X.l u (k_ap [] (shMine, I, L, Rf)) rfl ec0_3 ec0_4 q5) rfl rfl rfl rfl rfl ?_
  refine r_lload_n C dX3_obstacle_8 (rfl : 8 + 1 = 9) rfl ?_
  refine r_land C dX3_obstacle_9 (rfl : 9 + 1 = 10) ?_
  refine r_lconst (v := (0 : Int64)) C dX3_obstacle_10 (rfl : 10 + 1 = 11) rfl ?_
  refine r_lcmp C dX3_obstacle_11 (rfl : 11 + 1 = 12) ?_
  refine r_if_eq (tgt := 17) C dX3_obstacle_12 (by decide) (rfl : 12 + 3 = 15) (fun c12 => ?_) (fun c12 => ?_)
  · have h := k_t c12 h
    refine r_aload_n C dX3_obstacle_17 (rfl : 17 + 1 = 18) rfl ?_
    obtain ⟨r18, q18, h⟩ := k_b_of h
    refine d_V (As := []) (st := []) (st' := [.long r18]) (h' := k_ap [] (shMine, I, L, Rf)) C hR ⟨Nat.zero_le _, Nat.zero_le _⟩ mv_X3_handCells lk_X3_117 dX3_obstacle_18 (rfl : 18 + 3 = 21) rfl rfl rfl rfl (c_X3_handCells X.l u (k_ap [] (shMine, I, L, Rf)) rfl ec0_3 ec0_4 ec5_5 ec5_6 q18) rfl rfl rfl rfl rfl ?_
    refine r_lload_n C dX3_obstacle_21 (rfl : 21 + 1 = 22) rfl ?_
    refine r_land C dX3_obstacle_22 (rfl : 22 + 1 = 23) ?_
    refine r_lconst (v := (0 : Int64)) C dX3_obstacle_23 (rfl : 23 + 1 = 24) rfl ?_
    refine r_lcmp C dX3_obstacle_24 (rfl : 24 + 1 = 25) ?_
    refine r_if_ne (tgt := 30) C dX3_obstacle_25 (by decide) (rfl : 25 + 3 = 28) (fun c25 => ?_) (fun c25 => ?_)
    · have h := k_f c25 h
      refine r_aload_n C dX3_obstacle_30 (rfl : 30 + 1 = 31) rfl ?_
      obtain ⟨r31, q31, h⟩ := k_b_of h
      refine d_V (As := []) (st := []) (st' := [.long r31]) (h' := k_ap [] (shMine, I, L, Rf)) C hR ⟨Nat.zero_le _, Nat.zero_le _⟩ mv_X3_wetCells lk_X3_120 dX3_obstacle_31 (rfl : 31 + 3 = 34) rfl rfl rfl rfl (c_X3_wetCells X.l u (k_ap [] (shMine, I, L, Rf)) rfl ec0_15 ec5_5 q31) rfl rfl rfl rfl rfl ?_
      refine r_lload_n C dX3_obstacle_34 (rfl : 34 + 1 = 35) rfl ?_
      refine r_land C dX3_obstacle_35 (rfl : 35 + 1 = 36) ?_
      refine r_lconst (v := (0 : Int64)) C dX3_obstacle_36 (rfl : 36 + 1 = 37) rfl ?_
      refine r_lcmp C dX3_obstacle_37 (rfl : 37 + 1 = 38) ?_
      refine r_if_eq (tgt := 43) C dX3_obstacle_38 (by decide) (rfl : 38 + 3 = 41) (fun c38 => ?_) (fun c38 => ?_)
      · have h := k_t c38 h
        refine r_aload_n C dX3_obstacle_43 (rfl : 43 + 1 = 44) rfl ?_
        obtain ⟨r44, q44, h⟩ := k_b_of h
        refine d_V (As := []) (st := []) (st' := [.int r44]) (h' := k_ap [] (shMine, I, L, Rf)) C hR ⟨Nat.zero_le _, Nat.zero_le _⟩ mv_X3_crewIsDone lk_X3_155 dX3_obstacle_44 (rfl : 44 + 3 = 47) rfl rfl rfl rfl (c_X3_crewIsDone X.l u (k_ap [] (shMine, I, L, Rf)) rfl ec0_11 ec5_8 q44) rfl rfl rfl rfl rfl ?_
        refine r_if_eq (tgt := 54) C dX3_obstacle_47 (by decide) (rfl : 47 + 3 = 50) (fun c47 => ?_) (fun c47 => ?_)
        · have h := k_t c47 h
          refine r_iconst (v := (0 : Int32)) C dX3_obstacle_54 (rfl : 54 + 1 = 55) rfl ?_
          cases h
          exact r_iret C hr dX3_obstacle_55
        · have h := k_f c47 h
          refine r_iconst (v := (4 : Int32)) C dX3_obstacle_50 (rfl : 50 + 1 = 51) rfl ?_
          refine r_goto (tgt := 55) C dX3_obstacle_51 (by decide) ?_
          cases h
          exact r_iret C hr dX3_obstacle_55
      · have h := k_f c38 h
        refine r_iconst (v := (3 : Int32)) C dX3_obstacle_41 (rfl : 41 + 1 = 42) rfl ?_
        cases h
        exact r_iret C hr dX3_obstacle_42
    · have h := k_t c25 h
      refine r_iconst (v := (2 : Int32)) C dX3_obstacle_28 (rfl : 28 + 1 = 29) rfl ?_
      cases h
      exact r_iret C hr dX3_obstacle_29
  · have h := k_f c12 h
    refine r_iconst (v := (1 : Int32)) C dX3_obstacle_15 (rfl : 15 + 1 = 16) rfl ?_
    cases h
    exact r_iret C hr dX3_obstacle_16
set_option maxHeartbeats 400000 in
set_option maxRecDepth 100000 in
theorem c_X3_obstacle (l : Launch) (u : Nat) (h : k_H) (hsh : h.1 = shMine) {c0_11 : Int32} (ec0_11 : h.2.1 0 11 = c0_11) {c0_15 : Int32} (ec0_15 : h.2.1 0 15 = c0_15) {c0_3 : Int64} (ec0_3 : h.2.2.1 0 3 = c0_3) {c0_4 : Int64} (ec0_4 : h.2.2.1 0 4 = c0_4) {c5_8 : Int32} (ec5_8 : h.2.1 5 8 = c5_8) {c5_5 : Int64} (ec5_5 : h.2.2.1 5 5 = c5_5) {c5_6 : Int64} (ec5_6 : h.2.2.1 5 6 = c5_6) {x0 : Int32} {out : Int32} (hf : f_X3_obstacle u c0_11 c0_15 c0_3 c0_4 c5_8 c5_5 c5_6 x0 = some out) : k_CT l yX3_obstacle cX3_obstacle 4 (some .int) 2 41 [.ref 0, .int x0] h (some (.int out)) [] := by
  obtain ⟨sh, I, L, Rf⟩ := h
  try dsimp only
  obtain rfl : sh = shMine := hsh
  refine k_ofW (by decide) (Nat.le_of_ble_eq_true rfl) ?_
  intro X ad hl hR0 hr C
  have hR : X.R.frames = 2 ∧ X.R.locals = 41 := by rw [hR0]; exact ⟨rfl, rfl⟩
  have h := hf
  unfold f_X3_obstacle at h
  refine k_start (us := []) k_ap_0 ?_
  show k_W X 4 0 0 _ ad (k_ap [] (shMine, I, L, Rf)) 0 [some (.ref 0), some (.int x0), none, none] []
  refine k_mask [true, true, false, false] ?_
  exact sX3_obstacle_0 u C hr hR ec0_11 ec0_15 ec0_3 ec0_4 ec5_8 ec5_5 ec5_6 x0 h
/-! java/lang/Long.bitCount(J)I -/
theorem ds_J13_bitCount_95d88 : k_ds [] = true := by decide +kernel
set_option maxHeartbeats 400000 in
set_option maxRecDepth 100000 in
theorem sJ13_bitCount_95d88_0 (u : Nat) {X : k_X} {ad : Nat → Nat} {sh : List k_Sh} (C : k_C X cJ13_bitCount_95d88 RJ13 2 ad) (hr : X.meth.sig.returnType = (some .int)) (hR : X.R.frames = 0 ∧ X.R.locals = 0) {I : Nat → Nat → Int32} {L : Nat → Nat → Int64} {Rf : Nat → Nat → Option Nat} {out : Int32} : ∀ (v0 : Int64), bJ13_bitCount_95d88_0 u v0 = some out → k_W X 2 0 0 (k_Q X ad (some (.int out)) (k_ap [] (sh, I, L, Rf))) ad (k_ap [] (sh, I, L, Rf)) 0 [some (.long v0), none] [] := by
  intro v0 h
  unfold bJ13_bitCount_95d88_0 at h
  refine r_lload_n C dJ13_bitCount_95d88_0 (rfl : 0 + 1 = 1) rfl ?_
  refine r_lload_n C dJ13_bitCount_95d88_1 (rfl : 1 + 1 = 2) rfl ?_
  refine r_iconst (v := (1 : Int32)) C dJ13_bitCount_95d88_2 (rfl : 2 + 1 = 3) rfl ?_
  refine r_lushr C dJ13_bitCount_95d88_3 (rfl : 3 + 1 = 4) ?_
  refine r_ldc2 C dJ13_bitCount_95d88_4 (rfl : 4 + 3 = 7) ct_J13_314 ?_
  refine r_land C dJ13_bitCount_95d88_7 (rfl : 7 + 1 = 8) ?_
  refine r_lsub C dJ13_bitCount_95d88_8 (rfl : 8 + 1 = 9) ?_
  refine r_lstore_n C dJ13_bitCount_95d88_9 (rfl : 9 + 1 = 10) (by decide) (Nat.le_of_ble_eq_true rfl) ?_
  show k_W _ _ _ _ _ _ _ _ [some (.long (v0 - (((v0).toUInt64 >>> (((1 : Int32)).toInt64.toUInt64 &&& Int64.toUInt64 63)).toInt64 &&& (6148914691236517205 : Int64)))), none] _
  refine r_lload_n C dJ13_bitCount_95d88_10 (rfl : 10 + 1 = 11) rfl ?_
  refine r_ldc2 C dJ13_bitCount_95d88_11 (rfl : 11 + 3 = 14) ct_J13_316 ?_
  refine r_land C dJ13_bitCount_95d88_14 (rfl : 14 + 1 = 15) ?_
  refine r_lload_n C dJ13_bitCount_95d88_15 (rfl : 15 + 1 = 16) rfl ?_
  refine r_iconst (v := (2 : Int32)) C dJ13_bitCount_95d88_16 (rfl : 16 + 1 = 17) rfl ?_
  refine r_lushr C dJ13_bitCount_95d88_17 (rfl : 17 + 1 = 18) ?_
  refine r_ldc2 C dJ13_bitCount_95d88_18 (rfl : 18 + 3 = 21) ct_J13_316 ?_
  refine r_land C dJ13_bitCount_95d88_21 (rfl : 21 + 1 = 22) ?_
  refine r_ladd C dJ13_bitCount_95d88_22 (rfl : 22 + 1 = 23) ?_
  refine r_lstore_n C dJ13_bitCount_95d88_23 (rfl : 23 + 1 = 24) (by decide) (Nat.le_of_ble_eq_true rfl) ?_
  show k_W _ _ _ _ _ _ _ _ [some (.long (((v0 - (((v0).toUInt64 >>> (((1 : Int32)).toInt64.toUInt64 &&& Int64.toUInt64 63)).toInt64 &&& (6148914691236517205 : Int64))) &&& (3689348814741910323 : Int64)) + ((((v0 - (((v0).toUInt64 >>> (((1 : Int32)).toInt64.toUInt64 &&& Int64.toUInt64 63)).toInt64 &&& (6148914691236517205 : Int64)))).toUInt64 >>> (((2 : Int32)).toInt64.toUInt64 &&& Int64.toUInt64 63)).toInt64 &&& (3689348814741910323 : Int64)))), none] _
  refine r_lload_n C dJ13_bitCount_95d88_24 (rfl : 24 + 1 = 25) rfl ?_
  refine r_lload_n C dJ13_bitCount_95d88_25 (rfl : 25 + 1 = 26) rfl ?_
  refine r_iconst (v := (4 : Int32)) C dJ13_bitCount_95d88_26 (rfl : 26 + 1 = 27) rfl ?_
  refine r_lushr C dJ13_bitCount_95d88_27 (rfl : 27 + 1 = 28) ?_
  refine r_ladd C dJ13_bitCount_95d88_28 (rfl : 28 + 1 = 29) ?_
  refine r_ldc2 C dJ13_bitCount_95d88_29 (rfl : 29 + 3 = 32) ct_J13_318 ?_
  refine r_land C dJ13_bitCount_95d88_32 (rfl : 32 + 1 = 33) ?_
  refine r_lstore_n C dJ13_bitCount_95d88_33 (rfl : 33 + 1 = 34) (by decide) (Nat.le_of_ble_eq_true rfl) ?_
  show k_W _ _ _ _ _ _ _ _ [some (.long (((((v0 - (((v0).toUInt64 >>> (((1 : Int32)).toInt64.toUInt64 &&& Int64.toUInt64 63)).toInt64 &&& (6148914691236517205 : Int64))) &&& (3689348814741910323 : Int64)) + ((((v0 - (((v0).toUInt64 >>> (((1 : Int32)).toInt64.toUInt64 &&& Int64.toUInt64 63)).toInt64 &&& (6148914691236517205 : Int64)))).toUInt64 >>> (((2 : Int32)).toInt64.toUInt64 &&& Int64.toUInt64 63)).toInt64 &&& (3689348814741910323 : Int64))) + (((((v0 - (((v0).toUInt64 >>> (((1 : Int32)).toInt64.toUInt64 &&& Int64.toUInt64 63)).toInt64 &&& (6148914691236517205 : Int64))) &&& (3689348814741910323 : Int64)) + ((((v0 - (((v0).toUInt64 >>> (((1 : Int32)).toInt64.toUInt64 &&& Int64.toUInt64 63)).toInt64 &&& (6148914691236517205 : Int64)))).toUInt64 >>> (((2 : Int32)).toInt64.toUInt64 &&& Int64.toUInt64 63)).toInt64 &&& (3689348814741910323 : Int64)))).toUInt64 >>> (((4 : Int32)).toInt64.toUInt64 &&& Int64.toUInt64 63)).toInt64) &&& (1085102592571150095 : Int64))), none] _
  refine r_lload_n C dJ13_bitCount_95d88_34 (rfl : 34 + 1 = 35) rfl ?_
  refine r_lload_n C dJ13_bitCount_95d88_35 (rfl : 35 + 1 = 36) rfl ?_
  refine r_bipush (v := (8 : Int32)) C dJ13_bitCount_95d88_36 (rfl : 36 + 2 = 38) rfl ?_
  refine r_lushr C dJ13_bitCount_95d88_38 (rfl : 38 + 1 = 39) ?_
  refine r_ladd C dJ13_bitCount_95d88_39 (rfl : 39 + 1 = 40) ?_
  refine r_lstore_n C dJ13_bitCount_95d88_40 (rfl : 40 + 1 = 41) (by decide) (Nat.le_of_ble_eq_true rfl) ?_
  show k_W _ _ _ _ _ _ _ _ [some (.long ((((((v0 - (((v0).toUInt64 >>> (((1 : Int32)).toInt64.toUInt64 &&& Int64.toUInt64 63)).toInt64 &&& (6148914691236517205 : Int64))) &&& (3689348814741910323 : Int64)) + ((((v0 - (((v0).toUInt64 >>> (((1 : Int32)).toInt64.toUInt64 &&& Int64.toUInt64 63)).toInt64 &&& (6148914691236517205 : Int64)))).toUInt64 >>> (((2 : Int32)).toInt64.toUInt64 &&& Int64.toUInt64 63)).toInt64 &&& (3689348814741910323 : Int64))) + (((((v0 - (((v0).toUInt64 >>> (((1 : Int32)).toInt64.toUInt64 &&& Int64.toUInt64 63)).toInt64 &&& (6148914691236517205 : Int64))) &&& (3689348814741910323 : Int64)) + ((((v0 - (((v0).toUInt64 >>> (((1 : Int32)).toInt64.toUInt64 &&& Int64.toUInt64 63)).toInt64 &&& (6148914691236517205 : Int64)))).toUInt64 >>> (((2 : Int32)).toInt64.toUInt64 &&& Int64.toUInt64 63)).toInt64 &&& (3689348814741910323 : Int64)))).toUInt64 >>> (((4 : Int32)).toInt64.toUInt64 &&& Int64.toUInt64 63)).toInt64) &&& (1085102592571150095 : Int64)) + (((((((v0 - (((v0).toUInt64 >>> (((1 : Int32)).toInt64.toUInt64 &&& Int64.toUInt64 63)).toInt64 &&& (6148914691236517205 : Int64))) &&& (3689348814741910323 : Int64)) + ((((v0 - (((v0).toUInt64 >>> (((1 : Int32)).toInt64.toUInt64 &&& Int64.toUInt64 63)).toInt64 &&& (6148914691236517205 : Int64)))).toUInt64 >>> (((2 : Int32)).toInt64.toUInt64 &&& Int64.toUInt64 63)).toInt64 &&& (3689348814741910323 : Int64))) + (((((v0 - (((v0).toUInt64 >>> (((1 : Int32)).toInt64.toUInt64 &&& Int64.toUInt64 63)).toInt64 &&& (6148914691236517205 : Int64))) &&& (3689348814741910323 : Int64)) + ((((v0 - (((v0).toUInt64 >>> (((1 : Int32)).toInt64.toUInt64 &&& Int64.toUInt64 63)).toInt64 &&& (6148914691236517205 : Int64)))).toUInt64 >>> (((2 : Int32)).toInt64.toUInt64 &&& Int64.toUInt64 63)).toInt64 &&& (3689348814741910323 : Int64)))).toUInt64 >>> (((4 : Int32)).toInt64.toUInt64 &&& Int64.toUInt64 63)).toInt64) &&& (1085102592571150095 : Int64))).toUInt64 >>> (((8 : Int32)).toInt64.toUInt64 &&& Int64.toUInt64 63)).toInt64)), none] _
  refine r_lload_n C dJ13_bitCount_95d88_41 (rfl : 41 + 1 = 42) rfl ?_
  refine r_lload_n C dJ13_bitCount_95d88_42 (rfl : 42 + 1 = 43) rfl ?_
  refine r_bipush (v := (16 : Int32)) C dJ13_bitCount_95d88_43 (rfl : 43 + 2 = 45) rfl ?_
  refine r_lushr C dJ13_bitCount_95d88_45 (rfl : 45 + 1 = 46) ?_
  refine r_ladd C dJ13_bitCount_95d88_46 (rfl : 46 + 1 = 47) ?_
  refine r_lstore_n C dJ13_bitCount_95d88_47 (rfl : 47 + 1 = 48) (by decide) (Nat.le_of_ble_eq_true rfl) ?_
  show k_W _ _ _ _ _ _ _ _ [some (.long (((((((v0 - (((v0).toUInt64 >>> (((1 : Int32)).toInt64.toUInt64 &&& Int64.toUInt64 63)).toInt64 &&& (6148914691236517205 : Int64))) &&& (3689348814741910323 : Int64)) + ((((v0 - (((v0).toUInt64 >>> (((1 : Int32)).toInt64.toUInt64 &&& Int64.toUInt64 63)).toInt64 &&& (6148914691236517205 : Int64)))).toUInt64 >>> (((2 : Int32)).toInt64.toUInt64 &&& Int64.toUInt64 63)).toInt64 &&& (3689348814741910323 : Int64))) + (((((v0 - (((v0).toUInt64 >>> (((1 : Int32)).toInt64.toUInt64 &&& Int64.toUInt64 63)).toInt64 &&& (6148914691236517205 : Int64))) &&& (3689348814741910323 : Int64)) + ((((v0 - (((v0).toUInt64 >>> (((1 : Int32)).toInt64.toUInt64 &&& Int64.toUInt64 63)).toInt64 &&& (6148914691236517205 : Int64)))).toUInt64 >>> (((2 : Int32)).toInt64.toUInt64 &&& Int64.toUInt64 63)).toInt64 &&& (3689348814741910323 : Int64)))).toUInt64 >>> (((4 : Int32)).toInt64.toUInt64 &&& Int64.toUInt64 63)).toInt64) &&& (1085102592571150095 : Int64)) + (((((((v0 - (((v0).toUInt64 >>> (((1 : Int32)).toInt64.toUInt64 &&& Int64.toUInt64 63)).toInt64 &&& (6148914691236517205 : Int64))) &&& (3689348814741910323 : Int64)) + ((((v0 - (((v0).toUInt64 >>> (((1 : Int32)).toInt64.toUInt64 &&& Int64.toUInt64 63)).toInt64 &&& (6148914691236517205 : Int64)))).toUInt64 >>> (((2 : Int32)).toInt64.toUInt64 &&& Int64.toUInt64 63)).toInt64 &&& (3689348814741910323 : Int64))) + (((((v0 - (((v0).toUInt64 >>> (((1 : Int32)).toInt64.toUInt64 &&& Int64.toUInt64 63)).toInt64 &&& (6148914691236517205 : Int64))) &&& (3689348814741910323 : Int64)) + ((((v0 - (((v0).toUInt64 >>> (((1 : Int32)).toInt64.toUInt64 &&& Int64.toUInt64 63)).toInt64 &&& (6148914691236517205 : Int64)))).toUInt64 >>> (((2 : Int32)).toInt64.toUInt64 &&& Int64.toUInt64 63)).toInt64 &&& (3689348814741910323 : Int64)))).toUInt64 >>> (((4 : Int32)).toInt64.toUInt64 &&& Int64.toUInt64 63)).toInt64) &&& (1085102592571150095 : Int64))).toUInt64 >>> (((8 : Int32)).toInt64.toUInt64 &&& Int64.toUInt64 63)).toInt64) + ((((((((v0 - (((v0).toUInt64 >>> (((1 : Int32)).toInt64.toUInt64 &&& Int64.toUInt64 63)).toInt64 &&& (6148914691236517205 : Int64))) &&& (3689348814741910323 : Int64)) + ((((v0 - (((v0).toUInt64 >>> (((1 : Int32)).toInt64.toUInt64 &&& Int64.toUInt64 63)).toInt64 &&& (6148914691236517205 : Int64)))).toUInt64 >>> (((2 : Int32)).toInt64.toUInt64 &&& Int64.toUInt64 63)).toInt64 &&& (3689348814741910323 : Int64))) + (((((v0 - (((v0).toUInt64 >>> (((1 : Int32)).toInt64.toUInt64 &&& Int64.toUInt64 63)).toInt64 &&& (6148914691236517205 : Int64))) &&& (3689348814741910323 : Int64)) + ((((v0 - (((v0).toUInt64 >>> (((1 : Int32)).toInt64.toUInt64 &&& Int64.toUInt64 63)).toInt64 &&& (6148914691236517205 : Int64)))).toUInt64 >>> (((2 : Int32)).toInt64.toUInt64 &&& Int64.toUInt64 63)).toInt64 &&& (3689348814741910323 : Int64)))).toUInt64 >>> (((4 : Int32)).toInt64.toUInt64 &&& Int64.toUInt64 63)).toInt64) &&& (1085102592571150095 : Int64)) + (((((((v0 - (((v0).toUInt64 >>> (((1 : Int32)).toInt64.toUInt64 &&& Int64.toUInt64 63)).toInt64 &&& (6148914691236517205 : Int64))) &&& (3689348814741910323 : Int64)) + ((((v0 - (((v0).toUInt64 >>> (((1 : Int32)).toInt64.toUInt64 &&& Int64.toUInt64 63)).toInt64 &&& (6148914691236517205 : Int64)))).toUInt64 >>> (((2 : Int32)).toInt64.toUInt64 &&& Int64.toUInt64 63)).toInt64 &&& (3689348814741910323 : Int64))) + (((((v0 - (((v0).toUInt64 >>> (((1 : Int32)).toInt64.toUInt64 &&& Int64.toUInt64 63)).toInt64 &&& (6148914691236517205 : Int64))) &&& (3689348814741910323 : Int64)) + ((((v0 - (((v0).toUInt64 >>> (((1 : Int32)).toInt64.toUInt64 &&& Int64.toUInt64 63)).toInt64 &&& (6148914691236517205 : Int64)))).toUInt64 >>> (((2 : Int32)).toInt64.toUInt64 &&& Int64.toUInt64 63)).toInt64 &&& (3689348814741910323 : Int64)))).toUInt64 >>> (((4 : Int32)).toInt64.toUInt64 &&& Int64.toUInt64 63)).toInt64) &&& (1085102592571150095 : Int64))).toUInt64 >>> (((8 : Int32)).toInt64.toUInt64 &&& Int64.toUInt64 63)).toInt64)).toUInt64 >>> (((16 : Int32)).toInt64.toUInt64 &&& Int64.toUInt64 63)).toInt64)), none] _
  refine r_lload_n C dJ13_bitCount_95d88_48 (rfl : 48 + 1 = 49) rfl ?_
  refine r_lload_n C dJ13_bitCount_95d88_49 (rfl : 49 + 1 = 50) rfl ?_
  refine r_bipush (v := (32 : Int32)) C dJ13_bitCount_95d88_50 (rfl : 50 + 2 = 52) rfl ?_
  refine r_lushr C dJ13_bitCount_95d88_52 (rfl : 52 + 1 = 53) ?_
  refine r_ladd C dJ13_bitCount_95d88_53 (rfl : 53 + 1 = 54) ?_
  refine r_lstore_n C dJ13_bitCount_95d88_54 (rfl : 54 + 1 = 55) (by decide) (Nat.le_of_ble_eq_true rfl) ?_
  show k_W _ _ _ _ _ _ _ _ [some (.long ((((((((v0 - (((v0).toUInt64 >>> (((1 : Int32)).toInt64.toUInt64 &&& Int64.toUInt64 63)).toInt64 &&& (6148914691236517205 : Int64))) &&& (3689348814741910323 : Int64)) + ((((v0 - (((v0).toUInt64 >>> (((1 : Int32)).toInt64.toUInt64 &&& Int64.toUInt64 63)).toInt64 &&& (6148914691236517205 : Int64)))).toUInt64 >>> (((2 : Int32)).toInt64.toUInt64 &&& Int64.toUInt64 63)).toInt64 &&& (3689348814741910323 : Int64))) + (((((v0 - (((v0).toUInt64 >>> (((1 : Int32)).toInt64.toUInt64 &&& Int64.toUInt64 63)).toInt64 &&& (6148914691236517205 : Int64))) &&& (3689348814741910323 : Int64)) + ((((v0 - (((v0).toUInt64 >>> (((1 : Int32)).toInt64.toUInt64 &&& Int64.toUInt64 63)).toInt64 &&& (6148914691236517205 : Int64)))).toUInt64 >>> (((2 : Int32)).toInt64.toUInt64 &&& Int64.toUInt64 63)).toInt64 &&& (3689348814741910323 : Int64)))).toUInt64 >>> (((4 : Int32)).toInt64.toUInt64 &&& Int64.toUInt64 63)).toInt64) &&& (1085102592571150095 : Int64)) + (((((((v0 - (((v0).toUInt64 >>> (((1 : Int32)).toInt64.toUInt64 &&& Int64.toUInt64 63)).toInt64 &&& (6148914691236517205 : Int64))) &&& (3689348814741910323 : Int64)) + ((((v0 - (((v0).toUInt64 >>> (((1 : Int32)).toInt64.toUInt64 &&& Int64.toUInt64 63)).toInt64 &&& (6148914691236517205 : Int64)))).toUInt64 >>> (((2 : Int32)).toInt64.toUInt64 &&& Int64.toUInt64 63)).toInt64 &&& (3689348814741910323 : Int64))) + (((((v0 - (((v0).toUInt64 >>> (((1 : Int32)).toInt64.toUInt64 &&& Int64.toUInt64 63)).toInt64 &&& (6148914691236517205 : Int64))) &&& (3689348814741910323 : Int64)) + ((((v0 - (((v0).toUInt64 >>> (((1 : Int32)).toInt64.toUInt64 &&& Int64.toUInt64 63)).toInt64 &&& (6148914691236517205 : Int64)))).toUInt64 >>> (((2 : Int32)).toInt64.toUInt64 &&& Int64.toUInt64 63)).toInt64 &&& (3689348814741910323 : Int64)))).toUInt64 >>> (((4 : Int32)).toInt64.toUInt64 &&& Int64.toUInt64 63)).toInt64) &&& (1085102592571150095 : Int64))).toUInt64 >>> (((8 : Int32)).toInt64.toUInt64 &&& Int64.toUInt64 63)).toInt64) + ((((((((v0 - (((v0).toUInt64 >>> (((1 : Int32)).toInt64.toUInt64 &&& Int64.toUInt64 63)).toInt64 &&& (6148914691236517205 : Int64))) &&& (3689348814741910323 : Int64)) + ((((v0 - (((v0).toUInt64 >>> (((1 : Int32)).toInt64.toUInt64 &&& Int64.toUInt64 63)).toInt64 &&& (6148914691236517205 : Int64)))).toUInt64 >>> (((2 : Int32)).toInt64.toUInt64 &&& Int64.toUInt64 63)).toInt64 &&& (3689348814741910323 : Int64))) + (((((v0 - (((v0).toUInt64 >>> (((1 : Int32)).toInt64.toUInt64 &&& Int64.toUInt64 63)).toInt64 &&& (6148914691236517205 : Int64))) &&& (3689348814741910323 : Int64)) + ((((v0 - (((v0).toUInt64 >>> (((1 : Int32)).toInt64.toUInt64 &&& Int64.toUInt64 63)).toInt64 &&& (6148914691236517205 : Int64)))).toUInt64 >>> (((2 : Int32)).toInt64.toUInt64 &&& Int64.toUInt64 63)).toInt64 &&& (3689348814741910323 : Int64)))).toUInt64 >>> (((4 : Int32)).toInt64.toUInt64 &&& Int64.toUInt64 63)).toInt64) &&& (1085102592571150095 : Int64)) + (((((((v0 - (((v0).toUInt64 >>> (((1 : Int32)).toInt64.toUInt64 &&& Int64.toUInt64 63)).toInt64 &&& (6148914691236517205 : Int64))) &&& (3689348814741910323 : Int64)) + ((((v0 - (((v0).toUInt64 >>> (((1 : Int32)).toInt64.toUInt64 &&& Int64.toUInt64 63)).toInt64 &&& (6148914691236517205 : Int64)))).toUInt64 >>> (((2 : Int32)).toInt64.toUInt64 &&& Int64.toUInt64 63)).toInt64 &&& (3689348814741910323 : Int64))) + (((((v0 - (((v0).toUInt64 >>> (((1 : Int32)).toInt64.toUInt64 &&& Int64.toUInt64 63)).toInt64 &&& (6148914691236517205 : Int64))) &&& (3689348814741910323 : Int64)) + ((((v0 - (((v0).toUInt64 >>> (((1 : Int32)).toInt64.toUInt64 &&& Int64.toUInt64 63)).toInt64 &&& (6148914691236517205 : Int64)))).toUInt64 >>> (((2 : Int32)).toInt64.toUInt64 &&& Int64.toUInt64 63)).toInt64 &&& (3689348814741910323 : Int64)))).toUInt64 >>> (((4 : Int32)).toInt64.toUInt64 &&& Int64.toUInt64 63)).toInt64) &&& (1085102592571150095 : Int64))).toUInt64 >>> (((8 : Int32)).toInt64.toUInt64 &&& Int64.toUInt64 63)).toInt64)).toUInt64 >>> (((16 : Int32)).toInt64.toUInt64 &&& Int64.toUInt64 63)).toInt64) + (((((((((v0 - (((v0).toUInt64 >>> (((1 : Int32)).toInt64.toUInt64 &&& Int64.toUInt64 63)).toInt64 &&& (6148914691236517205 : Int64))) &&& (3689348814741910323 : Int64)) + ((((v0 - (((v0).toUInt64 >>> (((1 : Int32)).toInt64.toUInt64 &&& Int64.toUInt64 63)).toInt64 &&& (6148914691236517205 : Int64)))).toUInt64 >>> (((2 : Int32)).toInt64.toUInt64 &&& Int64.toUInt64 63)).toInt64 &&& (3689348814741910323 : Int64))) + (((((v0 - (((v0).toUInt64 >>> (((1 : Int32)).toInt64.toUInt64 &&& Int64.toUInt64 63)).toInt64 &&& (6148914691236517205 : Int64))) &&& (3689348814741910323 : Int64)) + ((((v0 - (((v0).toUInt64 >>> (((1 : Int32)).toInt64.toUInt64 &&& Int64.toUInt64 63)).toInt64 &&& (6148914691236517205 : Int64)))).toUInt64 >>> (((2 : Int32)).toInt64.toUInt64 &&& Int64.toUInt64 63)).toInt64 &&& (3689348814741910323 : Int64)))).toUInt64 >>> (((4 : Int32)).toInt64.toUInt64 &&& Int64.toUInt64 63)).toInt64) &&& (1085102592571150095 : Int64)) + (((((((v0 - (((v0).toUInt64 >>> (((1 : Int32)).toInt64.toUInt64 &&& Int64.toUInt64 63)).toInt64 &&& (6148914691236517205 : Int64))) &&& (3689348814741910323 : Int64)) + ((((v0 - (((v0).toUInt64 >>> (((1 : Int32)).toInt64.toUInt64 &&& Int64.toUInt64 63)).toInt64 &&& (6148914691236517205 : Int64)))).toUInt64 >>> (((2 : Int32)).toInt64.toUInt64 &&& Int64.toUInt64 63)).toInt64 &&& (3689348814741910323 : Int64))) + (((((v0 - (((v0).toUInt64 >>> (((1 : Int32)).toInt64.toUInt64 &&& Int64.toUInt64 63)).toInt64 &&& (6148914691236517205 : Int64))) &&& (3689348814741910323 : Int64)) + ((((v0 - (((v0).toUInt64 >>> (((1 : Int32)).toInt64.toUInt64 &&& Int64.toUInt64 63)).toInt64 &&& (6148914691236517205 : Int64)))).toUInt64 >>> (((2 : Int32)).toInt64.toUInt64 &&& Int64.toUInt64 63)).toInt64 &&& (3689348814741910323 : Int64)))).toUInt64 >>> (((4 : Int32)).toInt64.toUInt64 &&& Int64.toUInt64 63)).toInt64) &&& (1085102592571150095 : Int64))).toUInt64 >>> (((8 : Int32)).toInt64.toUInt64 &&& Int64.toUInt64 63)).toInt64) + ((((((((v0 - (((v0).toUInt64 >>> (((1 : Int32)).toInt64.toUInt64 &&& Int64.toUInt64 63)).toInt64 &&& (6148914691236517205 : Int64))) &&& (3689348814741910323 : Int64)) + ((((v0 - (((v0).toUInt64 >>> (((1 : Int32)).toInt64.toUInt64 &&& Int64.toUInt64 63)).toInt64 &&& (6148914691236517205 : Int64)))).toUInt64 >>> (((2 : Int32)).toInt64.toUInt64 &&& Int64.toUInt64 63)).toInt64 &&& (3689348814741910323 : Int64))) + (((((v0 - (((v0).toUInt64 >>> (((1 : Int32)).toInt64.toUInt64 &&& Int64.toUInt64 63)).toInt64 &&& (6148914691236517205 : Int64))) &&& (3689348814741910323 : Int64)) + ((((v0 - (((v0).toUInt64 >>> (((1 : Int32)).toInt64.toUInt64 &&& Int64.toUInt64 63)).toInt64 &&& (6148914691236517205 : Int64)))).toUInt64 >>> (((2 : Int32)).toInt64.toUInt64 &&& Int64.toUInt64 63)).toInt64 &&& (3689348814741910323 : Int64)))).toUInt64 >>> (((4 : Int32)).toInt64.toUInt64 &&& Int64.toUInt64 63)).toInt64) &&& (1085102592571150095 : Int64)) + (((((((v0 - (((v0).toUInt64 >>> (((1 : Int32)).toInt64.toUInt64 &&& Int64.toUInt64 63)).toInt64 &&& (6148914691236517205 : Int64))) &&& (3689348814741910323 : Int64)) + ((((v0 - (((v0).toUInt64 >>> (((1 : Int32)).toInt64.toUInt64 &&& Int64.toUInt64 63)).toInt64 &&& (6148914691236517205 : Int64)))).toUInt64 >>> (((2 : Int32)).toInt64.toUInt64 &&& Int64.toUInt64 63)).toInt64 &&& (3689348814741910323 : Int64))) + (((((v0 - (((v0).toUInt64 >>> (((1 : Int32)).toInt64.toUInt64 &&& Int64.toUInt64 63)).toInt64 &&& (6148914691236517205 : Int64))) &&& (3689348814741910323 : Int64)) + ((((v0 - (((v0).toUInt64 >>> (((1 : Int32)).toInt64.toUInt64 &&& Int64.toUInt64 63)).toInt64 &&& (6148914691236517205 : Int64)))).toUInt64 >>> (((2 : Int32)).toInt64.toUInt64 &&& Int64.toUInt64 63)).toInt64 &&& (3689348814741910323 : Int64)))).toUInt64 >>> (((4 : Int32)).toInt64.toUInt64 &&& Int64.toUInt64 63)).toInt64) &&& (1085102592571150095 : Int64))).toUInt64 >>> (((8 : Int32)).toInt64.toUInt64 &&& Int64.toUInt64 63)).toInt64)).toUInt64 >>> (((16 : Int32)).toInt64.toUInt64 &&& Int64.toUInt64 63)).toInt64)).toUInt64 >>> (((32 : Int32)).toInt64.toUInt64 &&& Int64.toUInt64 63)).toInt64)), none] _
  refine r_lload_n C dJ13_bitCount_95d88_55 (rfl : 55 + 1 = 56) rfl ?_
  refine r_l2i C dJ13_bitCount_95d88_56 (rfl : 56 + 1 = 57) ?_
  refine r_bipush (v := (127 : Int32)) C dJ13_bitCount_95d88_57 (rfl : 57 + 2 = 59) rfl ?_
  refine r_iand C dJ13_bitCount_95d88_59 (rfl : 59 + 1 = 60) ?_
  cases h
  exact r_iret C hr dJ13_bitCount_95d88_60
set_option maxHeartbeats 400000 in
set_option maxRecDepth 100000 in
theorem c_J13_bitCount_95d88 (l : Launch) (u : Nat) (h : k_H)  {x0 : Int64} {out : Int32} (hf : f_J13_bitCount_95d88 u x0 = some out) : k_CT l yJ13_bitCount_95d88 cJ13_bitCount_95d88 2 (some .int) 0 0 [.long x0] h (some (.int out)) [] := by
  obtain ⟨sh, I, L, Rf⟩ := h
  try dsimp only
  refine k_ofW (by decide) (Nat.le_of_ble_eq_true rfl) ?_
  intro X ad hl hR0 hr C
  have hR : X.R.frames = 0 ∧ X.R.locals = 0 := by rw [hR0]; exact ⟨rfl, rfl⟩
  have h := hf
  unfold f_J13_bitCount_95d88 at h
  refine k_start (us := []) k_ap_0 ?_
  show k_W X 2 0 0 _ ad (k_ap [] (sh, I, L, Rf)) 0 [some (.long x0), none] []
  refine k_mask [true, false] ?_
  exact sJ13_bitCount_95d88_0 u C hr hR x0 h
