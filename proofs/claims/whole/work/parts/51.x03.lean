/-! LullabyPit$Pit.orderWorth(I)I -/
theorem ds_X5_orderWorth : k_ds [] = true := by decide +kernel
set_option maxHeartbeats 400000 in
set_option maxRecDepth 100000 in
theorem sX5_orderWorth_4 (u : Nat) {X : k_X} {ad : Nat → Nat} (C : k_C X cX5_orderWorth RX5 4 ad) (hr : X.meth.sig.returnType = (some .int)) (hR : X.R.frames = 1 ∧ X.R.locals = 24) {I : Nat → Nat → Int32} {L : Nat → Nat → Int64} {Rf : Nat → Nat → Option Nat} {c0_10 : Int32} (ec0_10 : I 0 10 = c0_10) {a3 : (Nat → Int32)} (ea3 : I 3 = a3) {a5 : (Nat → Int32)} (ea5 : I 5 = a5) {a6 : (Nat → Int32)} (ea6 : I 6 = a6) {out : Int32} : ∀ (n : Nat) (v1 : Int32) (v2 : Int32) (v3 : Int32), bX5_orderWorth_4 u c0_10 a3 a5 a6 n v1 v2 v3 = some out → k_W X 4 0 0 (k_Q X ad (some (.int out)) (k_ap [] (shPit, I, L, Rf))) ad (k_ap [] (shPit, I, L, Rf)) 4 [some (.ref 0), some (.int v1), some (.int v2), some (.int v3)] [] := by
  intro n
  induction n with
  | zero => intro v1 v2 v3 h; cases h
  | succ n ih =>
    intro v1 v2 v3 h
    refine r_iload_n C dX5_orderWorth_4 (rfl : 4 + 1 = 5) rfl ?_
    refine r_iconst (v := (4 : Int32)) C dX5_orderWorth_5 (rfl : 5 + 1 = 6) rfl ?_
    refine r_icmp_gt (tgt := 31) C dX5_orderWorth_6 (by decide) (rfl : 6 + 3 = 9) (fun c6 => ?_) (fun c6 => ?_)
    · have h := k_t c6 h
      refine r_iload_n C dX5_orderWorth_31 (rfl : 31 + 1 = 32) rfl ?_
      cases h
      exact r_iret C hr dX5_orderWorth_32
    · have h := k_f c6 h
      refine r_iload_n C dX5_orderWorth_9 (rfl : 9 + 1 = 10) rfl ?_
      refine r_aload_n C dX5_orderWorth_10 (rfl : 10 + 1 = 11) rfl ?_
      refine r_iload_n C dX5_orderWorth_11 (rfl : 11 + 1 = 12) rfl ?_
      refine r_iload_n C dX5_orderWorth_12 (rfl : 12 + 1 = 13) rfl ?_
      obtain ⟨r13, q13, h⟩ := k_b_of h
      refine d_V (As := [.int v1, .int v3]) (st := [.int v2]) (st' := [.int r13, .int v2]) (h' := k_ap [] (shPit, I, L, Rf)) C hR ⟨Nat.zero_le _, Nat.zero_le _⟩ mv_X5_wanted lk_X5_141 dX5_orderWorth_13 (rfl : 13 + 3 = 16) rfl rfl rfl rfl (c_X5_wanted X.l u (k_ap [] (shPit, I, L, Rf)) rfl ec0_10 ea5 ea6 q13) rfl rfl rfl rfl rfl ?_
      refine r_aload_n C dX5_orderWorth_16 (rfl : 16 + 1 = 17) rfl ?_
      refine r_getR (q := 3) C dX5_orderWorth_17 (rfl : 17 + 3 = 20) fl_X5_18 rfl rfl ?_
      refine r_iload_n C dX5_orderWorth_20 (rfl : 20 + 1 = 21) rfl ?_
      obtain ⟨hi21, h⟩ := k_i_of h
      refine a_i (j := (v3).toNatClampNeg) (f := a3) C dX5_orderWorth_21 (rfl : 21 + 1 = 22) rfl ea3 hi21 rfl ?_
      refine r_imul C dX5_orderWorth_22 (rfl : 22 + 1 = 23) ?_
      refine r_iadd C dX5_orderWorth_23 (rfl : 23 + 1 = 24) ?_
      refine r_istore_n C dX5_orderWorth_24 (rfl : 24 + 1 = 25) (by decide) (Nat.le_of_ble_eq_true rfl) ?_
      show k_W _ _ _ _ _ _ _ _ [some (.ref 0), some (.int v1), some (.int (v2 + (r13 * (a3 ((v3).toNatClampNeg))))), some (.int v3)] _
      refine r_iinc (v := (v3 + (1 : Int32))) C dX5_orderWorth_25 (rfl : 25 + 3 = 28) rfl rfl (by decide) ?_
      show k_W _ _ _ _ _ _ _ _ [some (.ref 0), some (.int v1), some (.int (v2 + (r13 * (a3 ((v3).toNatClampNeg))))), some (.int (v3 + (1 : Int32)))] _
      refine r_goto (tgt := 4) C dX5_orderWorth_28 (by decide) ?_
      refine k_mask [true, true, true, true] ?_
      exact ih v1 (v2 + (r13 * (a3 ((v3).toNatClampNeg)))) (v3 + (1 : Int32)) h
set_option maxHeartbeats 400000 in
set_option maxRecDepth 100000 in
theorem sX5_orderWorth_0 (u : Nat) {X : k_X} {ad : Nat → Nat} (C : k_C X cX5_orderWorth RX5 4 ad) (hr : X.meth.sig.returnType = (some .int)) (hR : X.R.frames = 1 ∧ X.R.locals = 24) {I : Nat → Nat → Int32} {L : Nat → Nat → Int64} {Rf : Nat → Nat → Option Nat} {c0_10 : Int32} (ec0_10 : I 0 10 = c0_10) {a3 : (Nat → Int32)} (ea3 : I 3 = a3) {a5 : (Nat → Int32)} (ea5 : I 5 = a5) {a6 : (Nat → Int32)} (ea6 : I 6 = a6) {out : Int32} : ∀ (v1 : Int32), bX5_orderWorth_0 u c0_10 a3 a5 a6 v1 = some out → k_W X 4 0 0 (k_Q X ad (some (.int out)) (k_ap [] (shPit, I, L, Rf))) ad (k_ap [] (shPit, I, L, Rf)) 0 [some (.ref 0), some (.int v1), none, none] [] := by
  intro v1 h
  unfold bX5_orderWorth_0 at h
  refine r_iconst (v := (0 : Int32)) C dX5_orderWorth_0 (rfl : 0 + 1 = 1) rfl ?_
  refine r_istore_n C dX5_orderWorth_1 (rfl : 1 + 1 = 2) (by decide) (Nat.le_of_ble_eq_true rfl) ?_
  show k_W _ _ _ _ _ _ _ _ [some (.ref 0), some (.int v1), some (.int (0 : Int32)), none] _
  refine r_iconst (v := (1 : Int32)) C dX5_orderWorth_2 (rfl : 2 + 1 = 3) rfl ?_
  refine r_istore_n C dX5_orderWorth_3 (rfl : 3 + 1 = 4) (by decide) (Nat.le_of_ble_eq_true rfl) ?_
  show k_W _ _ _ _ _ _ _ _ [some (.ref 0), some (.int v1), some (.int (0 : Int32)), some (.int (1 : Int32))] _
  refine k_mask [true, true, true, true] ?_
  exact sX5_orderWorth_4 u C hr hR ec0_10 ea3 ea5 ea6 u v1 (0 : Int32) (1 : Int32) h
set_option maxHeartbeats 400000 in
set_option maxRecDepth 100000 in
theorem c_X5_orderWorth (l : Launch) (u : Nat) (h : k_H) (hsh : h.1 = shPit) {c0_10 : Int32} (ec0_10 : h.2.1 0 10 = c0_10) {a3 : (Nat → Int32)} (ea3 : h.2.1 3 = a3) {a5 : (Nat → Int32)} (ea5 : h.2.1 5 = a5) {a6 : (Nat → Int32)} (ea6 : h.2.1 6 = a6) {x0 : Int32} {out : Int32} (hf : f_X5_orderWorth u c0_10 a3 a5 a6 x0 = some out) : k_CT l yX5_orderWorth cX5_orderWorth 4 (some .int) 1 24 [.ref 0, .int x0] h (some (.int out)) [] := by
  obtain ⟨sh, I, L, Rf⟩ := h
  try dsimp only
  obtain rfl : sh = shPit := hsh
  refine k_ofW (by decide) (Nat.le_of_ble_eq_true rfl) ?_
  intro X ad hl hR0 hr C
  have hR : X.R.frames = 1 ∧ X.R.locals = 24 := by rw [hR0]; exact ⟨rfl, rfl⟩
  have h := hf
  unfold f_X5_orderWorth at h
  refine k_start (us := []) k_ap_0 ?_
  show k_W X 4 0 0 _ ad (k_ap [] (shPit, I, L, Rf)) 0 [some (.ref 0), some (.int x0), none, none] []
  refine k_mask [true, true, false, false] ?_
  exact sX5_orderWorth_0 u C hr hR ec0_10 ea3 ea5 ea6 x0 h
/-! LullabyPit$Pit.kindAbove(I)I -/
theorem ds_X5_kindAbove : k_ds [] = true := by decide +kernel
set_option maxHeartbeats 400000 in
set_option maxRecDepth 100000 in
theorem sX5_kindAbove_0 (u : Nat) {X : k_X} {ad : Nat → Nat} (C : k_C X cX5_kindAbove RX5 2 ad) (hr : X.meth.sig.returnType = (some .int)) (hR : X.R.frames = 0 ∧ X.R.locals = 0) {I : Nat → Nat → Int32} {L : Nat → Nat → Int64} {Rf : Nat → Nat → Option Nat} {a1 : (Nat → Int32)} (ea1 : I 1 = a1) {out : Int32} : ∀ (v1 : Int32), bX5_kindAbove_0 u a1 v1 = some out → k_W X 2 0 0 (k_Q X ad (some (.int out)) (k_ap [] (shPit, I, L, Rf))) ad (k_ap [] (shPit, I, L, Rf)) 0 [some (.ref 0), some (.int v1)] [] := by
  intro v1 h
  unfold bX5_kindAbove_0 at h
  refine r_iload_n C dX5_kindAbove_0 (rfl : 0 + 1 = 1) rfl ?_
  refine r_bipush (v := (8 : Int32)) C dX5_kindAbove_1 (rfl : 1 + 2 = 3) rfl ?_
  refine r_icmp_lt (tgt := 24) C dX5_kindAbove_3 (by decide) (rfl : 3 + 3 = 6) (fun c3 => ?_) (fun c3 => ?_)
  · have h := k_t c3 h
    refine r_iconst (v := (0 : Int32)) C dX5_kindAbove_24 (rfl : 24 + 1 = 25) rfl ?_
    cases h
    exact r_iret C hr dX5_kindAbove_25
  · have h := k_f c3 h
    refine r_iload_n C dX5_kindAbove_6 (rfl : 6 + 1 = 7) rfl ?_
    refine r_bipush (v := (48 : Int32)) C dX5_kindAbove_7 (rfl : 7 + 2 = 9) rfl ?_
    refine r_icmp_ge (tgt := 24) C dX5_kindAbove_9 (by decide) (rfl : 9 + 3 = 12) (fun c9 => ?_) (fun c9 => ?_)
    · have h := k_t c9 h
      refine r_iconst (v := (0 : Int32)) C dX5_kindAbove_24 (rfl : 24 + 1 = 25) rfl ?_
      cases h
      exact r_iret C hr dX5_kindAbove_25
    · have h := k_f c9 h
      refine r_aload_n C dX5_kindAbove_12 (rfl : 12 + 1 = 13) rfl ?_
      refine r_getR (q := 1) C dX5_kindAbove_13 (rfl : 13 + 3 = 16) fl_X5_9 rfl rfl ?_
      refine r_iload_n C dX5_kindAbove_16 (rfl : 16 + 1 = 17) rfl ?_
      refine r_bipush (v := (8 : Int32)) C dX5_kindAbove_17 (rfl : 17 + 2 = 19) rfl ?_
      refine r_isub C dX5_kindAbove_19 (rfl : 19 + 1 = 20) ?_
      obtain ⟨hi20, h⟩ := k_i_of h
      refine a_i (j := ((v1 - (8 : Int32))).toNatClampNeg) (f := a1) C dX5_kindAbove_20 (rfl : 20 + 1 = 21) rfl ea1 hi20 rfl ?_
      refine r_goto (tgt := 25) C dX5_kindAbove_21 (by decide) ?_
      cases h
      exact r_iret C hr dX5_kindAbove_25
set_option maxHeartbeats 400000 in
set_option maxRecDepth 100000 in
theorem c_X5_kindAbove (l : Launch) (u : Nat) (h : k_H) (hsh : h.1 = shPit) {a1 : (Nat → Int32)} (ea1 : h.2.1 1 = a1) {x0 : Int32} {out : Int32} (hf : f_X5_kindAbove u a1 x0 = some out) : k_CT l yX5_kindAbove cX5_kindAbove 2 (some .int) 0 0 [.ref 0, .int x0] h (some (.int out)) [] := by
  obtain ⟨sh, I, L, Rf⟩ := h
  try dsimp only
  obtain rfl : sh = shPit := hsh
  refine k_ofW (by decide) (Nat.le_of_ble_eq_true rfl) ?_
  intro X ad hl hR0 hr C
  have hR : X.R.frames = 0 ∧ X.R.locals = 0 := by rw [hR0]; exact ⟨rfl, rfl⟩
  have h := hf
  unfold f_X5_kindAbove at h
  refine k_start (us := []) k_ap_0 ?_
  show k_W X 2 0 0 _ ad (k_ap [] (shPit, I, L, Rf)) 0 [some (.ref 0), some (.int x0)] []
  refine k_mask [true, true] ?_
  exact sX5_kindAbove_0 u C hr hR ea1 x0 h
/-! LullabyPit$Tape.isWord(Ljava/lang/String;II)Z -/
theorem ds_X8_isWord : k_ds [] = true := by decide +kernel
set_option maxHeartbeats 400000 in
set_option maxRecDepth 100000 in
theorem sX8_isWord_20 (u : Nat) (si : Nat) {X : k_X} {ad : Nat → Nat} (C : k_C X cX8_isWord RX8 5 ad) (hr : X.meth.sig.returnType = (some .boolean)) (hR : X.R.frames = 4 ∧ X.R.locals = 85) {I : Nat → Nat → Int32} {L : Nat → Nat → Int64} {Rf : Nat → Nat → Option Nat} (hsi : si < 31) {c0_3 : Int32} (ec0_3 : I 0 3 = c0_3) {c0_4 : Int32} (ec0_4 : I 0 4 = c0_4) {a1 : (Nat → Int32)} (ea1 : I 1 = a1) {out : Int32} : ∀ (n : Nat) (v2 : Int32) (v3 : Int32) (v4 : Int32), bX8_isWord_20 u si c0_3 c0_4 a1 n v2 v3 v4 = some out → k_W X 5 0 0 (k_Q X ad (some (.int out)) (k_ap [] (shTape, I, L, Rf))) ad (k_ap [] (shTape, I, L, Rf)) 20 [some (.ref 0), some (.ref (1000000 + si)), some (.int v2), some (.int v3), some (.int v4)] [] := by
  intro n
  induction n with
  | zero => intro v2 v3 v4 h; cases h
  | succ n ih =>
    intro v2 v3 v4 h
    refine r_iload C dX8_isWord_20 (rfl : 20 + 2 = 22) rfl ?_
    refine r_iload_n C dX8_isWord_22 (rfl : 22 + 1 = 23) rfl ?_
    refine r_iload_n C dX8_isWord_23 (rfl : 23 + 1 = 24) rfl ?_
    refine r_isub C dX8_isWord_24 (rfl : 24 + 1 = 25) ?_
    refine r_icmp_ge (tgt := 59) C dX8_isWord_25 (by decide) (rfl : 25 + 3 = 28) (fun c25 => ?_) (fun c25 => ?_)
    · have h := k_t c25 h
      refine r_iconst (v := (1 : Int32)) C dX8_isWord_59 (rfl : 59 + 1 = 60) rfl ?_
      cases h
      exact r_zret C hr (Or.inr rfl) dX8_isWord_60
    · have h := k_f c25 h
      refine r_aload_n C dX8_isWord_28 (rfl : 28 + 1 = 29) rfl ?_
      refine r_iload_n C dX8_isWord_29 (rfl : 29 + 1 = 30) rfl ?_
      refine r_iload C dX8_isWord_30 (rfl : 30 + 2 = 32) rfl ?_
      refine r_iadd C dX8_isWord_32 (rfl : 32 + 1 = 33) ?_
      obtain ⟨hi33, h⟩ := k_i_of h
      refine d_Vs (i := si) (As := [.int (v2 + v4)]) (st := []) (st' := [.int (k_ch si ((v2 + v4)).toNatClampNeg)]) (h' := k_ap [] (shTape, I, L, Rf)) C hR ⟨Nat.zero_le _, Nat.zero_le _⟩ mv_J0_charAt_5068e lk_X8_53 dX8_isWord_33 (rfl : 33 + 3 = 36) rfl rfl hsi rfl (c_charAt X.l (k_ap [] (shTape, I, L, Rf)) hsi hi33) rfl rfl rfl rfl rfl ?_
      refine r_aload_n C dX8_isWord_36 (rfl : 36 + 1 = 37) rfl ?_
      refine r_getR (q := 1) C dX8_isWord_37 (rfl : 37 + 3 = 40) fl_X8_9 rfl rfl ?_
      refine r_aload_n C dX8_isWord_40 (rfl : 40 + 1 = 41) rfl ?_
      refine r_getI (v := c0_4) C dX8_isWord_41 (rfl : 41 + 3 = 44) fl_X8_34 rfl rfl ec0_4 ?_
      refine r_iload C dX8_isWord_44 (rfl : 44 + 2 = 46) rfl ?_
      refine r_iadd C dX8_isWord_46 (rfl : 46 + 1 = 47) ?_
      obtain ⟨hi47, h⟩ := k_i_of h
      refine a_b (j := ((c0_4 + v4)).toNatClampNeg) (f := a1) C dX8_isWord_47 (rfl : 47 + 1 = 48) rfl ea1 hi47 rfl ?_
      refine r_icmp_eq (tgt := 53) C dX8_isWord_48 (by decide) (rfl : 48 + 3 = 51) (fun c48 => ?_) (fun c48 => ?_)
      · have h := k_t c48 h
        refine r_iinc (v := (v4 + (1 : Int32))) C dX8_isWord_53 (rfl : 53 + 3 = 56) rfl rfl (by decide) ?_
        show k_W _ _ _ _ _ _ _ _ [some (.ref 0), some (.ref (1000000 + si)), some (.int v2), some (.int v3), some (.int (v4 + (1 : Int32)))] _
        refine r_goto (tgt := 20) C dX8_isWord_56 (by decide) ?_
        refine k_mask [true, true, true, true, true] ?_
        exact ih v2 v3 (v4 + (1 : Int32)) h
      · have h := k_f c48 h
        refine r_iconst (v := (0 : Int32)) C dX8_isWord_51 (rfl : 51 + 1 = 52) rfl ?_
        cases h
        exact r_zret C hr (Or.inl rfl) dX8_isWord_52
set_option maxHeartbeats 400000 in
set_option maxRecDepth 100000 in
theorem sX8_isWord_0 (u : Nat) (si : Nat) {X : k_X} {ad : Nat → Nat} (C : k_C X cX8_isWord RX8 5 ad) (hr : X.meth.sig.returnType = (some .boolean)) (hR : X.R.frames = 4 ∧ X.R.locals = 85) {I : Nat → Nat → Int32} {L : Nat → Nat → Int64} {Rf : Nat → Nat → Option Nat} (hsi : si < 31) {c0_3 : Int32} (ec0_3 : I 0 3 = c0_3) {c0_4 : Int32} (ec0_4 : I 0 4 = c0_4) {a1 : (Nat → Int32)} (ea1 : I 1 = a1) {out : Int32} : ∀ (v2 : Int32) (v3 : Int32), bX8_isWord_0 u si c0_3 c0_4 a1 v2 v3 = some out → k_W X 5 0 0 (k_Q X ad (some (.int out)) (k_ap [] (shTape, I, L, Rf))) ad (k_ap [] (shTape, I, L, Rf)) 0 [some (.ref 0), some (.ref (1000000 + si)), some (.int v2), some (.int v3), none] [] := by
  intro v2 v3 h
  unfold bX8_isWord_0 at h
  refine r_iload_n C dX8_isWord_0 (rfl : 0 + 1 = 1) rfl ?_
  refine r_iload_n C dX8_isWord_1 (rfl : 1 + 1 = 2) rfl ?_
  refine r_isub C dX8_isWord_2 (rfl : 2 + 1 = 3) ?_
  refine r_aload_n C dX8_isWord_3 (rfl : 3 + 1 = 4) rfl ?_
  refine r_getI (v := c0_3) C dX8_isWord_4 (rfl : 4 + 3 = 7) fl_X8_31 rfl rfl ec0_3 ?_
  refine r_aload_n C dX8_isWord_7 (rfl : 7 + 1 = 8) rfl ?_
  refine r_getI (v := c0_4) C dX8_isWord_8 (rfl : 8 + 3 = 11) fl_X8_34 rfl rfl ec0_4 ?_
  refine r_isub C dX8_isWord_11 (rfl : 11 + 1 = 12) ?_
  refine r_icmp_eq (tgt := 17) C dX8_isWord_12 (by decide) (rfl : 12 + 3 = 15) (fun c12 => ?_) (fun c12 => ?_)
  · have h := k_t c12 h
    refine r_iconst (v := (0 : Int32)) C dX8_isWord_17 (rfl : 17 + 1 = 18) rfl ?_
    refine r_istore C dX8_isWord_18 (rfl : 18 + 2 = 20) (by decide) (Nat.le_of_ble_eq_true rfl) ?_
    show k_W _ _ _ _ _ _ _ _ [some (.ref 0), some (.ref (1000000 + si)), some (.int v2), some (.int v3), some (.int (0 : Int32))] _
    refine k_mask [true, true, true, true, true] ?_
    exact sX8_isWord_20 u si C hr hR hsi ec0_3 ec0_4 ea1 u v2 v3 (0 : Int32) h
  · have h := k_f c12 h
    refine r_iconst (v := (0 : Int32)) C dX8_isWord_15 (rfl : 15 + 1 = 16) rfl ?_
    cases h
    exact r_zret C hr (Or.inl rfl) dX8_isWord_16
set_option maxHeartbeats 400000 in
set_option maxRecDepth 100000 in
theorem c_X8_isWord (l : Launch) (u : Nat) (si : Nat) (hsi : si < 31) (h : k_H) (hsh : h.1 = shTape) {c0_3 : Int32} (ec0_3 : h.2.1 0 3 = c0_3) {c0_4 : Int32} (ec0_4 : h.2.1 0 4 = c0_4) {a1 : (Nat → Int32)} (ea1 : h.2.1 1 = a1) {x1 : Int32} {x2 : Int32} {out : Int32} (hf : f_X8_isWord u si c0_3 c0_4 a1 x1 x2 = some out) : k_CT l yX8_isWord cX8_isWord 5 (some .boolean) 4 85 [.ref 0, .ref (1000000 + si), .int x1, .int x2] h (some (.int out)) [] := by
  obtain ⟨sh, I, L, Rf⟩ := h
  try dsimp only
  obtain rfl : sh = shTape := hsh
  refine k_ofW (by decide) (Nat.le_of_ble_eq_true rfl) ?_
  intro X ad hl hR0 hr C
  have hR : X.R.frames = 4 ∧ X.R.locals = 85 := by rw [hR0]; exact ⟨rfl, rfl⟩
  have h := hf
  unfold f_X8_isWord at h
  refine k_start (us := []) k_ap_0 ?_
  show k_W X 5 0 0 _ ad (k_ap [] (shTape, I, L, Rf)) 0 [some (.ref 0), some (.ref (1000000 + si)), some (.int x1), some (.int x2), none] []
  refine k_mask [true, true, true, true, false] ?_
  exact sX8_isWord_0 u si C hr hR hsi ec0_3 ec0_4 ea1 x1 x2 h
/-! LullabyPit$Tape.word(Ljava/lang/String;)I -/
theorem ds_X8_word : k_ds [(0, 0, 3), (0, 0, 4), (0, 0, 5), (0, 0, 6)] = true := by decide +kernel
set_option maxHeartbeats 400000 in
set_option maxRecDepth 100000 in
theorem sX8_word_133 (u : Nat) (si : Nat) {X : k_X} {ad : Nat → Nat} (C : k_C X cX8_word RX8 5 ad) (hr : X.meth.sig.returnType = (some .int)) (hR : X.R.frames = 5 ∧ X.R.locals = 109) {I : Nat → Nat → Int32} {L : Nat → Nat → Int64} {Rf : Nat → Nat → Option Nat} (hsi : si < 31) {c0_2 : Int32} (ec0_2 : I 0 2 = c0_2) {a1 : (Nat → Int32)} (ea1 : I 1 = a1) {out : Int32 × Int32 × Int32 × Int32 × Int32} {k72 : Int32 → Int32 → Int32 → Int32 → Int32 → Int32 → Int32 → Option (Int32 × Int32 × Int32 × Int32 × Int32)} (hk72 : ∀ (c0_3 : Int32) (c0_4 : Int32) (c0_5 : Int32) (c0_6 : Int32) (v2 : Int32) (v3 : Int32) (v4 : Int32), k72 c0_3 c0_4 c0_5 c0_6 v2 v3 v4 = some out → k_W X 5 0 0 (k_Q X ad (some (.int out.1)) (k_ap [(0, .inl (3, out.2.1)), (0, .inl (4, out.2.2.1)), (0, .inl (5, out.2.2.2.1)), (0, .inl (6, out.2.2.2.2))] (shTape, I, L, Rf))) ad (k_ap [(0, .inl (3, c0_3)), (0, .inl (4, c0_4)), (0, .inl (5, c0_5)), (0, .inl (6, c0_6))] (shTape, I, L, Rf)) 72 [some (.ref 0), some (.ref (1000000 + si)), some (.int v2), some (.int v3), some (.int v4)] []) : ∀ (c0_3 : Int32) (c0_4 : Int32) (c0_5 : Int32) (c0_6 : Int32) (v2 : Int32) (v3 : Int32) (v4 : Int32), bX8_word_133 u si c0_2 a1 k72 c0_3 c0_4 c0_5 c0_6 v2 v3 v4 = some out → k_W X 5 0 0 (k_Q X ad (some (.int out.1)) (k_ap [(0, .inl (3, out.2.1)), (0, .inl (4, out.2.2.1)), (0, .inl (5, out.2.2.2.1)), (0, .inl (6, out.2.2.2.2))] (shTape, I, L, Rf))) ad (k_ap [(0, .inl (3, c0_3)), (0, .inl (4, c0_4)), (0, .inl (5, c0_5)), (0, .inl (6, c0_6))] (shTape, I, L, Rf)) 133 [some (.ref 0), some (.ref (1000000 + si)), some (.int v2), some (.int v3), some (.int v4)] [] := by
  intro c0_3 c0_4 c0_5 c0_6 v2 v3 v4 h
  unfold bX8_word_133 at h
  refine r_iinc (v := (v4 + (1 : Int32))) C dX8_word_133 (rfl : 133 + 3 = 136) rfl rfl (by decide) ?_
  show k_W _ _ _ _ _ _ _ _ [some (.ref 0), some (.ref (1000000 + si)), some (.int v2), some (.int v3), some (.int (v4 + (1 : Int32)))] _
  refine r_goto (tgt := 72) C dX8_word_136 (by decide) ?_
  refine k_mask [true, true, true, true, true] ?_
  exact hk72 c0_3 c0_4 c0_5 c0_6 v2 v3 (v4 + (1 : Int32)) h
set_option maxHeartbeats 400000 in
set_option maxRecDepth 100000 in
theorem sX8_word_101 (u : Nat) (si : Nat) {X : k_X} {ad : Nat → Nat} (C : k_C X cX8_word RX8 5 ad) (hr : X.meth.sig.returnType = (some .int)) (hR : X.R.frames = 5 ∧ X.R.locals = 109) {I : Nat → Nat → Int32} {L : Nat → Nat → Int64} {Rf : Nat → Nat → Option Nat} (hsi : si < 31) {c0_2 : Int32} (ec0_2 : I 0 2 = c0_2) {a1 : (Nat → Int32)} (ea1 : I 1 = a1) {out : Int32 × Int32 × Int32 × Int32 × Int32} {k72 : Int32 → Int32 → Int32 → Int32 → Int32 → Int32 → Int32 → Option (Int32 × Int32 × Int32 × Int32 × Int32)} (hk72 : ∀ (c0_3 : Int32) (c0_4 : Int32) (c0_5 : Int32) (c0_6 : Int32) (v2 : Int32) (v3 : Int32) (v4 : Int32), k72 c0_3 c0_4 c0_5 c0_6 v2 v3 v4 = some out → k_W X 5 0 0 (k_Q X ad (some (.int out.1)) (k_ap [(0, .inl (3, out.2.1)), (0, .inl (4, out.2.2.1)), (0, .inl (5, out.2.2.2.1)), (0, .inl (6, out.2.2.2.2))] (shTape, I, L, Rf))) ad (k_ap [(0, .inl (3, c0_3)), (0, .inl (4, c0_4)), (0, .inl (5, c0_5)), (0, .inl (6, c0_6))] (shTape, I, L, Rf)) 72 [some (.ref 0), some (.ref (1000000 + si)), some (.int v2), some (.int v3), some (.int v4)] []) : ∀ (c0_3 : Int32) (c0_4 : Int32) (c0_5 : Int32) (c0_6 : Int32) (v2 : Int32) (v3 : Int32) (v4 : Int32), bX8_word_101 u si c0_2 a1 k72 c0_3 c0_4 c0_5 c0_6 v2 v3 v4 = some out → k_W X 5 0 0 (k_Q X ad (some (.int out.1)) (k_ap [(0, .inl (3, out.2.1)), (0, .inl (4, out.2.2.1)), (0, .inl (5, out.2.2.2.1)), (0, .inl (6, out.2.2.2.2))] (shTape, I, L, Rf))) ad (k_ap [(0, .inl (3, c0_3)), (0, .inl (4, c0_4)), (0, .inl (5, c0_5)), (0, .inl (6, c0_6))] (shTape, I, L, Rf)) 101 [some (.ref 0), some (.ref (1000000 + si)), some (.int v2), some (.int v3), some (.int v4)] [] := by
  intro c0_3 c0_4 c0_5 c0_6 v2 v3 v4 h
  unfold bX8_word_101 at h
  refine r_aload_n C dX8_word_101 (rfl : 101 + 1 = 102) rfl ?_
  refine r_aload_n C dX8_word_102 (rfl : 102 + 1 = 103) rfl ?_
  refine r_iload_n C dX8_word_103 (rfl : 103 + 1 = 104) rfl ?_
  refine r_iload C dX8_word_104 (rfl : 104 + 2 = 106) rfl ?_
  obtain ⟨r106, q106, h⟩ := k_b_of h
  refine d_V (As := [.ref (1000000 + si), .int v3, .int v4]) (st := []) (st' := [.int r106]) (h' := k_ap [(0, .inl (3, c0_3)), (0, .inl (4, c0_4)), (0, .inl (5, c0_5)), (0, .inl (6, c0_6))] (shTape, I, L, Rf)) C hR ⟨Nat.zero_le _, Nat.zero_le _⟩ mv_X8_isWord lk_X8_57 dX8_word_106 (rfl : 106 + 3 = 109) rfl rfl rfl rfl (c_X8_isWord X.l u si hsi (k_ap [(0, .inl (3, c0_3)), (0, .inl (4, c0_4)), (0, .inl (5, c0_5)), (0, .inl (6, c0_6))] (shTape, I, L, Rf)) rfl rfl rfl ea1 q106) rfl rfl rfl rfl rfl ?_
  refine r_if_eq (tgt := 125) C dX8_word_109 (by decide) (rfl : 109 + 3 = 112) (fun c109 => ?_) (fun c109 => ?_)
  · have h := k_t c109 h
    refine r_iinc (v := (v2 + (1 : Int32))) C dX8_word_125 (rfl : 125 + 3 = 128) rfl rfl (by decide) ?_
    show k_W _ _ _ _ _ _ _ _ [some (.ref 0), some (.ref (1000000 + si)), some (.int (v2 + (1 : Int32))), some (.int v3), some (.int v4)] _
    refine r_iload C dX8_word_128 (rfl : 128 + 2 = 130) rfl ?_
    refine r_iconst (v := (1 : Int32)) C dX8_word_130 (rfl : 130 + 1 = 131) rfl ?_
    refine r_iadd C dX8_word_131 (rfl : 131 + 1 = 132) ?_
    refine r_istore_n C dX8_word_132 (rfl : 132 + 1 = 133) (by decide) (Nat.le_of_ble_eq_true rfl) ?_
    show k_W _ _ _ _ _ _ _ _ [some (.ref 0), some (.ref (1000000 + si)), some (.int (v2 + (1 : Int32))), some (.int (v4 + (1 : Int32))), some (.int v4)] _
    refine k_mask [true, true, true, true, true] ?_
    exact sX8_word_133 u si C hr hR hsi ec0_2 ea1 hk72 c0_3 c0_4 c0_5 c0_6 (v2 + (1 : Int32)) (v4 + (1 : Int32)) v4 h
  · have h := k_f c109 h
    refine r_aload_n C dX8_word_112 (rfl : 112 + 1 = 113) rfl ?_
    refine r_getI (v := c0_5) C dX8_word_113 (rfl : 113 + 3 = 116) fl_X8_37 rfl rfl rfl ?_
    refine r_if_ne (tgt := 123) C dX8_word_116 (by decide) (rfl : 116 + 3 = 119) (fun c116 => ?_) (fun c116 => ?_)
    · have h := k_f c116 h
      refine r_iconst (v := (-1 : Int32)) C dX8_word_123 (rfl : 123 + 1 = 124) rfl ?_
      cases h
      exact r_iret C hr dX8_word_124
    · have h := k_t c116 h
      refine r_iload_n C dX8_word_119 (rfl : 119 + 1 = 120) rfl ?_
      refine r_goto (tgt := 124) C dX8_word_120 (by decide) ?_
      cases h
      exact r_iret C hr dX8_word_124
set_option maxHeartbeats 400000 in
set_option maxRecDepth 100000 in
theorem sX8_word_72 (u : Nat) (si : Nat) {X : k_X} {ad : Nat → Nat} (C : k_C X cX8_word RX8 5 ad) (hr : X.meth.sig.returnType = (some .int)) (hR : X.R.frames = 5 ∧ X.R.locals = 109) {I : Nat → Nat → Int32} {L : Nat → Nat → Int64} {Rf : Nat → Nat → Option Nat} (hsi : si < 31) {c0_2 : Int32} (ec0_2 : I 0 2 = c0_2) {a1 : (Nat → Int32)} (ea1 : I 1 = a1) {out : Int32 × Int32 × Int32 × Int32 × Int32} : ∀ (n : Nat) (c0_3 : Int32) (c0_4 : Int32) (c0_5 : Int32) (c0_6 : Int32) (v2 : Int32) (v3 : Int32) (v4 : Int32), bX8_word_72 u si c0_2 a1 n c0_3 c0_4 c0_5 c0_6 v2 v3 v4 = some out → k_W X 5 0 0 (k_Q X ad (some (.int out.1)) (k_ap [(0, .inl (3, out.2.1)), (0, .inl (4, out.2.2.1)), (0, .inl (5, out.2.2.2.1)), (0, .inl (6, out.2.2.2.2))] (shTape, I, L, Rf))) ad (k_ap [(0, .inl (3, c0_3)), (0, .inl (4, c0_4)), (0, .inl (5, c0_5)), (0, .inl (6, c0_6))] (shTape, I, L, Rf)) 72 [some (.ref 0), some (.ref (1000000 + si)), some (.int v2), some (.int v3), some (.int v4)] [] := by
  intro n
  induction n with
  | zero => intro c0_3 c0_4 c0_5 c0_6 v2 v3 v4 h; cases h
  | succ n ih =>
    intro c0_3 c0_4 c0_5 c0_6 v2 v3 v4 h
    refine r_iload C dX8_word_72 (rfl : 72 + 2 = 74) rfl ?_
    refine r_aload_n C dX8_word_74 (rfl : 74 + 1 = 75) rfl ?_
    refine d_Vs (i := si) (As := []) (st := [.int v4]) (st' := [.int (nI (k_bs si).length), .int v4]) (h' := k_ap [(0, .inl (3, c0_3)), (0, .inl (4, c0_4)), (0, .inl (5, c0_5)), (0, .inl (6, c0_6))] (shTape, I, L, Rf)) C hR ⟨Nat.zero_le _, Nat.zero_le _⟩ mv_J0_length_8abf5 lk_X8_48 dX8_word_75 (rfl : 75 + 3 = 78) rfl rfl hsi rfl (c_length X.l (k_ap [(0, .inl (3, c0_3)), (0, .inl (4, c0_4)), (0, .inl (5, c0_5)), (0, .inl (6, c0_6))] (shTape, I, L, Rf)) hsi) rfl rfl rfl rfl rfl ?_
    refine r_icmp_gt (tgt := 139) C dX8_word_78 (by decide) (rfl : 78 + 3 = 81) (fun c78 => ?_) (fun c78 => ?_)
    · have h := k_t c78 h
      refine r_aload_n C dX8_word_139 (rfl : 139 + 1 = 140) rfl ?_
      refine r_iconst (v := (1 : Int32)) C dX8_word_140 (rfl : 140 + 1 = 141) rfl ?_
      refine r_aload_n C dX8_word_141 (rfl : 141 + 1 = 142) rfl ?_
      refine r_getI (v := c0_4) C dX8_word_142 (rfl : 142 + 3 = 145) fl_X8_34 rfl rfl rfl ?_
      obtain ⟨r145, q145, h⟩ := k_b_of h
      refine d_V (As := [.int (1 : Int32), .int c0_4]) (st := []) (st' := []) (h' := k_ap [(0, .inl (3, c0_3)), (0, .inl (4, c0_4)), (0, .inl (5, r145.1)), (0, .inl (6, r145.2))] (shTape, I, L, Rf)) C hR ⟨Nat.zero_le _, Nat.zero_le _⟩ mv_X8_fail lk_X8_44 dX8_word_145 (rfl : 145 + 3 = 148) rfl rfl rfl rfl (c_X8_fail X.l u (k_ap [(0, .inl (3, c0_3)), (0, .inl (4, c0_4)), (0, .inl (5, c0_5)), (0, .inl (6, c0_6))] (shTape, I, L, Rf)) rfl rfl rfl q145) rfl rfl rfl (k_jn (us' := [(0, .inl (3, c0_3)), (0, .inl (4, c0_4)), (0, .inl (5, r145.1)), (0, .inl (6, r145.2))]) ds_X8_word rfl rfl rfl) rfl ?_
      refine r_iconst (v := (-1 : Int32)) C dX8_word_148 (rfl : 148 + 1 = 149) rfl ?_
      cases h
      exact r_iret C hr dX8_word_149
    · have h := k_f c78 h
      refine r_iload C dX8_word_81 (rfl : 81 + 2 = 83) rfl ?_
      refine r_aload_n C dX8_word_83 (rfl : 83 + 1 = 84) rfl ?_
      refine d_Vs (i := si) (As := []) (st := [.int v4]) (st' := [.int (nI (k_bs si).length), .int v4]) (h' := k_ap [(0, .inl (3, c0_3)), (0, .inl (4, c0_4)), (0, .inl (5, c0_5)), (0, .inl (6, c0_6))] (shTape, I, L, Rf)) C hR ⟨Nat.zero_le _, Nat.zero_le _⟩ mv_J0_length_8abf5 lk_X8_48 dX8_word_84 (rfl : 84 + 3 = 87) rfl rfl hsi rfl (c_length X.l (k_ap [(0, .inl (3, c0_3)), (0, .inl (4, c0_4)), (0, .inl (5, c0_5)), (0, .inl (6, c0_6))] (shTape, I, L, Rf)) hsi) rfl rfl rfl rfl rfl ?_
      refine r_icmp_eq (tgt := 101) C dX8_word_87 (by decide) (rfl : 87 + 3 = 90) (fun c87 => ?_) (fun c87 => ?_)
      · have h := k_t c87 h
        refine k_mask [true, true, true, true, true] ?_
        exact sX8_word_101 u si C hr hR hsi ec0_2 ea1 ih c0_3 c0_4 c0_5 c0_6 v2 v3 v4 h
      · have h := k_f c87 h
        refine r_aload_n C dX8_word_90 (rfl : 90 + 1 = 91) rfl ?_
        refine r_iload C dX8_word_91 (rfl : 91 + 2 = 93) rfl ?_
        obtain ⟨hi93, h⟩ := k_i_of h
        refine d_Vs (i := si) (As := [.int v4]) (st := []) (st' := [.int (k_ch si (v4).toNatClampNeg)]) (h' := k_ap [(0, .inl (3, c0_3)), (0, .inl (4, c0_4)), (0, .inl (5, c0_5)), (0, .inl (6, c0_6))] (shTape, I, L, Rf)) C hR ⟨Nat.zero_le _, Nat.zero_le _⟩ mv_J0_charAt_5068e lk_X8_53 dX8_word_93 (rfl : 93 + 3 = 96) rfl rfl hsi rfl (c_charAt X.l (k_ap [(0, .inl (3, c0_3)), (0, .inl (4, c0_4)), (0, .inl (5, c0_5)), (0, .inl (6, c0_6))] (shTape, I, L, Rf)) hsi hi93) rfl rfl rfl rfl rfl ?_
        refine r_bipush (v := (32 : Int32)) C dX8_word_96 (rfl : 96 + 2 = 98) rfl ?_
        refine r_icmp_ne (tgt := 133) C dX8_word_98 (by decide) (rfl : 98 + 3 = 101) (fun c98 => ?_) (fun c98 => ?_)
        · have h := k_f c98 h
          refine k_mask [true, true, true, true, true] ?_
          exact sX8_word_133 u si C hr hR hsi ec0_2 ea1 ih c0_3 c0_4 c0_5 c0_6 v2 v3 v4 h
        · have h := k_t c98 h
          refine k_mask [true, true, true, true, true] ?_
          exact sX8_word_101 u si C hr hR hsi ec0_2 ea1 ih c0_3 c0_4 c0_5 c0_6 v2 v3 v4 h
set_option maxHeartbeats 400000 in
set_option maxRecDepth 100000 in
theorem sX8_word_65 (u : Nat) (si : Nat) {X : k_X} {ad : Nat → Nat} (C : k_C X cX8_word RX8 5 ad) (hr : X.meth.sig.returnType = (some .int)) (hR : X.R.frames = 5 ∧ X.R.locals = 109) {I : Nat → Nat → Int32} {L : Nat → Nat → Int64} {Rf : Nat → Nat → Option Nat} (hsi : si < 31) {c0_2 : Int32} (ec0_2 : I 0 2 = c0_2) {a1 : (Nat → Int32)} (ea1 : I 1 = a1) {out : Int32 × Int32 × Int32 × Int32 × Int32} : ∀ (c0_3 : Int32) (c0_4 : Int32) (c0_5 : Int32) (c0_6 : Int32), bX8_word_65 u si c0_2 a1 c0_3 c0_4 c0_5 c0_6 = some out → k_W X 5 0 0 (k_Q X ad (some (.int out.1)) (k_ap [(0, .inl (3, out.2.1)), (0, .inl (4, out.2.2.1)), (0, .inl (5, out.2.2.2.1)), (0, .inl (6, out.2.2.2.2))] (shTape, I, L, Rf))) ad (k_ap [(0, .inl (3, c0_3)), (0, .inl (4, c0_4)), (0, .inl (5, c0_5)), (0, .inl (6, c0_6))] (shTape, I, L, Rf)) 65 [some (.ref 0), some (.ref (1000000 + si)), none, none, none] [] := by
  intro c0_3 c0_4 c0_5 c0_6 h
  unfold bX8_word_65 at h
  refine r_iconst (v := (0 : Int32)) C dX8_word_65 (rfl : 65 + 1 = 66) rfl ?_
  refine r_istore_n C dX8_word_66 (rfl : 66 + 1 = 67) (by decide) (Nat.le_of_ble_eq_true rfl) ?_
  show k_W _ _ _ _ _ _ _ _ [some (.ref 0), some (.ref (1000000 + si)), some (.int (0 : Int32)), none, none] _
  refine r_iconst (v := (0 : Int32)) C dX8_word_67 (rfl : 67 + 1 = 68) rfl ?_
  refine r_istore_n C dX8_word_68 (rfl : 68 + 1 = 69) (by decide) (Nat.le_of_ble_eq_true rfl) ?_
  show k_W _ _ _ _ _ _ _ _ [some (.ref 0), some (.ref (1000000 + si)), some (.int (0 : Int32)), some (.int (0 : Int32)), none] _
  refine r_iconst (v := (0 : Int32)) C dX8_word_69 (rfl : 69 + 1 = 70) rfl ?_
  refine r_istore C dX8_word_70 (rfl : 70 + 2 = 72) (by decide) (Nat.le_of_ble_eq_true rfl) ?_
  show k_W _ _ _ _ _ _ _ _ [some (.ref 0), some (.ref (1000000 + si)), some (.int (0 : Int32)), some (.int (0 : Int32)), some (.int (0 : Int32))] _
  refine k_mask [true, true, true, true, true] ?_
  exact sX8_word_72 u si C hr hR hsi ec0_2 ea1 u c0_3 c0_4 c0_5 c0_6 (0 : Int32) (0 : Int32) (0 : Int32) h
set_option maxHeartbeats 400000 in
set_option maxRecDepth 100000 in
theorem sX8_word_13 (u : Nat) (si : Nat) {X : k_X} {ad : Nat → Nat} (C : k_C X cX8_word RX8 5 ad) (hr : X.meth.sig.returnType = (some .int)) (hR : X.R.frames = 5 ∧ X.R.locals = 109) {I : Nat → Nat → Int32} {L : Nat → Nat → Int64} {Rf : Nat → Nat → Option Nat} (hsi : si < 31) {c0_2 : Int32} (ec0_2 : I 0 2 = c0_2) {a1 : (Nat → Int32)} (ea1 : I 1 = a1) {out : Int32 × Int32 × Int32 × Int32 × Int32} : ∀ (n : Nat) (c0_3 : Int32) (c0_4 : Int32) (c0_5 : Int32) (c0_6 : Int32), bX8_word_13 u si c0_2 a1 n c0_3 c0_4 c0_5 c0_6 = some out → k_W X 5 0 0 (k_Q X ad (some (.int out.1)) (k_ap [(0, .inl (3, out.2.1)), (0, .inl (4, out.2.2.1)), (0, .inl (5, out.2.2.2.1)), (0, .inl (6, out.2.2.2.2))] (shTape, I, L, Rf))) ad (k_ap [(0, .inl (3, c0_3)), (0, .inl (4, c0_4)), (0, .inl (5, c0_5)), (0, .inl (6, c0_6))] (shTape, I, L, Rf)) 13 [some (.ref 0), some (.ref (1000000 + si)), none, none, none] [] := by
  intro n
  induction n with
  | zero => intro c0_3 c0_4 c0_5 c0_6 h; cases h
  | succ n ih =>
    intro c0_3 c0_4 c0_5 c0_6 h
    refine r_aload_n C dX8_word_13 (rfl : 13 + 1 = 14) rfl ?_
    refine r_getI (v := c0_3) C dX8_word_14 (rfl : 14 + 3 = 17) fl_X8_31 rfl rfl rfl ?_
    refine r_aload_n C dX8_word_17 (rfl : 17 + 1 = 18) rfl ?_
    refine r_getI (v := c0_2) C dX8_word_18 (rfl : 18 + 3 = 21) fl_X8_28 rfl rfl ec0_2 ?_
    refine r_icmp_ge (tgt := 65) C dX8_word_21 (by decide) (rfl : 21 + 3 = 24) (fun c21 => ?_) (fun c21 => ?_)
    · have h := k_t c21 h
      refine k_mask [true, true, false, false, false] ?_
      exact sX8_word_65 u si C hr hR hsi ec0_2 ea1 c0_3 c0_4 c0_5 c0_6 h
    · have h := k_f c21 h
      refine r_aload_n C dX8_word_24 (rfl : 24 + 1 = 25) rfl ?_
      refine r_getR (q := 1) C dX8_word_25 (rfl : 25 + 3 = 28) fl_X8_9 rfl rfl ?_
      refine r_aload_n C dX8_word_28 (rfl : 28 + 1 = 29) rfl ?_
      refine r_getI (v := c0_3) C dX8_word_29 (rfl : 29 + 3 = 32) fl_X8_31 rfl rfl rfl ?_
      obtain ⟨hi32, h⟩ := k_i_of h
      refine a_b (j := (c0_3).toNatClampNeg) (f := a1) C dX8_word_32 (rfl : 32 + 1 = 33) rfl ea1 hi32 rfl ?_
      refine r_bipush (v := (97 : Int32)) C dX8_word_33 (rfl : 33 + 2 = 35) rfl ?_
      refine r_icmp_lt (tgt := 65) C dX8_word_35 (by decide) (rfl : 35 + 3 = 38) (fun c35 => ?_) (fun c35 => ?_)
      · have h := k_t c35 h
        refine k_mask [true, true, false, false, false] ?_
        exact sX8_word_65 u si C hr hR hsi ec0_2 ea1 c0_3 c0_4 c0_5 c0_6 h
      · have h := k_f c35 h
        refine r_aload_n C dX8_word_38 (rfl : 38 + 1 = 39) rfl ?_
        refine r_getR (q := 1) C dX8_word_39 (rfl : 39 + 3 = 42) fl_X8_9 rfl rfl ?_
        refine r_aload_n C dX8_word_42 (rfl : 42 + 1 = 43) rfl ?_
        refine r_getI (v := c0_3) C dX8_word_43 (rfl : 43 + 3 = 46) fl_X8_31 rfl rfl rfl ?_
        obtain ⟨hi46, h⟩ := k_i_of h
        refine a_b (j := (c0_3).toNatClampNeg) (f := a1) C dX8_word_46 (rfl : 46 + 1 = 47) rfl ea1 hi46 rfl ?_
        refine r_bipush (v := (122 : Int32)) C dX8_word_47 (rfl : 47 + 2 = 49) rfl ?_
        refine r_icmp_gt (tgt := 65) C dX8_word_49 (by decide) (rfl : 49 + 3 = 52) (fun c49 => ?_) (fun c49 => ?_)
        · have h := k_t c49 h
          refine k_mask [true, true, false, false, false] ?_
          exact sX8_word_65 u si C hr hR hsi ec0_2 ea1 c0_3 c0_4 c0_5 c0_6 h
        · have h := k_f c49 h
          refine r_aload_n C dX8_word_52 (rfl : 52 + 1 = 53) rfl ?_
          refine r_dup C dX8_word_53 (rfl : 53 + 1 = 54) rfl ?_
          refine r_getI (v := c0_3) C dX8_word_54 (rfl : 54 + 3 = 57) fl_X8_31 rfl rfl rfl ?_
          refine r_iconst (v := (1 : Int32)) C dX8_word_57 (rfl : 57 + 1 = 58) rfl ?_
          refine r_iadd C dX8_word_58 (rfl : 58 + 1 = 59) ?_
          refine p_I (us' := [(0, .inl (3, (c0_3 + (1 : Int32)))), (0, .inl (4, c0_4)), (0, .inl (5, c0_5)), (0, .inl (6, c0_6))]) C dX8_word_59 (rfl : 59 + 3 = 62) fp_X8_31 rfl rfl ds_X8_word rfl rfl rfl ?_
          refine r_goto (tgt := 13) C dX8_word_62 (by decide) ?_
          refine k_mask [true, true, false, false, false] ?_
          exact ih (c0_3 + (1 : Int32)) c0_4 c0_5 c0_6 h
set_option maxHeartbeats 400000 in
set_option maxRecDepth 100000 in
theorem sX8_word_0 (u : Nat) (si : Nat) {X : k_X} {ad : Nat → Nat} (C : k_C X cX8_word RX8 5 ad) (hr : X.meth.sig.returnType = (some .int)) (hR : X.R.frames = 5 ∧ X.R.locals = 109) {I : Nat → Nat → Int32} {L : Nat → Nat → Int64} {Rf : Nat → Nat → Option Nat} (hsi : si < 31) {c0_2 : Int32} (ec0_2 : I 0 2 = c0_2) {a1 : (Nat → Int32)} (ea1 : I 1 = a1) {out : Int32 × Int32 × Int32 × Int32 × Int32} : ∀ (c0_3 : Int32) (c0_4 : Int32) (c0_5 : Int32) (c0_6 : Int32), bX8_word_0 u si c0_2 a1 c0_3 c0_4 c0_5 c0_6 = some out → k_W X 5 0 0 (k_Q X ad (some (.int out.1)) (k_ap [(0, .inl (3, out.2.1)), (0, .inl (4, out.2.2.1)), (0, .inl (5, out.2.2.2.1)), (0, .inl (6, out.2.2.2.2))] (shTape, I, L, Rf))) ad (k_ap [(0, .inl (3, c0_3)), (0, .inl (4, c0_4)), (0, .inl (5, c0_5)), (0, .inl (6, c0_6))] (shTape, I, L, Rf)) 0 [some (.ref 0), some (.ref (1000000 + si)), none, none, none] [] := by
  intro c0_3 c0_4 c0_5 c0_6 h
  unfold bX8_word_0 at h
  refine r_aload_n C dX8_word_0 (rfl : 0 + 1 = 1) rfl ?_
  obtain ⟨r1, q1, h⟩ := k_b_of h
  refine d_V (As := []) (st := []) (st' := [.int r1.1]) (h' := k_ap [(0, .inl (3, r1.2)), (0, .inl (4, c0_4)), (0, .inl (5, c0_5)), (0, .inl (6, c0_6))] (shTape, I, L, Rf)) C hR ⟨Nat.zero_le _, Nat.zero_le _⟩ mv_X8_peek lk_X8_40 dX8_word_1 (rfl : 1 + 3 = 4) rfl rfl rfl rfl (c_X8_peek X.l u (k_ap [(0, .inl (3, c0_3)), (0, .inl (4, c0_4)), (0, .inl (5, c0_5)), (0, .inl (6, c0_6))] (shTape, I, L, Rf)) rfl ec0_2 rfl ea1 q1) rfl rfl rfl (k_jn (us' := [(0, .inl (3, r1.2)), (0, .inl (4, c0_4)), (0, .inl (5, c0_5)), (0, .inl (6, c0_6))]) ds_X8_word rfl rfl rfl) rfl ?_
  refine r_pop C dX8_word_4 (rfl : 4 + 1 = 5) rfl ?_
  refine r_aload_n C dX8_word_5 (rfl : 5 + 1 = 6) rfl ?_
  refine r_aload_n C dX8_word_6 (rfl : 6 + 1 = 7) rfl ?_
  refine r_getI (v := r1.2) C dX8_word_7 (rfl : 7 + 3 = 10) fl_X8_31 rfl rfl rfl ?_
  refine p_I (us' := [(0, .inl (3, r1.2)), (0, .inl (4, r1.2)), (0, .inl (5, c0_5)), (0, .inl (6, c0_6))]) C dX8_word_10 (rfl : 10 + 3 = 13) fp_X8_34 rfl rfl ds_X8_word rfl rfl rfl ?_
  refine k_mask [true, true, false, false, false] ?_
  exact sX8_word_13 u si C hr hR hsi ec0_2 ea1 u r1.2 r1.2 c0_5 c0_6 h
set_option maxHeartbeats 400000 in
set_option maxRecDepth 100000 in
theorem c_X8_word (l : Launch) (u : Nat) (si : Nat) (hsi : si < 31) (h : k_H) (hsh : h.1 = shTape) {c0_2 : Int32} (ec0_2 : h.2.1 0 2 = c0_2) {c0_3 : Int32} (ec0_3 : h.2.1 0 3 = c0_3) {c0_4 : Int32} (ec0_4 : h.2.1 0 4 = c0_4) {c0_5 : Int32} (ec0_5 : h.2.1 0 5 = c0_5) {c0_6 : Int32} (ec0_6 : h.2.1 0 6 = c0_6) {a1 : (Nat → Int32)} (ea1 : h.2.1 1 = a1) {out : Int32 × Int32 × Int32 × Int32 × Int32} (hf : f_X8_word u si c0_2 c0_3 c0_4 c0_5 c0_6 a1 = some out) : k_CT l yX8_word cX8_word 5 (some .int) 5 109 [.ref 0, .ref (1000000 + si)] h (some (.int out.1)) [(0, .inl (3, out.2.1)), (0, .inl (4, out.2.2.1)), (0, .inl (5, out.2.2.2.1)), (0, .inl (6, out.2.2.2.2))] := by
  obtain ⟨sh, I, L, Rf⟩ := h
  try dsimp only
  obtain rfl : sh = shTape := hsh
  refine k_ofW (by decide) (Nat.le_of_ble_eq_true rfl) ?_
  intro X ad hl hR0 hr C
  have hR : X.R.frames = 5 ∧ X.R.locals = 109 := by rw [hR0]; exact ⟨rfl, rfl⟩
  have h := hf
  unfold f_X8_word at h
  refine k_start (us := [(0, .inl (3, c0_3)), (0, .inl (4, c0_4)), (0, .inl (5, c0_5)), (0, .inl (6, c0_6))]) (k_ao_I ec0_3 (k_ao_I ec0_4 (k_ao_I ec0_5 (k_ao_I ec0_6 k_ap_0)))) ?_
  show k_W X 5 0 0 _ ad (k_ap [(0, .inl (3, c0_3)), (0, .inl (4, c0_4)), (0, .inl (5, c0_5)), (0, .inl (6, c0_6))] (shTape, I, L, Rf)) 0 [some (.ref 0), some (.ref (1000000 + si)), none, none, none] []
  refine k_mask [true, true, false, false, false] ?_
  exact sX8_word_0 u si C hr hR hsi ec0_2 ea1 c0_3 c0_4 c0_5 c0_6 h
/-! LullabyPit$Pit.readSize(LLullabyPit$Tape;I)V -/
theorem ds_X5_readSize : k_ds [(0, 0, 0), (0, 0, 1), (7, 0, 3), (7, 0, 4), (7, 0, 5), (7, 0, 6)] = true := by decide +kernel
set_option maxHeartbeats 400000 in
set_option maxRecDepth 100000 in
theorem sX5_readSize_0 (u : Nat) {X : k_X} {ad : Nat → Nat} (C : k_C X cX5_readSize RX5 3 ad) (hr : X.meth.sig.returnType = none) (hR : X.R.frames = 2 ∧ X.R.locals = 45) {I : Nat → Nat → Int32} {L : Nat → Nat → Int64} {Rf : Nat → Nat → Option Nat} {c7_2 : Int32} (ec7_2 : I 7 2 = c7_2) {a8 : (Nat → Int32)} (ea8 : I 8 = a8) {out : Int32 × Int32 × Int32 × Int32 × Int32 × Int32} : ∀ (c0_0 : Int32) (c0_1 : Int32) (c7_3 : Int32) (c7_4 : Int32) (c7_5 : Int32) (c7_6 : Int32) (v2 : Int32), bX5_readSize_0 u c7_2 a8 c0_0 c0_1 c7_3 c7_4 c7_5 c7_6 v2 = some out → k_W X 3 0 0 (k_Q X ad none (k_ap [(0, .inl (0, out.1)), (0, .inl (1, out.2.1)), (7, .inl (3, out.2.2.1)), (7, .inl (4, out.2.2.2.1)), (7, .inl (5, out.2.2.2.2.1)), (7, .inl (6, out.2.2.2.2.2))] (shPitTape, I, L, Rf))) ad (k_ap [(0, .inl (0, c0_0)), (0, .inl (1, c0_1)), (7, .inl (3, c7_3)), (7, .inl (4, c7_4)), (7, .inl (5, c7_5)), (7, .inl (6, c7_6))] (shPitTape, I, L, Rf)) 0 [some (.ref 0), some (.ref 7), some (.int v2)] [] := by
  intro c0_0 c0_1 c7_3 c7_4 c7_5 c7_6 v2 h
  unfold bX5_readSize_0 at h
  refine r_iload_n C dX5_readSize_0 (rfl : 0 + 1 = 1) rfl ?_
  refine r_if_le (tgt := 14) C dX5_readSize_1 (by decide) (rfl : 1 + 3 = 4) (fun c1 => ?_) (fun c1 => ?_)
  · have h := k_t c1 h
    refine r_aload_n C dX5_readSize_14 (rfl : 14 + 1 = 15) rfl ?_
    refine r_aload_n C dX5_readSize_15 (rfl : 15 + 1 = 16) rfl ?_
    refine r_iconst (v := (1 : Int32)) C dX5_readSize_16 (rfl : 16 + 1 = 17) rfl ?_
    refine r_bipush (v := (8 : Int32)) C dX5_readSize_17 (rfl : 17 + 2 = 19) rfl ?_
    obtain ⟨r19, q19, h⟩ := k_b_of h
    refine d_Vp (pi := [7, 8]) (shl := shTape) (bl := 0) (As := [.int (1 : Int32), .int (8 : Int32)]) (Al := [.int (1 : Int32), .int (8 : Int32)]) (st := [.ref 0]) (st' := [.int r19.1, .ref 0]) (h' := k_ap [(0, .inl (0, c0_0)), (0, .inl (1, c0_1)), (7, .inl (3, r19.2.1)), (7, .inl (4, r19.2.2.1)), (7, .inl (5, r19.2.2.2.1)), (7, .inl (6, r19.2.2.2.2))] (shPitTape, I, L, Rf)) C hR ⟨Nat.zero_le _, Nat.zero_le _⟩ mv_X8_number lk_X5_117 dX5_readSize_19 (rfl : 19 + 3 = 22) rfl rfl ck_shPitTape_shTape_7 rfl rfl (c_X8_number X.l u (k_pl [7, 8] shTape (k_ap [(0, .inl (0, c0_0)), (0, .inl (1, c0_1)), (7, .inl (3, c7_3)), (7, .inl (4, c7_4)), (7, .inl (5, c7_5)), (7, .inl (6, c7_6))] (shPitTape, I, L, Rf))) rfl ec7_2 rfl rfl rfl rfl ea8 q19) rfl (fun _ => rfl) rfl (fun _ => rfl) rfl rfl rfl (k_jn (us' := [(0, .inl (0, c0_0)), (0, .inl (1, c0_1)), (7, .inl (3, r19.2.1)), (7, .inl (4, r19.2.2.1)), (7, .inl (5, r19.2.2.2.1)), (7, .inl (6, r19.2.2.2.2))]) ds_X5_readSize rfl rfl rfl) rfl ?_
    refine p_I (us' := [(0, .inl (0, r19.1)), (0, .inl (1, c0_1)), (7, .inl (3, r19.2.1)), (7, .inl (4, r19.2.2.1)), (7, .inl (5, r19.2.2.2.1)), (7, .inl (6, r19.2.2.2.2))]) C dX5_readSize_22 (rfl : 22 + 3 = 25) fp_X5_36 rfl rfl ds_X5_readSize rfl rfl rfl ?_
    refine r_aload_n C dX5_readSize_25 (rfl : 25 + 1 = 26) rfl ?_
    refine r_aload_n C dX5_readSize_26 (rfl : 26 + 1 = 27) rfl ?_
    refine r_iconst (v := (1 : Int32)) C dX5_readSize_27 (rfl : 27 + 1 = 28) rfl ?_
    refine r_bipush (v := (6 : Int32)) C dX5_readSize_28 (rfl : 28 + 2 = 30) rfl ?_
    obtain ⟨r30, q30, h⟩ := k_b_of h
    refine d_Vp (pi := [7, 8]) (shl := shTape) (bl := 0) (As := [.int (1 : Int32), .int (6 : Int32)]) (Al := [.int (1 : Int32), .int (6 : Int32)]) (st := [.ref 0]) (st' := [.int r30.1, .ref 0]) (h' := k_ap [(0, .inl (0, r19.1)), (0, .inl (1, c0_1)), (7, .inl (3, r30.2.1)), (7, .inl (4, r30.2.2.1)), (7, .inl (5, r30.2.2.2.1)), (7, .inl (6, r30.2.2.2.2))] (shPitTape, I, L, Rf)) C hR ⟨Nat.zero_le _, Nat.zero_le _⟩ mv_X8_number lk_X5_117 dX5_readSize_30 (rfl : 30 + 3 = 33) rfl rfl ck_shPitTape_shTape_7 rfl rfl (c_X8_number X.l u (k_pl [7, 8] shTape (k_ap [(0, .inl (0, r19.1)), (0, .inl (1, c0_1)), (7, .inl (3, r19.2.1)), (7, .inl (4, r19.2.2.1)), (7, .inl (5, r19.2.2.2.1)), (7, .inl (6, r19.2.2.2.2))] (shPitTape, I, L, Rf))) rfl ec7_2 rfl rfl rfl rfl ea8 q30) rfl (fun _ => rfl) rfl (fun _ => rfl) rfl rfl rfl (k_jn (us' := [(0, .inl (0, r19.1)), (0, .inl (1, c0_1)), (7, .inl (3, r30.2.1)), (7, .inl (4, r30.2.2.1)), (7, .inl (5, r30.2.2.2.1)), (7, .inl (6, r30.2.2.2.2))]) ds_X5_readSize rfl rfl rfl) rfl ?_
    refine p_I (us' := [(0, .inl (0, r19.1)), (0, .inl (1, r30.1)), (7, .inl (3, r30.2.1)), (7, .inl (4, r30.2.2.1)), (7, .inl (5, r30.2.2.2.1)), (7, .inl (6, r30.2.2.2.2))]) C dX5_readSize_33 (rfl : 33 + 3 = 36) fp_X5_40 rfl rfl ds_X5_readSize rfl rfl rfl ?_
    cases h
    exact r_vret C hr dX5_readSize_36
  · have h := k_f c1 h
    refine r_aload_n C dX5_readSize_4 (rfl : 4 + 1 = 5) rfl ?_
    refine r_iconst (v := (4 : Int32)) C dX5_readSize_5 (rfl : 5 + 1 = 6) rfl ?_
    refine r_aload_n C dX5_readSize_6 (rfl : 6 + 1 = 7) rfl ?_
    refine r_getI (v := c7_4) C dX5_readSize_7 (rfl : 7 + 3 = 10) fl_X5_94 rfl rfl rfl ?_
    obtain ⟨r10, q10, h⟩ := k_b_of h
    refine d_Vp (pi := [7, 8]) (shl := shTape) (bl := 0) (As := [.int (4 : Int32), .int c7_4]) (Al := [.int (4 : Int32), .int c7_4]) (st := []) (st' := []) (h' := k_ap [(0, .inl (0, c0_0)), (0, .inl (1, c0_1)), (7, .inl (3, c7_3)), (7, .inl (4, c7_4)), (7, .inl (5, r10.1)), (7, .inl (6, r10.2))] (shPitTape, I, L, Rf)) C hR ⟨Nat.zero_le _, Nat.zero_le _⟩ mv_X8_fail lk_X5_97 dX5_readSize_10 (rfl : 10 + 3 = 13) rfl rfl ck_shPitTape_shTape_7 rfl rfl (c_X8_fail X.l u (k_pl [7, 8] shTape (k_ap [(0, .inl (0, c0_0)), (0, .inl (1, c0_1)), (7, .inl (3, c7_3)), (7, .inl (4, c7_4)), (7, .inl (5, c7_5)), (7, .inl (6, c7_6))] (shPitTape, I, L, Rf))) rfl rfl rfl q10) rfl (fun _ => rfl) rfl (fun _ => rfl) rfl rfl rfl (k_jn (us' := [(0, .inl (0, c0_0)), (0, .inl (1, c0_1)), (7, .inl (3, c7_3)), (7, .inl (4, c7_4)), (7, .inl (5, r10.1)), (7, .inl (6, r10.2))]) ds_X5_readSize rfl rfl rfl) rfl ?_
    cases h
    exact r_vret C hr dX5_readSize_13
set_option maxHeartbeats 400000 in
set_option maxRecDepth 100000 in
theorem c_X5_readSize (l : Launch) (u : Nat) (h : k_H) (hsh : h.1 = shPitTape) {c0_0 : Int32} (ec0_0 : h.2.1 0 0 = c0_0) {c0_1 : Int32} (ec0_1 : h.2.1 0 1 = c0_1) {c7_2 : Int32} (ec7_2 : h.2.1 7 2 = c7_2) {c7_3 : Int32} (ec7_3 : h.2.1 7 3 = c7_3) {c7_4 : Int32} (ec7_4 : h.2.1 7 4 = c7_4) {c7_5 : Int32} (ec7_5 : h.2.1 7 5 = c7_5) {c7_6 : Int32} (ec7_6 : h.2.1 7 6 = c7_6) {a8 : (Nat → Int32)} (ea8 : h.2.1 8 = a8) {x1 : Int32} {out : Int32 × Int32 × Int32 × Int32 × Int32 × Int32} (hf : f_X5_readSize u c0_0 c0_1 c7_2 c7_3 c7_4 c7_5 c7_6 a8 x1 = some out) : k_CT l yX5_readSize cX5_readSize 3 none 2 45 [.ref 0, .ref 7, .int x1] h none [(0, .inl (0, out.1)), (0, .inl (1, out.2.1)), (7, .inl (3, out.2.2.1)), (7, .inl (4, out.2.2.2.1)), (7, .inl (5, out.2.2.2.2.1)), (7, .inl (6, out.2.2.2.2.2))] := by
  obtain ⟨sh, I, L, Rf⟩ := h
  try dsimp only
  obtain rfl : sh = shPitTape := hsh
  refine k_ofW (by decide) (Nat.le_of_ble_eq_true rfl) ?_
  intro X ad hl hR0 hr C
  have hR : X.R.frames = 2 ∧ X.R.locals = 45 := by rw [hR0]; exact ⟨rfl, rfl⟩
  have h := hf
  unfold f_X5_readSize at h
  refine k_start (us := [(0, .inl (0, c0_0)), (0, .inl (1, c0_1)), (7, .inl (3, c7_3)), (7, .inl (4, c7_4)), (7, .inl (5, c7_5)), (7, .inl (6, c7_6))]) (k_ao_I ec0_0 (k_ao_I ec0_1 (k_ao_I ec7_3 (k_ao_I ec7_4 (k_ao_I ec7_5 (k_ao_I ec7_6 k_ap_0)))))) ?_
  show k_W X 3 0 0 _ ad (k_ap [(0, .inl (0, c0_0)), (0, .inl (1, c0_1)), (7, .inl (3, c7_3)), (7, .inl (4, c7_4)), (7, .inl (5, c7_5)), (7, .inl (6, c7_6))] (shPitTape, I, L, Rf)) 0 [some (.ref 0), some (.ref 7), some (.int x1)] []
  refine k_mask [true, true, true] ?_
  exact sX5_readSize_0 u C hr hR ec7_2 ea8 c0_0 c0_1 c7_3 c7_4 c7_5 c7_6 x1 h
