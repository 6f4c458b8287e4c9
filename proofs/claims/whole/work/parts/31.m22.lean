/-! LullabyPitModel.level()I -/
theorem ds_X11_level : k_ds [(0, 0, 0), (21, 2, 0)] = true := by decide +kernel
set_option maxHeartbeats 400000 in
set_option maxRecDepth 100000 in
theorem sX11_level_74 (u : Nat) {X : k_X} {ad : Nat → Nat} (C : k_C X cX11_level RX11 6 ad) (hr : X.meth.sig.returnType = (some .int)) (hR : X.R.frames = 2 ∧ X.R.locals = 44) {I : Nat → Nat → Int32} {L : Nat → Nat → Int64} {Rf : Nat → Nat → Option Nat} {c0_25 : Int32} (ec0_25 : I 0 25 = c0_25) {c0_26 : Int32} (ec0_26 : I 0 26 = c0_26) {a8 : (Nat → Int32)} (ea8 : I 8 = a8) {a20 : (Nat → Int32)} (ea20 : I 20 = a20) {out : Int32 × Int32 × (Nat → Int32)} {k15 : Int32 → (Nat → Int32) → Int32 → Int32 → Int32 → Option (Int32 × Int32 × (Nat → Int32))} (hk15 : ∀ (c0_0 : Int32) (a21 : (Nat → Int32)) (v1 : Int32) (v2 : Int32) (v3 : Int32), k15 c0_0 a21 v1 v2 v3 = some out → k_W X 6 0 0 (k_Q X ad (some (.int out.1)) (k_ap [(0, .inl (0, out.2.1)), (21, .inr (.inr (.inl out.2.2)))] (shM, I, L, Rf))) ad (k_ap [(0, .inl (0, c0_0)), (21, .inr (.inr (.inl a21)))] (shM, I, L, Rf)) 15 [some (.ref 0), some (.int v1), some (.int v2), some (.int v3), none, none] []) : ∀ (c0_0 : Int32) (a21 : (Nat → Int32)) (v1 : Int32) (v2 : Int32) (v3 : Int32), bX11_level_74 u c0_25 c0_26 a8 a20 k15 c0_0 a21 v1 v2 v3 = some out → k_W X 6 0 0 (k_Q X ad (some (.int out.1)) (k_ap [(0, .inl (0, out.2.1)), (21, .inr (.inr (.inl out.2.2)))] (shM, I, L, Rf))) ad (k_ap [(0, .inl (0, c0_0)), (21, .inr (.inr (.inl a21)))] (shM, I, L, Rf)) 74 [some (.ref 0), some (.int v1), some (.int v2), some (.int v3), none, none] [] := by
  intro c0_0 a21 v1 v2 v3 h
  unfold bX11_level_74 at h
  refine r_iinc (v := (v3 + (1 : Int32))) C dX11_level_74 (rfl : 74 + 3 = 77) rfl rfl (by decide) ?_
  show k_W _ _ _ _ _ _ _ _ [some (.ref 0), some (.int v1), some (.int v2), some (.int (v3 + (1 : Int32))), none, none] _
  refine r_goto (tgt := 15) C dX11_level_77 (by decide) ?_
  refine k_mask [true, true, true, true, false, false] ?_
  exact hk15 c0_0 a21 v1 v2 (v3 + (1 : Int32)) h
set_option maxHeartbeats 400000 in
set_option maxRecDepth 100000 in
theorem sX11_level_29 (u : Nat) {X : k_X} {ad : Nat → Nat} (C : k_C X cX11_level RX11 6 ad) (hr : X.meth.sig.returnType = (some .int)) (hR : X.R.frames = 2 ∧ X.R.locals = 44) {I : Nat → Nat → Int32} {L : Nat → Nat → Int64} {Rf : Nat → Nat → Option Nat} {c0_25 : Int32} (ec0_25 : I 0 25 = c0_25) {c0_26 : Int32} (ec0_26 : I 0 26 = c0_26) {a8 : (Nat → Int32)} (ea8 : I 8 = a8) {a20 : (Nat → Int32)} (ea20 : I 20 = a20) {out : Int32 × Int32 × (Nat → Int32)} {k15 : Int32 → (Nat → Int32) → Int32 → Int32 → Int32 → Option (Int32 × Int32 × (Nat → Int32))} (hk15 : ∀ (c0_0 : Int32) (a21 : (Nat → Int32)) (v1 : Int32) (v2 : Int32) (v3 : Int32), k15 c0_0 a21 v1 v2 v3 = some out → k_W X 6 0 0 (k_Q X ad (some (.int out.1)) (k_ap [(0, .inl (0, out.2.1)), (21, .inr (.inr (.inl out.2.2)))] (shM, I, L, Rf))) ad (k_ap [(0, .inl (0, c0_0)), (21, .inr (.inr (.inl a21)))] (shM, I, L, Rf)) 15 [some (.ref 0), some (.int v1), some (.int v2), some (.int v3), none, none] []) : ∀ (n : Nat) (c0_0 : Int32) (a21 : (Nat → Int32)) (v1 : Int32) (v2 : Int32) (v3 : Int32) (v4 : Int32) (v5 : Int32), bX11_level_29 u c0_25 c0_26 a8 a20 k15 n c0_0 a21 v1 v2 v3 v4 v5 = some out → k_W X 6 0 0 (k_Q X ad (some (.int out.1)) (k_ap [(0, .inl (0, out.2.1)), (21, .inr (.inr (.inl out.2.2)))] (shM, I, L, Rf))) ad (k_ap [(0, .inl (0, c0_0)), (21, .inr (.inr (.inl a21)))] (shM, I, L, Rf)) 29 [some (.ref 0), some (.int v1), some (.int v2), some (.int v3), some (.int v4), some (.int v5)] [] := by
  intro n
  induction n with
  | zero => intro c0_0 a21 v1 v2 v3 v4 v5 h; cases h
  | succ n ih =>
    intro c0_0 a21 v1 v2 v3 v4 v5 h
    refine r_iload C dX11_level_29 (rfl : 29 + 2 = 31) rfl ?_
    refine r_aload_n C dX11_level_31 (rfl : 31 + 1 = 32) rfl ?_
    refine r_getI (v := c0_25) C dX11_level_32 (rfl : 32 + 3 = 35) fl_X11_184 rfl rfl ec0_25 ?_
    refine r_icmp_ge (tgt := 60) C dX11_level_35 (by decide) (rfl : 35 + 3 = 38) (fun c35 => ?_) (fun c35 => ?_)
    · have h := k_t c35 h
      refine r_iload C dX11_level_60 (rfl : 60 + 2 = 62) rfl ?_
      refine r_iload_n C dX11_level_62 (rfl : 62 + 1 = 63) rfl ?_
      refine r_icmp_gt (tgt := 69) C dX11_level_63 (by decide) (rfl : 63 + 3 = 66) (fun c63 => ?_) (fun c63 => ?_)
      · have h := k_t c63 h
        refine r_iload_n C dX11_level_69 (rfl : 69 + 1 = 70) rfl ?_
        refine r_istore_n C dX11_level_70 (rfl : 70 + 1 = 71) (by decide) (Nat.le_of_ble_eq_true rfl) ?_
        show k_W _ _ _ _ _ _ _ _ [some (.ref 0), some (.int v3), some (.int v2), some (.int v3), some (.int v4), some (.int v5)] _
        refine r_iload C dX11_level_71 (rfl : 71 + 2 = 73) rfl ?_
        refine r_istore_n C dX11_level_73 (rfl : 73 + 1 = 74) (by decide) (Nat.le_of_ble_eq_true rfl) ?_
        show k_W _ _ _ _ _ _ _ _ [some (.ref 0), some (.int v3), some (.int v4), some (.int v3), some (.int v4), some (.int v5)] _
        refine k_mask [true, true, true, true, false, false] ?_
        exact sX11_level_74 u C hr hR ec0_25 ec0_26 ea8 ea20 hk15 c0_0 a21 v3 v4 v3 h
      · have h := k_f c63 h
        refine r_goto (tgt := 74) C dX11_level_66 (by decide) ?_
        refine k_mask [true, true, true, true, false, false] ?_
        exact sX11_level_74 u C hr hR ec0_25 ec0_26 ea8 ea20 hk15 c0_0 a21 v1 v2 v3 h
    · have h := k_f c35 h
      refine r_iload C dX11_level_38 (rfl : 38 + 2 = 40) rfl ?_
      refine r_aload_n C dX11_level_40 (rfl : 40 + 1 = 41) rfl ?_
      refine r_bipush (v := (8 : Int32)) C dX11_level_41 (rfl : 41 + 2 = 43) rfl ?_
      refine r_iload_n C dX11_level_43 (rfl : 43 + 1 = 44) rfl ?_
      refine r_imul C dX11_level_44 (rfl : 44 + 1 = 45) ?_
      refine r_iload C dX11_level_45 (rfl : 45 + 2 = 47) rfl ?_
      refine r_iadd C dX11_level_47 (rfl : 47 + 1 = 48) ?_
      obtain ⟨r48, q48, h⟩ := k_b_of h
      refine d_V (As := [.int (((8 : Int32) * v3) + v5)]) (st := [.int v4]) (st' := [.int r48, .int v4]) (h' := k_ap [(0, .inl (0, c0_0)), (21, .inr (.inr (.inl a21)))] (shM, I, L, Rf)) C hR ⟨Nat.zero_le _, Nat.zero_le _⟩ mv_X11_barsIn lk_X11_437 dX11_level_48 (rfl : 48 + 3 = 51) rfl rfl rfl rfl (c_X11_barsIn X.l u (k_ap [(0, .inl (0, c0_0)), (21, .inr (.inr (.inl a21)))] (shM, I, L, Rf)) rfl ea8 rfl q48) rfl rfl rfl rfl rfl ?_
      refine r_iadd C dX11_level_51 (rfl : 51 + 1 = 52) ?_
      refine r_istore C dX11_level_52 (rfl : 52 + 2 = 54) (by decide) (Nat.le_of_ble_eq_true rfl) ?_
      show k_W _ _ _ _ _ _ _ _ [some (.ref 0), some (.int v1), some (.int v2), some (.int v3), some (.int (v4 + r48)), some (.int v5)] _
      refine r_iinc (v := (v5 + (1 : Int32))) C dX11_level_54 (rfl : 54 + 3 = 57) rfl rfl (by decide) ?_
      show k_W _ _ _ _ _ _ _ _ [some (.ref 0), some (.int v1), some (.int v2), some (.int v3), some (.int (v4 + r48)), some (.int (v5 + (1 : Int32)))] _
      refine r_goto (tgt := 29) C dX11_level_57 (by decide) ?_
      refine k_mask [true, true, true, true, true, true] ?_
      exact ih c0_0 a21 v1 v2 v3 (v4 + r48) (v5 + (1 : Int32)) h
set_option maxHeartbeats 400000 in
set_option maxRecDepth 100000 in
theorem sX11_level_15 (u : Nat) {X : k_X} {ad : Nat → Nat} (C : k_C X cX11_level RX11 6 ad) (hr : X.meth.sig.returnType = (some .int)) (hR : X.R.frames = 2 ∧ X.R.locals = 44) {I : Nat → Nat → Int32} {L : Nat → Nat → Int64} {Rf : Nat → Nat → Option Nat} {c0_25 : Int32} (ec0_25 : I 0 25 = c0_25) {c0_26 : Int32} (ec0_26 : I 0 26 = c0_26) {a8 : (Nat → Int32)} (ea8 : I 8 = a8) {a20 : (Nat → Int32)} (ea20 : I 20 = a20) {out : Int32 × Int32 × (Nat → Int32)} : ∀ (n : Nat) (c0_0 : Int32) (a21 : (Nat → Int32)) (v1 : Int32) (v2 : Int32) (v3 : Int32), bX11_level_15 u c0_25 c0_26 a8 a20 n c0_0 a21 v1 v2 v3 = some out → k_W X 6 0 0 (k_Q X ad (some (.int out.1)) (k_ap [(0, .inl (0, out.2.1)), (21, .inr (.inr (.inl out.2.2)))] (shM, I, L, Rf))) ad (k_ap [(0, .inl (0, c0_0)), (21, .inr (.inr (.inl a21)))] (shM, I, L, Rf)) 15 [some (.ref 0), some (.int v1), some (.int v2), some (.int v3), none, none] [] := by
  intro n
  induction n with
  | zero => intro c0_0 a21 v1 v2 v3 h; cases h
  | succ n ih =>
    intro c0_0 a21 v1 v2 v3 h
    refine r_iload_n C dX11_level_15 (rfl : 15 + 1 = 16) rfl ?_
    refine r_aload_n C dX11_level_16 (rfl : 16 + 1 = 17) rfl ?_
    refine r_getI (v := c0_26) C dX11_level_17 (rfl : 17 + 3 = 20) fl_X11_187 rfl rfl ec0_26 ?_
    refine r_icmp_ge (tgt := 80) C dX11_level_20 (by decide) (rfl : 20 + 3 = 23) (fun c20 => ?_) (fun c20 => ?_)
    · have h := k_t c20 h
      refine r_iload_n C dX11_level_80 (rfl : 80 + 1 = 81) rfl ?_
      cases h
      exact r_iret C hr dX11_level_81
    · have h := k_f c20 h
      refine r_iconst (v := (0 : Int32)) C dX11_level_23 (rfl : 23 + 1 = 24) rfl ?_
      refine r_istore C dX11_level_24 (rfl : 24 + 2 = 26) (by decide) (Nat.le_of_ble_eq_true rfl) ?_
      show k_W _ _ _ _ _ _ _ _ [some (.ref 0), some (.int v1), some (.int v2), some (.int v3), some (.int (0 : Int32)), none] _
      refine r_iconst (v := (0 : Int32)) C dX11_level_26 (rfl : 26 + 1 = 27) rfl ?_
      refine r_istore C dX11_level_27 (rfl : 27 + 2 = 29) (by decide) (Nat.le_of_ble_eq_true rfl) ?_
      show k_W _ _ _ _ _ _ _ _ [some (.ref 0), some (.int v1), some (.int v2), some (.int v3), some (.int (0 : Int32)), some (.int (0 : Int32))] _
      refine k_mask [true, true, true, true, true, true] ?_
      exact sX11_level_29 u C hr hR ec0_25 ec0_26 ea8 ea20 ih u c0_0 a21 v1 v2 v3 (0 : Int32) (0 : Int32) h
set_option maxHeartbeats 400000 in
set_option maxRecDepth 100000 in
theorem sX11_level_0 (u : Nat) {X : k_X} {ad : Nat → Nat} (C : k_C X cX11_level RX11 6 ad) (hr : X.meth.sig.returnType = (some .int)) (hR : X.R.frames = 2 ∧ X.R.locals = 44) {I : Nat → Nat → Int32} {L : Nat → Nat → Int64} {Rf : Nat → Nat → Option Nat} {c0_25 : Int32} (ec0_25 : I 0 25 = c0_25) {c0_26 : Int32} (ec0_26 : I 0 26 = c0_26) {a8 : (Nat → Int32)} (ea8 : I 8 = a8) {a20 : (Nat → Int32)} (ea20 : I 20 = a20) {out : Int32 × Int32 × (Nat → Int32)} : ∀ (c0_0 : Int32) (a21 : (Nat → Int32)), bX11_level_0 u c0_25 c0_26 a8 a20 c0_0 a21 = some out → k_W X 6 0 0 (k_Q X ad (some (.int out.1)) (k_ap [(0, .inl (0, out.2.1)), (21, .inr (.inr (.inl out.2.2)))] (shM, I, L, Rf))) ad (k_ap [(0, .inl (0, c0_0)), (21, .inr (.inr (.inl a21)))] (shM, I, L, Rf)) 0 [some (.ref 0), none, none, none, none, none] [] := by
  intro c0_0 a21 h
  unfold bX11_level_0 at h
  refine r_aload_n C dX11_level_0 (rfl : 0 + 1 = 1) rfl ?_
  refine r_iconst (v := (0 : Int32)) C dX11_level_1 (rfl : 1 + 1 = 2) rfl ?_
  refine p_I (us' := [(0, .inl (0, (0 : Int32))), (21, .inr (.inr (.inl a21)))]) C dX11_level_2 (rfl : 2 + 3 = 5) fp_X11_3 rfl rfl ds_X11_level rfl rfl rfl ?_
  refine r_aload_n C dX11_level_5 (rfl : 5 + 1 = 6) rfl ?_
  obtain ⟨r6, q6, h⟩ := k_b_of h
  refine d_V (As := []) (st := []) (st' := []) (h' := k_ap [(0, .inl (0, (0 : Int32))), (21, .inr (.inr (.inl r6)))] (shM, I, L, Rf)) C hR ⟨Nat.zero_le _, Nat.zero_le _⟩ mv_X11_take lk_X11_345 dX11_level_6 (rfl : 6 + 3 = 9) rfl rfl rfl rfl (c_X11_take X.l u (k_ap [(0, .inl (0, (0 : Int32))), (21, .inr (.inr (.inl a21)))] (shM, I, L, Rf)) rfl ea20 rfl q6) rfl rfl rfl (k_jn (us' := [(0, .inl (0, (0 : Int32))), (21, .inr (.inr (.inl r6)))]) ds_X11_level rfl rfl rfl) rfl ?_
  refine r_iconst (v := (0 : Int32)) C dX11_level_9 (rfl : 9 + 1 = 10) rfl ?_
  refine r_istore_n C dX11_level_10 (rfl : 10 + 1 = 11) (by decide) (Nat.le_of_ble_eq_true rfl) ?_
  show k_W _ _ _ _ _ _ _ _ [some (.ref 0), some (.int (0 : Int32)), none, none, none, none] _
  refine r_iconst (v := (-1 : Int32)) C dX11_level_11 (rfl : 11 + 1 = 12) rfl ?_
  refine r_istore_n C dX11_level_12 (rfl : 12 + 1 = 13) (by decide) (Nat.le_of_ble_eq_true rfl) ?_
  show k_W _ _ _ _ _ _ _ _ [some (.ref 0), some (.int (0 : Int32)), some (.int (-1 : Int32)), none, none, none] _
  refine r_iconst (v := (0 : Int32)) C dX11_level_13 (rfl : 13 + 1 = 14) rfl ?_
  refine r_istore_n C dX11_level_14 (rfl : 14 + 1 = 15) (by decide) (Nat.le_of_ble_eq_true rfl) ?_
  show k_W _ _ _ _ _ _ _ _ [some (.ref 0), some (.int (0 : Int32)), some (.int (-1 : Int32)), some (.int (0 : Int32)), none, none] _
  refine k_mask [true, true, true, true, false, false] ?_
  exact sX11_level_15 u C hr hR ec0_25 ec0_26 ea8 ea20 u (0 : Int32) r6 (0 : Int32) (-1 : Int32) (0 : Int32) h
set_option maxHeartbeats 400000 in
set_option maxRecDepth 100000 in
theorem c_X11_level (l : Launch) (u : Nat) (h : k_H) (hsh : h.1 = shM) {c0_0 : Int32} (ec0_0 : h.2.1 0 0 = c0_0) {c0_25 : Int32} (ec0_25 : h.2.1 0 25 = c0_25) {c0_26 : Int32} (ec0_26 : h.2.1 0 26 = c0_26) {a8 : (Nat → Int32)} (ea8 : h.2.1 8 = a8) {a20 : (Nat → Int32)} (ea20 : h.2.1 20 = a20) {a21 : (Nat → Int32)} (ea21 : h.2.1 21 = a21) {out : Int32 × Int32 × (Nat → Int32)} (hf : f_X11_level u c0_0 c0_25 c0_26 a8 a20 a21 = some out) : k_CT l yX11_level cX11_level 6 (some .int) 2 44 [.ref 0] h (some (.int out.1)) [(0, .inl (0, out.2.1)), (21, .inr (.inr (.inl out.2.2)))] := by
  obtain ⟨sh, I, L, Rf⟩ := h
  try dsimp only
  obtain rfl : sh = shM := hsh
  refine k_ofW (by decide) (Nat.le_of_ble_eq_true rfl) ?_
  intro X ad hl hR0 hr C
  have hR : X.R.frames = 2 ∧ X.R.locals = 44 := by rw [hR0]; exact ⟨rfl, rfl⟩
  have h := hf
  unfold f_X11_level at h
  refine k_start (us := [(0, .inl (0, c0_0)), (21, .inr (.inr (.inl a21)))]) (k_ao_I ec0_0 (k_ao_A ea21 k_ap_0)) ?_
  show k_W X 6 0 0 _ ad (k_ap [(0, .inl (0, c0_0)), (21, .inr (.inr (.inl a21)))] (shM, I, L, Rf)) 0 [some (.ref 0), none, none, none, none, none] []
  refine k_mask [true, false, false, false, false, false] ?_
  exact sX11_level_0 u C hr hR ec0_25 ec0_26 ea8 ea20 c0_0 a21 h
/-! LullabyPitModel.pickNow()I -/
theorem ds_X11_pickNow : k_ds [] = true := by decide +kernel
set_option maxHeartbeats 400000 in
set_option maxRecDepth 100000 in
theorem sX11_pickNow_66 (u : Nat) {X : k_X} {ad : Nat → Nat} (C : k_C X cX11_pickNow RX11 3 ad) (hr : X.meth.sig.returnType = (some .int)) (hR : X.R.frames = 4 ∧ X.R.locals = 88) {I : Nat → Nat → Int32} {L : Nat → Nat → Int64} {Rf : Nat → Nat → Option Nat} {c0_25 : Int32} (ec0_25 : I 0 25 = c0_25) {c0_26 : Int32} (ec0_26 : I 0 26 = c0_26) {c0_27 : Int32} (ec0_27 : I 0 27 = c0_27) {a7 : (Nat → Int32)} (ea7 : I 7 = a7) {a8 : (Nat → Int32)} (ea8 : I 8 = a8) {a21 : (Nat → Int32)} (ea21 : I 21 = a21) {out : Int32} {k4 : Int32 → Int32 → Option (Int32)} (hk4 : ∀ (v1 : Int32) (v2 : Int32), k4 v1 v2 = some out → k_W X 3 0 0 (k_Q X ad (some (.int out)) (k_ap [] (shM, I, L, Rf))) ad (k_ap [] (shM, I, L, Rf)) 4 [some (.ref 0), some (.int v1), some (.int v2)] []) : ∀ (v1 : Int32) (v2 : Int32), bX11_pickNow_66 u c0_25 c0_26 c0_27 a7 a8 a21 k4 v1 v2 = some out → k_W X 3 0 0 (k_Q X ad (some (.int out)) (k_ap [] (shM, I, L, Rf))) ad (k_ap [] (shM, I, L, Rf)) 66 [some (.ref 0), some (.int v1), some (.int v2)] [] := by
  intro v1 v2 h
  unfold bX11_pickNow_66 at h
  refine r_iinc (v := (v2 + (1 : Int32))) C dX11_pickNow_66 (rfl : 66 + 3 = 69) rfl rfl (by decide) ?_
  show k_W _ _ _ _ _ _ _ _ [some (.ref 0), some (.int v1), some (.int (v2 + (1 : Int32)))] _
  refine r_goto (tgt := 4) C dX11_pickNow_69 (by decide) ?_
  refine k_mask [true, true, true] ?_
  exact hk4 v1 (v2 + (1 : Int32)) h
set_option maxHeartbeats 400000 in
set_option maxRecDepth 100000 in
theorem sX11_pickNow_64 (u : Nat) {X : k_X} {ad : Nat → Nat} (C : k_C X cX11_pickNow RX11 3 ad) (hr : X.meth.sig.returnType = (some .int)) (hR : X.R.frames = 4 ∧ X.R.locals = 88) {I : Nat → Nat → Int32} {L : Nat → Nat → Int64} {Rf : Nat → Nat → Option Nat} {c0_25 : Int32} (ec0_25 : I 0 25 = c0_25) {c0_26 : Int32} (ec0_26 : I 0 26 = c0_26) {c0_27 : Int32} (ec0_27 : I 0 27 = c0_27) {a7 : (Nat → Int32)} (ea7 : I 7 = a7) {a8 : (Nat → Int32)} (ea8 : I 8 = a8) {a21 : (Nat → Int32)} (ea21 : I 21 = a21) {out : Int32} {k4 : Int32 → Int32 → Option (Int32)} (hk4 : ∀ (v1 : Int32) (v2 : Int32), k4 v1 v2 = some out → k_W X 3 0 0 (k_Q X ad (some (.int out)) (k_ap [] (shM, I, L, Rf))) ad (k_ap [] (shM, I, L, Rf)) 4 [some (.ref 0), some (.int v1), some (.int v2)] []) : ∀ (v2 : Int32), bX11_pickNow_64 u c0_25 c0_26 c0_27 a7 a8 a21 k4 v2 = some out → k_W X 3 0 0 (k_Q X ad (some (.int out)) (k_ap [] (shM, I, L, Rf))) ad (k_ap [] (shM, I, L, Rf)) 64 [some (.ref 0), none, some (.int v2)] [] := by
  intro v2 h
  unfold bX11_pickNow_64 at h
  refine r_iload_n C dX11_pickNow_64 (rfl : 64 + 1 = 65) rfl ?_
  refine r_istore_n C dX11_pickNow_65 (rfl : 65 + 1 = 66) (by decide) (Nat.le_of_ble_eq_true rfl) ?_
  show k_W _ _ _ _ _ _ _ _ [some (.ref 0), some (.int v2), some (.int v2)] _
  refine k_mask [true, true, true] ?_
  exact sX11_pickNow_66 u C hr hR ec0_25 ec0_26 ec0_27 ea7 ea8 ea21 hk4 v2 v2 h
set_option maxHeartbeats 400000 in
set_option maxRecDepth 100000 in
theorem sX11_pickNow_4 (u : Nat) {X : k_X} {ad : Nat → Nat} (C : k_C X cX11_pickNow RX11 3 ad) (hr : X.meth.sig.returnType = (some .int)) (hR : X.R.frames = 4 ∧ X.R.locals = 88) {I : Nat → Nat → Int32} {L : Nat → Nat → Int64} {Rf : Nat → Nat → Option Nat} {c0_25 : Int32} (ec0_25 : I 0 25 = c0_25) {c0_26 : Int32} (ec0_26 : I 0 26 = c0_26) {c0_27 : Int32} (ec0_27 : I 0 27 = c0_27) {a7 : (Nat → Int32)} (ea7 : I 7 = a7) {a8 : (Nat → Int32)} (ea8 : I 8 = a8) {a21 : (Nat → Int32)} (ea21 : I 21 = a21) {out : Int32} : ∀ (n : Nat) (v1 : Int32) (v2 : Int32), bX11_pickNow_4 u c0_25 c0_26 c0_27 a7 a8 a21 n v1 v2 = some out → k_W X 3 0 0 (k_Q X ad (some (.int out)) (k_ap [] (shM, I, L, Rf))) ad (k_ap [] (shM, I, L, Rf)) 4 [some (.ref 0), some (.int v1), some (.int v2)] [] := by
  intro n
  induction n with
  | zero => intro v1 v2 h; cases h
  | succ n ih =>
    intro v1 v2 h
    refine r_iload_n C dX11_pickNow_4 (rfl : 4 + 1 = 5) rfl ?_
    refine r_bipush (v := (48 : Int32)) C dX11_pickNow_5 (rfl : 5 + 2 = 7) rfl ?_
    refine r_icmp_ge (tgt := 72) C dX11_pickNow_7 (by decide) (rfl : 7 + 3 = 10) (fun c7 => ?_) (fun c7 => ?_)
    · have h := k_t c7 h
      refine r_iload_n C dX11_pickNow_72 (rfl : 72 + 1 = 73) rfl ?_
      cases h
      exact r_iret C hr dX11_pickNow_73
    · have h := k_f c7 h
      refine r_aload_n C dX11_pickNow_10 (rfl : 10 + 1 = 11) rfl ?_
      refine r_iload_n C dX11_pickNow_11 (rfl : 11 + 1 = 12) rfl ?_
      refine r_bipush (v := (8 : Int32)) C dX11_pickNow_12 (rfl : 12 + 2 = 14) rfl ?_
      refine r_irem C dX11_pickNow_14 (rfl : 14 + 1 = 15) (by decide) ?_
      refine r_iload_n C dX11_pickNow_15 (rfl : 15 + 1 = 16) rfl ?_
      refine r_bipush (v := (8 : Int32)) C dX11_pickNow_16 (rfl : 16 + 2 = 18) rfl ?_
      refine r_idiv C dX11_pickNow_18 (rfl : 18 + 1 = 19) (by decide) ?_
      obtain ⟨r19, q19, h⟩ := k_b_of h
      refine d_V (As := [.int (v2 - v2 / (8 : Int32) * (8 : Int32)), .int (v2 / (8 : Int32))]) (st := []) (st' := [.int r19]) (h' := k_ap [] (shM, I, L, Rf)) C hR ⟨Nat.zero_le _, Nat.zero_le _⟩ mv_X11_isIn lk_X11_363 dX11_pickNow_19 (rfl : 19 + 3 = 22) rfl rfl rfl rfl (c_X11_isIn X.l u (k_ap [] (shM, I, L, Rf)) rfl ec0_25 ec0_26 q19) rfl rfl rfl rfl rfl ?_
      refine r_if_eq (tgt := 66) C dX11_pickNow_22 (by decide) (rfl : 22 + 3 = 25) (fun c22 => ?_) (fun c22 => ?_)
      · have h := k_t c22 h
        refine k_mask [true, true, true] ?_
        exact sX11_pickNow_66 u C hr hR ec0_25 ec0_26 ec0_27 ea7 ea8 ea21 ih v1 v2 h
      · have h := k_f c22 h
        refine r_aload_n C dX11_pickNow_25 (rfl : 25 + 1 = 26) rfl ?_
        refine r_getR (q := 7) C dX11_pickNow_26 (rfl : 26 + 3 = 29) fl_X11_35 rfl rfl ?_
        refine r_iload_n C dX11_pickNow_29 (rfl : 29 + 1 = 30) rfl ?_
        obtain ⟨hi30, h⟩ := k_i_of h
        refine a_i (j := (v2).toNatClampNeg) (f := a7) C dX11_pickNow_30 (rfl : 30 + 1 = 31) rfl ea7 hi30 rfl ?_
        refine r_iconst (v := (5 : Int32)) C dX11_pickNow_31 (rfl : 31 + 1 = 32) rfl ?_
        refine r_icmp_eq (tgt := 66) C dX11_pickNow_32 (by decide) (rfl : 32 + 3 = 35) (fun c32 => ?_) (fun c32 => ?_)
        · have h := k_t c32 h
          refine k_mask [true, true, true] ?_
          exact sX11_pickNow_66 u C hr hR ec0_25 ec0_26 ec0_27 ea7 ea8 ea21 ih v1 v2 h
        · have h := k_f c32 h
          refine r_aload_n C dX11_pickNow_35 (rfl : 35 + 1 = 36) rfl ?_
          refine r_iload_n C dX11_pickNow_36 (rfl : 36 + 1 = 37) rfl ?_
          obtain ⟨r37, q37, h⟩ := k_b_of h
          refine d_V (As := [.int v2]) (st := []) (st' := [.int r37]) (h' := k_ap [] (shM, I, L, Rf)) C hR ⟨Nat.zero_le _, Nat.zero_le _⟩ mv_X11_whyNot lk_X11_409 dX11_pickNow_37 (rfl : 37 + 3 = 40) rfl rfl rfl rfl (c_X11_whyNot X.l u (k_ap [] (shM, I, L, Rf)) rfl ec0_25 ec0_26 ec0_27 ea21 q37) rfl rfl rfl rfl rfl ?_
          refine r_if_eq (tgt := 46) C dX11_pickNow_40 (by decide) (rfl : 40 + 3 = 43) (fun c40 => ?_) (fun c40 => ?_)
          · have h := k_t c40 h
            refine r_iload_n C dX11_pickNow_46 (rfl : 46 + 1 = 47) rfl ?_
            refine r_iconst (v := (-1 : Int32)) C dX11_pickNow_47 (rfl : 47 + 1 = 48) rfl ?_
            refine r_icmp_eq (tgt := 64) C dX11_pickNow_48 (by decide) (rfl : 48 + 3 = 51) (fun c48 => ?_) (fun c48 => ?_)
            · have h := k_t c48 h
              refine k_mask [true, false, true] ?_
              exact sX11_pickNow_64 u C hr hR ec0_25 ec0_26 ec0_27 ea7 ea8 ea21 ih v2 h
            · have h := k_f c48 h
              refine r_aload_n C dX11_pickNow_51 (rfl : 51 + 1 = 52) rfl ?_
              refine r_iload_n C dX11_pickNow_52 (rfl : 52 + 1 = 53) rfl ?_
              obtain ⟨r53, q53, h⟩ := k_b_of h
              refine d_V (As := [.int v2]) (st := []) (st' := [.int r53]) (h' := k_ap [] (shM, I, L, Rf)) C hR ⟨Nat.zero_le _, Nat.zero_le _⟩ mv_X11_barsIn lk_X11_437 dX11_pickNow_53 (rfl : 53 + 3 = 56) rfl rfl rfl rfl (c_X11_barsIn X.l u (k_ap [] (shM, I, L, Rf)) rfl ea8 ea21 q53) rfl rfl rfl rfl rfl ?_
              refine r_aload_n C dX11_pickNow_56 (rfl : 56 + 1 = 57) rfl ?_
              refine r_iload_n C dX11_pickNow_57 (rfl : 57 + 1 = 58) rfl ?_
              obtain ⟨r58, q58, h⟩ := k_b_of h
              refine d_V (As := [.int v1]) (st := [.int r53]) (st' := [.int r58, .int r53]) (h' := k_ap [] (shM, I, L, Rf)) C hR ⟨Nat.zero_le _, Nat.zero_le _⟩ mv_X11_barsIn lk_X11_437 dX11_pickNow_58 (rfl : 58 + 3 = 61) rfl rfl rfl rfl (c_X11_barsIn X.l u (k_ap [] (shM, I, L, Rf)) rfl ea8 ea21 q58) rfl rfl rfl rfl rfl ?_
              refine r_icmp_le (tgt := 66) C dX11_pickNow_61 (by decide) (rfl : 61 + 3 = 64) (fun c61 => ?_) (fun c61 => ?_)
              · have h := k_t c61 h
                refine k_mask [true, true, true] ?_
                exact sX11_pickNow_66 u C hr hR ec0_25 ec0_26 ec0_27 ea7 ea8 ea21 ih v1 v2 h
              · have h := k_f c61 h
                refine k_mask [true, false, true] ?_
                exact sX11_pickNow_64 u C hr hR ec0_25 ec0_26 ec0_27 ea7 ea8 ea21 ih v2 h
          · have h := k_f c40 h
            refine r_goto (tgt := 66) C dX11_pickNow_43 (by decide) ?_
            refine k_mask [true, true, true] ?_
            exact sX11_pickNow_66 u C hr hR ec0_25 ec0_26 ec0_27 ea7 ea8 ea21 ih v1 v2 h
set_option maxHeartbeats 400000 in
set_option maxRecDepth 100000 in
theorem sX11_pickNow_0 (u : Nat) {X : k_X} {ad : Nat → Nat} (C : k_C X cX11_pickNow RX11 3 ad) (hr : X.meth.sig.returnType = (some .int)) (hR : X.R.frames = 4 ∧ X.R.locals = 88) {I : Nat → Nat → Int32} {L : Nat → Nat → Int64} {Rf : Nat → Nat → Option Nat} {c0_25 : Int32} (ec0_25 : I 0 25 = c0_25) {c0_26 : Int32} (ec0_26 : I 0 26 = c0_26) {c0_27 : Int32} (ec0_27 : I 0 27 = c0_27) {a7 : (Nat → Int32)} (ea7 : I 7 = a7) {a8 : (Nat → Int32)} (ea8 : I 8 = a8) {a21 : (Nat → Int32)} (ea21 : I 21 = a21) {out : Int32} : bX11_pickNow_0 u c0_25 c0_26 c0_27 a7 a8 a21 = some out → k_W X 3 0 0 (k_Q X ad (some (.int out)) (k_ap [] (shM, I, L, Rf))) ad (k_ap [] (shM, I, L, Rf)) 0 [some (.ref 0), none, none] [] := by
  intro h
  unfold bX11_pickNow_0 at h
  refine r_iconst (v := (-1 : Int32)) C dX11_pickNow_0 (rfl : 0 + 1 = 1) rfl ?_
  refine r_istore_n C dX11_pickNow_1 (rfl : 1 + 1 = 2) (by decide) (Nat.le_of_ble_eq_true rfl) ?_
  show k_W _ _ _ _ _ _ _ _ [some (.ref 0), some (.int (-1 : Int32)), none] _
  refine r_iconst (v := (0 : Int32)) C dX11_pickNow_2 (rfl : 2 + 1 = 3) rfl ?_
  refine r_istore_n C dX11_pickNow_3 (rfl : 3 + 1 = 4) (by decide) (Nat.le_of_ble_eq_true rfl) ?_
  show k_W _ _ _ _ _ _ _ _ [some (.ref 0), some (.int (-1 : Int32)), some (.int (0 : Int32))] _
  refine k_mask [true, true, true] ?_
  exact sX11_pickNow_4 u C hr hR ec0_25 ec0_26 ec0_27 ea7 ea8 ea21 u (-1 : Int32) (0 : Int32) h
set_option maxHeartbeats 400000 in
set_option maxRecDepth 100000 in
theorem c_X11_pickNow (l : Launch) (u : Nat) (h : k_H) (hsh : h.1 = shM) {c0_25 : Int32} (ec0_25 : h.2.1 0 25 = c0_25) {c0_26 : Int32} (ec0_26 : h.2.1 0 26 = c0_26) {c0_27 : Int32} (ec0_27 : h.2.1 0 27 = c0_27) {a7 : (Nat → Int32)} (ea7 : h.2.1 7 = a7) {a8 : (Nat → Int32)} (ea8 : h.2.1 8 = a8) {a21 : (Nat → Int32)} (ea21 : h.2.1 21 = a21) {out : Int32} (hf : f_X11_pickNow u c0_25 c0_26 c0_27 a7 a8 a21 = some out) : k_CT l yX11_pickNow cX11_pickNow 3 (some .int) 4 88 [.ref 0] h (some (.int out)) [] := by
  obtain ⟨sh, I, L, Rf⟩ := h
  try dsimp only
  obtain rfl : sh = shM := hsh
  refine k_ofW (by decide) (Nat.le_of_ble_eq_true rfl) ?_
  intro X ad hl hR0 hr C
  have hR : X.R.frames = 4 ∧ X.R.locals = 88 := by rw [hR0]; exact ⟨rfl, rfl⟩
  have h := hf
  unfold f_X11_pickNow at h
  refine k_start (us := []) k_ap_0 ?_
  show k_W X 3 0 0 _ ad (k_ap [] (shM, I, L, Rf)) 0 [some (.ref 0), none, none] []
  refine k_mask [true, false, false] ?_
  exact sX11_pickNow_0 u C hr hR ec0_25 ec0_26 ec0_27 ea7 ea8 ea21 h
/-! LullabyPitModel.pick()I -/
theorem ds_X11_pick : k_ds [(0, 0, 0), (21, 2, 0)] = true := by decide +kernel
set_option maxHeartbeats 400000 in
set_option maxRecDepth 100000 in
theorem sX11_pick_0 (u : Nat) {X : k_X} {ad : Nat → Nat} (C : k_C X cX11_pick RX11 1 ad) (hr : X.meth.sig.returnType = (some .int)) (hR : X.R.frames = 5 ∧ X.R.locals = 110) {I : Nat → Nat → Int32} {L : Nat → Nat → Int64} {Rf : Nat → Nat → Option Nat} {c0_25 : Int32} (ec0_25 : I 0 25 = c0_25) {c0_26 : Int32} (ec0_26 : I 0 26 = c0_26) {c0_27 : Int32} (ec0_27 : I 0 27 = c0_27) {a7 : (Nat → Int32)} (ea7 : I 7 = a7) {a8 : (Nat → Int32)} (ea8 : I 8 = a8) {a20 : (Nat → Int32)} (ea20 : I 20 = a20) {out : Int32 × Int32 × (Nat → Int32)} : ∀ (c0_0 : Int32) (a21 : (Nat → Int32)), bX11_pick_0 u c0_25 c0_26 c0_27 a7 a8 a20 c0_0 a21 = some out → k_W X 1 0 0 (k_Q X ad (some (.int out.1)) (k_ap [(0, .inl (0, out.2.1)), (21, .inr (.inr (.inl out.2.2)))] (shM, I, L, Rf))) ad (k_ap [(0, .inl (0, c0_0)), (21, .inr (.inr (.inl a21)))] (shM, I, L, Rf)) 0 [some (.ref 0)] [] := by
  intro c0_0 a21 h
  unfold bX11_pick_0 at h
  refine r_aload_n C dX11_pick_0 (rfl : 0 + 1 = 1) rfl ?_
  refine r_iconst (v := (0 : Int32)) C dX11_pick_1 (rfl : 1 + 1 = 2) rfl ?_
  refine p_I (us' := [(0, .inl (0, (0 : Int32))), (21, .inr (.inr (.inl a21)))]) C dX11_pick_2 (rfl : 2 + 3 = 5) fp_X11_3 rfl rfl ds_X11_pick rfl rfl rfl ?_
  refine r_aload_n C dX11_pick_5 (rfl : 5 + 1 = 6) rfl ?_
  obtain ⟨r6, q6, h⟩ := k_b_of h
  refine d_V (As := []) (st := []) (st' := []) (h' := k_ap [(0, .inl (0, (0 : Int32))), (21, .inr (.inr (.inl r6)))] (shM, I, L, Rf)) C hR ⟨Nat.zero_le _, Nat.zero_le _⟩ mv_X11_take lk_X11_345 dX11_pick_6 (rfl : 6 + 3 = 9) rfl rfl rfl rfl (c_X11_take X.l u (k_ap [(0, .inl (0, (0 : Int32))), (21, .inr (.inr (.inl a21)))] (shM, I, L, Rf)) rfl ea20 rfl q6) rfl rfl rfl (k_jn (us' := [(0, .inl (0, (0 : Int32))), (21, .inr (.inr (.inl r6)))]) ds_X11_pick rfl rfl rfl) rfl ?_
  refine r_aload_n C dX11_pick_9 (rfl : 9 + 1 = 10) rfl ?_
  obtain ⟨r10, q10, h⟩ := k_b_of h
  refine d_V (As := []) (st := []) (st' := [.int r10]) (h' := k_ap [(0, .inl (0, (0 : Int32))), (21, .inr (.inr (.inl r6)))] (shM, I, L, Rf)) C hR ⟨Nat.zero_le _, Nat.zero_le _⟩ mv_X11_pickNow lk_X11_474 dX11_pick_10 (rfl : 10 + 3 = 13) rfl rfl rfl rfl (c_X11_pickNow X.l u (k_ap [(0, .inl (0, (0 : Int32))), (21, .inr (.inr (.inl r6)))] (shM, I, L, Rf)) rfl ec0_25 ec0_26 ec0_27 ea7 ea8 rfl q10) rfl rfl rfl rfl rfl ?_
  cases h
  exact r_iret C hr dX11_pick_13
set_option maxHeartbeats 400000 in
set_option maxRecDepth 100000 in
theorem c_X11_pick (l : Launch) (u : Nat) (h : k_H) (hsh : h.1 = shM) {c0_0 : Int32} (ec0_0 : h.2.1 0 0 = c0_0) {c0_25 : Int32} (ec0_25 : h.2.1 0 25 = c0_25) {c0_26 : Int32} (ec0_26 : h.2.1 0 26 = c0_26) {c0_27 : Int32} (ec0_27 : h.2.1 0 27 = c0_27) {a7 : (Nat → Int32)} (ea7 : h.2.1 7 = a7) {a8 : (Nat → Int32)} (ea8 : h.2.1 8 = a8) {a20 : (Nat → Int32)} (ea20 : h.2.1 20 = a20) {a21 : (Nat → Int32)} (ea21 : h.2.1 21 = a21) {out : Int32 × Int32 × (Nat → Int32)} (hf : f_X11_pick u c0_0 c0_25 c0_26 c0_27 a7 a8 a20 a21 = some out) : k_CT l yX11_pick cX11_pick 1 (some .int) 5 110 [.ref 0] h (some (.int out.1)) [(0, .inl (0, out.2.1)), (21, .inr (.inr (.inl out.2.2)))] := by
  obtain ⟨sh, I, L, Rf⟩ := h
  try dsimp only
  obtain rfl : sh = shM := hsh
  refine k_ofW (by decide) (Nat.le_of_ble_eq_true rfl) ?_
  intro X ad hl hR0 hr C
  have hR : X.R.frames = 5 ∧ X.R.locals = 110 := by rw [hR0]; exact ⟨rfl, rfl⟩
  have h := hf
  unfold f_X11_pick at h
  refine k_start (us := [(0, .inl (0, c0_0)), (21, .inr (.inr (.inl a21)))]) (k_ao_I ec0_0 (k_ao_A ea21 k_ap_0)) ?_
  show k_W X 1 0 0 _ ad (k_ap [(0, .inl (0, c0_0)), (21, .inr (.inr (.inl a21)))] (shM, I, L, Rf)) 0 [some (.ref 0)] []
  refine k_mask [true] ?_
  exact sX11_pick_0 u C hr hR ec0_25 ec0_26 ec0_27 ea7 ea8 ea20 c0_0 a21 h
/-! LullabyPitModel.draws()I -/
theorem ds_X11_draws : k_ds [(0, 0, 62)] = true := by decide +kernel
set_option maxHeartbeats 400000 in
set_option maxRecDepth 100000 in
theorem sX11_draws_0 (u : Nat) {X : k_X} {ad : Nat → Nat} (C : k_C X cX11_draws RX11 1 ad) (hr : X.meth.sig.returnType = (some .int)) (hR : X.R.frames = 0 ∧ X.R.locals = 0) {I : Nat → Nat → Int32} {L : Nat → Nat → Int64} {Rf : Nat → Nat → Option Nat} {out : Int32 × Int32} : ∀ (c0_62 : Int32), bX11_draws_0 u c0_62 = some out → k_W X 1 0 0 (k_Q X ad (some (.int out.1)) (k_ap [(0, .inl (62, out.2))] (shM, I, L, Rf))) ad (k_ap [(0, .inl (62, c0_62))] (shM, I, L, Rf)) 0 [some (.ref 0)] [] := by
  intro c0_62 h
  unfold bX11_draws_0 at h
  refine r_aload_n C dX11_draws_0 (rfl : 0 + 1 = 1) rfl ?_
  refine r_aload_n C dX11_draws_1 (rfl : 1 + 1 = 2) rfl ?_
  refine r_getI (v := c0_62) C dX11_draws_2 (rfl : 2 + 3 = 5) fl_X11_477 rfl rfl rfl ?_
  refine r_ldcw C dX11_draws_5 (rfl : 5 + 3 = 8) ct_X11_480 ?_
  refine r_imul C dX11_draws_8 (rfl : 8 + 1 = 9) ?_
  refine r_sipush (v := (12345 : Int32)) C dX11_draws_9 (rfl : 9 + 3 = 12) rfl ?_
  refine r_iadd C dX11_draws_12 (rfl : 12 + 1 = 13) ?_
  refine p_I (us' := [(0, .inl (62, ((c0_62 * (1103515245 : Int32)) + (12345 : Int32))))]) C dX11_draws_13 (rfl : 13 + 3 = 16) fp_X11_477 rfl rfl ds_X11_draws rfl rfl rfl ?_
  refine r_aload_n C dX11_draws_16 (rfl : 16 + 1 = 17) rfl ?_
  refine r_getI (v := ((c0_62 * (1103515245 : Int32)) + (12345 : Int32))) C dX11_draws_17 (rfl : 17 + 3 = 20) fl_X11_477 rfl rfl rfl ?_
  refine r_bipush (v := (16 : Int32)) C dX11_draws_20 (rfl : 20 + 2 = 22) rfl ?_
  refine r_ishr C dX11_draws_22 (rfl : 22 + 1 = 23) ?_
  refine r_sipush (v := (32767 : Int32)) C dX11_draws_23 (rfl : 23 + 3 = 26) rfl ?_
  refine r_iand C dX11_draws_26 (rfl : 26 + 1 = 27) ?_
  refine r_bipush (v := (16 : Int32)) C dX11_draws_27 (rfl : 27 + 2 = 29) rfl ?_
  refine r_irem C dX11_draws_29 (rfl : 29 + 1 = 30) (by decide) ?_
  cases h
  exact r_iret C hr dX11_draws_30
set_option maxHeartbeats 400000 in
set_option maxRecDepth 100000 in
theorem c_X11_draws (l : Launch) (u : Nat) (h : k_H) (hsh : h.1 = shM) {c0_62 : Int32} (ec0_62 : h.2.1 0 62 = c0_62) {out : Int32 × Int32} (hf : f_X11_draws u c0_62 = some out) : k_CT l yX11_draws cX11_draws 1 (some .int) 0 0 [.ref 0] h (some (.int out.1)) [(0, .inl (62, out.2))] := by
  obtain ⟨sh, I, L, Rf⟩ := h
  try dsimp only
  obtain rfl : sh = shM := hsh
  refine k_ofW (by decide) (Nat.le_of_ble_eq_true rfl) ?_
  intro X ad hl hR0 hr C
  have hR : X.R.frames = 0 ∧ X.R.locals = 0 := by rw [hR0]; exact ⟨rfl, rfl⟩
  have h := hf
  unfold f_X11_draws at h
  refine k_start (us := [(0, .inl (62, c0_62))]) (k_ao_I ec0_62 k_ap_0) ?_
  show k_W X 1 0 0 _ ad (k_ap [(0, .inl (62, c0_62))] (shM, I, L, Rf)) 0 [some (.ref 0)] []
  refine k_mask [true] ?_
  exact sX11_draws_0 u C hr hR c0_62 h
