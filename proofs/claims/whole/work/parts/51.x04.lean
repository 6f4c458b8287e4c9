/-! LullabyPit$Pit.readSeam(LLullabyPit$Tape;)V -/
theorem ds_X5_readSeam : k_ds [(1, 2, 0), (2, 2, 0), (7, 0, 3), (7, 0, 4), (7, 0, 5), (7, 0, 6)] = true := by decide +kernel
set_option maxHeartbeats 400000 in
set_option maxRecDepth 100000 in
theorem sX5_readSeam_82 (u : Nat) {X : k_X} {ad : Nat → Nat} (C : k_C X cX5_readSeam RX5 10 ad) (hr : X.meth.sig.returnType = none) (hR : X.R.frames = 2 ∧ X.R.locals = 45) {I : Nat → Nat → Int32} {L : Nat → Nat → Int64} {Rf : Nat → Nat → Option Nat} {c0_0 : Int32} (ec0_0 : I 0 0 = c0_0) {c0_1 : Int32} (ec0_1 : I 0 1 = c0_1) {c7_2 : Int32} (ec7_2 : I 7 2 = c7_2) {a8 : (Nat → Int32)} (ea8 : I 8 = a8) {out : (Nat → Int32) × (Nat → Int32) × Int32 × Int32 × Int32 × Int32} {k70 : (Nat → Int32) → (Nat → Int32) → Int32 → Int32 → Int32 → Int32 → Int32 → Int32 → Int32 → Int32 → Int32 → Int32 → Int32 → Option ((Nat → Int32) × (Nat → Int32) × Int32 × Int32 × Int32 × Int32)} (hk70 : ∀ (a1 : (Nat → Int32)) (a2 : (Nat → Int32)) (c7_3 : Int32) (c7_4 : Int32) (c7_5 : Int32) (c7_6 : Int32) (v2 : Int32) (v3 : Int32) (v4 : Int32) (v5 : Int32) (v6 : Int32) (v7 : Int32) (v8 : Int32), k70 a1 a2 c7_3 c7_4 c7_5 c7_6 v2 v3 v4 v5 v6 v7 v8 = some out → k_W X 10 0 0 (k_Q X ad none (k_ap [(1, .inr (.inr (.inl out.1))), (2, .inr (.inr (.inl out.2.1))), (7, .inl (3, out.2.2.1)), (7, .inl (4, out.2.2.2.1)), (7, .inl (5, out.2.2.2.2.1)), (7, .inl (6, out.2.2.2.2.2))] (shPitTape, I, L, Rf))) ad (k_ap [(1, .inr (.inr (.inl a1))), (2, .inr (.inr (.inl a2))), (7, .inl (3, c7_3)), (7, .inl (4, c7_4)), (7, .inl (5, c7_5)), (7, .inl (6, c7_6))] (shPitTape, I, L, Rf)) 70 [some (.ref 0), none, some (.int v2), some (.int v3), some (.int v4), some (.int v5), some (.int v6), some (.int v7), some (.int v8), none] []) : ∀ (n : Nat) (a1 : (Nat → Int32)) (a2 : (Nat → Int32)) (c7_3 : Int32) (c7_4 : Int32) (c7_5 : Int32) (c7_6 : Int32) (v2 : Int32) (v3 : Int32) (v4 : Int32) (v5 : Int32) (v6 : Int32) (v7 : Int32) (v8 : Int32) (v9 : Int32), bX5_readSeam_82 u c0_0 c0_1 c7_2 a8 k70 n a1 a2 c7_3 c7_4 c7_5 c7_6 v2 v3 v4 v5 v6 v7 v8 v9 = some out → k_W X 10 0 0 (k_Q X ad none (k_ap [(1, .inr (.inr (.inl out.1))), (2, .inr (.inr (.inl out.2.1))), (7, .inl (3, out.2.2.1)), (7, .inl (4, out.2.2.2.1)), (7, .inl (5, out.2.2.2.2.1)), (7, .inl (6, out.2.2.2.2.2))] (shPitTape, I, L, Rf))) ad (k_ap [(1, .inr (.inr (.inl a1))), (2, .inr (.inr (.inl a2))), (7, .inl (3, c7_3)), (7, .inl (4, c7_4)), (7, .inl (5, c7_5)), (7, .inl (6, c7_6))] (shPitTape, I, L, Rf)) 82 [some (.ref 0), none, some (.int v2), some (.int v3), some (.int v4), some (.int v5), some (.int v6), some (.int v7), some (.int v8), some (.int v9)] [] := by
  intro n
  induction n with
  | zero => intro a1 a2 c7_3 c7_4 c7_5 c7_6 v2 v3 v4 v5 v6 v7 v8 v9 h; cases h
  | succ n ih =>
    intro a1 a2 c7_3 c7_4 c7_5 c7_6 v2 v3 v4 v5 v6 v7 v8 v9 h
    refine r_iload C dX5_readSeam_82 (rfl : 82 + 2 = 84) rfl ?_
    refine r_iload_n C dX5_readSeam_84 (rfl : 84 + 1 = 85) rfl ?_
    refine r_iload C dX5_readSeam_85 (rfl : 85 + 2 = 87) rfl ?_
    refine r_iadd C dX5_readSeam_87 (rfl : 87 + 1 = 88) ?_
    refine r_icmp_ge (tgt := 109) C dX5_readSeam_88 (by decide) (rfl : 88 + 3 = 91) (fun c88 => ?_) (fun c88 => ?_)
    · have h := k_t c88 h
      refine r_iinc (v := (v8 + (1 : Int32))) C dX5_readSeam_109 (rfl : 109 + 3 = 112) rfl rfl (by decide) ?_
      show k_W _ _ _ _ _ _ _ _ [some (.ref 0), none, some (.int v2), some (.int v3), some (.int v4), some (.int v5), some (.int v6), some (.int v7), some (.int (v8 + (1 : Int32))), some (.int v9)] _
      refine r_goto (tgt := 70) C dX5_readSeam_112 (by decide) ?_
      refine k_mask [true, false, true, true, true, true, true, true, true, false] ?_
      exact hk70 a1 a2 c7_3 c7_4 c7_5 c7_6 v2 v3 v4 v5 v6 v7 (v8 + (1 : Int32)) h
    · have h := k_f c88 h
      refine r_aload_n C dX5_readSeam_91 (rfl : 91 + 1 = 92) rfl ?_
      refine r_iload C dX5_readSeam_92 (rfl : 92 + 2 = 94) rfl ?_
      refine r_iload C dX5_readSeam_94 (rfl : 94 + 2 = 96) rfl ?_
      refine r_iload C dX5_readSeam_96 (rfl : 96 + 2 = 98) rfl ?_
      refine r_iload C dX5_readSeam_98 (rfl : 98 + 2 = 100) rfl ?_
      obtain ⟨r100, q100, h⟩ := k_b_of h
      refine d_Vp (pi := [0, 1, 2, 3, 4, 5, 6]) (shl := shPit) (bl := 0) (As := [.int v9, .int v8, .int v6, .int v7]) (Al := [.int v9, .int v8, .int v6, .int v7]) (st := []) (st' := []) (h' := k_ap [(1, .inr (.inr (.inl r100.1))), (2, .inr (.inr (.inl r100.2))), (7, .inl (3, c7_3)), (7, .inl (4, c7_4)), (7, .inl (5, c7_5)), (7, .inl (6, c7_6))] (shPitTape, I, L, Rf)) C hR ⟨Nat.zero_le _, Nat.zero_le _⟩ mv_X5_lay lk_X5_127 dX5_readSeam_100 (rfl : 100 + 3 = 103) rfl rfl ck_shPitTape_shPit_0_5 rfl rfl (c_X5_lay X.l u (k_pl [0, 1, 2, 3, 4, 5, 6] shPit (k_ap [(1, .inr (.inr (.inl a1))), (2, .inr (.inr (.inl a2))), (7, .inl (3, c7_3)), (7, .inl (4, c7_4)), (7, .inl (5, c7_5)), (7, .inl (6, c7_6))] (shPitTape, I, L, Rf))) rfl rfl rfl q100) rfl (fun _ => rfl) rfl (fun _ => rfl) rfl rfl rfl (k_jn (us' := [(1, .inr (.inr (.inl r100.1))), (2, .inr (.inr (.inl r100.2))), (7, .inl (3, c7_3)), (7, .inl (4, c7_4)), (7, .inl (5, c7_5)), (7, .inl (6, c7_6))]) ds_X5_readSeam rfl rfl rfl) rfl ?_
      refine r_iinc (v := (v9 + (1 : Int32))) C dX5_readSeam_103 (rfl : 103 + 3 = 106) rfl rfl (by decide) ?_
      show k_W _ _ _ _ _ _ _ _ [some (.ref 0), none, some (.int v2), some (.int v3), some (.int v4), some (.int v5), some (.int v6), some (.int v7), some (.int v8), some (.int (v9 + (1 : Int32)))] _
      refine r_goto (tgt := 82) C dX5_readSeam_106 (by decide) ?_
      refine k_mask [true, false, true, true, true, true, true, true, true, true] ?_
      exact ih r100.1 r100.2 c7_3 c7_4 c7_5 c7_6 v2 v3 v4 v5 v6 v7 v8 (v9 + (1 : Int32)) h
set_option maxHeartbeats 400000 in
set_option maxRecDepth 100000 in
theorem sX5_readSeam_70 (u : Nat) {X : k_X} {ad : Nat → Nat} (C : k_C X cX5_readSeam RX5 10 ad) (hr : X.meth.sig.returnType = none) (hR : X.R.frames = 2 ∧ X.R.locals = 45) {I : Nat → Nat → Int32} {L : Nat → Nat → Int64} {Rf : Nat → Nat → Option Nat} {c0_0 : Int32} (ec0_0 : I 0 0 = c0_0) {c0_1 : Int32} (ec0_1 : I 0 1 = c0_1) {c7_2 : Int32} (ec7_2 : I 7 2 = c7_2) {a8 : (Nat → Int32)} (ea8 : I 8 = a8) {out : (Nat → Int32) × (Nat → Int32) × Int32 × Int32 × Int32 × Int32} : ∀ (n : Nat) (a1 : (Nat → Int32)) (a2 : (Nat → Int32)) (c7_3 : Int32) (c7_4 : Int32) (c7_5 : Int32) (c7_6 : Int32) (v2 : Int32) (v3 : Int32) (v4 : Int32) (v5 : Int32) (v6 : Int32) (v7 : Int32) (v8 : Int32), bX5_readSeam_70 u c0_0 c0_1 c7_2 a8 n a1 a2 c7_3 c7_4 c7_5 c7_6 v2 v3 v4 v5 v6 v7 v8 = some out → k_W X 10 0 0 (k_Q X ad none (k_ap [(1, .inr (.inr (.inl out.1))), (2, .inr (.inr (.inl out.2.1))), (7, .inl (3, out.2.2.1)), (7, .inl (4, out.2.2.2.1)), (7, .inl (5, out.2.2.2.2.1)), (7, .inl (6, out.2.2.2.2.2))] (shPitTape, I, L, Rf))) ad (k_ap [(1, .inr (.inr (.inl a1))), (2, .inr (.inr (.inl a2))), (7, .inl (3, c7_3)), (7, .inl (4, c7_4)), (7, .inl (5, c7_5)), (7, .inl (6, c7_6))] (shPitTape, I, L, Rf)) 70 [some (.ref 0), none, some (.int v2), some (.int v3), some (.int v4), some (.int v5), some (.int v6), some (.int v7), some (.int v8), none] [] := by
  intro n
  induction n with
  | zero => intro a1 a2 c7_3 c7_4 c7_5 c7_6 v2 v3 v4 v5 v6 v7 v8 h; cases h
  | succ n ih =>
    intro a1 a2 c7_3 c7_4 c7_5 c7_6 v2 v3 v4 v5 v6 v7 v8 h
    refine r_iload C dX5_readSeam_70 (rfl : 70 + 2 = 72) rfl ?_
    refine r_iload_n C dX5_readSeam_72 (rfl : 72 + 1 = 73) rfl ?_
    refine r_iload C dX5_readSeam_73 (rfl : 73 + 2 = 75) rfl ?_
    refine r_iadd C dX5_readSeam_75 (rfl : 75 + 1 = 76) ?_
    refine r_icmp_ge (tgt := 115) C dX5_readSeam_76 (by decide) (rfl : 76 + 3 = 79) (fun c76 => ?_) (fun c76 => ?_)
    · have h := k_t c76 h
      cases h
      exact r_vret C hr dX5_readSeam_115
    · have h := k_f c76 h
      refine r_iload_n C dX5_readSeam_79 (rfl : 79 + 1 = 80) rfl ?_
      refine r_istore C dX5_readSeam_80 (rfl : 80 + 2 = 82) (by decide) (Nat.le_of_ble_eq_true rfl) ?_
      show k_W _ _ _ _ _ _ _ _ [some (.ref 0), none, some (.int v2), some (.int v3), some (.int v4), some (.int v5), some (.int v6), some (.int v7), some (.int v8), some (.int v2)] _
      refine k_mask [true, false, true, true, true, true, true, true, true, true] ?_
      exact sX5_readSeam_82 u C hr hR ec0_0 ec0_1 ec7_2 ea8 ih u a1 a2 c7_3 c7_4 c7_5 c7_6 v2 v3 v4 v5 v6 v7 v8 v2 h
set_option maxHeartbeats 400000 in
set_option maxRecDepth 100000 in
theorem sX5_readSeam_0 (u : Nat) {X : k_X} {ad : Nat → Nat} (C : k_C X cX5_readSeam RX5 10 ad) (hr : X.meth.sig.returnType = none) (hR : X.R.frames = 2 ∧ X.R.locals = 45) {I : Nat → Nat → Int32} {L : Nat → Nat → Int64} {Rf : Nat → Nat → Option Nat} {c0_0 : Int32} (ec0_0 : I 0 0 = c0_0) {c0_1 : Int32} (ec0_1 : I 0 1 = c0_1) {c7_2 : Int32} (ec7_2 : I 7 2 = c7_2) {a8 : (Nat → Int32)} (ea8 : I 8 = a8) {out : (Nat → Int32) × (Nat → Int32) × Int32 × Int32 × Int32 × Int32} : ∀ (a1 : (Nat → Int32)) (a2 : (Nat → Int32)) (c7_3 : Int32) (c7_4 : Int32) (c7_5 : Int32) (c7_6 : Int32), bX5_readSeam_0 u c0_0 c0_1 c7_2 a8 a1 a2 c7_3 c7_4 c7_5 c7_6 = some out → k_W X 10 0 0 (k_Q X ad none (k_ap [(1, .inr (.inr (.inl out.1))), (2, .inr (.inr (.inl out.2.1))), (7, .inl (3, out.2.2.1)), (7, .inl (4, out.2.2.2.1)), (7, .inl (5, out.2.2.2.2.1)), (7, .inl (6, out.2.2.2.2.2))] (shPitTape, I, L, Rf))) ad (k_ap [(1, .inr (.inr (.inl a1))), (2, .inr (.inr (.inl a2))), (7, .inl (3, c7_3)), (7, .inl (4, c7_4)), (7, .inl (5, c7_5)), (7, .inl (6, c7_6))] (shPitTape, I, L, Rf)) 0 [some (.ref 0), some (.ref 7), none, none, none, none, none, none, none, none] [] := by
  intro a1 a2 c7_3 c7_4 c7_5 c7_6 h
  unfold bX5_readSeam_0 at h
  refine r_aload_n C dX5_readSeam_0 (rfl : 0 + 1 = 1) rfl ?_
  refine r_iconst (v := (0 : Int32)) C dX5_readSeam_1 (rfl : 1 + 1 = 2) rfl ?_
  refine r_aload_n C dX5_readSeam_2 (rfl : 2 + 1 = 3) rfl ?_
  refine r_getI (v := c0_0) C dX5_readSeam_3 (rfl : 3 + 3 = 6) fl_X5_36 rfl rfl ec0_0 ?_
  refine r_iconst (v := (1 : Int32)) C dX5_readSeam_6 (rfl : 6 + 1 = 7) rfl ?_
  refine r_isub C dX5_readSeam_7 (rfl : 7 + 1 = 8) ?_
  obtain ⟨r8, q8, h⟩ := k_b_of h
  refine d_Vp (pi := [7, 8]) (shl := shTape) (bl := 0) (As := [.int (0 : Int32), .int (c0_0 - (1 : Int32))]) (Al := [.int (0 : Int32), .int (c0_0 - (1 : Int32))]) (st := []) (st' := [.int r8.1]) (h' := k_ap [(1, .inr (.inr (.inl a1))), (2, .inr (.inr (.inl a2))), (7, .inl (3, r8.2.1)), (7, .inl (4, r8.2.2.1)), (7, .inl (5, r8.2.2.2.1)), (7, .inl (6, r8.2.2.2.2))] (shPitTape, I, L, Rf)) C hR ⟨Nat.zero_le _, Nat.zero_le _⟩ mv_X8_number lk_X5_117 dX5_readSeam_8 (rfl : 8 + 3 = 11) rfl rfl ck_shPitTape_shTape_7 rfl rfl (c_X8_number X.l u (k_pl [7, 8] shTape (k_ap [(1, .inr (.inr (.inl a1))), (2, .inr (.inr (.inl a2))), (7, .inl (3, c7_3)), (7, .inl (4, c7_4)), (7, .inl (5, c7_5)), (7, .inl (6, c7_6))] (shPitTape, I, L, Rf))) rfl ec7_2 rfl rfl rfl rfl ea8 q8) rfl (fun _ => rfl) rfl (fun _ => rfl) rfl rfl rfl (k_jn (us' := [(1, .inr (.inr (.inl a1))), (2, .inr (.inr (.inl a2))), (7, .inl (3, r8.2.1)), (7, .inl (4, r8.2.2.1)), (7, .inl (5, r8.2.2.2.1)), (7, .inl (6, r8.2.2.2.2))]) ds_X5_readSeam rfl rfl rfl) rfl ?_
  refine r_istore_n C dX5_readSeam_11 (rfl : 11 + 1 = 12) (by decide) (Nat.le_of_ble_eq_true rfl) ?_
  show k_W _ _ _ _ _ _ _ _ [some (.ref 0), some (.ref 7), some (.int r8.1), none, none, none, none, none, none, none] _
  refine r_aload_n C dX5_readSeam_12 (rfl : 12 + 1 = 13) rfl ?_
  refine r_iconst (v := (0 : Int32)) C dX5_readSeam_13 (rfl : 13 + 1 = 14) rfl ?_
  refine r_aload_n C dX5_readSeam_14 (rfl : 14 + 1 = 15) rfl ?_
  refine r_getI (v := c0_1) C dX5_readSeam_15 (rfl : 15 + 3 = 18) fl_X5_40 rfl rfl ec0_1 ?_
  refine r_iconst (v := (1 : Int32)) C dX5_readSeam_18 (rfl : 18 + 1 = 19) rfl ?_
  refine r_isub C dX5_readSeam_19 (rfl : 19 + 1 = 20) ?_
  obtain ⟨r20, q20, h⟩ := k_b_of h
  refine d_Vp (pi := [7, 8]) (shl := shTape) (bl := 0) (As := [.int (0 : Int32), .int (c0_1 - (1 : Int32))]) (Al := [.int (0 : Int32), .int (c0_1 - (1 : Int32))]) (st := []) (st' := [.int r20.1]) (h' := k_ap [(1, .inr (.inr (.inl a1))), (2, .inr (.inr (.inl a2))), (7, .inl (3, r20.2.1)), (7, .inl (4, r20.2.2.1)), (7, .inl (5, r20.2.2.2.1)), (7, .inl (6, r20.2.2.2.2))] (shPitTape, I, L, Rf)) C hR ⟨Nat.zero_le _, Nat.zero_le _⟩ mv_X8_number lk_X5_117 dX5_readSeam_20 (rfl : 20 + 3 = 23) rfl rfl ck_shPitTape_shTape_7 rfl rfl (c_X8_number X.l u (k_pl [7, 8] shTape (k_ap [(1, .inr (.inr (.inl a1))), (2, .inr (.inr (.inl a2))), (7, .inl (3, r8.2.1)), (7, .inl (4, r8.2.2.1)), (7, .inl (5, r8.2.2.2.1)), (7, .inl (6, r8.2.2.2.2))] (shPitTape, I, L, Rf))) rfl ec7_2 rfl rfl rfl rfl ea8 q20) rfl (fun _ => rfl) rfl (fun _ => rfl) rfl rfl rfl (k_jn (us' := [(1, .inr (.inr (.inl a1))), (2, .inr (.inr (.inl a2))), (7, .inl (3, r20.2.1)), (7, .inl (4, r20.2.2.1)), (7, .inl (5, r20.2.2.2.1)), (7, .inl (6, r20.2.2.2.2))]) ds_X5_readSeam rfl rfl rfl) rfl ?_
  refine r_istore_n C dX5_readSeam_23 (rfl : 23 + 1 = 24) (by decide) (Nat.le_of_ble_eq_true rfl) ?_
  show k_W _ _ _ _ _ _ _ _ [some (.ref 0), some (.ref 7), some (.int r8.1), some (.int r20.1), none, none, none, none, none, none] _
  refine r_aload_n C dX5_readSeam_24 (rfl : 24 + 1 = 25) rfl ?_
  refine r_iconst (v := (1 : Int32)) C dX5_readSeam_25 (rfl : 25 + 1 = 26) rfl ?_
  refine r_aload_n C dX5_readSeam_26 (rfl : 26 + 1 = 27) rfl ?_
  refine r_getI (v := c0_0) C dX5_readSeam_27 (rfl : 27 + 3 = 30) fl_X5_36 rfl rfl ec0_0 ?_
  refine r_iload_n C dX5_readSeam_30 (rfl : 30 + 1 = 31) rfl ?_
  refine r_isub C dX5_readSeam_31 (rfl : 31 + 1 = 32) ?_
  obtain ⟨r32, q32, h⟩ := k_b_of h
  refine d_Vp (pi := [7, 8]) (shl := shTape) (bl := 0) (As := [.int (1 : Int32), .int (c0_0 - r8.1)]) (Al := [.int (1 : Int32), .int (c0_0 - r8.1)]) (st := []) (st' := [.int r32.1]) (h' := k_ap [(1, .inr (.inr (.inl a1))), (2, .inr (.inr (.inl a2))), (7, .inl (3, r32.2.1)), (7, .inl (4, r32.2.2.1)), (7, .inl (5, r32.2.2.2.1)), (7, .inl (6, r32.2.2.2.2))] (shPitTape, I, L, Rf)) C hR ⟨Nat.zero_le _, Nat.zero_le _⟩ mv_X8_number lk_X5_117 dX5_readSeam_32 (rfl : 32 + 3 = 35) rfl rfl ck_shPitTape_shTape_7 rfl rfl (c_X8_number X.l u (k_pl [7, 8] shTape (k_ap [(1, .inr (.inr (.inl a1))), (2, .inr (.inr (.inl a2))), (7, .inl (3, r20.2.1)), (7, .inl (4, r20.2.2.1)), (7, .inl (5, r20.2.2.2.1)), (7, .inl (6, r20.2.2.2.2))] (shPitTape, I, L, Rf))) rfl ec7_2 rfl rfl rfl rfl ea8 q32) rfl (fun _ => rfl) rfl (fun _ => rfl) rfl rfl rfl (k_jn (us' := [(1, .inr (.inr (.inl a1))), (2, .inr (.inr (.inl a2))), (7, .inl (3, r32.2.1)), (7, .inl (4, r32.2.2.1)), (7, .inl (5, r32.2.2.2.1)), (7, .inl (6, r32.2.2.2.2))]) ds_X5_readSeam rfl rfl rfl) rfl ?_
  refine r_istore C dX5_readSeam_35 (rfl : 35 + 2 = 37) (by decide) (Nat.le_of_ble_eq_true rfl) ?_
  show k_W _ _ _ _ _ _ _ _ [some (.ref 0), some (.ref 7), some (.int r8.1), some (.int r20.1), some (.int r32.1), none, none, none, none, none] _
  refine r_aload_n C dX5_readSeam_37 (rfl : 37 + 1 = 38) rfl ?_
  refine r_iconst (v := (1 : Int32)) C dX5_readSeam_38 (rfl : 38 + 1 = 39) rfl ?_
  refine r_aload_n C dX5_readSeam_39 (rfl : 39 + 1 = 40) rfl ?_
  refine r_getI (v := c0_1) C dX5_readSeam_40 (rfl : 40 + 3 = 43) fl_X5_40 rfl rfl ec0_1 ?_
  refine r_iload_n C dX5_readSeam_43 (rfl : 43 + 1 = 44) rfl ?_
  refine r_isub C dX5_readSeam_44 (rfl : 44 + 1 = 45) ?_
  obtain ⟨r45, q45, h⟩ := k_b_of h
  refine d_Vp (pi := [7, 8]) (shl := shTape) (bl := 0) (As := [.int (1 : Int32), .int (c0_1 - r20.1)]) (Al := [.int (1 : Int32), .int (c0_1 - r20.1)]) (st := []) (st' := [.int r45.1]) (h' := k_ap [(1, .inr (.inr (.inl a1))), (2, .inr (.inr (.inl a2))), (7, .inl (3, r45.2.1)), (7, .inl (4, r45.2.2.1)), (7, .inl (5, r45.2.2.2.1)), (7, .inl (6, r45.2.2.2.2))] (shPitTape, I, L, Rf)) C hR ⟨Nat.zero_le _, Nat.zero_le _⟩ mv_X8_number lk_X5_117 dX5_readSeam_45 (rfl : 45 + 3 = 48) rfl rfl ck_shPitTape_shTape_7 rfl rfl (c_X8_number X.l u (k_pl [7, 8] shTape (k_ap [(1, .inr (.inr (.inl a1))), (2, .inr (.inr (.inl a2))), (7, .inl (3, r32.2.1)), (7, .inl (4, r32.2.2.1)), (7, .inl (5, r32.2.2.2.1)), (7, .inl (6, r32.2.2.2.2))] (shPitTape, I, L, Rf))) rfl ec7_2 rfl rfl rfl rfl ea8 q45) rfl (fun _ => rfl) rfl (fun _ => rfl) rfl rfl rfl (k_jn (us' := [(1, .inr (.inr (.inl a1))), (2, .inr (.inr (.inl a2))), (7, .inl (3, r45.2.1)), (7, .inl (4, r45.2.2.1)), (7, .inl (5, r45.2.2.2.1)), (7, .inl (6, r45.2.2.2.2))]) ds_X5_readSeam rfl rfl rfl) rfl ?_
  refine r_istore C dX5_readSeam_48 (rfl : 48 + 2 = 50) (by decide) (Nat.le_of_ble_eq_true rfl) ?_
  show k_W _ _ _ _ _ _ _ _ [some (.ref 0), some (.ref 7), some (.int r8.1), some (.int r20.1), some (.int r32.1), some (.int r45.1), none, none, none, none] _
  refine r_aload_n C dX5_readSeam_50 (rfl : 50 + 1 = 51) rfl ?_
  refine r_iconst (v := (1 : Int32)) C dX5_readSeam_51 (rfl : 51 + 1 = 52) rfl ?_
  refine r_iconst (v := (4 : Int32)) C dX5_readSeam_52 (rfl : 52 + 1 = 53) rfl ?_
  obtain ⟨r53, q53, h⟩ := k_b_of h
  refine d_Vp (pi := [7, 8]) (shl := shTape) (bl := 0) (As := [.int (1 : Int32), .int (4 : Int32)]) (Al := [.int (1 : Int32), .int (4 : Int32)]) (st := []) (st' := [.int r53.1]) (h' := k_ap [(1, .inr (.inr (.inl a1))), (2, .inr (.inr (.inl a2))), (7, .inl (3, r53.2.1)), (7, .inl (4, r53.2.2.1)), (7, .inl (5, r53.2.2.2.1)), (7, .inl (6, r53.2.2.2.2))] (shPitTape, I, L, Rf)) C hR ⟨Nat.zero_le _, Nat.zero_le _⟩ mv_X8_number lk_X5_117 dX5_readSeam_53 (rfl : 53 + 3 = 56) rfl rfl ck_shPitTape_shTape_7 rfl rfl (c_X8_number X.l u (k_pl [7, 8] shTape (k_ap [(1, .inr (.inr (.inl a1))), (2, .inr (.inr (.inl a2))), (7, .inl (3, r45.2.1)), (7, .inl (4, r45.2.2.1)), (7, .inl (5, r45.2.2.2.1)), (7, .inl (6, r45.2.2.2.2))] (shPitTape, I, L, Rf))) rfl ec7_2 rfl rfl rfl rfl ea8 q53) rfl (fun _ => rfl) rfl (fun _ => rfl) rfl rfl rfl (k_jn (us' := [(1, .inr (.inr (.inl a1))), (2, .inr (.inr (.inl a2))), (7, .inl (3, r53.2.1)), (7, .inl (4, r53.2.2.1)), (7, .inl (5, r53.2.2.2.1)), (7, .inl (6, r53.2.2.2.2))]) ds_X5_readSeam rfl rfl rfl) rfl ?_
  refine r_istore C dX5_readSeam_56 (rfl : 56 + 2 = 58) (by decide) (Nat.le_of_ble_eq_true rfl) ?_
  show k_W _ _ _ _ _ _ _ _ [some (.ref 0), some (.ref 7), some (.int r8.1), some (.int r20.1), some (.int r32.1), some (.int r45.1), some (.int r53.1), none, none, none] _
  refine r_aload_n C dX5_readSeam_58 (rfl : 58 + 1 = 59) rfl ?_
  refine r_iconst (v := (1 : Int32)) C dX5_readSeam_59 (rfl : 59 + 1 = 60) rfl ?_
  refine r_bipush (v := (9 : Int32)) C dX5_readSeam_60 (rfl : 60 + 2 = 62) rfl ?_
  obtain ⟨r62, q62, h⟩ := k_b_of h
  refine d_Vp (pi := [7, 8]) (shl := shTape) (bl := 0) (As := [.int (1 : Int32), .int (9 : Int32)]) (Al := [.int (1 : Int32), .int (9 : Int32)]) (st := []) (st' := [.int r62.1]) (h' := k_ap [(1, .inr (.inr (.inl a1))), (2, .inr (.inr (.inl a2))), (7, .inl (3, r62.2.1)), (7, .inl (4, r62.2.2.1)), (7, .inl (5, r62.2.2.2.1)), (7, .inl (6, r62.2.2.2.2))] (shPitTape, I, L, Rf)) C hR ⟨Nat.zero_le _, Nat.zero_le _⟩ mv_X8_number lk_X5_117 dX5_readSeam_62 (rfl : 62 + 3 = 65) rfl rfl ck_shPitTape_shTape_7 rfl rfl (c_X8_number X.l u (k_pl [7, 8] shTape (k_ap [(1, .inr (.inr (.inl a1))), (2, .inr (.inr (.inl a2))), (7, .inl (3, r53.2.1)), (7, .inl (4, r53.2.2.1)), (7, .inl (5, r53.2.2.2.1)), (7, .inl (6, r53.2.2.2.2))] (shPitTape, I, L, Rf))) rfl ec7_2 rfl rfl rfl rfl ea8 q62) rfl (fun _ => rfl) rfl (fun _ => rfl) rfl rfl rfl (k_jn (us' := [(1, .inr (.inr (.inl a1))), (2, .inr (.inr (.inl a2))), (7, .inl (3, r62.2.1)), (7, .inl (4, r62.2.2.1)), (7, .inl (5, r62.2.2.2.1)), (7, .inl (6, r62.2.2.2.2))]) ds_X5_readSeam rfl rfl rfl) rfl ?_
  refine r_istore C dX5_readSeam_65 (rfl : 65 + 2 = 67) (by decide) (Nat.le_of_ble_eq_true rfl) ?_
  show k_W _ _ _ _ _ _ _ _ [some (.ref 0), some (.ref 7), some (.int r8.1), some (.int r20.1), some (.int r32.1), some (.int r45.1), some (.int r53.1), some (.int r62.1), none, none] _
  refine r_iload_n C dX5_readSeam_67 (rfl : 67 + 1 = 68) rfl ?_
  refine r_istore C dX5_readSeam_68 (rfl : 68 + 2 = 70) (by decide) (Nat.le_of_ble_eq_true rfl) ?_
  show k_W _ _ _ _ _ _ _ _ [some (.ref 0), some (.ref 7), some (.int r8.1), some (.int r20.1), some (.int r32.1), some (.int r45.1), some (.int r53.1), some (.int r62.1), some (.int r20.1), none] _
  refine k_mask [true, false, true, true, true, true, true, true, true, false] ?_
  exact sX5_readSeam_70 u C hr hR ec0_0 ec0_1 ec7_2 ea8 u a1 a2 r62.2.1 r62.2.2.1 r62.2.2.2.1 r62.2.2.2.2 r8.1 r20.1 r32.1 r45.1 r53.1 r62.1 r20.1 h
set_option maxHeartbeats 400000 in
set_option maxRecDepth 100000 in
theorem c_X5_readSeam (l : Launch) (u : Nat) (h : k_H) (hsh : h.1 = shPitTape) {c0_0 : Int32} (ec0_0 : h.2.1 0 0 = c0_0) {c0_1 : Int32} (ec0_1 : h.2.1 0 1 = c0_1) {a1 : (Nat → Int32)} (ea1 : h.2.1 1 = a1) {a2 : (Nat → Int32)} (ea2 : h.2.1 2 = a2) {c7_2 : Int32} (ec7_2 : h.2.1 7 2 = c7_2) {c7_3 : Int32} (ec7_3 : h.2.1 7 3 = c7_3) {c7_4 : Int32} (ec7_4 : h.2.1 7 4 = c7_4) {c7_5 : Int32} (ec7_5 : h.2.1 7 5 = c7_5) {c7_6 : Int32} (ec7_6 : h.2.1 7 6 = c7_6) {a8 : (Nat → Int32)} (ea8 : h.2.1 8 = a8) {out : (Nat → Int32) × (Nat → Int32) × Int32 × Int32 × Int32 × Int32} (hf : f_X5_readSeam u c0_0 c0_1 a1 a2 c7_2 c7_3 c7_4 c7_5 c7_6 a8 = some out) : k_CT l yX5_readSeam cX5_readSeam 10 none 2 45 [.ref 0, .ref 7] h none [(1, .inr (.inr (.inl out.1))), (2, .inr (.inr (.inl out.2.1))), (7, .inl (3, out.2.2.1)), (7, .inl (4, out.2.2.2.1)), (7, .inl (5, out.2.2.2.2.1)), (7, .inl (6, out.2.2.2.2.2))] := by
  obtain ⟨sh, I, L, Rf⟩ := h
  try dsimp only
  obtain rfl : sh = shPitTape := hsh
  refine k_ofW (by decide) (Nat.le_of_ble_eq_true rfl) ?_
  intro X ad hl hR0 hr C
  have hR : X.R.frames = 2 ∧ X.R.locals = 45 := by rw [hR0]; exact ⟨rfl, rfl⟩
  have h := hf
  unfold f_X5_readSeam at h
  refine k_start (us := [(1, .inr (.inr (.inl a1))), (2, .inr (.inr (.inl a2))), (7, .inl (3, c7_3)), (7, .inl (4, c7_4)), (7, .inl (5, c7_5)), (7, .inl (6, c7_6))]) (k_ao_A ea1 (k_ao_A ea2 (k_ao_I ec7_3 (k_ao_I ec7_4 (k_ao_I ec7_5 (k_ao_I ec7_6 k_ap_0)))))) ?_
  show k_W X 10 0 0 _ ad (k_ap [(1, .inr (.inr (.inl a1))), (2, .inr (.inr (.inl a2))), (7, .inl (3, c7_3)), (7, .inl (4, c7_4)), (7, .inl (5, c7_5)), (7, .inl (6, c7_6))] (shPitTape, I, L, Rf)) 0 [some (.ref 0), some (.ref 7), none, none, none, none, none, none, none, none] []
  refine k_mask [true, true, false, false, false, false, false, false, false, false] ?_
  exact sX5_readSeam_0 u C hr hR ec0_0 ec0_1 ec7_2 ea8 a1 a2 c7_3 c7_4 c7_5 c7_6 h
/-! LullabyPit$Pit.readWater(LLullabyPit$Tape;)V -/
theorem ds_X5_readWater : k_ds [(1, 2, 0), (2, 2, 0), (7, 0, 3), (7, 0, 4), (7, 0, 5), (7, 0, 6)] = true := by decide +kernel
set_option maxHeartbeats 400000 in
set_option maxRecDepth 100000 in
theorem sX5_readWater_0 (u : Nat) {X : k_X} {ad : Nat → Nat} (C : k_C X cX5_readWater RX5 4 ad) (hr : X.meth.sig.returnType = none) (hR : X.R.frames = 2 ∧ X.R.locals = 45) {I : Nat → Nat → Int32} {L : Nat → Nat → Int64} {Rf : Nat → Nat → Option Nat} {c0_0 : Int32} (ec0_0 : I 0 0 = c0_0) {c0_1 : Int32} (ec0_1 : I 0 1 = c0_1) {c7_2 : Int32} (ec7_2 : I 7 2 = c7_2) {a8 : (Nat → Int32)} (ea8 : I 8 = a8) {out : (Nat → Int32) × (Nat → Int32) × Int32 × Int32 × Int32 × Int32} : ∀ (a1 : (Nat → Int32)) (a2 : (Nat → Int32)) (c7_3 : Int32) (c7_4 : Int32) (c7_5 : Int32) (c7_6 : Int32), bX5_readWater_0 u c0_0 c0_1 c7_2 a8 a1 a2 c7_3 c7_4 c7_5 c7_6 = some out → k_W X 4 0 0 (k_Q X ad none (k_ap [(1, .inr (.inr (.inl out.1))), (2, .inr (.inr (.inl out.2.1))), (7, .inl (3, out.2.2.1)), (7, .inl (4, out.2.2.2.1)), (7, .inl (5, out.2.2.2.2.1)), (7, .inl (6, out.2.2.2.2.2))] (shPitTape, I, L, Rf))) ad (k_ap [(1, .inr (.inr (.inl a1))), (2, .inr (.inr (.inl a2))), (7, .inl (3, c7_3)), (7, .inl (4, c7_4)), (7, .inl (5, c7_5)), (7, .inl (6, c7_6))] (shPitTape, I, L, Rf)) 0 [some (.ref 0), some (.ref 7), none, none] [] := by
  intro a1 a2 c7_3 c7_4 c7_5 c7_6 h
  unfold bX5_readWater_0 at h
  refine r_aload_n C dX5_readWater_0 (rfl : 0 + 1 = 1) rfl ?_
  refine r_iconst (v := (0 : Int32)) C dX5_readWater_1 (rfl : 1 + 1 = 2) rfl ?_
  refine r_aload_n C dX5_readWater_2 (rfl : 2 + 1 = 3) rfl ?_
  refine r_getI (v := c0_0) C dX5_readWater_3 (rfl : 3 + 3 = 6) fl_X5_36 rfl rfl ec0_0 ?_
  refine r_iconst (v := (1 : Int32)) C dX5_readWater_6 (rfl : 6 + 1 = 7) rfl ?_
  refine r_isub C dX5_readWater_7 (rfl : 7 + 1 = 8) ?_
  obtain ⟨r8, q8, h⟩ := k_b_of h
  refine d_Vp (pi := [7, 8]) (shl := shTape) (bl := 0) (As := [.int (0 : Int32), .int (c0_0 - (1 : Int32))]) (Al := [.int (0 : Int32), .int (c0_0 - (1 : Int32))]) (st := []) (st' := [.int r8.1]) (h' := k_ap [(1, .inr (.inr (.inl a1))), (2, .inr (.inr (.inl a2))), (7, .inl (3, r8.2.1)), (7, .inl (4, r8.2.2.1)), (7, .inl (5, r8.2.2.2.1)), (7, .inl (6, r8.2.2.2.2))] (shPitTape, I, L, Rf)) C hR ⟨Nat.zero_le _, Nat.zero_le _⟩ mv_X8_number lk_X5_117 dX5_readWater_8 (rfl : 8 + 3 = 11) rfl rfl ck_shPitTape_shTape_7 rfl rfl (c_X8_number X.l u (k_pl [7, 8] shTape (k_ap [(1, .inr (.inr (.inl a1))), (2, .inr (.inr (.inl a2))), (7, .inl (3, c7_3)), (7, .inl (4, c7_4)), (7, .inl (5, c7_5)), (7, .inl (6, c7_6))] (shPitTape, I, L, Rf))) rfl ec7_2 rfl rfl rfl rfl ea8 q8) rfl (fun _ => rfl) rfl (fun _ => rfl) rfl rfl rfl (k_jn (us' := [(1, .inr (.inr (.inl a1))), (2, .inr (.inr (.inl a2))), (7, .inl (3, r8.2.1)), (7, .inl (4, r8.2.2.1)), (7, .inl (5, r8.2.2.2.1)), (7, .inl (6, r8.2.2.2.2))]) ds_X5_readWater rfl rfl rfl) rfl ?_
  refine r_istore_n C dX5_readWater_11 (rfl : 11 + 1 = 12) (by decide) (Nat.le_of_ble_eq_true rfl) ?_
  show k_W _ _ _ _ _ _ _ _ [some (.ref 0), some (.ref 7), some (.int r8.1), none] _
  refine r_aload_n C dX5_readWater_12 (rfl : 12 + 1 = 13) rfl ?_
  refine r_iconst (v := (0 : Int32)) C dX5_readWater_13 (rfl : 13 + 1 = 14) rfl ?_
  refine r_aload_n C dX5_readWater_14 (rfl : 14 + 1 = 15) rfl ?_
  refine r_getI (v := c0_1) C dX5_readWater_15 (rfl : 15 + 3 = 18) fl_X5_40 rfl rfl ec0_1 ?_
  refine r_iconst (v := (1 : Int32)) C dX5_readWater_18 (rfl : 18 + 1 = 19) rfl ?_
  refine r_isub C dX5_readWater_19 (rfl : 19 + 1 = 20) ?_
  obtain ⟨r20, q20, h⟩ := k_b_of h
  refine d_Vp (pi := [7, 8]) (shl := shTape) (bl := 0) (As := [.int (0 : Int32), .int (c0_1 - (1 : Int32))]) (Al := [.int (0 : Int32), .int (c0_1 - (1 : Int32))]) (st := []) (st' := [.int r20.1]) (h' := k_ap [(1, .inr (.inr (.inl a1))), (2, .inr (.inr (.inl a2))), (7, .inl (3, r20.2.1)), (7, .inl (4, r20.2.2.1)), (7, .inl (5, r20.2.2.2.1)), (7, .inl (6, r20.2.2.2.2))] (shPitTape, I, L, Rf)) C hR ⟨Nat.zero_le _, Nat.zero_le _⟩ mv_X8_number lk_X5_117 dX5_readWater_20 (rfl : 20 + 3 = 23) rfl rfl ck_shPitTape_shTape_7 rfl rfl (c_X8_number X.l u (k_pl [7, 8] shTape (k_ap [(1, .inr (.inr (.inl a1))), (2, .inr (.inr (.inl a2))), (7, .inl (3, r8.2.1)), (7, .inl (4, r8.2.2.1)), (7, .inl (5, r8.2.2.2.1)), (7, .inl (6, r8.2.2.2.2))] (shPitTape, I, L, Rf))) rfl ec7_2 rfl rfl rfl rfl ea8 q20) rfl (fun _ => rfl) rfl (fun _ => rfl) rfl rfl rfl (k_jn (us' := [(1, .inr (.inr (.inl a1))), (2, .inr (.inr (.inl a2))), (7, .inl (3, r20.2.1)), (7, .inl (4, r20.2.2.1)), (7, .inl (5, r20.2.2.2.1)), (7, .inl (6, r20.2.2.2.2))]) ds_X5_readWater rfl rfl rfl) rfl ?_
  refine r_istore_n C dX5_readWater_23 (rfl : 23 + 1 = 24) (by decide) (Nat.le_of_ble_eq_true rfl) ?_
  show k_W _ _ _ _ _ _ _ _ [some (.ref 0), some (.ref 7), some (.int r8.1), some (.int r20.1)] _
  refine r_aload_n C dX5_readWater_24 (rfl : 24 + 1 = 25) rfl ?_
  refine r_iload_n C dX5_readWater_25 (rfl : 25 + 1 = 26) rfl ?_
  refine r_iload_n C dX5_readWater_26 (rfl : 26 + 1 = 27) rfl ?_
  refine r_iconst (v := (5 : Int32)) C dX5_readWater_27 (rfl : 27 + 1 = 28) rfl ?_
  refine r_iconst (v := (0 : Int32)) C dX5_readWater_28 (rfl : 28 + 1 = 29) rfl ?_
  obtain ⟨r29, q29, h⟩ := k_b_of h
  refine d_Vp (pi := [0, 1, 2, 3, 4, 5, 6]) (shl := shPit) (bl := 0) (As := [.int r8.1, .int r20.1, .int (5 : Int32), .int (0 : Int32)]) (Al := [.int r8.1, .int r20.1, .int (5 : Int32), .int (0 : Int32)]) (st := []) (st' := []) (h' := k_ap [(1, .inr (.inr (.inl r29.1))), (2, .inr (.inr (.inl r29.2))), (7, .inl (3, r20.2.1)), (7, .inl (4, r20.2.2.1)), (7, .inl (5, r20.2.2.2.1)), (7, .inl (6, r20.2.2.2.2))] (shPitTape, I, L, Rf)) C hR ⟨Nat.zero_le _, Nat.zero_le _⟩ mv_X5_lay lk_X5_127 dX5_readWater_29 (rfl : 29 + 3 = 32) rfl rfl ck_shPitTape_shPit_0_5 rfl rfl (c_X5_lay X.l u (k_pl [0, 1, 2, 3, 4, 5, 6] shPit (k_ap [(1, .inr (.inr (.inl a1))), (2, .inr (.inr (.inl a2))), (7, .inl (3, r20.2.1)), (7, .inl (4, r20.2.2.1)), (7, .inl (5, r20.2.2.2.1)), (7, .inl (6, r20.2.2.2.2))] (shPitTape, I, L, Rf))) rfl rfl rfl q29) rfl (fun _ => rfl) rfl (fun _ => rfl) rfl rfl rfl (k_jn (us' := [(1, .inr (.inr (.inl r29.1))), (2, .inr (.inr (.inl r29.2))), (7, .inl (3, r20.2.1)), (7, .inl (4, r20.2.2.1)), (7, .inl (5, r20.2.2.2.1)), (7, .inl (6, r20.2.2.2.2))]) ds_X5_readWater rfl rfl rfl) rfl ?_
  cases h
  exact r_vret C hr dX5_readWater_32
set_option maxHeartbeats 400000 in
set_option maxRecDepth 100000 in
theorem c_X5_readWater (l : Launch) (u : Nat) (h : k_H) (hsh : h.1 = shPitTape) {c0_0 : Int32} (ec0_0 : h.2.1 0 0 = c0_0) {c0_1 : Int32} (ec0_1 : h.2.1 0 1 = c0_1) {a1 : (Nat → Int32)} (ea1 : h.2.1 1 = a1) {a2 : (Nat → Int32)} (ea2 : h.2.1 2 = a2) {c7_2 : Int32} (ec7_2 : h.2.1 7 2 = c7_2) {c7_3 : Int32} (ec7_3 : h.2.1 7 3 = c7_3) {c7_4 : Int32} (ec7_4 : h.2.1 7 4 = c7_4) {c7_5 : Int32} (ec7_5 : h.2.1 7 5 = c7_5) {c7_6 : Int32} (ec7_6 : h.2.1 7 6 = c7_6) {a8 : (Nat → Int32)} (ea8 : h.2.1 8 = a8) {out : (Nat → Int32) × (Nat → Int32) × Int32 × Int32 × Int32 × Int32} (hf : f_X5_readWater u c0_0 c0_1 a1 a2 c7_2 c7_3 c7_4 c7_5 c7_6 a8 = some out) : k_CT l yX5_readWater cX5_readWater 4 none 2 45 [.ref 0, .ref 7] h none [(1, .inr (.inr (.inl out.1))), (2, .inr (.inr (.inl out.2.1))), (7, .inl (3, out.2.2.1)), (7, .inl (4, out.2.2.2.1)), (7, .inl (5, out.2.2.2.2.1)), (7, .inl (6, out.2.2.2.2.2))] := by
  obtain ⟨sh, I, L, Rf⟩ := h
  try dsimp only
  obtain rfl : sh = shPitTape := hsh
  refine k_ofW (by decide) (Nat.le_of_ble_eq_true rfl) ?_
  intro X ad hl hR0 hr C
  have hR : X.R.frames = 2 ∧ X.R.locals = 45 := by rw [hR0]; exact ⟨rfl, rfl⟩
  have h := hf
  unfold f_X5_readWater at h
  refine k_start (us := [(1, .inr (.inr (.inl a1))), (2, .inr (.inr (.inl a2))), (7, .inl (3, c7_3)), (7, .inl (4, c7_4)), (7, .inl (5, c7_5)), (7, .inl (6, c7_6))]) (k_ao_A ea1 (k_ao_A ea2 (k_ao_I ec7_3 (k_ao_I ec7_4 (k_ao_I ec7_5 (k_ao_I ec7_6 k_ap_0)))))) ?_
  show k_W X 4 0 0 _ ad (k_ap [(1, .inr (.inr (.inl a1))), (2, .inr (.inr (.inl a2))), (7, .inl (3, c7_3)), (7, .inl (4, c7_4)), (7, .inl (5, c7_5)), (7, .inl (6, c7_6))] (shPitTape, I, L, Rf)) 0 [some (.ref 0), some (.ref 7), none, none] []
  refine k_mask [true, true, false, false] ?_
  exact sX5_readWater_0 u C hr hR ec0_0 ec0_1 ec7_2 ea8 a1 a2 c7_3 c7_4 c7_5 c7_6 h
/-! LullabyPit$Pit.readShaft(LLullabyPit$Tape;)V -/
theorem ds_X5_readShaft : k_ds [(0, 0, 7), (0, 1, 6), (7, 0, 3), (7, 0, 4), (7, 0, 5), (7, 0, 6)] = true := by decide +kernel
set_option maxHeartbeats 400000 in
set_option maxRecDepth 100000 in
theorem sX5_readShaft_0 (u : Nat) {X : k_X} {ad : Nat → Nat} (C : k_C X cX5_readShaft RX5 2 ad) (hr : X.meth.sig.returnType = none) (hR : X.R.frames = 2 ∧ X.R.locals = 45) {I : Nat → Nat → Int32} {L : Nat → Nat → Int64} {Rf : Nat → Nat → Option Nat} {c0_0 : Int32} (ec0_0 : I 0 0 = c0_0) {c7_2 : Int32} (ec7_2 : I 7 2 = c7_2) {a8 : (Nat → Int32)} (ea8 : I 8 = a8) {out : Int32 × Int64 × Int32 × Int32 × Int32 × Int32} : ∀ (c0_7 : Int32) (c0_6 : Int64) (c7_3 : Int32) (c7_4 : Int32) (c7_5 : Int32) (c7_6 : Int32), bX5_readShaft_0 u c0_0 c7_2 a8 c0_7 c0_6 c7_3 c7_4 c7_5 c7_6 = some out → k_W X 2 0 0 (k_Q X ad none (k_ap [(0, .inl (7, out.1)), (0, .inr (.inl (6, out.2.1))), (7, .inl (3, out.2.2.1)), (7, .inl (4, out.2.2.2.1)), (7, .inl (5, out.2.2.2.2.1)), (7, .inl (6, out.2.2.2.2.2))] (shPitTape, I, L, Rf))) ad (k_ap [(0, .inl (7, c0_7)), (0, .inr (.inl (6, c0_6))), (7, .inl (3, c7_3)), (7, .inl (4, c7_4)), (7, .inl (5, c7_5)), (7, .inl (6, c7_6))] (shPitTape, I, L, Rf)) 0 [some (.ref 0), some (.ref 7)] [] := by
  intro c0_7 c0_6 c7_3 c7_4 c7_5 c7_6 h
  unfold bX5_readShaft_0 at h
  refine r_aload_n C dX5_readShaft_0 (rfl : 0 + 1 = 1) rfl ?_
  refine r_getI (v := c0_7) C dX5_readShaft_1 (rfl : 1 + 3 = 4) fl_X5_53 rfl rfl rfl ?_
  refine r_iconst (v := (4 : Int32)) C dX5_readShaft_4 (rfl : 4 + 1 = 5) rfl ?_
  refine r_icmp_lt (tgt := 18) C dX5_readShaft_5 (by decide) (rfl : 5 + 3 = 8) (fun c5 => ?_) (fun c5 => ?_)
  · have h := k_t c5 h
    refine r_aload_n C dX5_readShaft_18 (rfl : 18 + 1 = 19) rfl ?_
    refine r_dup C dX5_readShaft_19 (rfl : 19 + 1 = 20) rfl ?_
    refine r_getI (v := c0_7) C dX5_readShaft_20 (rfl : 20 + 3 = 23) fl_X5_53 rfl rfl rfl ?_
    refine r_iconst (v := (1 : Int32)) C dX5_readShaft_23 (rfl : 23 + 1 = 24) rfl ?_
    refine r_iadd C dX5_readShaft_24 (rfl : 24 + 1 = 25) ?_
    refine p_I (us' := [(0, .inl (7, (c0_7 + (1 : Int32)))), (0, .inr (.inl (6, c0_6))), (7, .inl (3, c7_3)), (7, .inl (4, c7_4)), (7, .inl (5, c7_5)), (7, .inl (6, c7_6))]) C dX5_readShaft_25 (rfl : 25 + 3 = 28) fp_X5_53 rfl rfl ds_X5_readShaft rfl rfl rfl ?_
    refine r_aload_n C dX5_readShaft_28 (rfl : 28 + 1 = 29) rfl ?_
    refine r_dup C dX5_readShaft_29 (rfl : 29 + 1 = 30) rfl ?_
    refine r_getL (v := c0_6) C dX5_readShaft_30 (rfl : 30 + 3 = 33) fl_X5_49 rfl rfl rfl ?_
    refine r_lconst (v := (1 : Int64)) C dX5_readShaft_33 (rfl : 33 + 1 = 34) rfl ?_
    refine r_aload_n C dX5_readShaft_34 (rfl : 34 + 1 = 35) rfl ?_
    refine r_iconst (v := (0 : Int32)) C dX5_readShaft_35 (rfl : 35 + 1 = 36) rfl ?_
    refine r_aload_n C dX5_readShaft_36 (rfl : 36 + 1 = 37) rfl ?_
    refine r_getI (v := c0_0) C dX5_readShaft_37 (rfl : 37 + 3 = 40) fl_X5_36 rfl rfl ec0_0 ?_
    refine r_iconst (v := (1 : Int32)) C dX5_readShaft_40 (rfl : 40 + 1 = 41) rfl ?_
    refine r_isub C dX5_readShaft_41 (rfl : 41 + 1 = 42) ?_
    obtain ⟨r42, q42, h⟩ := k_b_of h
    refine d_Vp (pi := [7, 8]) (shl := shTape) (bl := 0) (As := [.int (0 : Int32), .int (c0_0 - (1 : Int32))]) (Al := [.int (0 : Int32), .int (c0_0 - (1 : Int32))]) (st := [.long (1 : Int64), .long c0_6, .ref 0]) (st' := [.int r42.1, .long (1 : Int64), .long c0_6, .ref 0]) (h' := k_ap [(0, .inl (7, (c0_7 + (1 : Int32)))), (0, .inr (.inl (6, c0_6))), (7, .inl (3, r42.2.1)), (7, .inl (4, r42.2.2.1)), (7, .inl (5, r42.2.2.2.1)), (7, .inl (6, r42.2.2.2.2))] (shPitTape, I, L, Rf)) C hR ⟨Nat.zero_le _, Nat.zero_le _⟩ mv_X8_number lk_X5_117 dX5_readShaft_42 (rfl : 42 + 3 = 45) rfl rfl ck_shPitTape_shTape_7 rfl rfl (c_X8_number X.l u (k_pl [7, 8] shTape (k_ap [(0, .inl (7, (c0_7 + (1 : Int32)))), (0, .inr (.inl (6, c0_6))), (7, .inl (3, c7_3)), (7, .inl (4, c7_4)), (7, .inl (5, c7_5)), (7, .inl (6, c7_6))] (shPitTape, I, L, Rf))) rfl ec7_2 rfl rfl rfl rfl ea8 q42) rfl (fun _ => rfl) rfl (fun _ => rfl) rfl rfl rfl (k_jn (us' := [(0, .inl (7, (c0_7 + (1 : Int32)))), (0, .inr (.inl (6, c0_6))), (7, .inl (3, r42.2.1)), (7, .inl (4, r42.2.2.1)), (7, .inl (5, r42.2.2.2.1)), (7, .inl (6, r42.2.2.2.2))]) ds_X5_readShaft rfl rfl rfl) rfl ?_
    refine r_lshl C dX5_readShaft_45 (rfl : 45 + 1 = 46) ?_
    refine r_lor C dX5_readShaft_46 (rfl : 46 + 1 = 47) ?_
    refine p_L (us' := [(0, .inl (7, (c0_7 + (1 : Int32)))), (0, .inr (.inl (6, (c0_6 ||| ((1 : Int64) <<< ((r42.1).toInt64 &&& 63)))))), (7, .inl (3, r42.2.1)), (7, .inl (4, r42.2.2.1)), (7, .inl (5, r42.2.2.2.1)), (7, .inl (6, r42.2.2.2.2))]) C dX5_readShaft_47 (rfl : 47 + 3 = 50) fp_X5_49 rfl rfl ds_X5_readShaft rfl rfl rfl ?_
    cases h
    exact r_vret C hr dX5_readShaft_50
  · have h := k_f c5 h
    refine r_aload_n C dX5_readShaft_8 (rfl : 8 + 1 = 9) rfl ?_
    refine r_iconst (v := (3 : Int32)) C dX5_readShaft_9 (rfl : 9 + 1 = 10) rfl ?_
    refine r_aload_n C dX5_readShaft_10 (rfl : 10 + 1 = 11) rfl ?_
    refine r_getI (v := c7_4) C dX5_readShaft_11 (rfl : 11 + 3 = 14) fl_X5_94 rfl rfl rfl ?_
    obtain ⟨r14, q14, h⟩ := k_b_of h
    refine d_Vp (pi := [7, 8]) (shl := shTape) (bl := 0) (As := [.int (3 : Int32), .int c7_4]) (Al := [.int (3 : Int32), .int c7_4]) (st := []) (st' := []) (h' := k_ap [(0, .inl (7, c0_7)), (0, .inr (.inl (6, c0_6))), (7, .inl (3, c7_3)), (7, .inl (4, c7_4)), (7, .inl (5, r14.1)), (7, .inl (6, r14.2))] (shPitTape, I, L, Rf)) C hR ⟨Nat.zero_le _, Nat.zero_le _⟩ mv_X8_fail lk_X5_97 dX5_readShaft_14 (rfl : 14 + 3 = 17) rfl rfl ck_shPitTape_shTape_7 rfl rfl (c_X8_fail X.l u (k_pl [7, 8] shTape (k_ap [(0, .inl (7, c0_7)), (0, .inr (.inl (6, c0_6))), (7, .inl (3, c7_3)), (7, .inl (4, c7_4)), (7, .inl (5, c7_5)), (7, .inl (6, c7_6))] (shPitTape, I, L, Rf))) rfl rfl rfl q14) rfl (fun _ => rfl) rfl (fun _ => rfl) rfl rfl rfl (k_jn (us' := [(0, .inl (7, c0_7)), (0, .inr (.inl (6, c0_6))), (7, .inl (3, c7_3)), (7, .inl (4, c7_4)), (7, .inl (5, r14.1)), (7, .inl (6, r14.2))]) ds_X5_readShaft rfl rfl rfl) rfl ?_
    cases h
    exact r_vret C hr dX5_readShaft_17
set_option maxHeartbeats 400000 in
set_option maxRecDepth 100000 in
theorem c_X5_readShaft (l : Launch) (u : Nat) (h : k_H) (hsh : h.1 = shPitTape) {c0_0 : Int32} (ec0_0 : h.2.1 0 0 = c0_0) {c0_7 : Int32} (ec0_7 : h.2.1 0 7 = c0_7) {c0_6 : Int64} (ec0_6 : h.2.2.1 0 6 = c0_6) {c7_2 : Int32} (ec7_2 : h.2.1 7 2 = c7_2) {c7_3 : Int32} (ec7_3 : h.2.1 7 3 = c7_3) {c7_4 : Int32} (ec7_4 : h.2.1 7 4 = c7_4) {c7_5 : Int32} (ec7_5 : h.2.1 7 5 = c7_5) {c7_6 : Int32} (ec7_6 : h.2.1 7 6 = c7_6) {a8 : (Nat → Int32)} (ea8 : h.2.1 8 = a8) {out : Int32 × Int64 × Int32 × Int32 × Int32 × Int32} (hf : f_X5_readShaft u c0_0 c0_7 c0_6 c7_2 c7_3 c7_4 c7_5 c7_6 a8 = some out) : k_CT l yX5_readShaft cX5_readShaft 2 none 2 45 [.ref 0, .ref 7] h none [(0, .inl (7, out.1)), (0, .inr (.inl (6, out.2.1))), (7, .inl (3, out.2.2.1)), (7, .inl (4, out.2.2.2.1)), (7, .inl (5, out.2.2.2.2.1)), (7, .inl (6, out.2.2.2.2.2))] := by
  obtain ⟨sh, I, L, Rf⟩ := h
  try dsimp only
  obtain rfl : sh = shPitTape := hsh
  refine k_ofW (by decide) (Nat.le_of_ble_eq_true rfl) ?_
  intro X ad hl hR0 hr C
  have hR : X.R.frames = 2 ∧ X.R.locals = 45 := by rw [hR0]; exact ⟨rfl, rfl⟩
  have h := hf
  unfold f_X5_readShaft at h
  refine k_start (us := [(0, .inl (7, c0_7)), (0, .inr (.inl (6, c0_6))), (7, .inl (3, c7_3)), (7, .inl (4, c7_4)), (7, .inl (5, c7_5)), (7, .inl (6, c7_6))]) (k_ao_I ec0_7 (k_ao_L ec0_6 (k_ao_I ec7_3 (k_ao_I ec7_4 (k_ao_I ec7_5 (k_ao_I ec7_6 k_ap_0)))))) ?_
  show k_W X 2 0 0 _ ad (k_ap [(0, .inl (7, c0_7)), (0, .inr (.inl (6, c0_6))), (7, .inl (3, c7_3)), (7, .inl (4, c7_4)), (7, .inl (5, c7_5)), (7, .inl (6, c7_6))] (shPitTape, I, L, Rf)) 0 [some (.ref 0), some (.ref 7)] []
  refine k_mask [true, true] ?_
  exact sX5_readShaft_0 u C hr hR ec0_0 ec7_2 ea8 c0_7 c0_6 c7_3 c7_4 c7_5 c7_6 h
/-! LullabyPit$Pit.readPrice(LLullabyPit$Tape;)V -/
theorem ds_X5_readPrice : k_ds [(3, 2, 0), (7, 0, 3), (7, 0, 4), (7, 0, 5), (7, 0, 6)] = true := by decide +kernel
set_option maxHeartbeats 400000 in
set_option maxRecDepth 100000 in
theorem sX5_readPrice_0 (u : Nat) {X : k_X} {ad : Nat → Nat} (C : k_C X cX5_readPrice RX5 3 ad) (hr : X.meth.sig.returnType = none) (hR : X.R.frames = 2 ∧ X.R.locals = 45) {I : Nat → Nat → Int32} {L : Nat → Nat → Int64} {Rf : Nat → Nat → Option Nat} {c7_2 : Int32} (ec7_2 : I 7 2 = c7_2) {a8 : (Nat → Int32)} (ea8 : I 8 = a8) {out : (Nat → Int32) × Int32 × Int32 × Int32 × Int32} : ∀ (a3 : (Nat → Int32)) (c7_3 : Int32) (c7_4 : Int32) (c7_5 : Int32) (c7_6 : Int32), bX5_readPrice_0 u c7_2 a8 a3 c7_3 c7_4 c7_5 c7_6 = some out → k_W X 3 0 0 (k_Q X ad none (k_ap [(3, .inr (.inr (.inl out.1))), (7, .inl (3, out.2.1)), (7, .inl (4, out.2.2.1)), (7, .inl (5, out.2.2.2.1)), (7, .inl (6, out.2.2.2.2))] (shPitTape, I, L, Rf))) ad (k_ap [(3, .inr (.inr (.inl a3))), (7, .inl (3, c7_3)), (7, .inl (4, c7_4)), (7, .inl (5, c7_5)), (7, .inl (6, c7_6))] (shPitTape, I, L, Rf)) 0 [some (.ref 0), some (.ref 7), none] [] := by
  intro a3 c7_3 c7_4 c7_5 c7_6 h
  unfold bX5_readPrice_0 at h
  refine r_aload_n C dX5_readPrice_0 (rfl : 0 + 1 = 1) rfl ?_
  refine r_iconst (v := (1 : Int32)) C dX5_readPrice_1 (rfl : 1 + 1 = 2) rfl ?_
  refine r_iconst (v := (4 : Int32)) C dX5_readPrice_2 (rfl : 2 + 1 = 3) rfl ?_
  obtain ⟨r3, q3, h⟩ := k_b_of h
  refine d_Vp (pi := [7, 8]) (shl := shTape) (bl := 0) (As := [.int (1 : Int32), .int (4 : Int32)]) (Al := [.int (1 : Int32), .int (4 : Int32)]) (st := []) (st' := [.int r3.1]) (h' := k_ap [(3, .inr (.inr (.inl a3))), (7, .inl (3, r3.2.1)), (7, .inl (4, r3.2.2.1)), (7, .inl (5, r3.2.2.2.1)), (7, .inl (6, r3.2.2.2.2))] (shPitTape, I, L, Rf)) C hR ⟨Nat.zero_le _, Nat.zero_le _⟩ mv_X8_number lk_X5_117 dX5_readPrice_3 (rfl : 3 + 3 = 6) rfl rfl ck_shPitTape_shTape_7 rfl rfl (c_X8_number X.l u (k_pl [7, 8] shTape (k_ap [(3, .inr (.inr (.inl a3))), (7, .inl (3, c7_3)), (7, .inl (4, c7_4)), (7, .inl (5, c7_5)), (7, .inl (6, c7_6))] (shPitTape, I, L, Rf))) rfl ec7_2 rfl rfl rfl rfl ea8 q3) rfl (fun _ => rfl) rfl (fun _ => rfl) rfl rfl rfl (k_jn (us' := [(3, .inr (.inr (.inl a3))), (7, .inl (3, r3.2.1)), (7, .inl (4, r3.2.2.1)), (7, .inl (5, r3.2.2.2.1)), (7, .inl (6, r3.2.2.2.2))]) ds_X5_readPrice rfl rfl rfl) rfl ?_
  refine r_istore_n C dX5_readPrice_6 (rfl : 6 + 1 = 7) (by decide) (Nat.le_of_ble_eq_true rfl) ?_
  show k_W _ _ _ _ _ _ _ _ [some (.ref 0), some (.ref 7), some (.int r3.1)] _
  refine r_aload_n C dX5_readPrice_7 (rfl : 7 + 1 = 8) rfl ?_
  refine r_getR (q := 3) C dX5_readPrice_8 (rfl : 8 + 3 = 11) fl_X5_18 rfl rfl ?_
  refine r_iload_n C dX5_readPrice_11 (rfl : 11 + 1 = 12) rfl ?_
  refine r_aload_n C dX5_readPrice_12 (rfl : 12 + 1 = 13) rfl ?_
  refine r_iconst (v := (0 : Int32)) C dX5_readPrice_13 (rfl : 13 + 1 = 14) rfl ?_
  refine r_bipush (v := (99 : Int32)) C dX5_readPrice_14 (rfl : 14 + 2 = 16) rfl ?_
  obtain ⟨r16, q16, h⟩ := k_b_of h
  refine d_Vp (pi := [7, 8]) (shl := shTape) (bl := 0) (As := [.int (0 : Int32), .int (99 : Int32)]) (Al := [.int (0 : Int32), .int (99 : Int32)]) (st := [.int r3.1, .ref 3]) (st' := [.int r16.1, .int r3.1, .ref 3]) (h' := k_ap [(3, .inr (.inr (.inl a3))), (7, .inl (3, r16.2.1)), (7, .inl (4, r16.2.2.1)), (7, .inl (5, r16.2.2.2.1)), (7, .inl (6, r16.2.2.2.2))] (shPitTape, I, L, Rf)) C hR ⟨Nat.zero_le _, Nat.zero_le _⟩ mv_X8_number lk_X5_117 dX5_readPrice_16 (rfl : 16 + 3 = 19) rfl rfl ck_shPitTape_shTape_7 rfl rfl (c_X8_number X.l u (k_pl [7, 8] shTape (k_ap [(3, .inr (.inr (.inl a3))), (7, .inl (3, r3.2.1)), (7, .inl (4, r3.2.2.1)), (7, .inl (5, r3.2.2.2.1)), (7, .inl (6, r3.2.2.2.2))] (shPitTape, I, L, Rf))) rfl ec7_2 rfl rfl rfl rfl ea8 q16) rfl (fun _ => rfl) rfl (fun _ => rfl) rfl rfl rfl (k_jn (us' := [(3, .inr (.inr (.inl a3))), (7, .inl (3, r16.2.1)), (7, .inl (4, r16.2.2.1)), (7, .inl (5, r16.2.2.2.1)), (7, .inl (6, r16.2.2.2.2))]) ds_X5_readPrice rfl rfl rfl) rfl ?_
  obtain ⟨hi19, h⟩ := k_i_of h
  refine s_i (j := (r3.1).toNatClampNeg) (f := a3) (us' := [(3, .inr (.inr (.inl (upd a3 ((r3.1).toNatClampNeg) r16.1)))), (7, .inl (3, r16.2.1)), (7, .inl (4, r16.2.2.1)), (7, .inl (5, r16.2.2.2.1)), (7, .inl (6, r16.2.2.2.2))]) C dX5_readPrice_19 (rfl : 19 + 1 = 20) rfl rfl hi19 rfl ds_X5_readPrice rfl rfl rfl ?_
  cases h
  exact r_vret C hr dX5_readPrice_20
set_option maxHeartbeats 400000 in
set_option maxRecDepth 100000 in
theorem c_X5_readPrice (l : Launch) (u : Nat) (h : k_H) (hsh : h.1 = shPitTape) {a3 : (Nat → Int32)} (ea3 : h.2.1 3 = a3) {c7_2 : Int32} (ec7_2 : h.2.1 7 2 = c7_2) {c7_3 : Int32} (ec7_3 : h.2.1 7 3 = c7_3) {c7_4 : Int32} (ec7_4 : h.2.1 7 4 = c7_4) {c7_5 : Int32} (ec7_5 : h.2.1 7 5 = c7_5) {c7_6 : Int32} (ec7_6 : h.2.1 7 6 = c7_6) {a8 : (Nat → Int32)} (ea8 : h.2.1 8 = a8) {out : (Nat → Int32) × Int32 × Int32 × Int32 × Int32} (hf : f_X5_readPrice u a3 c7_2 c7_3 c7_4 c7_5 c7_6 a8 = some out) : k_CT l yX5_readPrice cX5_readPrice 3 none 2 45 [.ref 0, .ref 7] h none [(3, .inr (.inr (.inl out.1))), (7, .inl (3, out.2.1)), (7, .inl (4, out.2.2.1)), (7, .inl (5, out.2.2.2.1)), (7, .inl (6, out.2.2.2.2))] := by
  obtain ⟨sh, I, L, Rf⟩ := h
  try dsimp only
  obtain rfl : sh = shPitTape := hsh
  refine k_ofW (by decide) (Nat.le_of_ble_eq_true rfl) ?_
  intro X ad hl hR0 hr C
  have hR : X.R.frames = 2 ∧ X.R.locals = 45 := by rw [hR0]; exact ⟨rfl, rfl⟩
  have h := hf
  unfold f_X5_readPrice at h
  refine k_start (us := [(3, .inr (.inr (.inl a3))), (7, .inl (3, c7_3)), (7, .inl (4, c7_4)), (7, .inl (5, c7_5)), (7, .inl (6, c7_6))]) (k_ao_A ea3 (k_ao_I ec7_3 (k_ao_I ec7_4 (k_ao_I ec7_5 (k_ao_I ec7_6 k_ap_0))))) ?_
  show k_W X 3 0 0 _ ad (k_ap [(3, .inr (.inr (.inl a3))), (7, .inl (3, c7_3)), (7, .inl (4, c7_4)), (7, .inl (5, c7_5)), (7, .inl (6, c7_6))] (shPitTape, I, L, Rf)) 0 [some (.ref 0), some (.ref 7), none] []
  refine k_mask [true, true, false] ?_
  exact sX5_readPrice_0 u C hr hR ec7_2 ea8 a3 c7_3 c7_4 c7_5 c7_6 h
