/-! LullabyPit$Pit.readOrder(LLullabyPit$Tape;)V -/
theorem ds_X5_readOrder : k_ds [(0, 0, 10), (4, 2, 0), (5, 2, 0), (6, 2, 0), (7, 0, 3), (7, 0, 4), (7, 0, 5), (7, 0, 6)] = true := by decide +kernel
set_option maxHeartbeats 400000 in
set_option maxRecDepth 100000 in
theorem sX5_readOrder_101 (u : Nat) {X : k_X} {ad : Nat → Nat} (C : k_C X cX5_readOrder RX5 4 ad) (hr : X.meth.sig.returnType = none) (hR : X.R.frames = 6 ∧ X.R.locals = 133) {I : Nat → Nat → Int32} {L : Nat → Nat → Int64} {Rf : Nat → Nat → Option Nat} {c7_2 : Int32} (ec7_2 : I 7 2 = c7_2) {a8 : (Nat → Int32)} (ea8 : I 8 = a8) {out : Int32 × (Nat → Int32) × (Nat → Int32) × (Nat → Int32) × Int32 × Int32 × Int32 × Int32} {k37 : Int32 → (Nat → Int32) → (Nat → Int32) → (Nat → Int32) → Int32 → Int32 → Int32 → Int32 → Int32 → Option (Int32 × (Nat → Int32) × (Nat → Int32) × (Nat → Int32) × Int32 × Int32 × Int32 × Int32)} (hk37 : ∀ (c0_10 : Int32) (a4 : (Nat → Int32)) (a5 : (Nat → Int32)) (a6 : (Nat → Int32)) (c7_3 : Int32) (c7_4 : Int32) (c7_5 : Int32) (c7_6 : Int32) (v2 : Int32), k37 c0_10 a4 a5 a6 c7_3 c7_4 c7_5 c7_6 v2 = some out → k_W X 4 0 0 (k_Q X ad none (k_ap [(0, .inl (10, out.1)), (4, .inr (.inr (.inl out.2.1))), (5, .inr (.inr (.inl out.2.2.1))), (6, .inr (.inr (.inl out.2.2.2.1))), (7, .inl (3, out.2.2.2.2.1)), (7, .inl (4, out.2.2.2.2.2.1)), (7, .inl (5, out.2.2.2.2.2.2.1)), (7, .inl (6, out.2.2.2.2.2.2.2))] (shPitTape, I, L, Rf))) ad (k_ap [(0, .inl (10, c0_10)), (4, .inr (.inr (.inl a4))), (5, .inr (.inr (.inl a5))), (6, .inr (.inr (.inl a6))), (7, .inl (3, c7_3)), (7, .inl (4, c7_4)), (7, .inl (5, c7_5)), (7, .inl (6, c7_6))] (shPitTape, I, L, Rf)) 37 [some (.ref 0), some (.ref 7), some (.int v2), none] []) : ∀ (c0_10 : Int32) (a4 : (Nat → Int32)) (a5 : (Nat → Int32)) (a6 : (Nat → Int32)) (c7_3 : Int32) (c7_4 : Int32) (c7_5 : Int32) (c7_6 : Int32) (v2 : Int32), bX5_readOrder_101 u c7_2 a8 k37 c0_10 a4 a5 a6 c7_3 c7_4 c7_5 c7_6 v2 = some out → k_W X 4 0 0 (k_Q X ad none (k_ap [(0, .inl (10, out.1)), (4, .inr (.inr (.inl out.2.1))), (5, .inr (.inr (.inl out.2.2.1))), (6, .inr (.inr (.inl out.2.2.2.1))), (7, .inl (3, out.2.2.2.2.1)), (7, .inl (4, out.2.2.2.2.2.1)), (7, .inl (5, out.2.2.2.2.2.2.1)), (7, .inl (6, out.2.2.2.2.2.2.2))] (shPitTape, I, L, Rf))) ad (k_ap [(0, .inl (10, c0_10)), (4, .inr (.inr (.inl a4))), (5, .inr (.inr (.inl a5))), (6, .inr (.inr (.inl a6))), (7, .inl (3, c7_3)), (7, .inl (4, c7_4)), (7, .inl (5, c7_5)), (7, .inl (6, c7_6))] (shPitTape, I, L, Rf)) 101 [some (.ref 0), some (.ref 7), some (.int v2), none] [] := by
  intro c0_10 a4 a5 a6 c7_3 c7_4 c7_5 c7_6 v2 h
  unfold bX5_readOrder_101 at h
  refine r_iinc (v := (v2 + (1 : Int32))) C dX5_readOrder_101 (rfl : 101 + 3 = 104) rfl rfl (by decide) ?_
  show k_W _ _ _ _ _ _ _ _ [some (.ref 0), some (.ref 7), some (.int (v2 + (1 : Int32))), none] _
  refine r_goto (tgt := 37) C dX5_readOrder_104 (by decide) ?_
  refine k_mask [true, true, true, false] ?_
  exact hk37 c0_10 a4 a5 a6 c7_3 c7_4 c7_5 c7_6 (v2 + (1 : Int32)) h
set_option maxHeartbeats 400000 in
set_option maxRecDepth 100000 in
theorem sX5_readOrder_61 (u : Nat) {X : k_X} {ad : Nat → Nat} (C : k_C X cX5_readOrder RX5 4 ad) (hr : X.meth.sig.returnType = none) (hR : X.R.frames = 6 ∧ X.R.locals = 133) {I : Nat → Nat → Int32} {L : Nat → Nat → Int64} {Rf : Nat → Nat → Option Nat} {c7_2 : Int32} (ec7_2 : I 7 2 = c7_2) {a8 : (Nat → Int32)} (ea8 : I 8 = a8) {out : Int32 × (Nat → Int32) × (Nat → Int32) × (Nat → Int32) × Int32 × Int32 × Int32 × Int32} {k37 : Int32 → (Nat → Int32) → (Nat → Int32) → (Nat → Int32) → Int32 → Int32 → Int32 → Int32 → Int32 → Option (Int32 × (Nat → Int32) × (Nat → Int32) × (Nat → Int32) × Int32 × Int32 × Int32 × Int32)} (hk37 : ∀ (c0_10 : Int32) (a4 : (Nat → Int32)) (a5 : (Nat → Int32)) (a6 : (Nat → Int32)) (c7_3 : Int32) (c7_4 : Int32) (c7_5 : Int32) (c7_6 : Int32) (v2 : Int32), k37 c0_10 a4 a5 a6 c7_3 c7_4 c7_5 c7_6 v2 = some out → k_W X 4 0 0 (k_Q X ad none (k_ap [(0, .inl (10, out.1)), (4, .inr (.inr (.inl out.2.1))), (5, .inr (.inr (.inl out.2.2.1))), (6, .inr (.inr (.inl out.2.2.2.1))), (7, .inl (3, out.2.2.2.2.1)), (7, .inl (4, out.2.2.2.2.2.1)), (7, .inl (5, out.2.2.2.2.2.2.1)), (7, .inl (6, out.2.2.2.2.2.2.2))] (shPitTape, I, L, Rf))) ad (k_ap [(0, .inl (10, c0_10)), (4, .inr (.inr (.inl a4))), (5, .inr (.inr (.inl a5))), (6, .inr (.inr (.inl a6))), (7, .inl (3, c7_3)), (7, .inl (4, c7_4)), (7, .inl (5, c7_5)), (7, .inl (6, c7_6))] (shPitTape, I, L, Rf)) 37 [some (.ref 0), some (.ref 7), some (.int v2), none] []) : ∀ (c0_10 : Int32) (a4 : (Nat → Int32)) (a5 : (Nat → Int32)) (a6 : (Nat → Int32)) (c7_3 : Int32) (c7_4 : Int32) (c7_5 : Int32) (c7_6 : Int32) (v2 : Int32), bX5_readOrder_61 u c7_2 a8 k37 c0_10 a4 a5 a6 c7_3 c7_4 c7_5 c7_6 v2 = some out → k_W X 4 0 0 (k_Q X ad none (k_ap [(0, .inl (10, out.1)), (4, .inr (.inr (.inl out.2.1))), (5, .inr (.inr (.inl out.2.2.1))), (6, .inr (.inr (.inl out.2.2.2.1))), (7, .inl (3, out.2.2.2.2.1)), (7, .inl (4, out.2.2.2.2.2.1)), (7, .inl (5, out.2.2.2.2.2.2.1)), (7, .inl (6, out.2.2.2.2.2.2.2))] (shPitTape, I, L, Rf))) ad (k_ap [(0, .inl (10, c0_10)), (4, .inr (.inr (.inl a4))), (5, .inr (.inr (.inl a5))), (6, .inr (.inr (.inl a6))), (7, .inl (3, c7_3)), (7, .inl (4, c7_4)), (7, .inl (5, c7_5)), (7, .inl (6, c7_6))] (shPitTape, I, L, Rf)) 61 [some (.ref 0), some (.ref 7), some (.int v2), none] [] := by
  intro c0_10 a4 a5 a6 c7_3 c7_4 c7_5 c7_6 v2 h
  unfold bX5_readOrder_61 at h
  refine r_aload_n C dX5_readOrder_61 (rfl : 61 + 1 = 62) rfl ?_
  refine r_iconst (v := (1 : Int32)) C dX5_readOrder_62 (rfl : 62 + 1 = 63) rfl ?_
  refine r_iconst (v := (4 : Int32)) C dX5_readOrder_63 (rfl : 63 + 1 = 64) rfl ?_
  obtain ⟨r64, q64, h⟩ := k_b_of h
  refine d_Vp (pi := [7, 8]) (shl := shTape) (bl := 0) (As := [.int (1 : Int32), .int (4 : Int32)]) (Al := [.int (1 : Int32), .int (4 : Int32)]) (st := []) (st' := [.int r64.1]) (h' := k_ap [(0, .inl (10, c0_10)), (4, .inr (.inr (.inl a4))), (5, .inr (.inr (.inl a5))), (6, .inr (.inr (.inl a6))), (7, .inl (3, r64.2.1)), (7, .inl (4, r64.2.2.1)), (7, .inl (5, r64.2.2.2.1)), (7, .inl (6, r64.2.2.2.2))] (shPitTape, I, L, Rf)) C hR ⟨Nat.zero_le _, Nat.zero_le _⟩ mv_X8_number lk_X5_117 dX5_readOrder_64 (rfl : 64 + 3 = 67) rfl rfl ck_shPitTape_shTape_7 rfl rfl (c_X8_number X.l u (k_pl [7, 8] shTape (k_ap [(0, .inl (10, c0_10)), (4, .inr (.inr (.inl a4))), (5, .inr (.inr (.inl a5))), (6, .inr (.inr (.inl a6))), (7, .inl (3, c7_3)), (7, .inl (4, c7_4)), (7, .inl (5, c7_5)), (7, .inl (6, c7_6))] (shPitTape, I, L, Rf))) rfl ec7_2 rfl rfl rfl rfl ea8 q64) rfl (fun _ => rfl) rfl (fun _ => rfl) rfl rfl rfl (k_jn (us' := [(0, .inl (10, c0_10)), (4, .inr (.inr (.inl a4))), (5, .inr (.inr (.inl a5))), (6, .inr (.inr (.inl a6))), (7, .inl (3, r64.2.1)), (7, .inl (4, r64.2.2.1)), (7, .inl (5, r64.2.2.2.1)), (7, .inl (6, r64.2.2.2.2))]) ds_X5_readOrder rfl rfl rfl) rfl ?_
  refine r_istore_n C dX5_readOrder_67 (rfl : 67 + 1 = 68) (by decide) (Nat.le_of_ble_eq_true rfl) ?_
  show k_W _ _ _ _ _ _ _ _ [some (.ref 0), some (.ref 7), some (.int v2), some (.int r64.1)] _
  refine r_iload_n C dX5_readOrder_68 (rfl : 68 + 1 = 69) rfl ?_
  refine r_bipush (v := (8 : Int32)) C dX5_readOrder_69 (rfl : 69 + 2 = 71) rfl ?_
  refine r_icmp_ge (tgt := 92) C dX5_readOrder_71 (by decide) (rfl : 71 + 3 = 74) (fun c71 => ?_) (fun c71 => ?_)
  · have h := k_t c71 h
    refine r_aload_n C dX5_readOrder_92 (rfl : 92 + 1 = 93) rfl ?_
    refine r_iconst (v := (3 : Int32)) C dX5_readOrder_93 (rfl : 93 + 1 = 94) rfl ?_
    refine r_aload_n C dX5_readOrder_94 (rfl : 94 + 1 = 95) rfl ?_
    refine r_getI (v := r64.2.2.1) C dX5_readOrder_95 (rfl : 95 + 3 = 98) fl_X5_94 rfl rfl rfl ?_
    obtain ⟨r98, q98, h⟩ := k_b_of h
    refine d_Vp (pi := [7, 8]) (shl := shTape) (bl := 0) (As := [.int (3 : Int32), .int r64.2.2.1]) (Al := [.int (3 : Int32), .int r64.2.2.1]) (st := []) (st' := []) (h' := k_ap [(0, .inl (10, c0_10)), (4, .inr (.inr (.inl a4))), (5, .inr (.inr (.inl a5))), (6, .inr (.inr (.inl a6))), (7, .inl (3, r64.2.1)), (7, .inl (4, r64.2.2.1)), (7, .inl (5, r98.1)), (7, .inl (6, r98.2))] (shPitTape, I, L, Rf)) C hR ⟨Nat.zero_le _, Nat.zero_le _⟩ mv_X8_fail lk_X5_97 dX5_readOrder_98 (rfl : 98 + 3 = 101) rfl rfl ck_shPitTape_shTape_7 rfl rfl (c_X8_fail X.l u (k_pl [7, 8] shTape (k_ap [(0, .inl (10, c0_10)), (4, .inr (.inr (.inl a4))), (5, .inr (.inr (.inl a5))), (6, .inr (.inr (.inl a6))), (7, .inl (3, r64.2.1)), (7, .inl (4, r64.2.2.1)), (7, .inl (5, r64.2.2.2.1)), (7, .inl (6, r64.2.2.2.2))] (shPitTape, I, L, Rf))) rfl rfl rfl q98) rfl (fun _ => rfl) rfl (fun _ => rfl) rfl rfl rfl (k_jn (us' := [(0, .inl (10, c0_10)), (4, .inr (.inr (.inl a4))), (5, .inr (.inr (.inl a5))), (6, .inr (.inr (.inl a6))), (7, .inl (3, r64.2.1)), (7, .inl (4, r64.2.2.1)), (7, .inl (5, r98.1)), (7, .inl (6, r98.2))]) ds_X5_readOrder rfl rfl rfl) rfl ?_
    refine k_mask [true, true, true, false] ?_
    exact sX5_readOrder_101 u C hr hR ec7_2 ea8 hk37 c0_10 a4 a5 a6 r64.2.1 r64.2.2.1 r98.1 r98.2 v2 h
  · have h := k_f c71 h
    refine r_aload_n C dX5_readOrder_74 (rfl : 74 + 1 = 75) rfl ?_
    refine r_getR (q := 6) C dX5_readOrder_75 (rfl : 75 + 3 = 78) fl_X5_27 rfl rfl ?_
    refine r_aload_n C dX5_readOrder_78 (rfl : 78 + 1 = 79) rfl ?_
    refine r_getI (v := c0_10) C dX5_readOrder_79 (rfl : 79 + 3 = 82) fl_X5_62 rfl rfl rfl ?_
    refine r_bipush (v := (8 : Int32)) C dX5_readOrder_82 (rfl : 82 + 2 = 84) rfl ?_
    refine r_imul C dX5_readOrder_84 (rfl : 84 + 1 = 85) ?_
    refine r_iload_n C dX5_readOrder_85 (rfl : 85 + 1 = 86) rfl ?_
    refine r_iadd C dX5_readOrder_86 (rfl : 86 + 1 = 87) ?_
    refine r_iload_n C dX5_readOrder_87 (rfl : 87 + 1 = 88) rfl ?_
    obtain ⟨hi88, h⟩ := k_i_of h
    refine s_i (j := (((c0_10 * (8 : Int32)) + v2)).toNatClampNeg) (f := a6) (us' := [(0, .inl (10, c0_10)), (4, .inr (.inr (.inl a4))), (5, .inr (.inr (.inl a5))), (6, .inr (.inr (.inl (upd a6 ((((c0_10 * (8 : Int32)) + v2)).toNatClampNeg) r64.1)))), (7, .inl (3, r64.2.1)), (7, .inl (4, r64.2.2.1)), (7, .inl (5, r64.2.2.2.1)), (7, .inl (6, r64.2.2.2.2))]) C dX5_readOrder_88 (rfl : 88 + 1 = 89) rfl rfl hi88 rfl ds_X5_readOrder rfl rfl rfl ?_
    refine r_goto (tgt := 101) C dX5_readOrder_89 (by decide) ?_
    refine k_mask [true, true, true, false] ?_
    exact sX5_readOrder_101 u C hr hR ec7_2 ea8 hk37 c0_10 a4 a5 (upd a6 ((((c0_10 * (8 : Int32)) + v2)).toNatClampNeg) r64.1) r64.2.1 r64.2.2.1 r64.2.2.2.1 r64.2.2.2.2 v2 h
set_option maxHeartbeats 400000 in
set_option maxRecDepth 100000 in
theorem sX5_readOrder_107 (u : Nat) {X : k_X} {ad : Nat → Nat} (C : k_C X cX5_readOrder RX5 4 ad) (hr : X.meth.sig.returnType = none) (hR : X.R.frames = 6 ∧ X.R.locals = 133) {I : Nat → Nat → Int32} {L : Nat → Nat → Int64} {Rf : Nat → Nat → Option Nat} {c7_2 : Int32} (ec7_2 : I 7 2 = c7_2) {a8 : (Nat → Int32)} (ea8 : I 8 = a8) {out : Int32 × (Nat → Int32) × (Nat → Int32) × (Nat → Int32) × Int32 × Int32 × Int32 × Int32} : ∀ (c0_10 : Int32) (a4 : (Nat → Int32)) (a5 : (Nat → Int32)) (a6 : (Nat → Int32)) (c7_3 : Int32) (c7_4 : Int32) (c7_5 : Int32) (c7_6 : Int32) (v2 : Int32), bX5_readOrder_107 u c7_2 a8 c0_10 a4 a5 a6 c7_3 c7_4 c7_5 c7_6 v2 = some out → k_W X 4 0 0 (k_Q X ad none (k_ap [(0, .inl (10, out.1)), (4, .inr (.inr (.inl out.2.1))), (5, .inr (.inr (.inl out.2.2.1))), (6, .inr (.inr (.inl out.2.2.2.1))), (7, .inl (3, out.2.2.2.2.1)), (7, .inl (4, out.2.2.2.2.2.1)), (7, .inl (5, out.2.2.2.2.2.2.1)), (7, .inl (6, out.2.2.2.2.2.2.2))] (shPitTape, I, L, Rf))) ad (k_ap [(0, .inl (10, c0_10)), (4, .inr (.inr (.inl a4))), (5, .inr (.inr (.inl a5))), (6, .inr (.inr (.inl a6))), (7, .inl (3, c7_3)), (7, .inl (4, c7_4)), (7, .inl (5, c7_5)), (7, .inl (6, c7_6))] (shPitTape, I, L, Rf)) 107 [some (.ref 0), some (.ref 7), some (.int v2), none] [] := by
  intro c0_10 a4 a5 a6 c7_3 c7_4 c7_5 c7_6 v2 h
  unfold bX5_readOrder_107 at h
  refine r_aload_n C dX5_readOrder_107 (rfl : 107 + 1 = 108) rfl ?_
  refine r_ldcS (i := 2) C rfl dX5_readOrder_108 (rfl : 108 + 2 = 110) ?_
  obtain ⟨r110, q110, h⟩ := k_b_of h
  refine d_Vp (pi := [7, 8]) (shl := shTape) (bl := 0) (As := [.ref (1000000 + 2)]) (Al := [.ref (1000000 + 2)]) (st := []) (st' := [.int r110.1]) (h' := k_ap [(0, .inl (10, c0_10)), (4, .inr (.inr (.inl a4))), (5, .inr (.inr (.inl a5))), (6, .inr (.inr (.inl a6))), (7, .inl (3, r110.2.1)), (7, .inl (4, r110.2.2.1)), (7, .inl (5, r110.2.2.2.1)), (7, .inl (6, r110.2.2.2.2))] (shPitTape, I, L, Rf)) C hR ⟨Nat.zero_le _, Nat.zero_le _⟩ mv_X8_word lk_X5_90 dX5_readOrder_110 (rfl : 110 + 3 = 113) rfl rfl ck_shPitTape_shTape_7 rfl rfl (c_X8_word X.l u 2 (by decide) (k_pl [7, 8] shTape (k_ap [(0, .inl (10, c0_10)), (4, .inr (.inr (.inl a4))), (5, .inr (.inr (.inl a5))), (6, .inr (.inr (.inl a6))), (7, .inl (3, c7_3)), (7, .inl (4, c7_4)), (7, .inl (5, c7_5)), (7, .inl (6, c7_6))] (shPitTape, I, L, Rf))) rfl ec7_2 rfl rfl rfl rfl ea8 q110) rfl (fun _ => rfl) rfl (fun _ => rfl) rfl rfl rfl (k_jn (us' := [(0, .inl (10, c0_10)), (4, .inr (.inr (.inl a4))), (5, .inr (.inr (.inl a5))), (6, .inr (.inr (.inl a6))), (7, .inl (3, r110.2.1)), (7, .inl (4, r110.2.2.1)), (7, .inl (5, r110.2.2.2.1)), (7, .inl (6, r110.2.2.2.2))]) ds_X5_readOrder rfl rfl rfl) rfl ?_
  refine r_pop C dX5_readOrder_113 (rfl : 113 + 1 = 114) rfl ?_
  refine r_aload_n C dX5_readOrder_114 (rfl : 114 + 1 = 115) rfl ?_
  refine r_getR (q := 5) C dX5_readOrder_115 (rfl : 115 + 3 = 118) fl_X5_24 rfl rfl ?_
  refine r_aload_n C dX5_readOrder_118 (rfl : 118 + 1 = 119) rfl ?_
  refine r_getI (v := c0_10) C dX5_readOrder_119 (rfl : 119 + 3 = 122) fl_X5_62 rfl rfl rfl ?_
  refine r_iload_n C dX5_readOrder_122 (rfl : 122 + 1 = 123) rfl ?_
  refine r_bipush (v := (8 : Int32)) C dX5_readOrder_123 (rfl : 123 + 2 = 125) rfl ?_
  refine r_min C hR dX5_readOrder_125 (rfl : 125 + 3 = 128) lm_X5_136 rfl rfl rfl ?_
  obtain ⟨hi128, h⟩ := k_i_of h
  refine s_i (j := (c0_10).toNatClampNeg) (f := a5) (us' := [(0, .inl (10, c0_10)), (4, .inr (.inr (.inl a4))), (5, .inr (.inr (.inl (upd a5 ((c0_10).toNatClampNeg) (if (8 : Int32) < v2 then (8 : Int32) else v2))))), (6, .inr (.inr (.inl a6))), (7, .inl (3, r110.2.1)), (7, .inl (4, r110.2.2.1)), (7, .inl (5, r110.2.2.2.1)), (7, .inl (6, r110.2.2.2.2))]) C dX5_readOrder_128 (rfl : 128 + 1 = 129) rfl rfl hi128 rfl ds_X5_readOrder rfl rfl rfl ?_
  refine r_aload_n C dX5_readOrder_129 (rfl : 129 + 1 = 130) rfl ?_
  refine r_dup C dX5_readOrder_130 (rfl : 130 + 1 = 131) rfl ?_
  refine r_getI (v := c0_10) C dX5_readOrder_131 (rfl : 131 + 3 = 134) fl_X5_62 rfl rfl rfl ?_
  refine r_iconst (v := (1 : Int32)) C dX5_readOrder_134 (rfl : 134 + 1 = 135) rfl ?_
  refine r_iadd C dX5_readOrder_135 (rfl : 135 + 1 = 136) ?_
  refine p_I (us' := [(0, .inl (10, (c0_10 + (1 : Int32)))), (4, .inr (.inr (.inl a4))), (5, .inr (.inr (.inl (upd a5 ((c0_10).toNatClampNeg) (if (8 : Int32) < v2 then (8 : Int32) else v2))))), (6, .inr (.inr (.inl a6))), (7, .inl (3, r110.2.1)), (7, .inl (4, r110.2.2.1)), (7, .inl (5, r110.2.2.2.1)), (7, .inl (6, r110.2.2.2.2))]) C dX5_readOrder_136 (rfl : 136 + 3 = 139) fp_X5_62 rfl rfl ds_X5_readOrder rfl rfl rfl ?_
  cases h
  exact r_vret C hr dX5_readOrder_139
set_option maxHeartbeats 400000 in
set_option maxRecDepth 100000 in
theorem sX5_readOrder_37 (u : Nat) {X : k_X} {ad : Nat → Nat} (C : k_C X cX5_readOrder RX5 4 ad) (hr : X.meth.sig.returnType = none) (hR : X.R.frames = 6 ∧ X.R.locals = 133) {I : Nat → Nat → Int32} {L : Nat → Nat → Int64} {Rf : Nat → Nat → Option Nat} {c7_2 : Int32} (ec7_2 : I 7 2 = c7_2) {a8 : (Nat → Int32)} (ea8 : I 8 = a8) {out : Int32 × (Nat → Int32) × (Nat → Int32) × (Nat → Int32) × Int32 × Int32 × Int32 × Int32} : ∀ (n : Nat) (c0_10 : Int32) (a4 : (Nat → Int32)) (a5 : (Nat → Int32)) (a6 : (Nat → Int32)) (c7_3 : Int32) (c7_4 : Int32) (c7_5 : Int32) (c7_6 : Int32) (v2 : Int32), bX5_readOrder_37 u c7_2 a8 n c0_10 a4 a5 a6 c7_3 c7_4 c7_5 c7_6 v2 = some out → k_W X 4 0 0 (k_Q X ad none (k_ap [(0, .inl (10, out.1)), (4, .inr (.inr (.inl out.2.1))), (5, .inr (.inr (.inl out.2.2.1))), (6, .inr (.inr (.inl out.2.2.2.1))), (7, .inl (3, out.2.2.2.2.1)), (7, .inl (4, out.2.2.2.2.2.1)), (7, .inl (5, out.2.2.2.2.2.2.1)), (7, .inl (6, out.2.2.2.2.2.2.2))] (shPitTape, I, L, Rf))) ad (k_ap [(0, .inl (10, c0_10)), (4, .inr (.inr (.inl a4))), (5, .inr (.inr (.inl a5))), (6, .inr (.inr (.inl a6))), (7, .inl (3, c7_3)), (7, .inl (4, c7_4)), (7, .inl (5, c7_5)), (7, .inl (6, c7_6))] (shPitTape, I, L, Rf)) 37 [some (.ref 0), some (.ref 7), some (.int v2), none] [] := by
  intro n
  induction n with
  | zero => intro c0_10 a4 a5 a6 c7_3 c7_4 c7_5 c7_6 v2 h; cases h
  | succ n ih =>
    intro c0_10 a4 a5 a6 c7_3 c7_4 c7_5 c7_6 v2 h
    refine r_iload_n C dX5_readOrder_37 (rfl : 37 + 1 = 38) rfl ?_
    refine r_bipush (v := (8 : Int32)) C dX5_readOrder_38 (rfl : 38 + 2 = 40) rfl ?_
    refine r_icmp_gt (tgt := 107) C dX5_readOrder_40 (by decide) (rfl : 40 + 3 = 43) (fun c40 => ?_) (fun c40 => ?_)
    · have h := k_t c40 h
      refine k_mask [true, true, true, false] ?_
      exact sX5_readOrder_107 u C hr hR ec7_2 ea8 c0_10 a4 a5 a6 c7_3 c7_4 c7_5 c7_6 v2 h
    · have h := k_f c40 h
      refine r_aload_n C dX5_readOrder_43 (rfl : 43 + 1 = 44) rfl ?_
      obtain ⟨r44, q44, h⟩ := k_b_of h
      refine d_Vp (pi := [7, 8]) (shl := shTape) (bl := 0) (As := []) (Al := []) (st := []) (st' := [.int r44]) (h' := k_ap [(0, .inl (10, c0_10)), (4, .inr (.inr (.inl a4))), (5, .inr (.inr (.inl a5))), (6, .inr (.inr (.inl a6))), (7, .inl (3, c7_3)), (7, .inl (4, c7_4)), (7, .inl (5, c7_5)), (7, .inl (6, c7_6))] (shPitTape, I, L, Rf)) C hR ⟨Nat.zero_le _, Nat.zero_le _⟩ mv_X8_good lk_X5_101 dX5_readOrder_44 (rfl : 44 + 3 = 47) rfl rfl ck_shPitTape_shTape_7 rfl rfl (c_X8_good X.l u (k_pl [7, 8] shTape (k_ap [(0, .inl (10, c0_10)), (4, .inr (.inr (.inl a4))), (5, .inr (.inr (.inl a5))), (6, .inr (.inr (.inl a6))), (7, .inl (3, c7_3)), (7, .inl (4, c7_4)), (7, .inl (5, c7_5)), (7, .inl (6, c7_6))] (shPitTape, I, L, Rf))) rfl rfl q44) rfl (fun _ => rfl) rfl (fun _ => rfl) rfl rfl rfl rfl rfl ?_
      refine r_if_eq (tgt := 107) C dX5_readOrder_47 (by decide) (rfl : 47 + 3 = 50) (fun c47 => ?_) (fun c47 => ?_)
      · have h := k_t c47 h
        refine k_mask [true, true, true, false] ?_
        exact sX5_readOrder_107 u C hr hR ec7_2 ea8 c0_10 a4 a5 a6 c7_3 c7_4 c7_5 c7_6 v2 h
      · have h := k_f c47 h
        refine r_iload_n C dX5_readOrder_50 (rfl : 50 + 1 = 51) rfl ?_
        refine r_if_eq (tgt := 61) C dX5_readOrder_51 (by decide) (rfl : 51 + 3 = 54) (fun c51 => ?_) (fun c51 => ?_)
        · have h := k_t c51 h
          refine k_mask [true, true, true, false] ?_
          exact sX5_readOrder_61 u C hr hR ec7_2 ea8 ih c0_10 a4 a5 a6 c7_3 c7_4 c7_5 c7_6 v2 h
        · have h := k_f c51 h
          refine r_aload_n C dX5_readOrder_54 (rfl : 54 + 1 = 55) rfl ?_
          obtain ⟨r55, q55, h⟩ := k_b_of h
          refine d_Vp (pi := [7, 8]) (shl := shTape) (bl := 0) (As := []) (Al := []) (st := []) (st' := [.int r55.1]) (h' := k_ap [(0, .inl (10, c0_10)), (4, .inr (.inr (.inl a4))), (5, .inr (.inr (.inl a5))), (6, .inr (.inr (.inl a6))), (7, .inl (3, r55.2)), (7, .inl (4, c7_4)), (7, .inl (5, c7_5)), (7, .inl (6, c7_6))] (shPitTape, I, L, Rf)) C hR ⟨Nat.zero_le _, Nat.zero_le _⟩ mv_X8_isDigitNext lk_X5_131 dX5_readOrder_55 (rfl : 55 + 3 = 58) rfl rfl ck_shPitTape_shTape_7 rfl rfl (c_X8_isDigitNext X.l u (k_pl [7, 8] shTape (k_ap [(0, .inl (10, c0_10)), (4, .inr (.inr (.inl a4))), (5, .inr (.inr (.inl a5))), (6, .inr (.inr (.inl a6))), (7, .inl (3, c7_3)), (7, .inl (4, c7_4)), (7, .inl (5, c7_5)), (7, .inl (6, c7_6))] (shPitTape, I, L, Rf))) rfl ec7_2 rfl ea8 q55) rfl (fun _ => rfl) rfl (fun _ => rfl) rfl rfl rfl (k_jn (us' := [(0, .inl (10, c0_10)), (4, .inr (.inr (.inl a4))), (5, .inr (.inr (.inl a5))), (6, .inr (.inr (.inl a6))), (7, .inl (3, r55.2)), (7, .inl (4, c7_4)), (7, .inl (5, c7_5)), (7, .inl (6, c7_6))]) ds_X5_readOrder rfl rfl rfl) rfl ?_
          refine r_if_eq (tgt := 107) C dX5_readOrder_58 (by decide) (rfl : 58 + 3 = 61) (fun c58 => ?_) (fun c58 => ?_)
          · have h := k_t c58 h
            refine k_mask [true, true, true, false] ?_
            exact sX5_readOrder_107 u C hr hR ec7_2 ea8 c0_10 a4 a5 a6 r55.2 c7_4 c7_5 c7_6 v2 h
          · have h := k_f c58 h
            refine k_mask [true, true, true, false] ?_
            exact sX5_readOrder_61 u C hr hR ec7_2 ea8 ih c0_10 a4 a5 a6 r55.2 c7_4 c7_5 c7_6 v2 h
set_option maxHeartbeats 400000 in
set_option maxRecDepth 100000 in
theorem sX5_readOrder_0 (u : Nat) {X : k_X} {ad : Nat → Nat} (C : k_C X cX5_readOrder RX5 4 ad) (hr : X.meth.sig.returnType = none) (hR : X.R.frames = 6 ∧ X.R.locals = 133) {I : Nat → Nat → Int32} {L : Nat → Nat → Int64} {Rf : Nat → Nat → Option Nat} {c7_2 : Int32} (ec7_2 : I 7 2 = c7_2) {a8 : (Nat → Int32)} (ea8 : I 8 = a8) {out : Int32 × (Nat → Int32) × (Nat → Int32) × (Nat → Int32) × Int32 × Int32 × Int32 × Int32} : ∀ (c0_10 : Int32) (a4 : (Nat → Int32)) (a5 : (Nat → Int32)) (a6 : (Nat → Int32)) (c7_3 : Int32) (c7_4 : Int32) (c7_5 : Int32) (c7_6 : Int32), bX5_readOrder_0 u c7_2 a8 c0_10 a4 a5 a6 c7_3 c7_4 c7_5 c7_6 = some out → k_W X 4 0 0 (k_Q X ad none (k_ap [(0, .inl (10, out.1)), (4, .inr (.inr (.inl out.2.1))), (5, .inr (.inr (.inl out.2.2.1))), (6, .inr (.inr (.inl out.2.2.2.1))), (7, .inl (3, out.2.2.2.2.1)), (7, .inl (4, out.2.2.2.2.2.1)), (7, .inl (5, out.2.2.2.2.2.2.1)), (7, .inl (6, out.2.2.2.2.2.2.2))] (shPitTape, I, L, Rf))) ad (k_ap [(0, .inl (10, c0_10)), (4, .inr (.inr (.inl a4))), (5, .inr (.inr (.inl a5))), (6, .inr (.inr (.inl a6))), (7, .inl (3, c7_3)), (7, .inl (4, c7_4)), (7, .inl (5, c7_5)), (7, .inl (6, c7_6))] (shPitTape, I, L, Rf)) 0 [some (.ref 0), some (.ref 7), none, none] [] := by
  intro c0_10 a4 a5 a6 c7_3 c7_4 c7_5 c7_6 h
  unfold bX5_readOrder_0 at h
  refine r_aload_n C dX5_readOrder_0 (rfl : 0 + 1 = 1) rfl ?_
  refine r_getI (v := c0_10) C dX5_readOrder_1 (rfl : 1 + 3 = 4) fl_X5_62 rfl rfl rfl ?_
  refine r_bipush (v := (6 : Int32)) C dX5_readOrder_4 (rfl : 4 + 2 = 6) rfl ?_
  refine r_icmp_lt (tgt := 19) C dX5_readOrder_6 (by decide) (rfl : 6 + 3 = 9) (fun c6 => ?_) (fun c6 => ?_)
  · have h := k_t c6 h
    refine r_aload_n C dX5_readOrder_19 (rfl : 19 + 1 = 20) rfl ?_
    refine r_getR (q := 4) C dX5_readOrder_20 (rfl : 20 + 3 = 23) fl_X5_21 rfl rfl ?_
    refine r_aload_n C dX5_readOrder_23 (rfl : 23 + 1 = 24) rfl ?_
    refine r_getI (v := c0_10) C dX5_readOrder_24 (rfl : 24 + 3 = 27) fl_X5_62 rfl rfl rfl ?_
    refine r_aload_n C dX5_readOrder_27 (rfl : 27 + 1 = 28) rfl ?_
    refine r_iconst (v := (1 : Int32)) C dX5_readOrder_28 (rfl : 28 + 1 = 29) rfl ?_
    refine r_bipush (v := (60 : Int32)) C dX5_readOrder_29 (rfl : 29 + 2 = 31) rfl ?_
    obtain ⟨r31, q31, h⟩ := k_b_of h
    refine d_Vp (pi := [7, 8]) (shl := shTape) (bl := 0) (As := [.int (1 : Int32), .int (60 : Int32)]) (Al := [.int (1 : Int32), .int (60 : Int32)]) (st := [.int c0_10, .ref 4]) (st' := [.int r31.1, .int c0_10, .ref 4]) (h' := k_ap [(0, .inl (10, c0_10)), (4, .inr (.inr (.inl a4))), (5, .inr (.inr (.inl a5))), (6, .inr (.inr (.inl a6))), (7, .inl (3, r31.2.1)), (7, .inl (4, r31.2.2.1)), (7, .inl (5, r31.2.2.2.1)), (7, .inl (6, r31.2.2.2.2))] (shPitTape, I, L, Rf)) C hR ⟨Nat.zero_le _, Nat.zero_le _⟩ mv_X8_number lk_X5_117 dX5_readOrder_31 (rfl : 31 + 3 = 34) rfl rfl ck_shPitTape_shTape_7 rfl rfl (c_X8_number X.l u (k_pl [7, 8] shTape (k_ap [(0, .inl (10, c0_10)), (4, .inr (.inr (.inl a4))), (5, .inr (.inr (.inl a5))), (6, .inr (.inr (.inl a6))), (7, .inl (3, c7_3)), (7, .inl (4, c7_4)), (7, .inl (5, c7_5)), (7, .inl (6, c7_6))] (shPitTape, I, L, Rf))) rfl ec7_2 rfl rfl rfl rfl ea8 q31) rfl (fun _ => rfl) rfl (fun _ => rfl) rfl rfl rfl (k_jn (us' := [(0, .inl (10, c0_10)), (4, .inr (.inr (.inl a4))), (5, .inr (.inr (.inl a5))), (6, .inr (.inr (.inl a6))), (7, .inl (3, r31.2.1)), (7, .inl (4, r31.2.2.1)), (7, .inl (5, r31.2.2.2.1)), (7, .inl (6, r31.2.2.2.2))]) ds_X5_readOrder rfl rfl rfl) rfl ?_
    obtain ⟨hi34, h⟩ := k_i_of h
    refine s_i (j := (c0_10).toNatClampNeg) (f := a4) (us' := [(0, .inl (10, c0_10)), (4, .inr (.inr (.inl (upd a4 ((c0_10).toNatClampNeg) r31.1)))), (5, .inr (.inr (.inl a5))), (6, .inr (.inr (.inl a6))), (7, .inl (3, r31.2.1)), (7, .inl (4, r31.2.2.1)), (7, .inl (5, r31.2.2.2.1)), (7, .inl (6, r31.2.2.2.2))]) C dX5_readOrder_34 (rfl : 34 + 1 = 35) rfl rfl hi34 rfl ds_X5_readOrder rfl rfl rfl ?_
    refine r_iconst (v := (0 : Int32)) C dX5_readOrder_35 (rfl : 35 + 1 = 36) rfl ?_
    refine r_istore_n C dX5_readOrder_36 (rfl : 36 + 1 = 37) (by decide) (Nat.le_of_ble_eq_true rfl) ?_
    show k_W _ _ _ _ _ _ _ _ [some (.ref 0), some (.ref 7), some (.int (0 : Int32)), none] _
    refine k_mask [true, true, true, false] ?_
    exact sX5_readOrder_37 u C hr hR ec7_2 ea8 u c0_10 (upd a4 ((c0_10).toNatClampNeg) r31.1) a5 a6 r31.2.1 r31.2.2.1 r31.2.2.2.1 r31.2.2.2.2 (0 : Int32) h
  · have h := k_f c6 h
    refine r_aload_n C dX5_readOrder_9 (rfl : 9 + 1 = 10) rfl ?_
    refine r_iconst (v := (3 : Int32)) C dX5_readOrder_10 (rfl : 10 + 1 = 11) rfl ?_
    refine r_aload_n C dX5_readOrder_11 (rfl : 11 + 1 = 12) rfl ?_
    refine r_getI (v := c7_4) C dX5_readOrder_12 (rfl : 12 + 3 = 15) fl_X5_94 rfl rfl rfl ?_
    obtain ⟨r15, q15, h⟩ := k_b_of h
    refine d_Vp (pi := [7, 8]) (shl := shTape) (bl := 0) (As := [.int (3 : Int32), .int c7_4]) (Al := [.int (3 : Int32), .int c7_4]) (st := []) (st' := []) (h' := k_ap [(0, .inl (10, c0_10)), (4, .inr (.inr (.inl a4))), (5, .inr (.inr (.inl a5))), (6, .inr (.inr (.inl a6))), (7, .inl (3, c7_3)), (7, .inl (4, c7_4)), (7, .inl (5, r15.1)), (7, .inl (6, r15.2))] (shPitTape, I, L, Rf)) C hR ⟨Nat.zero_le _, Nat.zero_le _⟩ mv_X8_fail lk_X5_97 dX5_readOrder_15 (rfl : 15 + 3 = 18) rfl rfl ck_shPitTape_shTape_7 rfl rfl (c_X8_fail X.l u (k_pl [7, 8] shTape (k_ap [(0, .inl (10, c0_10)), (4, .inr (.inr (.inl a4))), (5, .inr (.inr (.inl a5))), (6, .inr (.inr (.inl a6))), (7, .inl (3, c7_3)), (7, .inl (4, c7_4)), (7, .inl (5, c7_5)), (7, .inl (6, c7_6))] (shPitTape, I, L, Rf))) rfl rfl rfl q15) rfl (fun _ => rfl) rfl (fun _ => rfl) rfl rfl rfl (k_jn (us' := [(0, .inl (10, c0_10)), (4, .inr (.inr (.inl a4))), (5, .inr (.inr (.inl a5))), (6, .inr (.inr (.inl a6))), (7, .inl (3, c7_3)), (7, .inl (4, c7_4)), (7, .inl (5, r15.1)), (7, .inl (6, r15.2))]) ds_X5_readOrder rfl rfl rfl) rfl ?_
    cases h
    exact r_vret C hr dX5_readOrder_18
set_option maxHeartbeats 400000 in
set_option maxRecDepth 100000 in
theorem c_X5_readOrder (l : Launch) (u : Nat) (h : k_H) (hsh : h.1 = shPitTape) {c0_10 : Int32} (ec0_10 : h.2.1 0 10 = c0_10) {a4 : (Nat → Int32)} (ea4 : h.2.1 4 = a4) {a5 : (Nat → Int32)} (ea5 : h.2.1 5 = a5) {a6 : (Nat → Int32)} (ea6 : h.2.1 6 = a6) {c7_2 : Int32} (ec7_2 : h.2.1 7 2 = c7_2) {c7_3 : Int32} (ec7_3 : h.2.1 7 3 = c7_3) {c7_4 : Int32} (ec7_4 : h.2.1 7 4 = c7_4) {c7_5 : Int32} (ec7_5 : h.2.1 7 5 = c7_5) {c7_6 : Int32} (ec7_6 : h.2.1 7 6 = c7_6) {a8 : (Nat → Int32)} (ea8 : h.2.1 8 = a8) {out : Int32 × (Nat → Int32) × (Nat → Int32) × (Nat → Int32) × Int32 × Int32 × Int32 × Int32} (hf : f_X5_readOrder u c0_10 a4 a5 a6 c7_2 c7_3 c7_4 c7_5 c7_6 a8 = some out) : k_CT l yX5_readOrder cX5_readOrder 4 none 6 133 [.ref 0, .ref 7] h none [(0, .inl (10, out.1)), (4, .inr (.inr (.inl out.2.1))), (5, .inr (.inr (.inl out.2.2.1))), (6, .inr (.inr (.inl out.2.2.2.1))), (7, .inl (3, out.2.2.2.2.1)), (7, .inl (4, out.2.2.2.2.2.1)), (7, .inl (5, out.2.2.2.2.2.2.1)), (7, .inl (6, out.2.2.2.2.2.2.2))] := by
  obtain ⟨sh, I, L, Rf⟩ := h
  try dsimp only
  obtain rfl : sh = shPitTape := hsh
  refine k_ofW (by decide) (Nat.le_of_ble_eq_true rfl) ?_
  intro X ad hl hR0 hr C
  have hR : X.R.frames = 6 ∧ X.R.locals = 133 := by rw [hR0]; exact ⟨rfl, rfl⟩
  have h := hf
  unfold f_X5_readOrder at h
  refine k_start (us := [(0, .inl (10, c0_10)), (4, .inr (.inr (.inl a4))), (5, .inr (.inr (.inl a5))), (6, .inr (.inr (.inl a6))), (7, .inl (3, c7_3)), (7, .inl (4, c7_4)), (7, .inl (5, c7_5)), (7, .inl (6, c7_6))]) (k_ao_I ec0_10 (k_ao_A ea4 (k_ao_A ea5 (k_ao_A ea6 (k_ao_I ec7_3 (k_ao_I ec7_4 (k_ao_I ec7_5 (k_ao_I ec7_6 k_ap_0)))))))) ?_
  show k_W X 4 0 0 _ ad (k_ap [(0, .inl (10, c0_10)), (4, .inr (.inr (.inl a4))), (5, .inr (.inr (.inl a5))), (6, .inr (.inr (.inl a6))), (7, .inl (3, c7_3)), (7, .inl (4, c7_4)), (7, .inl (5, c7_5)), (7, .inl (6, c7_6))] (shPitTape, I, L, Rf)) 0 [some (.ref 0), some (.ref 7), none, none] []
  refine k_mask [true, true, false, false] ?_
  exact sX5_readOrder_0 u C hr hR ec7_2 ea8 c0_10 a4 a5 a6 c7_3 c7_4 c7_5 c7_6 h
