/-! LullabyPit$Pit.read(LLullabyPit$Tape;)V -/
theorem ds_X5_read : k_ds [(0, 0, 0), (0, 0, 1), (0, 0, 7), (0, 0, 8), (0, 0, 9), (0, 0, 10), (0, 1, 5), (0, 1, 6), (1, 2, 0), (2, 2, 0), (3, 2, 0), (4, 2, 0), (5, 2, 0), (6, 2, 0), (7, 0, 3), (7, 0, 4), (7, 0, 5), (7, 0, 6)] = true := by decide +kernel
set_option maxHeartbeats 1000000 in
set_option maxRecDepth 100000 in
theorem sX5_read_38 (u : Nat) {X : k_X} {ad : Nat → Nat} (C : k_C X cX5_read RX5 3 ad) (hr : X.meth.sig.returnType = none) (hR : X.R.frames = 8 ∧ X.R.locals = 179) {I : Nat → Nat → Int32} {L : Nat → Nat → Int64} {Rf : Nat → Nat → Option Nat} {c7_2 : Int32} (ec7_2 : I 7 2 = c7_2) {a8 : (Nat → Int32)} (ea8 : I 8 = a8) {out : Int32 × Int32 × Int32 × Int32 × Int32 × Int32 × Int64 × Int64 × (Nat → Int32) × (Nat → Int32) × (Nat → Int32) × (Nat → Int32) × (Nat → Int32) × (Nat → Int32) × Int32 × Int32 × Int32 × Int32} : ∀ (c0_0 : Int32) (c0_1 : Int32) (c0_7 : Int32) (c0_8 : Int32) (c0_9 : Int32) (c0_10 : Int32) (c0_5 : Int64) (c0_6 : Int64) (a1 : (Nat → Int32)) (a2 : (Nat → Int32)) (a3 : (Nat → Int32)) (a4 : (Nat → Int32)) (a5 : (Nat → Int32)) (a6 : (Nat → Int32)) (c7_3 : Int32) (c7_4 : Int32) (c7_5 : Int32) (c7_6 : Int32), bX5_read_38 u c7_2 a8 c0_0 c0_1 c0_7 c0_8 c0_9 c0_10 c0_5 c0_6 a1 a2 a3 a4 a5 a6 c7_3 c7_4 c7_5 c7_6 = some out → k_W X 3 0 0 (k_Q X ad none (k_ap [(0, .inl (0, out.1)), (0, .inl (1, out.2.1)), (0, .inl (7, out.2.2.1)), (0, .inl (8, out.2.2.2.1)), (0, .inl (9, out.2.2.2.2.1)), (0, .inl (10, out.2.2.2.2.2.1)), (0, .inr (.inl (5, out.2.2.2.2.2.2.1))), (0, .inr (.inl (6, out.2.2.2.2.2.2.2.1))), (1, .inr (.inr (.inl out.2.2.2.2.2.2.2.2.1))), (2, .inr (.inr (.inl out.2.2.2.2.2.2.2.2.2.1))), (3, .inr (.inr (.inl out.2.2.2.2.2.2.2.2.2.2.1))), (4, .inr (.inr (.inl out.2.2.2.2.2.2.2.2.2.2.2.1))), (5, .inr (.inr (.inl out.2.2.2.2.2.2.2.2.2.2.2.2.1))), (6, .inr (.inr (.inl out.2.2.2.2.2.2.2.2.2.2.2.2.2.1))), (7, .inl (3, out.2.2.2.2.2.2.2.2.2.2.2.2.2.2.1)), (7, .inl (4, out.2.2.2.2.2.2.2.2.2.2.2.2.2.2.2.1)), (7, .inl (5, out.2.2.2.2.2.2.2.2.2.2.2.2.2.2.2.2.1)), (7, .inl (6, out.2.2.2.2.2.2.2.2.2.2.2.2.2.2.2.2.2))] (shPitTape, I, L, Rf))) ad (k_ap [(0, .inl (0, c0_0)), (0, .inl (1, c0_1)), (0, .inl (7, c0_7)), (0, .inl (8, c0_8)), (0, .inl (9, c0_9)), (0, .inl (10, c0_10)), (0, .inr (.inl (5, c0_5))), (0, .inr (.inl (6, c0_6))), (1, .inr (.inr (.inl a1))), (2, .inr (.inr (.inl a2))), (3, .inr (.inr (.inl a3))), (4, .inr (.inr (.inl a4))), (5, .inr (.inr (.inl a5))), (6, .inr (.inr (.inl a6))), (7, .inl (3, c7_3)), (7, .inl (4, c7_4)), (7, .inl (5, c7_5)), (7, .inl (6, c7_6))] (shPitTape, I, L, Rf)) 38 [some (.ref 0), none, none] [] := by
  intro c0_0 c0_1 c0_7 c0_8 c0_9 c0_10 c0_5 c0_6 a1 a2 a3 a4 a5 a6 c7_3 c7_4 c7_5 c7_6 h
  unfold bX5_read_38 at h
  refine r_aload_n C dX5_read_38 (rfl : 38 + 1 = 39) rfl ?_
  obtain ⟨r39, q39, h⟩ := k_b_of h
  refine d_Vp (pi := [0, 1, 2, 3, 4, 5, 6]) (shl := shPit) (bl := 0) (As := []) (Al := []) (st := []) (st' := []) (h' := k_ap [(0, .inl (0, c0_0)), (0, .inl (1, c0_1)), (0, .inl (7, c0_7)), (0, .inl (8, c0_8)), (0, .inl (9, c0_9)), (0, .inl (10, c0_10)), (0, .inr (.inl (5, r39))), (0, .inr (.inl (6, c0_6))), (1, .inr (.inr (.inl a1))), (2, .inr (.inr (.inl a2))), (3, .inr (.inr (.inl a3))), (4, .inr (.inr (.inl a4))), (5, .inr (.inr (.inl a5))), (6, .inr (.inr (.inl a6))), (7, .inl (3, c7_3)), (7, .inl (4, c7_4)), (7, .inl (5, c7_5)), (7, .inl (6, c7_6))] (shPitTape, I, L, Rf)) C hR ⟨Nat.zero_le _, Nat.zero_le _⟩ mv_X5_tellAll lk_X5_33 dX5_read_39 (rfl : 39 + 3 = 42) rfl rfl ck_shPitTape_shPit_0_5 rfl rfl (c_X5_tellAll X.l u (k_pl [0, 1, 2, 3, 4, 5, 6] shPit (k_ap [(0, .inl (0, c0_0)), (0, .inl (1, c0_1)), (0, .inl (7, c0_7)), (0, .inl (8, c0_8)), (0, .inl (9, c0_9)), (0, .inl (10, c0_10)), (0, .inr (.inl (5, c0_5))), (0, .inr (.inl (6, c0_6))), (1, .inr (.inr (.inl a1))), (2, .inr (.inr (.inl a2))), (3, .inr (.inr (.inl a3))), (4, .inr (.inr (.inl a4))), (5, .inr (.inr (.inl a5))), (6, .inr (.inr (.inl a6))), (7, .inl (3, c7_3)), (7, .inl (4, c7_4)), (7, .inl (5, c7_5)), (7, .inl (6, c7_6))] (shPitTape, I, L, Rf))) rfl rfl rfl rfl q39) rfl (fun _ => rfl) rfl (fun _ => rfl) rfl rfl rfl (k_jn2 (us' := [(0, .inl (0, c0_0)), (0, .inl (1, c0_1)), (0, .inl (7, c0_7)), (0, .inl (8, c0_8)), (0, .inl (9, c0_9)), (0, .inl (10, c0_10)), (0, .inr (.inl (5, r39))), (0, .inr (.inl (6, c0_6))), (1, .inr (.inr (.inl a1))), (2, .inr (.inr (.inl a2))), (3, .inr (.inr (.inl a3))), (4, .inr (.inr (.inl a4))), (5, .inr (.inr (.inl a5))), (6, .inr (.inr (.inl a6))), (7, .inl (3, c7_3)), (7, .inl (4, c7_4)), (7, .inl (5, c7_5)), (7, .inl (6, c7_6))]) (vks := [(0, 1, 5)]) (js := [6]) ds_X5_read rfl rfl (by decide +kernel) rfl) rfl ?_
  cases h
  exact r_vret C hr dX5_read_42
set_option maxHeartbeats 1000000 in
set_option maxRecDepth 100000 in
theorem sX5_read_6 (u : Nat) {X : k_X} {ad : Nat → Nat} (C : k_C X cX5_read RX5 3 ad) (hr : X.meth.sig.returnType = none) (hR : X.R.frames = 8 ∧ X.R.locals = 179) {I : Nat → Nat → Int32} {L : Nat → Nat → Int64} {Rf : Nat → Nat → Option Nat} {c7_2 : Int32} (ec7_2 : I 7 2 = c7_2) {a8 : (Nat → Int32)} (ea8 : I 8 = a8) {out : Int32 × Int32 × Int32 × Int32 × Int32 × Int32 × Int64 × Int64 × (Nat → Int32) × (Nat → Int32) × (Nat → Int32) × (Nat → Int32) × (Nat → Int32) × (Nat → Int32) × Int32 × Int32 × Int32 × Int32} : ∀ (n : Nat) (c0_0 : Int32) (c0_1 : Int32) (c0_7 : Int32) (c0_8 : Int32) (c0_9 : Int32) (c0_10 : Int32) (c0_5 : Int64) (c0_6 : Int64) (a1 : (Nat → Int32)) (a2 : (Nat → Int32)) (a3 : (Nat → Int32)) (a4 : (Nat → Int32)) (a5 : (Nat → Int32)) (a6 : (Nat → Int32)) (c7_3 : Int32) (c7_4 : Int32) (c7_5 : Int32) (c7_6 : Int32) (v2 : Int32), bX5_read_6 u c7_2 a8 n c0_0 c0_1 c0_7 c0_8 c0_9 c0_10 c0_5 c0_6 a1 a2 a3 a4 a5 a6 c7_3 c7_4 c7_5 c7_6 v2 = some out → k_W X 3 0 0 (k_Q X ad none (k_ap [(0, .inl (0, out.1)), (0, .inl (1, out.2.1)), (0, .inl (7, out.2.2.1)), (0, .inl (8, out.2.2.2.1)), (0, .inl (9, out.2.2.2.2.1)), (0, .inl (10, out.2.2.2.2.2.1)), (0, .inr (.inl (5, out.2.2.2.2.2.2.1))), (0, .inr (.inl (6, out.2.2.2.2.2.2.2.1))), (1, .inr (.inr (.inl out.2.2.2.2.2.2.2.2.1))), (2, .inr (.inr (.inl out.2.2.2.2.2.2.2.2.2.1))), (3, .inr (.inr (.inl out.2.2.2.2.2.2.2.2.2.2.1))), (4, .inr (.inr (.inl out.2.2.2.2.2.2.2.2.2.2.2.1))), (5, .inr (.inr (.inl out.2.2.2.2.2.2.2.2.2.2.2.2.1))), (6, .inr (.inr (.inl out.2.2.2.2.2.2.2.2.2.2.2.2.2.1))), (7, .inl (3, out.2.2.2.2.2.2.2.2.2.2.2.2.2.2.1)), (7, .inl (4, out.2.2.2.2.2.2.2.2.2.2.2.2.2.2.2.1)), (7, .inl (5, out.2.2.2.2.2.2.2.2.2.2.2.2.2.2.2.2.1)), (7, .inl (6, out.2.2.2.2.2.2.2.2.2.2.2.2.2.2.2.2.2))] (shPitTape, I, L, Rf))) ad (k_ap [(0, .inl (0, c0_0)), (0, .inl (1, c0_1)), (0, .inl (7, c0_7)), (0, .inl (8, c0_8)), (0, .inl (9, c0_9)), (0, .inl (10, c0_10)), (0, .inr (.inl (5, c0_5))), (0, .inr (.inl (6, c0_6))), (1, .inr (.inr (.inl a1))), (2, .inr (.inr (.inl a2))), (3, .inr (.inr (.inl a3))), (4, .inr (.inr (.inl a4))), (5, .inr (.inr (.inl a5))), (6, .inr (.inr (.inl a6))), (7, .inl (3, c7_3)), (7, .inl (4, c7_4)), (7, .inl (5, c7_5)), (7, .inl (6, c7_6))] (shPitTape, I, L, Rf)) 6 [some (.ref 0), some (.ref 7), some (.int v2)] [] := by
  intro n
  induction n with
  | zero => intro c0_0 c0_1 c0_7 c0_8 c0_9 c0_10 c0_5 c0_6 a1 a2 a3 a4 a5 a6 c7_3 c7_4 c7_5 c7_6 v2 h; cases h
  | succ n ih =>
    intro c0_0 c0_1 c0_7 c0_8 c0_9 c0_10 c0_5 c0_6 a1 a2 a3 a4 a5 a6 c7_3 c7_4 c7_5 c7_6 v2 h
    refine r_iload_n C dX5_read_6 (rfl : 6 + 1 = 7) rfl ?_
    refine r_sipush (v := (600 : Int32)) C dX5_read_7 (rfl : 7 + 3 = 10) rfl ?_
    refine r_icmp_ge (tgt := 38) C dX5_read_10 (by decide) (rfl : 10 + 3 = 13) (fun c10 => ?_) (fun c10 => ?_)
    · have h := k_t c10 h
      refine k_mask [true, false, false] ?_
      exact sX5_read_38 u C hr hR ec7_2 ea8 c0_0 c0_1 c0_7 c0_8 c0_9 c0_10 c0_5 c0_6 a1 a2 a3 a4 a5 a6 c7_3 c7_4 c7_5 c7_6 h
    · have h := k_f c10 h
      refine r_aload_n C dX5_read_13 (rfl : 13 + 1 = 14) rfl ?_
      obtain ⟨r14, q14, h⟩ := k_b_of h
      refine d_Vp (pi := [7, 8]) (shl := shTape) (bl := 0) (As := []) (Al := []) (st := []) (st' := [.int r14.1]) (h' := k_ap [(0, .inl (0, c0_0)), (0, .inl (1, c0_1)), (0, .inl (7, c0_7)), (0, .inl (8, c0_8)), (0, .inl (9, c0_9)), (0, .inl (10, c0_10)), (0, .inr (.inl (5, c0_5))), (0, .inr (.inl (6, c0_6))), (1, .inr (.inr (.inl a1))), (2, .inr (.inr (.inl a2))), (3, .inr (.inr (.inl a3))), (4, .inr (.inr (.inl a4))), (5, .inr (.inr (.inl a5))), (6, .inr (.inr (.inl a6))), (7, .inl (3, r14.2)), (7, .inl (4, c7_4)), (7, .inl (5, c7_5)), (7, .inl (6, c7_6))] (shPitTape, I, L, Rf)) C hR ⟨Nat.zero_le _, Nat.zero_le _⟩ mv_X8_more lk_X5_74 dX5_read_14 (rfl : 14 + 3 = 17) rfl rfl ck_shPitTape_shTape_7 rfl rfl (c_X8_more X.l u (k_pl [7, 8] shTape (k_ap [(0, .inl (0, c0_0)), (0, .inl (1, c0_1)), (0, .inl (7, c0_7)), (0, .inl (8, c0_8)), (0, .inl (9, c0_9)), (0, .inl (10, c0_10)), (0, .inr (.inl (5, c0_5))), (0, .inr (.inl (6, c0_6))), (1, .inr (.inr (.inl a1))), (2, .inr (.inr (.inl a2))), (3, .inr (.inr (.inl a3))), (4, .inr (.inr (.inl a4))), (5, .inr (.inr (.inl a5))), (6, .inr (.inr (.inl a6))), (7, .inl (3, c7_3)), (7, .inl (4, c7_4)), (7, .inl (5, c7_5)), (7, .inl (6, c7_6))] (shPitTape, I, L, Rf))) rfl ec7_2 rfl rfl ea8 q14) rfl (fun _ => rfl) rfl (fun _ => rfl) rfl rfl rfl (k_jn2 (us' := [(0, .inl (0, c0_0)), (0, .inl (1, c0_1)), (0, .inl (7, c0_7)), (0, .inl (8, c0_8)), (0, .inl (9, c0_9)), (0, .inl (10, c0_10)), (0, .inr (.inl (5, c0_5))), (0, .inr (.inl (6, c0_6))), (1, .inr (.inr (.inl a1))), (2, .inr (.inr (.inl a2))), (3, .inr (.inr (.inl a3))), (4, .inr (.inr (.inl a4))), (5, .inr (.inr (.inl a5))), (6, .inr (.inr (.inl a6))), (7, .inl (3, r14.2)), (7, .inl (4, c7_4)), (7, .inl (5, c7_5)), (7, .inl (6, c7_6))]) (vks := [(7, 0, 3)]) (js := [14]) ds_X5_read rfl rfl (by decide +kernel) rfl) rfl ?_
      refine r_if_eq (tgt := 38) C dX5_read_17 (by decide) (rfl : 17 + 3 = 20) (fun c17 => ?_) (fun c17 => ?_)
      · have h := k_t c17 h
        refine k_mask [true, false, false] ?_
        exact sX5_read_38 u C hr hR ec7_2 ea8 c0_0 c0_1 c0_7 c0_8 c0_9 c0_10 c0_5 c0_6 a1 a2 a3 a4 a5 a6 r14.2 c7_4 c7_5 c7_6 h
      · have h := k_f c17 h
        refine r_aload_n C dX5_read_20 (rfl : 20 + 1 = 21) rfl ?_
        refine r_aload_n C dX5_read_21 (rfl : 21 + 1 = 22) rfl ?_
        refine r_iload_n C dX5_read_22 (rfl : 22 + 1 = 23) rfl ?_
        obtain ⟨r23, q23, h⟩ := k_b_of h
        refine d_V (As := [.ref 7, .int v2]) (st := []) (st' := []) (h' := k_ap [(0, .inl (0, r23.1)), (0, .inl (1, r23.2.1)), (0, .inl (7, r23.2.2.1)), (0, .inl (8, r23.2.2.2.1)), (0, .inl (9, r23.2.2.2.2.1)), (0, .inl (10, r23.2.2.2.2.2.1)), (0, .inr (.inl (5, c0_5))), (0, .inr (.inl (6, r23.2.2.2.2.2.2.1))), (1, .inr (.inr (.inl r23.2.2.2.2.2.2.2.1))), (2, .inr (.inr (.inl r23.2.2.2.2.2.2.2.2.1))), (3, .inr (.inr (.inl r23.2.2.2.2.2.2.2.2.2.1))), (4, .inr (.inr (.inl r23.2.2.2.2.2.2.2.2.2.2.1))), (5, .inr (.inr (.inl r23.2.2.2.2.2.2.2.2.2.2.2.1))), (6, .inr (.inr (.inl r23.2.2.2.2.2.2.2.2.2.2.2.2.1))), (7, .inl (3, r23.2.2.2.2.2.2.2.2.2.2.2.2.2.1)), (7, .inl (4, r23.2.2.2.2.2.2.2.2.2.2.2.2.2.2.1)), (7, .inl (5, r23.2.2.2.2.2.2.2.2.2.2.2.2.2.2.2.1)), (7, .inl (6, r23.2.2.2.2.2.2.2.2.2.2.2.2.2.2.2.2))] (shPitTape, I, L, Rf)) C hR ⟨Nat.zero_le _, Nat.zero_le _⟩ mv_X5_readClause lk_X5_80 dX5_read_23 (rfl : 23 + 3 = 26) rfl rfl rfl rfl (c_X5_readClause X.l u (k_ap [(0, .inl (0, c0_0)), (0, .inl (1, c0_1)), (0, .inl (7, c0_7)), (0, .inl (8, c0_8)), (0, .inl (9, c0_9)), (0, .inl (10, c0_10)), (0, .inr (.inl (5, c0_5))), (0, .inr (.inl (6, c0_6))), (1, .inr (.inr (.inl a1))), (2, .inr (.inr (.inl a2))), (3, .inr (.inr (.inl a3))), (4, .inr (.inr (.inl a4))), (5, .inr (.inr (.inl a5))), (6, .inr (.inr (.inl a6))), (7, .inl (3, r14.2)), (7, .inl (4, c7_4)), (7, .inl (5, c7_5)), (7, .inl (6, c7_6))] (shPitTape, I, L, Rf)) rfl rfl rfl rfl rfl rfl rfl rfl rfl rfl rfl rfl rfl rfl ec7_2 rfl rfl rfl rfl ea8 q23) rfl rfl rfl (k_jn2 (us' := [(0, .inl (0, r23.1)), (0, .inl (1, r23.2.1)), (0, .inl (7, r23.2.2.1)), (0, .inl (8, r23.2.2.2.1)), (0, .inl (9, r23.2.2.2.2.1)), (0, .inl (10, r23.2.2.2.2.2.1)), (0, .inr (.inl (5, c0_5))), (0, .inr (.inl (6, r23.2.2.2.2.2.2.1))), (1, .inr (.inr (.inl r23.2.2.2.2.2.2.2.1))), (2, .inr (.inr (.inl r23.2.2.2.2.2.2.2.2.1))), (3, .inr (.inr (.inl r23.2.2.2.2.2.2.2.2.2.1))), (4, .inr (.inr (.inl r23.2.2.2.2.2.2.2.2.2.2.1))), (5, .inr (.inr (.inl r23.2.2.2.2.2.2.2.2.2.2.2.1))), (6, .inr (.inr (.inl r23.2.2.2.2.2.2.2.2.2.2.2.2.1))), (7, .inl (3, r23.2.2.2.2.2.2.2.2.2.2.2.2.2.1)), (7, .inl (4, r23.2.2.2.2.2.2.2.2.2.2.2.2.2.2.1)), (7, .inl (5, r23.2.2.2.2.2.2.2.2.2.2.2.2.2.2.2.1)), (7, .inl (6, r23.2.2.2.2.2.2.2.2.2.2.2.2.2.2.2.2))]) (vks := [(0, 0, 0), (0, 0, 1), (0, 0, 7), (0, 0, 8), (0, 0, 9), (0, 0, 10), (0, 1, 6), (1, 2, 0), (2, 2, 0), (3, 2, 0), (4, 2, 0), (5, 2, 0), (6, 2, 0), (7, 0, 3), (7, 0, 4), (7, 0, 5), (7, 0, 6)]) (js := [0, 1, 2, 3, 4, 5, 7, 8, 9, 10, 11, 12, 13, 14, 15, 16, 17]) ds_X5_read rfl rfl (by decide +kernel) rfl) rfl ?_
        refine r_aload_n C dX5_read_26 (rfl : 26 + 1 = 27) rfl ?_
        refine r_bipush (v := (59 : Int32)) C dX5_read_27 (rfl : 27 + 2 = 29) rfl ?_
        obtain ⟨r29, q29, h⟩ := k_b_of h
        refine d_Vp (pi := [7, 8]) (shl := shTape) (bl := 0) (As := [.int (59 : Int32)]) (Al := [.int (59 : Int32)]) (st := []) (st' := []) (h' := k_ap [(0, .inl (0, r23.1)), (0, .inl (1, r23.2.1)), (0, .inl (7, r23.2.2.1)), (0, .inl (8, r23.2.2.2.1)), (0, .inl (9, r23.2.2.2.2.1)), (0, .inl (10, r23.2.2.2.2.2.1)), (0, .inr (.inl (5, c0_5))), (0, .inr (.inl (6, r23.2.2.2.2.2.2.1))), (1, .inr (.inr (.inl r23.2.2.2.2.2.2.2.1))), (2, .inr (.inr (.inl r23.2.2.2.2.2.2.2.2.1))), (3, .inr (.inr (.inl r23.2.2.2.2.2.2.2.2.2.1))), (4, .inr (.inr (.inl r23.2.2.2.2.2.2.2.2.2.2.1))), (5, .inr (.inr (.inl r23.2.2.2.2.2.2.2.2.2.2.2.1))), (6, .inr (.inr (.inl r23.2.2.2.2.2.2.2.2.2.2.2.2.1))), (7, .inl (3, r29.1)), (7, .inl (4, r23.2.2.2.2.2.2.2.2.2.2.2.2.2.2.1)), (7, .inl (5, r29.2.1)), (7, .inl (6, r29.2.2))] (shPitTape, I, L, Rf)) C hR ⟨Nat.zero_le _, Nat.zero_le _⟩ mv_X8_sign lk_X5_84 dX5_read_29 (rfl : 29 + 3 = 32) rfl rfl ck_shPitTape_shTape_7 rfl rfl (c_X8_sign X.l u (k_pl [7, 8] shTape (k_ap [(0, .inl (0, r23.1)), (0, .inl (1, r23.2.1)), (0, .inl (7, r23.2.2.1)), (0, .inl (8, r23.2.2.2.1)), (0, .inl (9, r23.2.2.2.2.1)), (0, .inl (10, r23.2.2.2.2.2.1)), (0, .inr (.inl (5, c0_5))), (0, .inr (.inl (6, r23.2.2.2.2.2.2.1))), (1, .inr (.inr (.inl r23.2.2.2.2.2.2.2.1))), (2, .inr (.inr (.inl r23.2.2.2.2.2.2.2.2.1))), (3, .inr (.inr (.inl r23.2.2.2.2.2.2.2.2.2.1))), (4, .inr (.inr (.inl r23.2.2.2.2.2.2.2.2.2.2.1))), (5, .inr (.inr (.inl r23.2.2.2.2.2.2.2.2.2.2.2.1))), (6, .inr (.inr (.inl r23.2.2.2.2.2.2.2.2.2.2.2.2.1))), (7, .inl (3, r23.2.2.2.2.2.2.2.2.2.2.2.2.2.1)), (7, .inl (4, r23.2.2.2.2.2.2.2.2.2.2.2.2.2.2.1)), (7, .inl (5, r23.2.2.2.2.2.2.2.2.2.2.2.2.2.2.2.1)), (7, .inl (6, r23.2.2.2.2.2.2.2.2.2.2.2.2.2.2.2.2))] (shPitTape, I, L, Rf))) rfl ec7_2 rfl rfl rfl ea8 q29) rfl (fun _ => rfl) rfl (fun _ => rfl) rfl rfl rfl (k_jn2 (us' := [(0, .inl (0, r23.1)), (0, .inl (1, r23.2.1)), (0, .inl (7, r23.2.2.1)), (0, .inl (8, r23.2.2.2.1)), (0, .inl (9, r23.2.2.2.2.1)), (0, .inl (10, r23.2.2.2.2.2.1)), (0, .inr (.inl (5, c0_5))), (0, .inr (.inl (6, r23.2.2.2.2.2.2.1))), (1, .inr (.inr (.inl r23.2.2.2.2.2.2.2.1))), (2, .inr (.inr (.inl r23.2.2.2.2.2.2.2.2.1))), (3, .inr (.inr (.inl r23.2.2.2.2.2.2.2.2.2.1))), (4, .inr (.inr (.inl r23.2.2.2.2.2.2.2.2.2.2.1))), (5, .inr (.inr (.inl r23.2.2.2.2.2.2.2.2.2.2.2.1))), (6, .inr (.inr (.inl r23.2.2.2.2.2.2.2.2.2.2.2.2.1))), (7, .inl (3, r29.1)), (7, .inl (4, r23.2.2.2.2.2.2.2.2.2.2.2.2.2.2.1)), (7, .inl (5, r29.2.1)), (7, .inl (6, r29.2.2))]) (vks := [(7, 0, 3), (7, 0, 5), (7, 0, 6)]) (js := [14, 16, 17]) ds_X5_read rfl rfl (by decide +kernel) rfl) rfl ?_
        refine r_iinc (v := (v2 + (1 : Int32))) C dX5_read_32 (rfl : 32 + 3 = 35) rfl rfl (by decide) ?_
        show k_W _ _ _ _ _ _ _ _ [some (.ref 0), some (.ref 7), some (.int (v2 + (1 : Int32)))] _
        refine r_goto (tgt := 6) C dX5_read_35 (by decide) ?_
        refine k_mask [true, true, true] ?_
        exact ih r23.1 r23.2.1 r23.2.2.1 r23.2.2.2.1 r23.2.2.2.2.1 r23.2.2.2.2.2.1 c0_5 r23.2.2.2.2.2.2.1 r23.2.2.2.2.2.2.2.1 r23.2.2.2.2.2.2.2.2.1 r23.2.2.2.2.2.2.2.2.2.1 r23.2.2.2.2.2.2.2.2.2.2.1 r23.2.2.2.2.2.2.2.2.2.2.2.1 r23.2.2.2.2.2.2.2.2.2.2.2.2.1 r29.1 r23.2.2.2.2.2.2.2.2.2.2.2.2.2.2.1 r29.2.1 r29.2.2 (v2 + (1 : Int32)) h
set_option maxHeartbeats 1000000 in
set_option maxRecDepth 100000 in
theorem sX5_read_0 (u : Nat) {X : k_X} {ad : Nat → Nat} (C : k_C X cX5_read RX5 3 ad) (hr : X.meth.sig.returnType = none) (hR : X.R.frames = 8 ∧ X.R.locals = 179) {I : Nat → Nat → Int32} {L : Nat → Nat → Int64} {Rf : Nat → Nat → Option Nat} {c7_2 : Int32} (ec7_2 : I 7 2 = c7_2) {a8 : (Nat → Int32)} (ea8 : I 8 = a8) {out : Int32 × Int32 × Int32 × Int32 × Int32 × Int32 × Int64 × Int64 × (Nat → Int32) × (Nat → Int32) × (Nat → Int32) × (Nat → Int32) × (Nat → Int32) × (Nat → Int32) × Int32 × Int32 × Int32 × Int32} : ∀ (c0_0 : Int32) (c0_1 : Int32) (c0_7 : Int32) (c0_8 : Int32) (c0_9 : Int32) (c0_10 : Int32) (c0_5 : Int64) (c0_6 : Int64) (a1 : (Nat → Int32)) (a2 : (Nat → Int32)) (a3 : (Nat → Int32)) (a4 : (Nat → Int32)) (a5 : (Nat → Int32)) (a6 : (Nat → Int32)) (c7_3 : Int32) (c7_4 : Int32) (c7_5 : Int32) (c7_6 : Int32), bX5_read_0 u c7_2 a8 c0_0 c0_1 c0_7 c0_8 c0_9 c0_10 c0_5 c0_6 a1 a2 a3 a4 a5 a6 c7_3 c7_4 c7_5 c7_6 = some out → k_W X 3 0 0 (k_Q X ad none (k_ap [(0, .inl (0, out.1)), (0, .inl (1, out.2.1)), (0, .inl (7, out.2.2.1)), (0, .inl (8, out.2.2.2.1)), (0, .inl (9, out.2.2.2.2.1)), (0, .inl (10, out.2.2.2.2.2.1)), (0, .inr (.inl (5, out.2.2.2.2.2.2.1))), (0, .inr (.inl (6, out.2.2.2.2.2.2.2.1))), (1, .inr (.inr (.inl out.2.2.2.2.2.2.2.2.1))), (2, .inr (.inr (.inl out.2.2.2.2.2.2.2.2.2.1))), (3, .inr (.inr (.inl out.2.2.2.2.2.2.2.2.2.2.1))), (4, .inr (.inr (.inl out.2.2.2.2.2.2.2.2.2.2.2.1))), (5, .inr (.inr (.inl out.2.2.2.2.2.2.2.2.2.2.2.2.1))), (6, .inr (.inr (.inl out.2.2.2.2.2.2.2.2.2.2.2.2.2.1))), (7, .inl (3, out.2.2.2.2.2.2.2.2.2.2.2.2.2.2.1)), (7, .inl (4, out.2.2.2.2.2.2.2.2.2.2.2.2.2.2.2.1)), (7, .inl (5, out.2.2.2.2.2.2.2.2.2.2.2.2.2.2.2.2.1)), (7, .inl (6, out.2.2.2.2.2.2.2.2.2.2.2.2.2.2.2.2.2))] (shPitTape, I, L, Rf))) ad (k_ap [(0, .inl (0, c0_0)), (0, .inl (1, c0_1)), (0, .inl (7, c0_7)), (0, .inl (8, c0_8)), (0, .inl (9, c0_9)), (0, .inl (10, c0_10)), (0, .inr (.inl (5, c0_5))), (0, .inr (.inl (6, c0_6))), (1, .inr (.inr (.inl a1))), (2, .inr (.inr (.inl a2))), (3, .inr (.inr (.inl a3))), (4, .inr (.inr (.inl a4))), (5, .inr (.inr (.inl a5))), (6, .inr (.inr (.inl a6))), (7, .inl (3, c7_3)), (7, .inl (4, c7_4)), (7, .inl (5, c7_5)), (7, .inl (6, c7_6))] (shPitTape, I, L, Rf)) 0 [some (.ref 0), some (.ref 7), none] [] := by
  intro c0_0 c0_1 c0_7 c0_8 c0_9 c0_10 c0_5 c0_6 a1 a2 a3 a4 a5 a6 c7_3 c7_4 c7_5 c7_6 h
  unfold bX5_read_0 at h
  refine r_aload_n C dX5_read_0 (rfl : 0 + 1 = 1) rfl ?_
  obtain ⟨r1, q1, h⟩ := k_b_of h
  refine d_Vp (pi := [0, 1, 2, 3, 4, 5, 6]) (shl := shPit) (bl := 0) (As := []) (Al := []) (st := []) (st' := []) (h' := k_ap [(0, .inl (0, r1.1)), (0, .inl (1, r1.2.1)), (0, .inl (7, r1.2.2.1)), (0, .inl (8, r1.2.2.2.1)), (0, .inl (9, r1.2.2.2.2.1)), (0, .inl (10, r1.2.2.2.2.2.1)), (0, .inr (.inl (5, c0_5))), (0, .inr (.inl (6, r1.2.2.2.2.2.2.1))), (1, .inr (.inr (.inl r1.2.2.2.2.2.2.2.1))), (2, .inr (.inr (.inl r1.2.2.2.2.2.2.2.2.1))), (3, .inr (.inr (.inl r1.2.2.2.2.2.2.2.2.2))), (4, .inr (.inr (.inl a4))), (5, .inr (.inr (.inl a5))), (6, .inr (.inr (.inl a6))), (7, .inl (3, c7_3)), (7, .inl (4, c7_4)), (7, .inl (5, c7_5)), (7, .inl (6, c7_6))] (shPitTape, I, L, Rf)) C hR ⟨Nat.zero_le _, Nat.zero_le _⟩ mv_X5_clear lk_X5_30 dX5_read_1 (rfl : 1 + 3 = 4) rfl rfl ck_shPitTape_shPit_0_5 rfl rfl (c_X5_clear X.l u (k_pl [0, 1, 2, 3, 4, 5, 6] shPit (k_ap [(0, .inl (0, c0_0)), (0, .inl (1, c0_1)), (0, .inl (7, c0_7)), (0, .inl (8, c0_8)), (0, .inl (9, c0_9)), (0, .inl (10, c0_10)), (0, .inr (.inl (5, c0_5))), (0, .inr (.inl (6, c0_6))), (1, .inr (.inr (.inl a1))), (2, .inr (.inr (.inl a2))), (3, .inr (.inr (.inl a3))), (4, .inr (.inr (.inl a4))), (5, .inr (.inr (.inl a5))), (6, .inr (.inr (.inl a6))), (7, .inl (3, c7_3)), (7, .inl (4, c7_4)), (7, .inl (5, c7_5)), (7, .inl (6, c7_6))] (shPitTape, I, L, Rf))) rfl rfl rfl rfl rfl rfl rfl rfl rfl rfl rfl q1) rfl (fun _ => rfl) rfl (fun _ => rfl) rfl rfl rfl (k_jn2 (us' := [(0, .inl (0, r1.1)), (0, .inl (1, r1.2.1)), (0, .inl (7, r1.2.2.1)), (0, .inl (8, r1.2.2.2.1)), (0, .inl (9, r1.2.2.2.2.1)), (0, .inl (10, r1.2.2.2.2.2.1)), (0, .inr (.inl (5, c0_5))), (0, .inr (.inl (6, r1.2.2.2.2.2.2.1))), (1, .inr (.inr (.inl r1.2.2.2.2.2.2.2.1))), (2, .inr (.inr (.inl r1.2.2.2.2.2.2.2.2.1))), (3, .inr (.inr (.inl r1.2.2.2.2.2.2.2.2.2))), (4, .inr (.inr (.inl a4))), (5, .inr (.inr (.inl a5))), (6, .inr (.inr (.inl a6))), (7, .inl (3, c7_3)), (7, .inl (4, c7_4)), (7, .inl (5, c7_5)), (7, .inl (6, c7_6))]) (vks := [(0, 0, 0), (0, 0, 1), (0, 0, 7), (0, 0, 8), (0, 0, 9), (0, 0, 10), (0, 1, 6), (1, 2, 0), (2, 2, 0), (3, 2, 0)]) (js := [0, 1, 2, 3, 4, 5, 7, 8, 9, 10]) ds_X5_read rfl rfl (by decide +kernel) rfl) rfl ?_
  refine r_iconst (v := (0 : Int32)) C dX5_read_4 (rfl : 4 + 1 = 5) rfl ?_
  refine r_istore_n C dX5_read_5 (rfl : 5 + 1 = 6) (by decide) (Nat.le_of_ble_eq_true rfl) ?_
  show k_W _ _ _ _ _ _ _ _ [some (.ref 0), some (.ref 7), some (.int (0 : Int32))] _
  refine k_mask [true, true, true] ?_
  exact sX5_read_6 u C hr hR ec7_2 ea8 u r1.1 r1.2.1 r1.2.2.1 r1.2.2.2.1 r1.2.2.2.2.1 r1.2.2.2.2.2.1 c0_5 r1.2.2.2.2.2.2.1 r1.2.2.2.2.2.2.2.1 r1.2.2.2.2.2.2.2.2.1 r1.2.2.2.2.2.2.2.2.2 a4 a5 a6 c7_3 c7_4 c7_5 c7_6 (0 : Int32) h
set_option maxHeartbeats 1000000 in
set_option maxRecDepth 100000 in
theorem c_X5_read (l : Launch) (u : Nat) (h : k_H) (hsh : h.1 = shPitTape) {c0_0 : Int32} (ec0_0 : h.2.1 0 0 = c0_0) {c0_1 : Int32} (ec0_1 : h.2.1 0 1 = c0_1) {c0_7 : Int32} (ec0_7 : h.2.1 0 7 = c0_7) {c0_8 : Int32} (ec0_8 : h.2.1 0 8 = c0_8) {c0_9 : Int32} (ec0_9 : h.2.1 0 9 = c0_9) {c0_10 : Int32} (ec0_10 : h.2.1 0 10 = c0_10) {c0_5 : Int64} (ec0_5 : h.2.2.1 0 5 = c0_5) {c0_6 : Int64} (ec0_6 : h.2.2.1 0 6 = c0_6) {a1 : (Nat → Int32)} (ea1 : h.2.1 1 = a1) {a2 : (Nat → Int32)} (ea2 : h.2.1 2 = a2) {a3 : (Nat → Int32)} (ea3 : h.2.1 3 = a3) {a4 : (Nat → Int32)} (ea4 : h.2.1 4 = a4) {a5 : (Nat → Int32)} (ea5 : h.2.1 5 = a5) {a6 : (Nat → Int32)} (ea6 : h.2.1 6 = a6) {c7_2 : Int32} (ec7_2 : h.2.1 7 2 = c7_2) {c7_3 : Int32} (ec7_3 : h.2.1 7 3 = c7_3) {c7_4 : Int32} (ec7_4 : h.2.1 7 4 = c7_4) {c7_5 : Int32} (ec7_5 : h.2.1 7 5 = c7_5) {c7_6 : Int32} (ec7_6 : h.2.1 7 6 = c7_6) {a8 : (Nat → Int32)} (ea8 : h.2.1 8 = a8) {out : Int32 × Int32 × Int32 × Int32 × Int32 × Int32 × Int64 × Int64 × (Nat → Int32) × (Nat → Int32) × (Nat → Int32) × (Nat → Int32) × (Nat → Int32) × (Nat → Int32) × Int32 × Int32 × Int32 × Int32} (hf : f_X5_read u c0_0 c0_1 c0_7 c0_8 c0_9 c0_10 c0_5 c0_6 a1 a2 a3 a4 a5 a6 c7_2 c7_3 c7_4 c7_5 c7_6 a8 = some out) : k_CT l yX5_read cX5_read 3 none 8 179 [.ref 0, .ref 7] h none [(0, .inl (0, out.1)), (0, .inl (1, out.2.1)), (0, .inl (7, out.2.2.1)), (0, .inl (8, out.2.2.2.1)), (0, .inl (9, out.2.2.2.2.1)), (0, .inl (10, out.2.2.2.2.2.1)), (0, .inr (.inl (5, out.2.2.2.2.2.2.1))), (0, .inr (.inl (6, out.2.2.2.2.2.2.2.1))), (1, .inr (.inr (.inl out.2.2.2.2.2.2.2.2.1))), (2, .inr (.inr (.inl out.2.2.2.2.2.2.2.2.2.1))), (3, .inr (.inr (.inl out.2.2.2.2.2.2.2.2.2.2.1))), (4, .inr (.inr (.inl out.2.2.2.2.2.2.2.2.2.2.2.1))), (5, .inr (.inr (.inl out.2.2.2.2.2.2.2.2.2.2.2.2.1))), (6, .inr (.inr (.inl out.2.2.2.2.2.2.2.2.2.2.2.2.2.1))), (7, .inl (3, out.2.2.2.2.2.2.2.2.2.2.2.2.2.2.1)), (7, .inl (4, out.2.2.2.2.2.2.2.2.2.2.2.2.2.2.2.1)), (7, .inl (5, out.2.2.2.2.2.2.2.2.2.2.2.2.2.2.2.2.1)), (7, .inl (6, out.2.2.2.2.2.2.2.2.2.2.2.2.2.2.2.2.2))] := by
  obtain ⟨sh, I, L, Rf⟩ := h
  try dsimp only
  obtain rfl : sh = shPitTape := hsh
  refine k_ofW (by decide) (Nat.le_of_ble_eq_true rfl) ?_
  intro X ad hl hR0 hr C
  have hR : X.R.frames = 8 ∧ X.R.locals = 179 := by rw [hR0]; exact ⟨rfl, rfl⟩
  have h := hf
  unfold f_X5_read at h
  refine k_start (us := [(0, .inl (0, c0_0)), (0, .inl (1, c0_1)), (0, .inl (7, c0_7)), (0, .inl (8, c0_8)), (0, .inl (9, c0_9)), (0, .inl (10, c0_10)), (0, .inr (.inl (5, c0_5))), (0, .inr (.inl (6, c0_6))), (1, .inr (.inr (.inl a1))), (2, .inr (.inr (.inl a2))), (3, .inr (.inr (.inl a3))), (4, .inr (.inr (.inl a4))), (5, .inr (.inr (.inl a5))), (6, .inr (.inr (.inl a6))), (7, .inl (3, c7_3)), (7, .inl (4, c7_4)), (7, .inl (5, c7_5)), (7, .inl (6, c7_6))]) (k_ao_I ec0_0 (k_ao_I ec0_1 (k_ao_I ec0_7 (k_ao_I ec0_8 (k_ao_I ec0_9 (k_ao_I ec0_10 (k_ao_L ec0_5 (k_ao_L ec0_6 (k_ao_A ea1 (k_ao_A ea2 (k_ao_A ea3 (k_ao_A ea4 (k_ao_A ea5 (k_ao_A ea6 (k_ao_I ec7_3 (k_ao_I ec7_4 (k_ao_I ec7_5 (k_ao_I ec7_6 k_ap_0)))))))))))))))))) ?_
  show k_W X 3 0 0 _ ad (k_ap [(0, .inl (0, c0_0)), (0, .inl (1, c0_1)), (0, .inl (7, c0_7)), (0, .inl (8, c0_8)), (0, .inl (9, c0_9)), (0, .inl (10, c0_10)), (0, .inr (.inl (5, c0_5))), (0, .inr (.inl (6, c0_6))), (1, .inr (.inr (.inl a1))), (2, .inr (.inr (.inl a2))), (3, .inr (.inr (.inl a3))), (4, .inr (.inr (.inl a4))), (5, .inr (.inr (.inl a5))), (6, .inr (.inr (.inl a6))), (7, .inl (3, c7_3)), (7, .inl (4, c7_4)), (7, .inl (5, c7_5)), (7, .inl (6, c7_6))] (shPitTape, I, L, Rf)) 0 [some (.ref 0), some (.ref 7), none] []
  refine k_mask [true, true, false] ?_
  exact sX5_read_0 u C hr hR ec7_2 ea8 c0_0 c0_1 c0_7 c0_8 c0_9 c0_10 c0_5 c0_6 a1 a2 a3 a4 a5 a6 c7_3 c7_4 c7_5 c7_6 h
/-! LullabyPit$Pit.copyFrom(LLullabyPit$Pit;)V -/
theorem ds_X5_copyFrom : k_ds [(0, 0, 0), (0, 0, 1), (0, 0, 7), (0, 0, 8), (0, 0, 9), (0, 0, 10), (0, 1, 5), (0, 1, 6), (1, 2, 0), (2, 2, 0), (3, 2, 0), (4, 2, 0), (5, 2, 0), (6, 2, 0)] = true := by decide +kernel
set_option maxHeartbeats 400000 in
set_option maxRecDepth 100000 in
theorem sX5_copyFrom_0 (u : Nat) {X : k_X} {ad : Nat → Nat} (C : k_C X cX5_copyFrom RX5 2 ad) (hr : X.meth.sig.returnType = none) (hR : X.R.frames = 1 ∧ X.R.locals = 40) {I : Nat → Nat → Int32} {L : Nat → Nat → Int64} {Rf : Nat → Nat → Option Nat} {c7_0 : Int32} (ec7_0 : I 7 0 = c7_0) {c7_1 : Int32} (ec7_1 : I 7 1 = c7_1) {c7_7 : Int32} (ec7_7 : I 7 7 = c7_7) {c7_8 : Int32} (ec7_8 : I 7 8 = c7_8) {c7_9 : Int32} (ec7_9 : I 7 9 = c7_9) {c7_10 : Int32} (ec7_10 : I 7 10 = c7_10) {c7_5 : Int64} (ec7_5 : L 7 5 = c7_5) {c7_6 : Int64} (ec7_6 : L 7 6 = c7_6) {a8 : (Nat → Int32)} (ea8 : I 8 = a8) {a9 : (Nat → Int32)} (ea9 : I 9 = a9) {a10 : (Nat → Int32)} (ea10 : I 10 = a10) {a11 : (Nat → Int32)} (ea11 : I 11 = a11) {a12 : (Nat → Int32)} (ea12 : I 12 = a12) {a13 : (Nat → Int32)} (ea13 : I 13 = a13) {out : Int32 × Int32 × Int32 × Int32 × Int32 × Int32 × Int64 × Int64 × (Nat → Int32) × (Nat → Int32) × (Nat → Int32) × (Nat → Int32) × (Nat → Int32) × (Nat → Int32)} : ∀ (c0_0 : Int32) (c0_1 : Int32) (c0_7 : Int32) (c0_8 : Int32) (c0_9 : Int32) (c0_10 : Int32) (c0_5 : Int64) (c0_6 : Int64) (a1 : (Nat → Int32)) (a2 : (Nat → Int32)) (a3 : (Nat → Int32)) (a4 : (Nat → Int32)) (a5 : (Nat → Int32)) (a6 : (Nat → Int32)), bX5_copyFrom_0 u c7_0 c7_1 c7_7 c7_8 c7_9 c7_10 c7_5 c7_6 a8 a9 a10 a11 a12 a13 c0_0 c0_1 c0_7 c0_8 c0_9 c0_10 c0_5 c0_6 a1 a2 a3 a4 a5 a6 = some out → k_W X 2 0 0 (k_Q X ad none (k_ap [(0, .inl (0, out.1)), (0, .inl (1, out.2.1)), (0, .inl (7, out.2.2.1)), (0, .inl (8, out.2.2.2.1)), (0, .inl (9, out.2.2.2.2.1)), (0, .inl (10, out.2.2.2.2.2.1)), (0, .inr (.inl (5, out.2.2.2.2.2.2.1))), (0, .inr (.inl (6, out.2.2.2.2.2.2.2.1))), (1, .inr (.inr (.inl out.2.2.2.2.2.2.2.2.1))), (2, .inr (.inr (.inl out.2.2.2.2.2.2.2.2.2.1))), (3, .inr (.inr (.inl out.2.2.2.2.2.2.2.2.2.2.1))), (4, .inr (.inr (.inl out.2.2.2.2.2.2.2.2.2.2.2.1))), (5, .inr (.inr (.inl out.2.2.2.2.2.2.2.2.2.2.2.2.1))), (6, .inr (.inr (.inl out.2.2.2.2.2.2.2.2.2.2.2.2.2)))] (shPit2, I, L, Rf))) ad (k_ap [(0, .inl (0, c0_0)), (0, .inl (1, c0_1)), (0, .inl (7, c0_7)), (0, .inl (8, c0_8)), (0, .inl (9, c0_9)), (0, .inl (10, c0_10)), (0, .inr (.inl (5, c0_5))), (0, .inr (.inl (6, c0_6))), (1, .inr (.inr (.inl a1))), (2, .inr (.inr (.inl a2))), (3, .inr (.inr (.inl a3))), (4, .inr (.inr (.inl a4))), (5, .inr (.inr (.inl a5))), (6, .inr (.inr (.inl a6)))] (shPit2, I, L, Rf)) 0 [some (.ref 0), some (.ref 7)] [] := by
  intro c0_0 c0_1 c0_7 c0_8 c0_9 c0_10 c0_5 c0_6 a1 a2 a3 a4 a5 a6 h
  unfold bX5_copyFrom_0 at h
  refine r_aload_n C dX5_copyFrom_0 (rfl : 0 + 1 = 1) rfl ?_
  refine r_aload_n C dX5_copyFrom_1 (rfl : 1 + 1 = 2) rfl ?_
  refine r_getI (v := c7_0) C dX5_copyFrom_2 (rfl : 2 + 3 = 5) fl_X5_36 rfl rfl ec7_0 ?_
  refine p_I (us' := [(0, .inl (0, c7_0)), (0, .inl (1, c0_1)), (0, .inl (7, c0_7)), (0, .inl (8, c0_8)), (0, .inl (9, c0_9)), (0, .inl (10, c0_10)), (0, .inr (.inl (5, c0_5))), (0, .inr (.inl (6, c0_6))), (1, .inr (.inr (.inl a1))), (2, .inr (.inr (.inl a2))), (3, .inr (.inr (.inl a3))), (4, .inr (.inr (.inl a4))), (5, .inr (.inr (.inl a5))), (6, .inr (.inr (.inl a6)))]) C dX5_copyFrom_5 (rfl : 5 + 3 = 8) fp_X5_36 rfl rfl ds_X5_copyFrom rfl rfl rfl ?_
  refine r_aload_n C dX5_copyFrom_8 (rfl : 8 + 1 = 9) rfl ?_
  refine r_aload_n C dX5_copyFrom_9 (rfl : 9 + 1 = 10) rfl ?_
  refine r_getI (v := c7_1) C dX5_copyFrom_10 (rfl : 10 + 3 = 13) fl_X5_40 rfl rfl ec7_1 ?_
  refine p_I (us' := [(0, .inl (0, c7_0)), (0, .inl (1, c7_1)), (0, .inl (7, c0_7)), (0, .inl (8, c0_8)), (0, .inl (9, c0_9)), (0, .inl (10, c0_10)), (0, .inr (.inl (5, c0_5))), (0, .inr (.inl (6, c0_6))), (1, .inr (.inr (.inl a1))), (2, .inr (.inr (.inl a2))), (3, .inr (.inr (.inl a3))), (4, .inr (.inr (.inl a4))), (5, .inr (.inr (.inl a5))), (6, .inr (.inr (.inl a6)))]) C dX5_copyFrom_13 (rfl : 13 + 3 = 16) fp_X5_40 rfl rfl ds_X5_copyFrom rfl rfl rfl ?_
  refine r_aload_n C dX5_copyFrom_16 (rfl : 16 + 1 = 17) rfl ?_
  refine r_getR (q := 8) C dX5_copyFrom_17 (rfl : 17 + 3 = 20) fl_X5_9 rfl rfl ?_
  refine r_iconst (v := (0 : Int32)) C dX5_copyFrom_20 (rfl : 20 + 1 = 21) rfl ?_
  refine r_aload_n C dX5_copyFrom_21 (rfl : 21 + 1 = 22) rfl ?_
  refine r_getR (q := 1) C dX5_copyFrom_22 (rfl : 22 + 3 = 25) fl_X5_9 rfl rfl ?_
  refine r_iconst (v := (0 : Int32)) C dX5_copyFrom_25 (rfl : 25 + 1 = 26) rfl ?_
  refine r_bipush (v := (48 : Int32)) C dX5_copyFrom_26 (rfl : 26 + 2 = 28) rfl ?_
  refine r_acopy (f := a8) (g := a1) (us' := [(0, .inl (0, c7_0)), (0, .inl (1, c7_1)), (0, .inl (7, c0_7)), (0, .inl (8, c0_8)), (0, .inl (9, c0_9)), (0, .inl (10, c0_10)), (0, .inr (.inl (5, c0_5))), (0, .inr (.inl (6, c0_6))), (1, .inr (.inr (.inl (va_cpy a8 a1 0 0 48)))), (2, .inr (.inr (.inl a2))), (3, .inr (.inr (.inl a3))), (4, .inr (.inr (.inl a4))), (5, .inr (.inr (.inl a5))), (6, .inr (.inr (.inl a6)))]) C hR dX5_copyFrom_28 (rfl : 28 + 3 = 31) lm_X5_68 rfl rfl ea8 rfl (by decide) (by decide) (by decide) (by decide) (by decide) ds_X5_copyFrom rfl rfl rfl rfl rfl ?_
  refine r_aload_n C dX5_copyFrom_31 (rfl : 31 + 1 = 32) rfl ?_
  refine r_getR (q := 9) C dX5_copyFrom_32 (rfl : 32 + 3 = 35) fl_X5_15 rfl rfl ?_
  refine r_iconst (v := (0 : Int32)) C dX5_copyFrom_35 (rfl : 35 + 1 = 36) rfl ?_
  refine r_aload_n C dX5_copyFrom_36 (rfl : 36 + 1 = 37) rfl ?_
  refine r_getR (q := 2) C dX5_copyFrom_37 (rfl : 37 + 3 = 40) fl_X5_15 rfl rfl ?_
  refine r_iconst (v := (0 : Int32)) C dX5_copyFrom_40 (rfl : 40 + 1 = 41) rfl ?_
  refine r_bipush (v := (48 : Int32)) C dX5_copyFrom_41 (rfl : 41 + 2 = 43) rfl ?_
  refine r_acopy (f := a9) (g := a2) (us' := [(0, .inl (0, c7_0)), (0, .inl (1, c7_1)), (0, .inl (7, c0_7)), (0, .inl (8, c0_8)), (0, .inl (9, c0_9)), (0, .inl (10, c0_10)), (0, .inr (.inl (5, c0_5))), (0, .inr (.inl (6, c0_6))), (1, .inr (.inr (.inl (va_cpy a8 a1 0 0 48)))), (2, .inr (.inr (.inl (va_cpy a9 a2 0 0 48)))), (3, .inr (.inr (.inl a3))), (4, .inr (.inr (.inl a4))), (5, .inr (.inr (.inl a5))), (6, .inr (.inr (.inl a6)))]) C hR dX5_copyFrom_43 (rfl : 43 + 3 = 46) lm_X5_68 rfl rfl ea9 rfl (by decide) (by decide) (by decide) (by decide) (by decide) ds_X5_copyFrom rfl rfl rfl rfl rfl ?_
  refine r_aload_n C dX5_copyFrom_46 (rfl : 46 + 1 = 47) rfl ?_
  refine r_getR (q := 10) C dX5_copyFrom_47 (rfl : 47 + 3 = 50) fl_X5_18 rfl rfl ?_
  refine r_iconst (v := (0 : Int32)) C dX5_copyFrom_50 (rfl : 50 + 1 = 51) rfl ?_
  refine r_aload_n C dX5_copyFrom_51 (rfl : 51 + 1 = 52) rfl ?_
  refine r_getR (q := 3) C dX5_copyFrom_52 (rfl : 52 + 3 = 55) fl_X5_18 rfl rfl ?_
  refine r_iconst (v := (0 : Int32)) C dX5_copyFrom_55 (rfl : 55 + 1 = 56) rfl ?_
  refine r_bipush (v := (6 : Int32)) C dX5_copyFrom_56 (rfl : 56 + 2 = 58) rfl ?_
  refine r_acopy (f := a10) (g := a3) (us' := [(0, .inl (0, c7_0)), (0, .inl (1, c7_1)), (0, .inl (7, c0_7)), (0, .inl (8, c0_8)), (0, .inl (9, c0_9)), (0, .inl (10, c0_10)), (0, .inr (.inl (5, c0_5))), (0, .inr (.inl (6, c0_6))), (1, .inr (.inr (.inl (va_cpy a8 a1 0 0 48)))), (2, .inr (.inr (.inl (va_cpy a9 a2 0 0 48)))), (3, .inr (.inr (.inl (va_cpy a10 a3 0 0 6)))), (4, .inr (.inr (.inl a4))), (5, .inr (.inr (.inl a5))), (6, .inr (.inr (.inl a6)))]) C hR dX5_copyFrom_58 (rfl : 58 + 3 = 61) lm_X5_68 rfl rfl ea10 rfl (by decide) (by decide) (by decide) (by decide) (by decide) ds_X5_copyFrom rfl rfl rfl rfl rfl ?_
  refine r_aload_n C dX5_copyFrom_61 (rfl : 61 + 1 = 62) rfl ?_
  refine r_aload_n C dX5_copyFrom_62 (rfl : 62 + 1 = 63) rfl ?_
  refine r_getL (v := c7_5) C dX5_copyFrom_63 (rfl : 63 + 3 = 66) fl_X5_65 rfl rfl ec7_5 ?_
  refine p_L (us' := [(0, .inl (0, c7_0)), (0, .inl (1, c7_1)), (0, .inl (7, c0_7)), (0, .inl (8, c0_8)), (0, .inl (9, c0_9)), (0, .inl (10, c0_10)), (0, .inr (.inl (5, c7_5))), (0, .inr (.inl (6, c0_6))), (1, .inr (.inr (.inl (va_cpy a8 a1 0 0 48)))), (2, .inr (.inr (.inl (va_cpy a9 a2 0 0 48)))), (3, .inr (.inr (.inl (va_cpy a10 a3 0 0 6)))), (4, .inr (.inr (.inl a4))), (5, .inr (.inr (.inl a5))), (6, .inr (.inr (.inl a6)))]) C dX5_copyFrom_66 (rfl : 66 + 3 = 69) fp_X5_65 rfl rfl ds_X5_copyFrom rfl rfl rfl ?_
  refine r_aload_n C dX5_copyFrom_69 (rfl : 69 + 1 = 70) rfl ?_
  refine r_aload_n C dX5_copyFrom_70 (rfl : 70 + 1 = 71) rfl ?_
  refine r_getL (v := c7_6) C dX5_copyFrom_71 (rfl : 71 + 3 = 74) fl_X5_49 rfl rfl ec7_6 ?_
  refine p_L (us' := [(0, .inl (0, c7_0)), (0, .inl (1, c7_1)), (0, .inl (7, c0_7)), (0, .inl (8, c0_8)), (0, .inl (9, c0_9)), (0, .inl (10, c0_10)), (0, .inr (.inl (5, c7_5))), (0, .inr (.inl (6, c7_6))), (1, .inr (.inr (.inl (va_cpy a8 a1 0 0 48)))), (2, .inr (.inr (.inl (va_cpy a9 a2 0 0 48)))), (3, .inr (.inr (.inl (va_cpy a10 a3 0 0 6)))), (4, .inr (.inr (.inl a4))), (5, .inr (.inr (.inl a5))), (6, .inr (.inr (.inl a6)))]) C dX5_copyFrom_74 (rfl : 74 + 3 = 77) fp_X5_49 rfl rfl ds_X5_copyFrom rfl rfl rfl ?_
  refine r_aload_n C dX5_copyFrom_77 (rfl : 77 + 1 = 78) rfl ?_
  refine r_aload_n C dX5_copyFrom_78 (rfl : 78 + 1 = 79) rfl ?_
  refine r_getI (v := c7_7) C dX5_copyFrom_79 (rfl : 79 + 3 = 82) fl_X5_53 rfl rfl ec7_7 ?_
  refine p_I (us' := [(0, .inl (0, c7_0)), (0, .inl (1, c7_1)), (0, .inl (7, c7_7)), (0, .inl (8, c0_8)), (0, .inl (9, c0_9)), (0, .inl (10, c0_10)), (0, .inr (.inl (5, c7_5))), (0, .inr (.inl (6, c7_6))), (1, .inr (.inr (.inl (va_cpy a8 a1 0 0 48)))), (2, .inr (.inr (.inl (va_cpy a9 a2 0 0 48)))), (3, .inr (.inr (.inl (va_cpy a10 a3 0 0 6)))), (4, .inr (.inr (.inl a4))), (5, .inr (.inr (.inl a5))), (6, .inr (.inr (.inl a6)))]) C dX5_copyFrom_82 (rfl : 82 + 3 = 85) fp_X5_53 rfl rfl ds_X5_copyFrom rfl rfl rfl ?_
  refine r_aload_n C dX5_copyFrom_85 (rfl : 85 + 1 = 86) rfl ?_
  refine r_aload_n C dX5_copyFrom_86 (rfl : 86 + 1 = 87) rfl ?_
  refine r_getI (v := c7_8) C dX5_copyFrom_87 (rfl : 87 + 3 = 90) fl_X5_56 rfl rfl ec7_8 ?_
  refine p_I (us' := [(0, .inl (0, c7_0)), (0, .inl (1, c7_1)), (0, .inl (7, c7_7)), (0, .inl (8, c7_8)), (0, .inl (9, c0_9)), (0, .inl (10, c0_10)), (0, .inr (.inl (5, c7_5))), (0, .inr (.inl (6, c7_6))), (1, .inr (.inr (.inl (va_cpy a8 a1 0 0 48)))), (2, .inr (.inr (.inl (va_cpy a9 a2 0 0 48)))), (3, .inr (.inr (.inl (va_cpy a10 a3 0 0 6)))), (4, .inr (.inr (.inl a4))), (5, .inr (.inr (.inl a5))), (6, .inr (.inr (.inl a6)))]) C dX5_copyFrom_90 (rfl : 90 + 3 = 93) fp_X5_56 rfl rfl ds_X5_copyFrom rfl rfl rfl ?_
  refine r_aload_n C dX5_copyFrom_93 (rfl : 93 + 1 = 94) rfl ?_
  refine r_aload_n C dX5_copyFrom_94 (rfl : 94 + 1 = 95) rfl ?_
  refine r_getI (v := c7_9) C dX5_copyFrom_95 (rfl : 95 + 3 = 98) fl_X5_59 rfl rfl ec7_9 ?_
  refine p_I (us' := [(0, .inl (0, c7_0)), (0, .inl (1, c7_1)), (0, .inl (7, c7_7)), (0, .inl (8, c7_8)), (0, .inl (9, c7_9)), (0, .inl (10, c0_10)), (0, .inr (.inl (5, c7_5))), (0, .inr (.inl (6, c7_6))), (1, .inr (.inr (.inl (va_cpy a8 a1 0 0 48)))), (2, .inr (.inr (.inl (va_cpy a9 a2 0 0 48)))), (3, .inr (.inr (.inl (va_cpy a10 a3 0 0 6)))), (4, .inr (.inr (.inl a4))), (5, .inr (.inr (.inl a5))), (6, .inr (.inr (.inl a6)))]) C dX5_copyFrom_98 (rfl : 98 + 3 = 101) fp_X5_59 rfl rfl ds_X5_copyFrom rfl rfl rfl ?_
  refine r_aload_n C dX5_copyFrom_101 (rfl : 101 + 1 = 102) rfl ?_
  refine r_aload_n C dX5_copyFrom_102 (rfl : 102 + 1 = 103) rfl ?_
  refine r_getI (v := c7_10) C dX5_copyFrom_103 (rfl : 103 + 3 = 106) fl_X5_62 rfl rfl ec7_10 ?_
  refine p_I (us' := [(0, .inl (0, c7_0)), (0, .inl (1, c7_1)), (0, .inl (7, c7_7)), (0, .inl (8, c7_8)), (0, .inl (9, c7_9)), (0, .inl (10, c7_10)), (0, .inr (.inl (5, c7_5))), (0, .inr (.inl (6, c7_6))), (1, .inr (.inr (.inl (va_cpy a8 a1 0 0 48)))), (2, .inr (.inr (.inl (va_cpy a9 a2 0 0 48)))), (3, .inr (.inr (.inl (va_cpy a10 a3 0 0 6)))), (4, .inr (.inr (.inl a4))), (5, .inr (.inr (.inl a5))), (6, .inr (.inr (.inl a6)))]) C dX5_copyFrom_106 (rfl : 106 + 3 = 109) fp_X5_62 rfl rfl ds_X5_copyFrom rfl rfl rfl ?_
  refine r_aload_n C dX5_copyFrom_109 (rfl : 109 + 1 = 110) rfl ?_
  refine r_getR (q := 11) C dX5_copyFrom_110 (rfl : 110 + 3 = 113) fl_X5_21 rfl rfl ?_
  refine r_iconst (v := (0 : Int32)) C dX5_copyFrom_113 (rfl : 113 + 1 = 114) rfl ?_
  refine r_aload_n C dX5_copyFrom_114 (rfl : 114 + 1 = 115) rfl ?_
  refine r_getR (q := 4) C dX5_copyFrom_115 (rfl : 115 + 3 = 118) fl_X5_21 rfl rfl ?_
  refine r_iconst (v := (0 : Int32)) C dX5_copyFrom_118 (rfl : 118 + 1 = 119) rfl ?_
  refine r_bipush (v := (6 : Int32)) C dX5_copyFrom_119 (rfl : 119 + 2 = 121) rfl ?_
  refine r_acopy (f := a11) (g := a4) (us' := [(0, .inl (0, c7_0)), (0, .inl (1, c7_1)), (0, .inl (7, c7_7)), (0, .inl (8, c7_8)), (0, .inl (9, c7_9)), (0, .inl (10, c7_10)), (0, .inr (.inl (5, c7_5))), (0, .inr (.inl (6, c7_6))), (1, .inr (.inr (.inl (va_cpy a8 a1 0 0 48)))), (2, .inr (.inr (.inl (va_cpy a9 a2 0 0 48)))), (3, .inr (.inr (.inl (va_cpy a10 a3 0 0 6)))), (4, .inr (.inr (.inl (va_cpy a11 a4 0 0 6)))), (5, .inr (.inr (.inl a5))), (6, .inr (.inr (.inl a6)))]) C hR dX5_copyFrom_121 (rfl : 121 + 3 = 124) lm_X5_68 rfl rfl ea11 rfl (by decide) (by decide) (by decide) (by decide) (by decide) ds_X5_copyFrom rfl rfl rfl rfl rfl ?_
  refine r_aload_n C dX5_copyFrom_124 (rfl : 124 + 1 = 125) rfl ?_
  refine r_getR (q := 12) C dX5_copyFrom_125 (rfl : 125 + 3 = 128) fl_X5_24 rfl rfl ?_
  refine r_iconst (v := (0 : Int32)) C dX5_copyFrom_128 (rfl : 128 + 1 = 129) rfl ?_
  refine r_aload_n C dX5_copyFrom_129 (rfl : 129 + 1 = 130) rfl ?_
  refine r_getR (q := 5) C dX5_copyFrom_130 (rfl : 130 + 3 = 133) fl_X5_24 rfl rfl ?_
  refine r_iconst (v := (0 : Int32)) C dX5_copyFrom_133 (rfl : 133 + 1 = 134) rfl ?_
  refine r_bipush (v := (6 : Int32)) C dX5_copyFrom_134 (rfl : 134 + 2 = 136) rfl ?_
  refine r_acopy (f := a12) (g := a5) (us' := [(0, .inl (0, c7_0)), (0, .inl (1, c7_1)), (0, .inl (7, c7_7)), (0, .inl (8, c7_8)), (0, .inl (9, c7_9)), (0, .inl (10, c7_10)), (0, .inr (.inl (5, c7_5))), (0, .inr (.inl (6, c7_6))), (1, .inr (.inr (.inl (va_cpy a8 a1 0 0 48)))), (2, .inr (.inr (.inl (va_cpy a9 a2 0 0 48)))), (3, .inr (.inr (.inl (va_cpy a10 a3 0 0 6)))), (4, .inr (.inr (.inl (va_cpy a11 a4 0 0 6)))), (5, .inr (.inr (.inl (va_cpy a12 a5 0 0 6)))), (6, .inr (.inr (.inl a6)))]) C hR dX5_copyFrom_136 (rfl : 136 + 3 = 139) lm_X5_68 rfl rfl ea12 rfl (by decide) (by decide) (by decide) (by decide) (by decide) ds_X5_copyFrom rfl rfl rfl rfl rfl ?_
  refine r_aload_n C dX5_copyFrom_139 (rfl : 139 + 1 = 140) rfl ?_
  refine r_getR (q := 13) C dX5_copyFrom_140 (rfl : 140 + 3 = 143) fl_X5_27 rfl rfl ?_
  refine r_iconst (v := (0 : Int32)) C dX5_copyFrom_143 (rfl : 143 + 1 = 144) rfl ?_
  refine r_aload_n C dX5_copyFrom_144 (rfl : 144 + 1 = 145) rfl ?_
  refine r_getR (q := 6) C dX5_copyFrom_145 (rfl : 145 + 3 = 148) fl_X5_27 rfl rfl ?_
  refine r_iconst (v := (0 : Int32)) C dX5_copyFrom_148 (rfl : 148 + 1 = 149) rfl ?_
  refine r_bipush (v := (48 : Int32)) C dX5_copyFrom_149 (rfl : 149 + 2 = 151) rfl ?_
  refine r_acopy (f := a13) (g := a6) (us' := [(0, .inl (0, c7_0)), (0, .inl (1, c7_1)), (0, .inl (7, c7_7)), (0, .inl (8, c7_8)), (0, .inl (9, c7_9)), (0, .inl (10, c7_10)), (0, .inr (.inl (5, c7_5))), (0, .inr (.inl (6, c7_6))), (1, .inr (.inr (.inl (va_cpy a8 a1 0 0 48)))), (2, .inr (.inr (.inl (va_cpy a9 a2 0 0 48)))), (3, .inr (.inr (.inl (va_cpy a10 a3 0 0 6)))), (4, .inr (.inr (.inl (va_cpy a11 a4 0 0 6)))), (5, .inr (.inr (.inl (va_cpy a12 a5 0 0 6)))), (6, .inr (.inr (.inl (va_cpy a13 a6 0 0 48))))]) C hR dX5_copyFrom_151 (rfl : 151 + 3 = 154) lm_X5_68 rfl rfl ea13 rfl (by decide) (by decide) (by decide) (by decide) (by decide) ds_X5_copyFrom rfl rfl rfl rfl rfl ?_
  cases h
  exact r_vret C hr dX5_copyFrom_154
set_option maxHeartbeats 400000 in
set_option maxRecDepth 100000 in
theorem c_X5_copyFrom (l : Launch) (u : Nat) (h : k_H) (hsh : h.1 = shPit2) {c0_0 : Int32} (ec0_0 : h.2.1 0 0 = c0_0) {c0_1 : Int32} (ec0_1 : h.2.1 0 1 = c0_1) {c0_7 : Int32} (ec0_7 : h.2.1 0 7 = c0_7) {c0_8 : Int32} (ec0_8 : h.2.1 0 8 = c0_8) {c0_9 : Int32} (ec0_9 : h.2.1 0 9 = c0_9) {c0_10 : Int32} (ec0_10 : h.2.1 0 10 = c0_10) {c0_5 : Int64} (ec0_5 : h.2.2.1 0 5 = c0_5) {c0_6 : Int64} (ec0_6 : h.2.2.1 0 6 = c0_6) {a1 : (Nat → Int32)} (ea1 : h.2.1 1 = a1) {a2 : (Nat → Int32)} (ea2 : h.2.1 2 = a2) {a3 : (Nat → Int32)} (ea3 : h.2.1 3 = a3) {a4 : (Nat → Int32)} (ea4 : h.2.1 4 = a4) {a5 : (Nat → Int32)} (ea5 : h.2.1 5 = a5) {a6 : (Nat → Int32)} (ea6 : h.2.1 6 = a6) {c7_0 : Int32} (ec7_0 : h.2.1 7 0 = c7_0) {c7_1 : Int32} (ec7_1 : h.2.1 7 1 = c7_1) {c7_7 : Int32} (ec7_7 : h.2.1 7 7 = c7_7) {c7_8 : Int32} (ec7_8 : h.2.1 7 8 = c7_8) {c7_9 : Int32} (ec7_9 : h.2.1 7 9 = c7_9) {c7_10 : Int32} (ec7_10 : h.2.1 7 10 = c7_10) {c7_5 : Int64} (ec7_5 : h.2.2.1 7 5 = c7_5) {c7_6 : Int64} (ec7_6 : h.2.2.1 7 6 = c7_6) {a8 : (Nat → Int32)} (ea8 : h.2.1 8 = a8) {a9 : (Nat → Int32)} (ea9 : h.2.1 9 = a9) {a10 : (Nat → Int32)} (ea10 : h.2.1 10 = a10) {a11 : (Nat → Int32)} (ea11 : h.2.1 11 = a11) {a12 : (Nat → Int32)} (ea12 : h.2.1 12 = a12) {a13 : (Nat → Int32)} (ea13 : h.2.1 13 = a13) {out : Int32 × Int32 × Int32 × Int32 × Int32 × Int32 × Int64 × Int64 × (Nat → Int32) × (Nat → Int32) × (Nat → Int32) × (Nat → Int32) × (Nat → Int32) × (Nat → Int32)} (hf : f_X5_copyFrom u c0_0 c0_1 c0_7 c0_8 c0_9 c0_10 c0_5 c0_6 a1 a2 a3 a4 a5 a6 c7_0 c7_1 c7_7 c7_8 c7_9 c7_10 c7_5 c7_6 a8 a9 a10 a11 a12 a13 = some out) : k_CT l yX5_copyFrom cX5_copyFrom 2 none 1 40 [.ref 0, .ref 7] h none [(0, .inl (0, out.1)), (0, .inl (1, out.2.1)), (0, .inl (7, out.2.2.1)), (0, .inl (8, out.2.2.2.1)), (0, .inl (9, out.2.2.2.2.1)), (0, .inl (10, out.2.2.2.2.2.1)), (0, .inr (.inl (5, out.2.2.2.2.2.2.1))), (0, .inr (.inl (6, out.2.2.2.2.2.2.2.1))), (1, .inr (.inr (.inl out.2.2.2.2.2.2.2.2.1))), (2, .inr (.inr (.inl out.2.2.2.2.2.2.2.2.2.1))), (3, .inr (.inr (.inl out.2.2.2.2.2.2.2.2.2.2.1))), (4, .inr (.inr (.inl out.2.2.2.2.2.2.2.2.2.2.2.1))), (5, .inr (.inr (.inl out.2.2.2.2.2.2.2.2.2.2.2.2.1))), (6, .inr (.inr (.inl out.2.2.2.2.2.2.2.2.2.2.2.2.2)))] := by
  obtain ⟨sh, I, L, Rf⟩ := h
  try dsimp only
  obtain rfl : sh = shPit2 := hsh
  refine k_ofW (by decide) (Nat.le_of_ble_eq_true rfl) ?_
  intro X ad hl hR0 hr C
  have hR : X.R.frames = 1 ∧ X.R.locals = 40 := by rw [hR0]; exact ⟨rfl, rfl⟩
  have h := hf
  unfold f_X5_copyFrom at h
  refine k_start (us := [(0, .inl (0, c0_0)), (0, .inl (1, c0_1)), (0, .inl (7, c0_7)), (0, .inl (8, c0_8)), (0, .inl (9, c0_9)), (0, .inl (10, c0_10)), (0, .inr (.inl (5, c0_5))), (0, .inr (.inl (6, c0_6))), (1, .inr (.inr (.inl a1))), (2, .inr (.inr (.inl a2))), (3, .inr (.inr (.inl a3))), (4, .inr (.inr (.inl a4))), (5, .inr (.inr (.inl a5))), (6, .inr (.inr (.inl a6)))]) (k_ao_I ec0_0 (k_ao_I ec0_1 (k_ao_I ec0_7 (k_ao_I ec0_8 (k_ao_I ec0_9 (k_ao_I ec0_10 (k_ao_L ec0_5 (k_ao_L ec0_6 (k_ao_A ea1 (k_ao_A ea2 (k_ao_A ea3 (k_ao_A ea4 (k_ao_A ea5 (k_ao_A ea6 k_ap_0)))))))))))))) ?_
  show k_W X 2 0 0 _ ad (k_ap [(0, .inl (0, c0_0)), (0, .inl (1, c0_1)), (0, .inl (7, c0_7)), (0, .inl (8, c0_8)), (0, .inl (9, c0_9)), (0, .inl (10, c0_10)), (0, .inr (.inl (5, c0_5))), (0, .inr (.inl (6, c0_6))), (1, .inr (.inr (.inl a1))), (2, .inr (.inr (.inl a2))), (3, .inr (.inr (.inl a3))), (4, .inr (.inr (.inl a4))), (5, .inr (.inr (.inl a5))), (6, .inr (.inr (.inl a6)))] (shPit2, I, L, Rf)) 0 [some (.ref 0), some (.ref 7)] []
  refine k_mask [true, true] ?_
  exact sX5_copyFrom_0 u C hr hR ec7_0 ec7_1 ec7_7 ec7_8 ec7_9 ec7_10 ec7_5 ec7_6 ea8 ea9 ea10 ea11 ea12 ea13 c0_0 c0_1 c0_7 c0_8 c0_9 c0_10 c0_5 c0_6 a1 a2 a3 a4 a5 a6 h
/-! LullabyPit$Law.put(I)V -/
theorem ds_X1_put : k_ds [(0, 0, 2), (1, 2, 0)] = true := by decide +kernel
set_option maxHeartbeats 400000 in
set_option maxRecDepth 100000 in
theorem sX1_put_0 (u : Nat) {X : k_X} {ad : Nat → Nat} (C : k_C X cX1_put RX1 2 ad) (hr : X.meth.sig.returnType = none) (hR : X.R.frames = 0 ∧ X.R.locals = 0) {I : Nat → Nat → Int32} {L : Nat → Nat → Int64} {Rf : Nat → Nat → Option Nat} {out : Int32 × (Nat → Int32)} : ∀ (c0_2 : Int32) (a1 : (Nat → Int32)) (v1 : Int32), bX1_put_0 u c0_2 a1 v1 = some out → k_W X 2 0 0 (k_Q X ad none (k_ap [(0, .inl (2, out.1)), (1, .inr (.inr (.inl out.2)))] (shLaw, I, L, Rf))) ad (k_ap [(0, .inl (2, c0_2)), (1, .inr (.inr (.inl a1)))] (shLaw, I, L, Rf)) 0 [some (.ref 0), some (.int v1)] [] := by
  intro c0_2 a1 v1 h
  unfold bX1_put_0 at h
  refine r_aload_n C dX1_put_0 (rfl : 0 + 1 = 1) rfl ?_
  refine r_getI (v := c0_2) C dX1_put_1 (rfl : 1 + 3 = 4) fl_X1_18 rfl rfl rfl ?_
  refine r_aload_n C dX1_put_4 (rfl : 4 + 1 = 5) rfl ?_
  refine r_getR (q := 1) C dX1_put_5 (rfl : 5 + 3 = 8) fl_X1_9 rfl rfl ?_
  refine r_alen (v := (150 : Int32)) C dX1_put_8 (rfl : 8 + 1 = 9) rfl (by decide) rfl ?_
  refine r_icmp_ge (tgt := 32) C dX1_put_9 (by decide) (rfl : 9 + 3 = 12) (fun c9 => ?_) (fun c9 => ?_)
  · have h := k_t c9 h
    cases h
    exact r_vret C hr dX1_put_32
  · have h := k_f c9 h
    refine r_aload_n C dX1_put_12 (rfl : 12 + 1 = 13) rfl ?_
    refine r_getR (q := 1) C dX1_put_13 (rfl : 13 + 3 = 16) fl_X1_9 rfl rfl ?_
    refine r_aload_n C dX1_put_16 (rfl : 16 + 1 = 17) rfl ?_
    refine r_getI (v := c0_2) C dX1_put_17 (rfl : 17 + 3 = 20) fl_X1_18 rfl rfl rfl ?_
    refine r_iload_n C dX1_put_20 (rfl : 20 + 1 = 21) rfl ?_
    obtain ⟨hi21, h⟩ := k_i_of h
    refine s_i (j := (c0_2).toNatClampNeg) (f := a1) (us' := [(0, .inl (2, c0_2)), (1, .inr (.inr (.inl (upd a1 ((c0_2).toNatClampNeg) v1))))]) C dX1_put_21 (rfl : 21 + 1 = 22) rfl rfl hi21 rfl ds_X1_put rfl rfl rfl ?_
    refine r_aload_n C dX1_put_22 (rfl : 22 + 1 = 23) rfl ?_
    refine r_dup C dX1_put_23 (rfl : 23 + 1 = 24) rfl ?_
    refine r_getI (v := c0_2) C dX1_put_24 (rfl : 24 + 3 = 27) fl_X1_18 rfl rfl rfl ?_
    refine r_iconst (v := (1 : Int32)) C dX1_put_27 (rfl : 27 + 1 = 28) rfl ?_
    refine r_iadd C dX1_put_28 (rfl : 28 + 1 = 29) ?_
    refine p_I (us' := [(0, .inl (2, (c0_2 + (1 : Int32)))), (1, .inr (.inr (.inl (upd a1 ((c0_2).toNatClampNeg) v1))))]) C dX1_put_29 (rfl : 29 + 3 = 32) fp_X1_18 rfl rfl ds_X1_put rfl rfl rfl ?_
    cases h
    exact r_vret C hr dX1_put_32
set_option maxHeartbeats 400000 in
set_option maxRecDepth 100000 in
theorem c_X1_put (l : Launch) (u : Nat) (h : k_H) (hsh : h.1 = shLaw) {c0_2 : Int32} (ec0_2 : h.2.1 0 2 = c0_2) {a1 : (Nat → Int32)} (ea1 : h.2.1 1 = a1) {x0 : Int32} {out : Int32 × (Nat → Int32)} (hf : f_X1_put u c0_2 a1 x0 = some out) : k_CT l yX1_put cX1_put 2 none 0 0 [.ref 0, .int x0] h none [(0, .inl (2, out.1)), (1, .inr (.inr (.inl out.2)))] := by
  obtain ⟨sh, I, L, Rf⟩ := h
  try dsimp only
  obtain rfl : sh = shLaw := hsh
  refine k_ofW (by decide) (Nat.le_of_ble_eq_true rfl) ?_
  intro X ad hl hR0 hr C
  have hR : X.R.frames = 0 ∧ X.R.locals = 0 := by rw [hR0]; exact ⟨rfl, rfl⟩
  have h := hf
  unfold f_X1_put at h
  refine k_start (us := [(0, .inl (2, c0_2)), (1, .inr (.inr (.inl a1)))]) (k_ao_I ec0_2 (k_ao_A ea1 k_ap_0)) ?_
  show k_W X 2 0 0 _ ad (k_ap [(0, .inl (2, c0_2)), (1, .inr (.inr (.inl a1)))] (shLaw, I, L, Rf)) 0 [some (.ref 0), some (.int x0)] []
  refine k_mask [true, true] ?_
  exact sX1_put_0 u C hr hR c0_2 a1 x0 h
/-! LullabyPit$Law.beFall()V -/
theorem ds_X1_beFall : k_ds [(0, 0, 2), (1, 2, 0)] = true := by decide +kernel
set_option maxHeartbeats 400000 in
set_option maxRecDepth 100000 in
theorem sX1_beFall_0 (u : Nat) {X : k_X} {ad : Nat → Nat} (C : k_C X cX1_beFall RX1 1 ad) (hr : X.meth.sig.returnType = none) (hR : X.R.frames = 1 ∧ X.R.locals = 21) {I : Nat → Nat → Int32} {L : Nat → Nat → Int64} {Rf : Nat → Nat → Option Nat} {out : Int32 × (Nat → Int32)} : ∀ (c0_2 : Int32) (a1 : (Nat → Int32)), bX1_beFall_0 u c0_2 a1 = some out → k_W X 1 0 0 (k_Q X ad none (k_ap [(0, .inl (2, out.1)), (1, .inr (.inr (.inl out.2)))] (shLaw, I, L, Rf))) ad (k_ap [(0, .inl (2, c0_2)), (1, .inr (.inr (.inl a1)))] (shLaw, I, L, Rf)) 0 [some (.ref 0)] [] := by
  intro c0_2 a1 h
  unfold bX1_beFall_0 at h
  refine r_aload_n C dX1_beFall_0 (rfl : 0 + 1 = 1) rfl ?_
  refine r_iconst (v := (0 : Int32)) C dX1_beFall_1 (rfl : 1 + 1 = 2) rfl ?_
  refine p_I (us' := [(0, .inl (2, (0 : Int32))), (1, .inr (.inr (.inl a1)))]) C dX1_beFall_2 (rfl : 2 + 3 = 5) fp_X1_18 rfl rfl ds_X1_beFall rfl rfl rfl ?_
  refine r_aload_n C dX1_beFall_5 (rfl : 5 + 1 = 6) rfl ?_
  refine r_iconst (v := (-1 : Int32)) C dX1_beFall_6 (rfl : 6 + 1 = 7) rfl ?_
  obtain ⟨r7, q7, h⟩ := k_b_of h
  refine d_V (As := [.int (-1 : Int32)]) (st := []) (st' := []) (h' := k_ap [(0, .inl (2, r7.1)), (1, .inr (.inr (.inl r7.2)))] (shLaw, I, L, Rf)) C hR ⟨Nat.zero_le _, Nat.zero_le _⟩ mv_X1_put lk_X1_22 dX1_beFall_7 (rfl : 7 + 3 = 10) rfl rfl rfl rfl (c_X1_put X.l u (k_ap [(0, .inl (2, (0 : Int32))), (1, .inr (.inr (.inl a1)))] (shLaw, I, L, Rf)) rfl rfl rfl q7) rfl rfl rfl (k_jn (us' := [(0, .inl (2, r7.1)), (1, .inr (.inr (.inl r7.2)))]) ds_X1_beFall rfl rfl rfl) rfl ?_
  refine r_aload_n C dX1_beFall_10 (rfl : 10 + 1 = 11) rfl ?_
  refine r_iconst (v := (2 : Int32)) C dX1_beFall_11 (rfl : 11 + 1 = 12) rfl ?_
  obtain ⟨r12, q12, h⟩ := k_b_of h
  refine d_V (As := [.int (2 : Int32)]) (st := []) (st' := []) (h' := k_ap [(0, .inl (2, r12.1)), (1, .inr (.inr (.inl r12.2)))] (shLaw, I, L, Rf)) C hR ⟨Nat.zero_le _, Nat.zero_le _⟩ mv_X1_put lk_X1_22 dX1_beFall_12 (rfl : 12 + 3 = 15) rfl rfl rfl rfl (c_X1_put X.l u (k_ap [(0, .inl (2, r7.1)), (1, .inr (.inr (.inl r7.2)))] (shLaw, I, L, Rf)) rfl rfl rfl q12) rfl rfl rfl (k_jn (us' := [(0, .inl (2, r12.1)), (1, .inr (.inr (.inl r12.2)))]) ds_X1_beFall rfl rfl rfl) rfl ?_
  refine r_aload_n C dX1_beFall_15 (rfl : 15 + 1 = 16) rfl ?_
  refine r_bipush (v := (-12 : Int32)) C dX1_beFall_16 (rfl : 16 + 2 = 18) rfl ?_
  obtain ⟨r18, q18, h⟩ := k_b_of h
  refine d_V (As := [.int (-12 : Int32)]) (st := []) (st' := []) (h' := k_ap [(0, .inl (2, r18.1)), (1, .inr (.inr (.inl r18.2)))] (shLaw, I, L, Rf)) C hR ⟨Nat.zero_le _, Nat.zero_le _⟩ mv_X1_put lk_X1_22 dX1_beFall_18 (rfl : 18 + 3 = 21) rfl rfl rfl rfl (c_X1_put X.l u (k_ap [(0, .inl (2, r12.1)), (1, .inr (.inr (.inl r12.2)))] (shLaw, I, L, Rf)) rfl rfl rfl q18) rfl rfl rfl (k_jn (us' := [(0, .inl (2, r18.1)), (1, .inr (.inr (.inl r18.2)))]) ds_X1_beFall rfl rfl rfl) rfl ?_
  cases h
  exact r_vret C hr dX1_beFall_21
set_option maxHeartbeats 400000 in
set_option maxRecDepth 100000 in
theorem c_X1_beFall (l : Launch) (u : Nat) (h : k_H) (hsh : h.1 = shLaw) {c0_2 : Int32} (ec0_2 : h.2.1 0 2 = c0_2) {a1 : (Nat → Int32)} (ea1 : h.2.1 1 = a1) {out : Int32 × (Nat → Int32)} (hf : f_X1_beFall u c0_2 a1 = some out) : k_CT l yX1_beFall cX1_beFall 1 none 1 21 [.ref 0] h none [(0, .inl (2, out.1)), (1, .inr (.inr (.inl out.2)))] := by
  obtain ⟨sh, I, L, Rf⟩ := h
  try dsimp only
  obtain rfl : sh = shLaw := hsh
  refine k_ofW (by decide) (Nat.le_of_ble_eq_true rfl) ?_
  intro X ad hl hR0 hr C
  have hR : X.R.frames = 1 ∧ X.R.locals = 21 := by rw [hR0]; exact ⟨rfl, rfl⟩
  have h := hf
  unfold f_X1_beFall at h
  refine k_start (us := [(0, .inl (2, c0_2)), (1, .inr (.inr (.inl a1)))]) (k_ao_I ec0_2 (k_ao_A ea1 k_ap_0)) ?_
  show k_W X 1 0 0 _ ad (k_ap [(0, .inl (2, c0_2)), (1, .inr (.inr (.inl a1)))] (shLaw, I, L, Rf)) 0 [some (.ref 0)] []
  refine k_mask [true] ?_
  exact sX1_beFall_0 u C hr hR c0_2 a1 h
/-! LullabyPit$Law.beHarm()V -/
theorem ds_X1_beHarm : k_ds [(0, 0, 2), (1, 2, 0)] = true := by decide +kernel
set_option maxHeartbeats 400000 in
set_option maxRecDepth 100000 in
theorem sX1_beHarm_0 (u : Nat) {X : k_X} {ad : Nat → Nat} (C : k_C X cX1_beHarm RX1 1 ad) (hr : X.meth.sig.returnType = none) (hR : X.R.frames = 1 ∧ X.R.locals = 21) {I : Nat → Nat → Int32} {L : Nat → Nat → Int64} {Rf : Nat → Nat → Option Nat} {out : Int32 × (Nat → Int32)} : ∀ (c0_2 : Int32) (a1 : (Nat → Int32)), bX1_beHarm_0 u c0_2 a1 = some out → k_W X 1 0 0 (k_Q X ad none (k_ap [(0, .inl (2, out.1)), (1, .inr (.inr (.inl out.2)))] (shLaw, I, L, Rf))) ad (k_ap [(0, .inl (2, c0_2)), (1, .inr (.inr (.inl a1)))] (shLaw, I, L, Rf)) 0 [some (.ref 0)] [] := by
  intro c0_2 a1 h
  unfold bX1_beHarm_0 at h
  refine r_aload_n C dX1_beHarm_0 (rfl : 0 + 1 = 1) rfl ?_
  refine r_iconst (v := (0 : Int32)) C dX1_beHarm_1 (rfl : 1 + 1 = 2) rfl ?_
  refine p_I (us' := [(0, .inl (2, (0 : Int32))), (1, .inr (.inr (.inl a1)))]) C dX1_beHarm_2 (rfl : 2 + 3 = 5) fp_X1_18 rfl rfl ds_X1_beHarm rfl rfl rfl ?_
  refine r_aload_n C dX1_beHarm_5 (rfl : 5 + 1 = 6) rfl ?_
  refine r_bipush (v := (-7 : Int32)) C dX1_beHarm_6 (rfl : 6 + 2 = 8) rfl ?_
  obtain ⟨r8, q8, h⟩ := k_b_of h
  refine d_V (As := [.int (-7 : Int32)]) (st := []) (st' := []) (h' := k_ap [(0, .inl (2, r8.1)), (1, .inr (.inr (.inl r8.2)))] (shLaw, I, L, Rf)) C hR ⟨Nat.zero_le _, Nat.zero_le _⟩ mv_X1_put lk_X1_22 dX1_beHarm_8 (rfl : 8 + 3 = 11) rfl rfl rfl rfl (c_X1_put X.l u (k_ap [(0, .inl (2, (0 : Int32))), (1, .inr (.inr (.inl a1)))] (shLaw, I, L, Rf)) rfl rfl rfl q8) rfl rfl rfl (k_jn (us' := [(0, .inl (2, r8.1)), (1, .inr (.inr (.inl r8.2)))]) ds_X1_beHarm rfl rfl rfl) rfl ?_
  cases h
  exact r_vret C hr dX1_beHarm_11
set_option maxHeartbeats 400000 in
set_option maxRecDepth 100000 in
theorem c_X1_beHarm (l : Launch) (u : Nat) (h : k_H) (hsh : h.1 = shLaw) {c0_2 : Int32} (ec0_2 : h.2.1 0 2 = c0_2) {a1 : (Nat → Int32)} (ea1 : h.2.1 1 = a1) {out : Int32 × (Nat → Int32)} (hf : f_X1_beHarm u c0_2 a1 = some out) : k_CT l yX1_beHarm cX1_beHarm 1 none 1 21 [.ref 0] h none [(0, .inl (2, out.1)), (1, .inr (.inr (.inl out.2)))] := by
  obtain ⟨sh, I, L, Rf⟩ := h
  try dsimp only
  obtain rfl : sh = shLaw := hsh
  refine k_ofW (by decide) (Nat.le_of_ble_eq_true rfl) ?_
  intro X ad hl hR0 hr C
  have hR : X.R.frames = 1 ∧ X.R.locals = 21 := by rw [hR0]; exact ⟨rfl, rfl⟩
  have h := hf
  unfold f_X1_beHarm at h
  refine k_start (us := [(0, .inl (2, c0_2)), (1, .inr (.inr (.inl a1)))]) (k_ao_I ec0_2 (k_ao_A ea1 k_ap_0)) ?_
  show k_W X 1 0 0 _ ad (k_ap [(0, .inl (2, c0_2)), (1, .inr (.inr (.inl a1)))] (shLaw, I, L, Rf)) 0 [some (.ref 0)] []
  refine k_mask [true] ?_
  exact sX1_beHarm_0 u C hr hR c0_2 a1 h
/-! LullabyPit$Law.copyFrom(LLullabyPit$Law;)V -/
theorem ds_X1_copyFrom : k_ds [(0, 0, 2), (1, 2, 0)] = true := by decide +kernel
set_option maxHeartbeats 400000 in
set_option maxRecDepth 100000 in
theorem sX1_copyFrom_0 (u : Nat) {X : k_X} {ad : Nat → Nat} (C : k_C X cX1_copyFrom RX1 2 ad) (hr : X.meth.sig.returnType = none) (hR : X.R.frames = 1 ∧ X.R.locals = 40) {I : Nat → Nat → Int32} {L : Nat → Nat → Int64} {Rf : Nat → Nat → Option Nat} {c3_2 : Int32} (ec3_2 : I 3 2 = c3_2) {a4 : (Nat → Int32)} (ea4 : I 4 = a4) {out : Int32 × (Nat → Int32)} : ∀ (c0_2 : Int32) (a1 : (Nat → Int32)), bX1_copyFrom_0 u c3_2 a4 c0_2 a1 = some out → k_W X 2 0 0 (k_Q X ad none (k_ap [(0, .inl (2, out.1)), (1, .inr (.inr (.inl out.2)))] (shLaw2, I, L, Rf))) ad (k_ap [(0, .inl (2, c0_2)), (1, .inr (.inr (.inl a1)))] (shLaw2, I, L, Rf)) 0 [some (.ref 0), some (.ref 3)] [] := by
  intro c0_2 a1 h
  unfold bX1_copyFrom_0 at h
  refine r_aload_n C dX1_copyFrom_0 (rfl : 0 + 1 = 1) rfl ?_
  refine r_getR (q := 4) C dX1_copyFrom_1 (rfl : 1 + 3 = 4) fl_X1_9 rfl rfl ?_
  refine r_iconst (v := (0 : Int32)) C dX1_copyFrom_4 (rfl : 4 + 1 = 5) rfl ?_
  refine r_aload_n C dX1_copyFrom_5 (rfl : 5 + 1 = 6) rfl ?_
  refine r_getR (q := 1) C dX1_copyFrom_6 (rfl : 6 + 3 = 9) fl_X1_9 rfl rfl ?_
  refine r_iconst (v := (0 : Int32)) C dX1_copyFrom_9 (rfl : 9 + 1 = 10) rfl ?_
  refine r_sipush (v := (150 : Int32)) C dX1_copyFrom_10 (rfl : 10 + 3 = 13) rfl ?_
  refine r_acopy (f := a4) (g := a1) (us' := [(0, .inl (2, c0_2)), (1, .inr (.inr (.inl (va_cpy a4 a1 0 0 150))))]) C hR dX1_copyFrom_13 (rfl : 13 + 3 = 16) lm_X1_26 rfl rfl ea4 rfl (by decide) (by decide) (by decide) (by decide) (by decide) ds_X1_copyFrom rfl rfl rfl rfl rfl ?_
  refine r_aload_n C dX1_copyFrom_16 (rfl : 16 + 1 = 17) rfl ?_
  refine r_aload_n C dX1_copyFrom_17 (rfl : 17 + 1 = 18) rfl ?_
  refine r_getI (v := c3_2) C dX1_copyFrom_18 (rfl : 18 + 3 = 21) fl_X1_18 rfl rfl ec3_2 ?_
  refine p_I (us' := [(0, .inl (2, c3_2)), (1, .inr (.inr (.inl (va_cpy a4 a1 0 0 150))))]) C dX1_copyFrom_21 (rfl : 21 + 3 = 24) fp_X1_18 rfl rfl ds_X1_copyFrom rfl rfl rfl ?_
  cases h
  exact r_vret C hr dX1_copyFrom_24
set_option maxHeartbeats 400000 in
set_option maxRecDepth 100000 in
theorem c_X1_copyFrom (l : Launch) (u : Nat) (h : k_H) (hsh : h.1 = shLaw2) {c0_2 : Int32} (ec0_2 : h.2.1 0 2 = c0_2) {a1 : (Nat → Int32)} (ea1 : h.2.1 1 = a1) {c3_2 : Int32} (ec3_2 : h.2.1 3 2 = c3_2) {a4 : (Nat → Int32)} (ea4 : h.2.1 4 = a4) {out : Int32 × (Nat → Int32)} (hf : f_X1_copyFrom u c0_2 a1 c3_2 a4 = some out) : k_CT l yX1_copyFrom cX1_copyFrom 2 none 1 40 [.ref 0, .ref 3] h none [(0, .inl (2, out.1)), (1, .inr (.inr (.inl out.2)))] := by
  obtain ⟨sh, I, L, Rf⟩ := h
  try dsimp only
  obtain rfl : sh = shLaw2 := hsh
  refine k_ofW (by decide) (Nat.le_of_ble_eq_true rfl) ?_
  intro X ad hl hR0 hr C
  have hR : X.R.frames = 1 ∧ X.R.locals = 40 := by rw [hR0]; exact ⟨rfl, rfl⟩
  have h := hf
  unfold f_X1_copyFrom at h
  refine k_start (us := [(0, .inl (2, c0_2)), (1, .inr (.inr (.inl a1)))]) (k_ao_I ec0_2 (k_ao_A ea1 k_ap_0)) ?_
  show k_W X 2 0 0 _ ad (k_ap [(0, .inl (2, c0_2)), (1, .inr (.inr (.inl a1)))] (shLaw2, I, L, Rf)) 0 [some (.ref 0), some (.ref 3)] []
  refine k_mask [true, true] ?_
  exact sX1_copyFrom_0 u C hr hR ec3_2 ea4 c0_2 a1 h
