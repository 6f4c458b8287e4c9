/-! LullabyPit$Taps.read(LLullabyPit$Tape;)V -/
theorem ds_X9_read : k_ds [(0, 0, 3), (1, 2, 0), (2, 2, 0), (10, 0, 3), (10, 0, 4), (10, 0, 5), (10, 0, 6)] = true := by decide +kernel
set_option maxHeartbeats 400000 in
set_option maxRecDepth 100000 in
theorem sX9_read_54 (u : Nat) {X : k_X} {ad : Nat → Nat} (C : k_C X cX9_read RX9 5 ad) (hr : X.meth.sig.returnType = none) (hR : X.R.frames = 2 ∧ X.R.locals = 45) {I : Nat → Nat → Int32} {L : Nat → Nat → Int64} {Rf : Nat → Nat → Option Nat} {c10_2 : Int32} (ec10_2 : I 10 2 = c10_2) {a11 : (Nat → Int32)} (ea11 : I 11 = a11) {out : Int32 × (Nat → Int32) × (Nat → Int32) × Int32 × Int32 × Int32 × Int32} {k12 : Int32 → (Nat → Int32) → (Nat → Int32) → Int32 → Int32 → Int32 → Int32 → Int32 → Int32 → Option (Int32 × (Nat → Int32) × (Nat → Int32) × Int32 × Int32 × Int32 × Int32)} (hk12 : ∀ (c0_3 : Int32) (a1 : (Nat → Int32)) (a2 : (Nat → Int32)) (c10_3 : Int32) (c10_4 : Int32) (c10_5 : Int32) (c10_6 : Int32) (v2 : Int32) (v3 : Int32), k12 c0_3 a1 a2 c10_3 c10_4 c10_5 c10_6 v2 v3 = some out → k_W X 5 0 0 (k_Q X ad none (k_ap [(0, .inl (3, out.1)), (1, .inr (.inr (.inl out.2.1))), (2, .inr (.inr (.inl out.2.2.1))), (10, .inl (3, out.2.2.2.1)), (10, .inl (4, out.2.2.2.2.1)), (10, .inl (5, out.2.2.2.2.2.1)), (10, .inl (6, out.2.2.2.2.2.2))] (shTapsTape, I, L, Rf))) ad (k_ap [(0, .inl (3, c0_3)), (1, .inr (.inr (.inl a1))), (2, .inr (.inr (.inl a2))), (10, .inl (3, c10_3)), (10, .inl (4, c10_4)), (10, .inl (5, c10_5)), (10, .inl (6, c10_6))] (shTapsTape, I, L, Rf)) 12 [some (.ref 0), some (.ref 10), some (.int v2), some (.int v3), none] []) : ∀ (c0_3 : Int32) (a1 : (Nat → Int32)) (a2 : (Nat → Int32)) (c10_3 : Int32) (c10_4 : Int32) (c10_5 : Int32) (c10_6 : Int32) (v2 : Int32) (v3 : Int32) (v4 : Int32), bX9_read_54 u c10_2 a11 k12 c0_3 a1 a2 c10_3 c10_4 c10_5 c10_6 v2 v3 v4 = some out → k_W X 5 0 0 (k_Q X ad none (k_ap [(0, .inl (3, out.1)), (1, .inr (.inr (.inl out.2.1))), (2, .inr (.inr (.inl out.2.2.1))), (10, .inl (3, out.2.2.2.1)), (10, .inl (4, out.2.2.2.2.1)), (10, .inl (5, out.2.2.2.2.2.1)), (10, .inl (6, out.2.2.2.2.2.2))] (shTapsTape, I, L, Rf))) ad (k_ap [(0, .inl (3, c0_3)), (1, .inr (.inr (.inl a1))), (2, .inr (.inr (.inl a2))), (10, .inl (3, c10_3)), (10, .inl (4, c10_4)), (10, .inl (5, c10_5)), (10, .inl (6, c10_6))] (shTapsTape, I, L, Rf)) 54 [some (.ref 0), some (.ref 10), some (.int v2), some (.int v3), some (.int v4)] [] := by
  intro c0_3 a1 a2 c10_3 c10_4 c10_5 c10_6 v2 v3 v4 h
  unfold bX9_read_54 at h
  refine r_aload_n C dX9_read_54 (rfl : 54 + 1 = 55) rfl ?_
  refine r_getR (q := 2) C dX9_read_55 (rfl : 55 + 3 = 58) fl_X9_15 rfl rfl ?_
  refine r_iload C dX9_read_58 (rfl : 58 + 2 = 60) rfl ?_
  refine r_aload_n C dX9_read_60 (rfl : 60 + 1 = 61) rfl ?_
  refine r_iconst (v := (0 : Int32)) C dX9_read_61 (rfl : 61 + 1 = 62) rfl ?_
  refine r_bipush (v := (6 : Int32)) C dX9_read_62 (rfl : 62 + 2 = 64) rfl ?_
  obtain ⟨r64, q64, h⟩ := k_b_of h
  refine d_Vp (pi := [10, 11]) (shl := shTape) (bl := 0) (As := [.int (0 : Int32), .int (6 : Int32)]) (Al := [.int (0 : Int32), .int (6 : Int32)]) (st := [.int v4, .ref 2]) (st' := [.int r64.1, .int v4, .ref 2]) (h' := k_ap [(0, .inl (3, c0_3)), (1, .inr (.inr (.inl a1))), (2, .inr (.inr (.inl a2))), (10, .inl (3, r64.2.1)), (10, .inl (4, r64.2.2.1)), (10, .inl (5, r64.2.2.2.1)), (10, .inl (6, r64.2.2.2.2))] (shTapsTape, I, L, Rf)) C hR ⟨Nat.zero_le _, Nat.zero_le _⟩ mv_X8_number lk_X9_38 dX9_read_64 (rfl : 64 + 3 = 67) rfl rfl ck_shTapsTape_shTape_10 rfl rfl (c_X8_number X.l u (k_pl [10, 11] shTape (k_ap [(0, .inl (3, c0_3)), (1, .inr (.inr (.inl a1))), (2, .inr (.inr (.inl a2))), (10, .inl (3, c10_3)), (10, .inl (4, c10_4)), (10, .inl (5, c10_5)), (10, .inl (6, c10_6))] (shTapsTape, I, L, Rf))) rfl ec10_2 rfl rfl rfl rfl ea11 q64) rfl (fun _ => rfl) rfl (fun _ => rfl) rfl rfl rfl (k_jn (us' := [(0, .inl (3, c0_3)), (1, .inr (.inr (.inl a1))), (2, .inr (.inr (.inl a2))), (10, .inl (3, r64.2.1)), (10, .inl (4, r64.2.2.1)), (10, .inl (5, r64.2.2.2.1)), (10, .inl (6, r64.2.2.2.2))]) ds_X9_read rfl rfl rfl) rfl ?_
  obtain ⟨hi67, h⟩ := k_i_of h
  refine s_i (j := (v4).toNatClampNeg) (f := a2) (us' := [(0, .inl (3, c0_3)), (1, .inr (.inr (.inl a1))), (2, .inr (.inr (.inl (upd a2 ((v4).toNatClampNeg) r64.1)))), (10, .inl (3, r64.2.1)), (10, .inl (4, r64.2.2.1)), (10, .inl (5, r64.2.2.2.1)), (10, .inl (6, r64.2.2.2.2))]) C dX9_read_67 (rfl : 67 + 1 = 68) rfl rfl hi67 rfl ds_X9_read rfl rfl rfl ?_
  refine r_aload_n C dX9_read_68 (rfl : 68 + 1 = 69) rfl ?_
  refine r_bipush (v := (59 : Int32)) C dX9_read_69 (rfl : 69 + 2 = 71) rfl ?_
  obtain ⟨r71, q71, h⟩ := k_b_of h
  refine d_Vp (pi := [10, 11]) (shl := shTape) (bl := 0) (As := [.int (59 : Int32)]) (Al := [.int (59 : Int32)]) (st := []) (st' := []) (h' := k_ap [(0, .inl (3, c0_3)), (1, .inr (.inr (.inl a1))), (2, .inr (.inr (.inl (upd a2 ((v4).toNatClampNeg) r64.1)))), (10, .inl (3, r71.1)), (10, .inl (4, r64.2.2.1)), (10, .inl (5, r71.2.1)), (10, .inl (6, r71.2.2))] (shTapsTape, I, L, Rf)) C hR ⟨Nat.zero_le _, Nat.zero_le _⟩ mv_X8_sign lk_X9_49 dX9_read_71 (rfl : 71 + 3 = 74) rfl rfl ck_shTapsTape_shTape_10 rfl rfl (c_X8_sign X.l u (k_pl [10, 11] shTape (k_ap [(0, .inl (3, c0_3)), (1, .inr (.inr (.inl a1))), (2, .inr (.inr (.inl (upd a2 ((v4).toNatClampNeg) r64.1)))), (10, .inl (3, r64.2.1)), (10, .inl (4, r64.2.2.1)), (10, .inl (5, r64.2.2.2.1)), (10, .inl (6, r64.2.2.2.2))] (shTapsTape, I, L, Rf))) rfl ec10_2 rfl rfl rfl ea11 q71) rfl (fun _ => rfl) rfl (fun _ => rfl) rfl rfl rfl (k_jn (us' := [(0, .inl (3, c0_3)), (1, .inr (.inr (.inl a1))), (2, .inr (.inr (.inl (upd a2 ((v4).toNatClampNeg) r64.1)))), (10, .inl (3, r71.1)), (10, .inl (4, r64.2.2.1)), (10, .inl (5, r71.2.1)), (10, .inl (6, r71.2.2))]) ds_X9_read rfl rfl rfl) rfl ?_
  refine r_iinc (v := (v2 + (1 : Int32))) C dX9_read_74 (rfl : 74 + 3 = 77) rfl rfl (by decide) ?_
  show k_W _ _ _ _ _ _ _ _ [some (.ref 0), some (.ref 10), some (.int (v2 + (1 : Int32))), some (.int v3), some (.int v4)] _
  refine r_iinc (v := (v3 + (1 : Int32))) C dX9_read_77 (rfl : 77 + 3 = 80) rfl rfl (by decide) ?_
  show k_W _ _ _ _ _ _ _ _ [some (.ref 0), some (.ref 10), some (.int (v2 + (1 : Int32))), some (.int (v3 + (1 : Int32))), some (.int v4)] _
  refine r_goto (tgt := 12) C dX9_read_80 (by decide) ?_
  refine k_mask [true, true, true, true, false] ?_
  exact hk12 c0_3 a1 (upd a2 ((v4).toNatClampNeg) r64.1) r71.1 r64.2.2.1 r71.2.1 r71.2.2 (v2 + (1 : Int32)) (v3 + (1 : Int32)) h
set_option maxHeartbeats 400000 in
set_option maxRecDepth 100000 in
theorem sX9_read_83 (u : Nat) {X : k_X} {ad : Nat → Nat} (C : k_C X cX9_read RX9 5 ad) (hr : X.meth.sig.returnType = none) (hR : X.R.frames = 2 ∧ X.R.locals = 45) {I : Nat → Nat → Int32} {L : Nat → Nat → Int64} {Rf : Nat → Nat → Option Nat} {c10_2 : Int32} (ec10_2 : I 10 2 = c10_2) {a11 : (Nat → Int32)} (ea11 : I 11 = a11) {out : Int32 × (Nat → Int32) × (Nat → Int32) × Int32 × Int32 × Int32 × Int32} : ∀ (c0_3 : Int32) (a1 : (Nat → Int32)) (a2 : (Nat → Int32)) (c10_3 : Int32) (c10_4 : Int32) (c10_5 : Int32) (c10_6 : Int32) (v2 : Int32), bX9_read_83 u c10_2 a11 c0_3 a1 a2 c10_3 c10_4 c10_5 c10_6 v2 = some out → k_W X 5 0 0 (k_Q X ad none (k_ap [(0, .inl (3, out.1)), (1, .inr (.inr (.inl out.2.1))), (2, .inr (.inr (.inl out.2.2.1))), (10, .inl (3, out.2.2.2.1)), (10, .inl (4, out.2.2.2.2.1)), (10, .inl (5, out.2.2.2.2.2.1)), (10, .inl (6, out.2.2.2.2.2.2))] (shTapsTape, I, L, Rf))) ad (k_ap [(0, .inl (3, c0_3)), (1, .inr (.inr (.inl a1))), (2, .inr (.inr (.inl a2))), (10, .inl (3, c10_3)), (10, .inl (4, c10_4)), (10, .inl (5, c10_5)), (10, .inl (6, c10_6))] (shTapsTape, I, L, Rf)) 83 [some (.ref 0), some (.ref 10), some (.int v2), none, none] [] := by
  intro c0_3 a1 a2 c10_3 c10_4 c10_5 c10_6 v2 h
  unfold bX9_read_83 at h
  refine r_aload_n C dX9_read_83 (rfl : 83 + 1 = 84) rfl ?_
  obtain ⟨r84, q84, h⟩ := k_b_of h
  refine d_Vp (pi := [10, 11]) (shl := shTape) (bl := 0) (As := []) (Al := []) (st := []) (st' := [.int r84]) (h' := k_ap [(0, .inl (3, c0_3)), (1, .inr (.inr (.inl a1))), (2, .inr (.inr (.inl a2))), (10, .inl (3, c10_3)), (10, .inl (4, c10_4)), (10, .inl (5, c10_5)), (10, .inl (6, c10_6))] (shTapsTape, I, L, Rf)) C hR ⟨Nat.zero_le _, Nat.zero_le _⟩ mv_X8_good lk_X9_53 dX9_read_84 (rfl : 84 + 3 = 87) rfl rfl ck_shTapsTape_shTape_10 rfl rfl (c_X8_good X.l u (k_pl [10, 11] shTape (k_ap [(0, .inl (3, c0_3)), (1, .inr (.inr (.inl a1))), (2, .inr (.inr (.inl a2))), (10, .inl (3, c10_3)), (10, .inl (4, c10_4)), (10, .inl (5, c10_5)), (10, .inl (6, c10_6))] (shTapsTape, I, L, Rf))) rfl rfl q84) rfl (fun _ => rfl) rfl (fun _ => rfl) rfl rfl rfl rfl rfl ?_
  refine r_if_eq (tgt := 110) C dX9_read_87 (by decide) (rfl : 87 + 3 = 90) (fun c87 => ?_) (fun c87 => ?_)
  · have h := k_t c87 h
    cases h
    exact r_vret C hr dX9_read_110
  · have h := k_f c87 h
    refine r_aload_n C dX9_read_90 (rfl : 90 + 1 = 91) rfl ?_
    refine r_getR (q := 2) C dX9_read_91 (rfl : 91 + 3 = 94) fl_X9_15 rfl rfl ?_
    refine r_iconst (v := (0 : Int32)) C dX9_read_94 (rfl : 94 + 1 = 95) rfl ?_
    refine r_aload_n C dX9_read_95 (rfl : 95 + 1 = 96) rfl ?_
    refine r_getR (q := 1) C dX9_read_96 (rfl : 96 + 3 = 99) fl_X9_9 rfl rfl ?_
    refine r_iconst (v := (0 : Int32)) C dX9_read_99 (rfl : 99 + 1 = 100) rfl ?_
    refine r_bipush (v := (8 : Int32)) C dX9_read_100 (rfl : 100 + 2 = 102) rfl ?_
    refine r_acopy (f := a2) (g := a1) (us' := [(0, .inl (3, c0_3)), (1, .inr (.inr (.inl (va_cpy a2 a1 0 0 8)))), (2, .inr (.inr (.inl a2))), (10, .inl (3, c10_3)), (10, .inl (4, c10_4)), (10, .inl (5, c10_5)), (10, .inl (6, c10_6))]) C hR dX9_read_102 (rfl : 102 + 3 = 105) lm_X9_56 rfl rfl rfl rfl (by decide) (by decide) (by decide) (by decide) (by decide) ds_X9_read rfl rfl rfl rfl rfl ?_
    refine r_aload_n C dX9_read_105 (rfl : 105 + 1 = 106) rfl ?_
    refine r_iload_n C dX9_read_106 (rfl : 106 + 1 = 107) rfl ?_
    refine p_I (us' := [(0, .inl (3, v2)), (1, .inr (.inr (.inl (va_cpy a2 a1 0 0 8)))), (2, .inr (.inr (.inl a2))), (10, .inl (3, c10_3)), (10, .inl (4, c10_4)), (10, .inl (5, c10_5)), (10, .inl (6, c10_6))]) C dX9_read_107 (rfl : 107 + 3 = 110) fp_X9_28 rfl rfl ds_X9_read rfl rfl rfl ?_
    cases h
    exact r_vret C hr dX9_read_110
set_option maxHeartbeats 400000 in
set_option maxRecDepth 100000 in
theorem sX9_read_12 (u : Nat) {X : k_X} {ad : Nat → Nat} (C : k_C X cX9_read RX9 5 ad) (hr : X.meth.sig.returnType = none) (hR : X.R.frames = 2 ∧ X.R.locals = 45) {I : Nat → Nat → Int32} {L : Nat → Nat → Int64} {Rf : Nat → Nat → Option Nat} {c10_2 : Int32} (ec10_2 : I 10 2 = c10_2) {a11 : (Nat → Int32)} (ea11 : I 11 = a11) {out : Int32 × (Nat → Int32) × (Nat → Int32) × Int32 × Int32 × Int32 × Int32} : ∀ (n : Nat) (c0_3 : Int32) (a1 : (Nat → Int32)) (a2 : (Nat → Int32)) (c10_3 : Int32) (c10_4 : Int32) (c10_5 : Int32) (c10_6 : Int32) (v2 : Int32) (v3 : Int32), bX9_read_12 u c10_2 a11 n c0_3 a1 a2 c10_3 c10_4 c10_5 c10_6 v2 v3 = some out → k_W X 5 0 0 (k_Q X ad none (k_ap [(0, .inl (3, out.1)), (1, .inr (.inr (.inl out.2.1))), (2, .inr (.inr (.inl out.2.2.1))), (10, .inl (3, out.2.2.2.1)), (10, .inl (4, out.2.2.2.2.1)), (10, .inl (5, out.2.2.2.2.2.1)), (10, .inl (6, out.2.2.2.2.2.2))] (shTapsTape, I, L, Rf))) ad (k_ap [(0, .inl (3, c0_3)), (1, .inr (.inr (.inl a1))), (2, .inr (.inr (.inl a2))), (10, .inl (3, c10_3)), (10, .inl (4, c10_4)), (10, .inl (5, c10_5)), (10, .inl (6, c10_6))] (shTapsTape, I, L, Rf)) 12 [some (.ref 0), some (.ref 10), some (.int v2), some (.int v3), none] [] := by
  intro n
  induction n with
  | zero => intro c0_3 a1 a2 c10_3 c10_4 c10_5 c10_6 v2 v3 h; cases h
  | succ n ih =>
    intro c0_3 a1 a2 c10_3 c10_4 c10_5 c10_6 v2 v3 h
    refine r_iload_n C dX9_read_12 (rfl : 12 + 1 = 13) rfl ?_
    refine r_bipush (v := (100 : Int32)) C dX9_read_13 (rfl : 13 + 2 = 15) rfl ?_
    refine r_icmp_ge (tgt := 83) C dX9_read_15 (by decide) (rfl : 15 + 3 = 18) (fun c15 => ?_) (fun c15 => ?_)
    · have h := k_t c15 h
      refine k_mask [true, true, true, false, false] ?_
      exact sX9_read_83 u C hr hR ec10_2 ea11 c0_3 a1 a2 c10_3 c10_4 c10_5 c10_6 v2 h
    · have h := k_f c15 h
      refine r_aload_n C dX9_read_18 (rfl : 18 + 1 = 19) rfl ?_
      obtain ⟨r19, q19, h⟩ := k_b_of h
      refine d_Vp (pi := [10, 11]) (shl := shTape) (bl := 0) (As := []) (Al := []) (st := []) (st' := [.int r19.1]) (h' := k_ap [(0, .inl (3, c0_3)), (1, .inr (.inr (.inl a1))), (2, .inr (.inr (.inl a2))), (10, .inl (3, r19.2)), (10, .inl (4, c10_4)), (10, .inl (5, c10_5)), (10, .inl (6, c10_6))] (shTapsTape, I, L, Rf)) C hR ⟨Nat.zero_le _, Nat.zero_le _⟩ mv_X8_more lk_X9_32 dX9_read_19 (rfl : 19 + 3 = 22) rfl rfl ck_shTapsTape_shTape_10 rfl rfl (c_X8_more X.l u (k_pl [10, 11] shTape (k_ap [(0, .inl (3, c0_3)), (1, .inr (.inr (.inl a1))), (2, .inr (.inr (.inl a2))), (10, .inl (3, c10_3)), (10, .inl (4, c10_4)), (10, .inl (5, c10_5)), (10, .inl (6, c10_6))] (shTapsTape, I, L, Rf))) rfl ec10_2 rfl rfl ea11 q19) rfl (fun _ => rfl) rfl (fun _ => rfl) rfl rfl rfl (k_jn (us' := [(0, .inl (3, c0_3)), (1, .inr (.inr (.inl a1))), (2, .inr (.inr (.inl a2))), (10, .inl (3, r19.2)), (10, .inl (4, c10_4)), (10, .inl (5, c10_5)), (10, .inl (6, c10_6))]) ds_X9_read rfl rfl rfl) rfl ?_
      refine r_if_eq (tgt := 83) C dX9_read_22 (by decide) (rfl : 22 + 3 = 25) (fun c22 => ?_) (fun c22 => ?_)
      · have h := k_t c22 h
        refine k_mask [true, true, true, false, false] ?_
        exact sX9_read_83 u C hr hR ec10_2 ea11 c0_3 a1 a2 r19.2 c10_4 c10_5 c10_6 v2 h
      · have h := k_f c22 h
        refine r_aload_n C dX9_read_25 (rfl : 25 + 1 = 26) rfl ?_
        refine r_iconst (v := (0 : Int32)) C dX9_read_26 (rfl : 26 + 1 = 27) rfl ?_
        refine r_bipush (v := (7 : Int32)) C dX9_read_27 (rfl : 27 + 2 = 29) rfl ?_
        obtain ⟨r29, q29, h⟩ := k_b_of h
        refine d_Vp (pi := [10, 11]) (shl := shTape) (bl := 0) (As := [.int (0 : Int32), .int (7 : Int32)]) (Al := [.int (0 : Int32), .int (7 : Int32)]) (st := []) (st' := [.int r29.1]) (h' := k_ap [(0, .inl (3, c0_3)), (1, .inr (.inr (.inl a1))), (2, .inr (.inr (.inl a2))), (10, .inl (3, r29.2.1)), (10, .inl (4, r29.2.2.1)), (10, .inl (5, r29.2.2.2.1)), (10, .inl (6, r29.2.2.2.2))] (shTapsTape, I, L, Rf)) C hR ⟨Nat.zero_le _, Nat.zero_le _⟩ mv_X8_number lk_X9_38 dX9_read_29 (rfl : 29 + 3 = 32) rfl rfl ck_shTapsTape_shTape_10 rfl rfl (c_X8_number X.l u (k_pl [10, 11] shTape (k_ap [(0, .inl (3, c0_3)), (1, .inr (.inr (.inl a1))), (2, .inr (.inr (.inl a2))), (10, .inl (3, r19.2)), (10, .inl (4, c10_4)), (10, .inl (5, c10_5)), (10, .inl (6, c10_6))] (shTapsTape, I, L, Rf))) rfl ec10_2 rfl rfl rfl rfl ea11 q29) rfl (fun _ => rfl) rfl (fun _ => rfl) rfl rfl rfl (k_jn (us' := [(0, .inl (3, c0_3)), (1, .inr (.inr (.inl a1))), (2, .inr (.inr (.inl a2))), (10, .inl (3, r29.2.1)), (10, .inl (4, r29.2.2.1)), (10, .inl (5, r29.2.2.2.1)), (10, .inl (6, r29.2.2.2.2))]) ds_X9_read rfl rfl rfl) rfl ?_
        refine r_istore C dX9_read_32 (rfl : 32 + 2 = 34) (by decide) (Nat.le_of_ble_eq_true rfl) ?_
        show k_W _ _ _ _ _ _ _ _ [some (.ref 0), some (.ref 10), some (.int v2), some (.int v3), some (.int r29.1)] _
        refine r_aload_n C dX9_read_34 (rfl : 34 + 1 = 35) rfl ?_
        refine r_getR (q := 2) C dX9_read_35 (rfl : 35 + 3 = 38) fl_X9_15 rfl rfl ?_
        refine r_iload C dX9_read_38 (rfl : 38 + 2 = 40) rfl ?_
        obtain ⟨hi40, h⟩ := k_i_of h
        refine a_i (j := (r29.1).toNatClampNeg) (f := a2) C dX9_read_40 (rfl : 40 + 1 = 41) rfl rfl hi40 rfl ?_
        refine r_iconst (v := (-1 : Int32)) C dX9_read_41 (rfl : 41 + 1 = 42) rfl ?_
        refine r_icmp_eq (tgt := 54) C dX9_read_42 (by decide) (rfl : 42 + 3 = 45) (fun c42 => ?_) (fun c42 => ?_)
        · have h := k_t c42 h
          refine k_mask [true, true, true, true, true] ?_
          exact sX9_read_54 u C hr hR ec10_2 ea11 ih c0_3 a1 a2 r29.2.1 r29.2.2.1 r29.2.2.2.1 r29.2.2.2.2 v2 v3 r29.1 h
        · have h := k_f c42 h
          refine r_aload_n C dX9_read_45 (rfl : 45 + 1 = 46) rfl ?_
          refine r_iconst (v := (2 : Int32)) C dX9_read_46 (rfl : 46 + 1 = 47) rfl ?_
          refine r_aload_n C dX9_read_47 (rfl : 47 + 1 = 48) rfl ?_
          refine r_getI (v := r29.2.2.1) C dX9_read_48 (rfl : 48 + 3 = 51) fl_X9_42 rfl rfl rfl ?_
          obtain ⟨r51, q51, h⟩ := k_b_of h
          refine d_Vp (pi := [10, 11]) (shl := shTape) (bl := 0) (As := [.int (2 : Int32), .int r29.2.2.1]) (Al := [.int (2 : Int32), .int r29.2.2.1]) (st := []) (st' := []) (h' := k_ap [(0, .inl (3, c0_3)), (1, .inr (.inr (.inl a1))), (2, .inr (.inr (.inl a2))), (10, .inl (3, r29.2.1)), (10, .inl (4, r29.2.2.1)), (10, .inl (5, r51.1)), (10, .inl (6, r51.2))] (shTapsTape, I, L, Rf)) C hR ⟨Nat.zero_le _, Nat.zero_le _⟩ mv_X8_fail lk_X9_45 dX9_read_51 (rfl : 51 + 3 = 54) rfl rfl ck_shTapsTape_shTape_10 rfl rfl (c_X8_fail X.l u (k_pl [10, 11] shTape (k_ap [(0, .inl (3, c0_3)), (1, .inr (.inr (.inl a1))), (2, .inr (.inr (.inl a2))), (10, .inl (3, r29.2.1)), (10, .inl (4, r29.2.2.1)), (10, .inl (5, r29.2.2.2.1)), (10, .inl (6, r29.2.2.2.2))] (shTapsTape, I, L, Rf))) rfl rfl rfl q51) rfl (fun _ => rfl) rfl (fun _ => rfl) rfl rfl rfl (k_jn (us' := [(0, .inl (3, c0_3)), (1, .inr (.inr (.inl a1))), (2, .inr (.inr (.inl a2))), (10, .inl (3, r29.2.1)), (10, .inl (4, r29.2.2.1)), (10, .inl (5, r51.1)), (10, .inl (6, r51.2))]) ds_X9_read rfl rfl rfl) rfl ?_
          refine k_mask [true, true, true, true, true] ?_
          exact sX9_read_54 u C hr hR ec10_2 ea11 ih c0_3 a1 a2 r29.2.1 r29.2.2.1 r51.1 r51.2 v2 v3 r29.1 h
set_option maxHeartbeats 400000 in
set_option maxRecDepth 100000 in
theorem sX9_read_0 (u : Nat) {X : k_X} {ad : Nat → Nat} (C : k_C X cX9_read RX9 5 ad) (hr : X.meth.sig.returnType = none) (hR : X.R.frames = 2 ∧ X.R.locals = 45) {I : Nat → Nat → Int32} {L : Nat → Nat → Int64} {Rf : Nat → Nat → Option Nat} {c10_2 : Int32} (ec10_2 : I 10 2 = c10_2) {a11 : (Nat → Int32)} (ea11 : I 11 = a11) {out : Int32 × (Nat → Int32) × (Nat → Int32) × Int32 × Int32 × Int32 × Int32} : ∀ (c0_3 : Int32) (a1 : (Nat → Int32)) (a2 : (Nat → Int32)) (c10_3 : Int32) (c10_4 : Int32) (c10_5 : Int32) (c10_6 : Int32), bX9_read_0 u c10_2 a11 c0_3 a1 a2 c10_3 c10_4 c10_5 c10_6 = some out → k_W X 5 0 0 (k_Q X ad none (k_ap [(0, .inl (3, out.1)), (1, .inr (.inr (.inl out.2.1))), (2, .inr (.inr (.inl out.2.2.1))), (10, .inl (3, out.2.2.2.1)), (10, .inl (4, out.2.2.2.2.1)), (10, .inl (5, out.2.2.2.2.2.1)), (10, .inl (6, out.2.2.2.2.2.2))] (shTapsTape, I, L, Rf))) ad (k_ap [(0, .inl (3, c0_3)), (1, .inr (.inr (.inl a1))), (2, .inr (.inr (.inl a2))), (10, .inl (3, c10_3)), (10, .inl (4, c10_4)), (10, .inl (5, c10_5)), (10, .inl (6, c10_6))] (shTapsTape, I, L, Rf)) 0 [some (.ref 0), some (.ref 10), none, none, none] [] := by
  intro c0_3 a1 a2 c10_3 c10_4 c10_5 c10_6 h
  unfold bX9_read_0 at h
  refine r_aload_n C dX9_read_0 (rfl : 0 + 1 = 1) rfl ?_
  refine r_getR (q := 2) C dX9_read_1 (rfl : 1 + 3 = 4) fl_X9_15 rfl rfl ?_
  refine r_iconst (v := (-1 : Int32)) C dX9_read_4 (rfl : 4 + 1 = 5) rfl ?_
  obtain ⟨r5, q5, h⟩ := k_b_of h
  refine d_Sp (pi := [2]) (shl := (shArr 8)) (As := [.ref 2, .int (-1 : Int32)]) (Al := [.ref 0, .int (-1 : Int32)]) (st := []) (st' := []) (h' := k_ap [(0, .inl (3, c0_3)), (1, .inr (.inr (.inl a1))), (2, .inr (.inr (.inl r5))), (10, .inl (3, c10_3)), (10, .inl (4, c10_4)), (10, .inl (5, c10_5)), (10, .inl (6, c10_6))] (shTapsTape, I, L, Rf)) C hR ⟨Nat.zero_le _, Nat.zero_le _⟩ ms_J7_fill_53178 lk_X9_22 dX9_read_5 (rfl : 5 + 3 = 8) rfl rfl ck_shTapsTape_shArr_2_8 (c_J7_fill_53178 X.l u 8 (k_pl [2] (shArr 8) (k_ap [(0, .inl (3, c0_3)), (1, .inr (.inr (.inl a1))), (2, .inr (.inr (.inl a2))), (10, .inl (3, c10_3)), (10, .inl (4, c10_4)), (10, .inl (5, c10_5)), (10, .inl (6, c10_6))] (shTapsTape, I, L, Rf))) rfl rfl q5) (fun _ => rfl) rfl (fun _ => rfl) rfl rfl rfl (k_jn (us' := [(0, .inl (3, c0_3)), (1, .inr (.inr (.inl a1))), (2, .inr (.inr (.inl r5))), (10, .inl (3, c10_3)), (10, .inl (4, c10_4)), (10, .inl (5, c10_5)), (10, .inl (6, c10_6))]) ds_X9_read rfl rfl rfl) rfl ?_
  refine r_iconst (v := (0 : Int32)) C dX9_read_8 (rfl : 8 + 1 = 9) rfl ?_
  refine r_istore_n C dX9_read_9 (rfl : 9 + 1 = 10) (by decide) (Nat.le_of_ble_eq_true rfl) ?_
  show k_W _ _ _ _ _ _ _ _ [some (.ref 0), some (.ref 10), some (.int (0 : Int32)), none, none] _
  refine r_iconst (v := (0 : Int32)) C dX9_read_10 (rfl : 10 + 1 = 11) rfl ?_
  refine r_istore_n C dX9_read_11 (rfl : 11 + 1 = 12) (by decide) (Nat.le_of_ble_eq_true rfl) ?_
  show k_W _ _ _ _ _ _ _ _ [some (.ref 0), some (.ref 10), some (.int (0 : Int32)), some (.int (0 : Int32)), none] _
  refine k_mask [true, true, true, true, false] ?_
  exact sX9_read_12 u C hr hR ec10_2 ea11 u c0_3 a1 r5 c10_3 c10_4 c10_5 c10_6 (0 : Int32) (0 : Int32) h
set_option maxHeartbeats 400000 in
set_option maxRecDepth 100000 in
theorem c_X9_read (l : Launch) (u : Nat) (h : k_H) (hsh : h.1 = shTapsTape) {c0_3 : Int32} (ec0_3 : h.2.1 0 3 = c0_3) {a1 : (Nat → Int32)} (ea1 : h.2.1 1 = a1) {a2 : (Nat → Int32)} (ea2 : h.2.1 2 = a2) {c10_2 : Int32} (ec10_2 : h.2.1 10 2 = c10_2) {c10_3 : Int32} (ec10_3 : h.2.1 10 3 = c10_3) {c10_4 : Int32} (ec10_4 : h.2.1 10 4 = c10_4) {c10_5 : Int32} (ec10_5 : h.2.1 10 5 = c10_5) {c10_6 : Int32} (ec10_6 : h.2.1 10 6 = c10_6) {a11 : (Nat → Int32)} (ea11 : h.2.1 11 = a11) {out : Int32 × (Nat → Int32) × (Nat → Int32) × Int32 × Int32 × Int32 × Int32} (hf : f_X9_read u c0_3 a1 a2 c10_2 c10_3 c10_4 c10_5 c10_6 a11 = some out) : k_CT l yX9_read cX9_read 5 none 2 45 [.ref 0, .ref 10] h none [(0, .inl (3, out.1)), (1, .inr (.inr (.inl out.2.1))), (2, .inr (.inr (.inl out.2.2.1))), (10, .inl (3, out.2.2.2.1)), (10, .inl (4, out.2.2.2.2.1)), (10, .inl (5, out.2.2.2.2.2.1)), (10, .inl (6, out.2.2.2.2.2.2))] := by
  obtain ⟨sh, I, L, Rf⟩ := h
  try dsimp only
  obtain rfl : sh = shTapsTape := hsh
  refine k_ofW (by decide) (Nat.le_of_ble_eq_true rfl) ?_
  intro X ad hl hR0 hr C
  have hR : X.R.frames = 2 ∧ X.R.locals = 45 := by rw [hR0]; exact ⟨rfl, rfl⟩
  have h := hf
  unfold f_X9_read at h
  refine k_start (us := [(0, .inl (3, c0_3)), (1, .inr (.inr (.inl a1))), (2, .inr (.inr (.inl a2))), (10, .inl (3, c10_3)), (10, .inl (4, c10_4)), (10, .inl (5, c10_5)), (10, .inl (6, c10_6))]) (k_ao_I ec0_3 (k_ao_A ea1 (k_ao_A ea2 (k_ao_I ec10_3 (k_ao_I ec10_4 (k_ao_I ec10_5 (k_ao_I ec10_6 k_ap_0))))))) ?_
  show k_W X 5 0 0 _ ad (k_ap [(0, .inl (3, c0_3)), (1, .inr (.inr (.inl a1))), (2, .inr (.inr (.inl a2))), (10, .inl (3, c10_3)), (10, .inl (4, c10_4)), (10, .inl (5, c10_5)), (10, .inl (6, c10_6))] (shTapsTape, I, L, Rf)) 0 [some (.ref 0), some (.ref 10), none, none, none] []
  refine k_mask [true, true, false, false, false] ?_
  exact sX9_read_0 u C hr hR ec10_2 ea11 c0_3 a1 a2 c10_3 c10_4 c10_5 c10_6 h
