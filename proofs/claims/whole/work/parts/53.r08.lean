/-! LullabyPit$Program.readAgain(LLullabyPit$Tape;LLullabyPit$Pit;II)V -/
theorem ds_X6_readAgain : k_ds [(0, 0, 3), (1, 2, 0), (2, 2, 0), (3, 2, 0), (4, 0, 3), (4, 0, 4), (4, 0, 5), (4, 0, 6)] = true := by decide +kernel
set_option maxHeartbeats 400000 in
set_option maxRecDepth 100000 in
theorem sX6_readAgain_0 (u : Nat) (g : Int32 → (Nat → Int32) → (Nat → Int32) → (Nat → Int32) → Int32 → Int32 → Int32 → Int32 → Int32 → (Nat → Int32) → Int32 → Int32 → Int32 → Option (Int32 × (Nat → Int32) × (Nat → Int32) × (Nat → Int32) × Int32 × Int32 × Int32 × Int32)) {fg ng : Nat} {X : k_X} {ad : Nat → Nat} (C : k_C X cX6_readAgain RX6 6 ad) (hr : X.meth.sig.returnType = none) (hR : X.R.frames = (fg + 2) ∧ X.R.locals = (ng + 45)) {I : Nat → Nat → Int32} {L : Nat → Nat → Int64} {Rf : Nat → Nat → Option Nat} (hg : H_X6_readSteps X.l g fg ng) {c4_2 : Int32} (ec4_2 : I 4 2 = c4_2) {a5 : (Nat → Int32)} (ea5 : I 5 = a5) {c6_0 : Int32} (ec6_0 : I 6 0 = c6_0) {c6_1 : Int32} (ec6_1 : I 6 1 = c6_1) {out : Int32 × (Nat → Int32) × (Nat → Int32) × (Nat → Int32) × Int32 × Int32 × Int32 × Int32} : ∀ (c0_3 : Int32) (a1 : (Nat → Int32)) (a2 : (Nat → Int32)) (a3 : (Nat → Int32)) (c4_3 : Int32) (c4_4 : Int32) (c4_5 : Int32) (c4_6 : Int32) (v3 : Int32) (v4 : Int32), bX6_readAgain_0 u g c4_2 a5 c6_0 c6_1 c0_3 a1 a2 a3 c4_3 c4_4 c4_5 c4_6 v3 v4 = some out → k_W X 6 0 0 (k_Q X ad none (k_ap [(0, .inl (3, out.1)), (1, .inr (.inr (.inl out.2.1))), (2, .inr (.inr (.inl out.2.2.1))), (3, .inr (.inr (.inl out.2.2.2.1))), (4, .inl (3, out.2.2.2.2.1)), (4, .inl (4, out.2.2.2.2.2.1)), (4, .inl (5, out.2.2.2.2.2.2.1)), (4, .inl (6, out.2.2.2.2.2.2.2))] (shProg, I, L, Rf))) ad (k_ap [(0, .inl (3, c0_3)), (1, .inr (.inr (.inl a1))), (2, .inr (.inr (.inl a2))), (3, .inr (.inr (.inl a3))), (4, .inl (3, c4_3)), (4, .inl (4, c4_4)), (4, .inl (5, c4_5)), (4, .inl (6, c4_6))] (shProg, I, L, Rf)) 0 [some (.ref 0), some (.ref 4), some (.ref 6), some (.int v3), some (.int v4), none] [] := by
  intro c0_3 a1 a2 a3 c4_3 c4_4 c4_5 c4_6 v3 v4 h
  unfold bX6_readAgain_0 at h
  refine r_iload_n C dX6_readAgain_0 (rfl : 0 + 1 = 1) rfl ?_
  refine r_bipush (v := (6 : Int32)) C dX6_readAgain_1 (rfl : 1 + 2 = 3) rfl ?_
  refine r_icmp_lt (tgt := 16) C dX6_readAgain_3 (by decide) (rfl : 3 + 3 = 6) (fun c3 => ?_) (fun c3 => ?_)
  · have h := k_t c3 h
    refine r_aload_n C dX6_readAgain_16 (rfl : 16 + 1 = 17) rfl ?_
    refine r_iconst (v := (0 : Int32)) C dX6_readAgain_17 (rfl : 17 + 1 = 18) rfl ?_
    refine r_bipush (v := (20 : Int32)) C dX6_readAgain_18 (rfl : 18 + 2 = 20) rfl ?_
    obtain ⟨r20, q20, h⟩ := k_b_of h
    refine d_Vp (pi := [4, 5]) (shl := shTape) (bl := 0) (As := [.int (0 : Int32), .int (20 : Int32)]) (Al := [.int (0 : Int32), .int (20 : Int32)]) (st := []) (st' := [.int r20.1]) (h' := k_ap [(0, .inl (3, c0_3)), (1, .inr (.inr (.inl a1))), (2, .inr (.inr (.inl a2))), (3, .inr (.inr (.inl a3))), (4, .inl (3, r20.2.1)), (4, .inl (4, r20.2.2.1)), (4, .inl (5, r20.2.2.2.1)), (4, .inl (6, r20.2.2.2.2))] (shProg, I, L, Rf)) C hR ⟨Nat.zero_le _, Nat.zero_le _⟩ mv_X8_number lk_X6_69 dX6_readAgain_20 (rfl : 20 + 3 = 23) (k_bl (by omega)) (k_bl (by omega)) ck_shProg_shTape_4 rfl rfl (c_X8_number X.l u (k_pl [4, 5] shTape (k_ap [(0, .inl (3, c0_3)), (1, .inr (.inr (.inl a1))), (2, .inr (.inr (.inl a2))), (3, .inr (.inr (.inl a3))), (4, .inl (3, c4_3)), (4, .inl (4, c4_4)), (4, .inl (5, c4_5)), (4, .inl (6, c4_6))] (shProg, I, L, Rf))) rfl ec4_2 rfl rfl rfl rfl ea5 q20) rfl (fun _ => rfl) rfl (fun _ => rfl) rfl rfl rfl (k_jn (us' := [(0, .inl (3, c0_3)), (1, .inr (.inr (.inl a1))), (2, .inr (.inr (.inl a2))), (3, .inr (.inr (.inl a3))), (4, .inl (3, r20.2.1)), (4, .inl (4, r20.2.2.1)), (4, .inl (5, r20.2.2.2.1)), (4, .inl (6, r20.2.2.2.2))]) ds_X6_readAgain rfl rfl rfl) rfl ?_
    refine r_istore C dX6_readAgain_23 (rfl : 23 + 2 = 25) (by decide) (Nat.le_of_ble_eq_true rfl) ?_
    show k_W _ _ _ _ _ _ _ _ [some (.ref 0), some (.ref 4), some (.ref 6), some (.int v3), some (.int v4), some (.int r20.1)] _
    refine r_aload_n C dX6_readAgain_25 (rfl : 25 + 1 = 26) rfl ?_
    refine r_bipush (v := (91 : Int32)) C dX6_readAgain_26 (rfl : 26 + 2 = 28) rfl ?_
    obtain ⟨r28, q28, h⟩ := k_b_of h
    refine d_Vp (pi := [4, 5]) (shl := shTape) (bl := 0) (As := [.int (91 : Int32)]) (Al := [.int (91 : Int32)]) (st := []) (st' := []) (h' := k_ap [(0, .inl (3, c0_3)), (1, .inr (.inr (.inl a1))), (2, .inr (.inr (.inl a2))), (3, .inr (.inr (.inl a3))), (4, .inl (3, r28.1)), (4, .inl (4, r20.2.2.1)), (4, .inl (5, r28.2.1)), (4, .inl (6, r28.2.2))] (shProg, I, L, Rf)) C hR ⟨Nat.zero_le _, Nat.zero_le _⟩ mv_X8_sign lk_X6_51 dX6_readAgain_28 (rfl : 28 + 3 = 31) (k_bl (by omega)) (k_bl (by omega)) ck_shProg_shTape_4 rfl rfl (c_X8_sign X.l u (k_pl [4, 5] shTape (k_ap [(0, .inl (3, c0_3)), (1, .inr (.inr (.inl a1))), (2, .inr (.inr (.inl a2))), (3, .inr (.inr (.inl a3))), (4, .inl (3, r20.2.1)), (4, .inl (4, r20.2.2.1)), (4, .inl (5, r20.2.2.2.1)), (4, .inl (6, r20.2.2.2.2))] (shProg, I, L, Rf))) rfl ec4_2 rfl rfl rfl ea5 q28) rfl (fun _ => rfl) rfl (fun _ => rfl) rfl rfl rfl (k_jn (us' := [(0, .inl (3, c0_3)), (1, .inr (.inr (.inl a1))), (2, .inr (.inr (.inl a2))), (3, .inr (.inr (.inl a3))), (4, .inl (3, r28.1)), (4, .inl (4, r20.2.2.1)), (4, .inl (5, r28.2.1)), (4, .inl (6, r28.2.2))]) ds_X6_readAgain rfl rfl rfl) rfl ?_
    refine r_aload_n C dX6_readAgain_31 (rfl : 31 + 1 = 32) rfl ?_
    refine r_aload_n C dX6_readAgain_32 (rfl : 32 + 1 = 33) rfl ?_
    refine r_aload_n C dX6_readAgain_33 (rfl : 33 + 1 = 34) rfl ?_
    refine r_iload_n C dX6_readAgain_34 (rfl : 34 + 1 = 35) rfl ?_
    refine r_iconst (v := (1 : Int32)) C dX6_readAgain_35 (rfl : 35 + 1 = 36) rfl ?_
    refine r_iadd C dX6_readAgain_36 (rfl : 36 + 1 = 37) ?_
    obtain ⟨r37, q37, h⟩ := k_b_of h
    refine d_V (As := [.ref 4, .ref 6, .int (v3 + (1 : Int32))]) (st := []) (st' := []) (h' := k_ap [(0, .inl (3, r37.1)), (1, .inr (.inr (.inl r37.2.1))), (2, .inr (.inr (.inl r37.2.2.1))), (3, .inr (.inr (.inl r37.2.2.2.1))), (4, .inl (3, r37.2.2.2.2.1)), (4, .inl (4, r37.2.2.2.2.2.1)), (4, .inl (5, r37.2.2.2.2.2.2.1)), (4, .inl (6, r37.2.2.2.2.2.2.2))] (shProg, I, L, Rf)) C hR ⟨Nat.zero_le _, Nat.zero_le _⟩ mv_X6_readSteps lk_X6_34 dX6_readAgain_37 (rfl : 37 + 3 = 40) (k_bl (by omega)) (k_bl (by omega)) rfl rfl (hg (k_ap [(0, .inl (3, c0_3)), (1, .inr (.inr (.inl a1))), (2, .inr (.inr (.inl a2))), (3, .inr (.inr (.inl a3))), (4, .inl (3, r28.1)), (4, .inl (4, r20.2.2.1)), (4, .inl (5, r28.2.1)), (4, .inl (6, r28.2.2))] (shProg, I, L, Rf)) rfl rfl rfl rfl rfl ec4_2 rfl rfl rfl rfl ea5 ec6_0 ec6_1 q37) rfl rfl rfl (k_jn (us' := [(0, .inl (3, r37.1)), (1, .inr (.inr (.inl r37.2.1))), (2, .inr (.inr (.inl r37.2.2.1))), (3, .inr (.inr (.inl r37.2.2.2.1))), (4, .inl (3, r37.2.2.2.2.1)), (4, .inl (4, r37.2.2.2.2.2.1)), (4, .inl (5, r37.2.2.2.2.2.2.1)), (4, .inl (6, r37.2.2.2.2.2.2.2))]) ds_X6_readAgain rfl rfl rfl) rfl ?_
    refine r_aload_n C dX6_readAgain_40 (rfl : 40 + 1 = 41) rfl ?_
    refine r_bipush (v := (93 : Int32)) C dX6_readAgain_41 (rfl : 41 + 2 = 43) rfl ?_
    obtain ⟨r43, q43, h⟩ := k_b_of h
    refine d_Vp (pi := [4, 5]) (shl := shTape) (bl := 0) (As := [.int (93 : Int32)]) (Al := [.int (93 : Int32)]) (st := []) (st' := []) (h' := k_ap [(0, .inl (3, r37.1)), (1, .inr (.inr (.inl r37.2.1))), (2, .inr (.inr (.inl r37.2.2.1))), (3, .inr (.inr (.inl r37.2.2.2.1))), (4, .inl (3, r43.1)), (4, .inl (4, r37.2.2.2.2.2.1)), (4, .inl (5, r43.2.1)), (4, .inl (6, r43.2.2))] (shProg, I, L, Rf)) C hR ⟨Nat.zero_le _, Nat.zero_le _⟩ mv_X8_sign lk_X6_51 dX6_readAgain_43 (rfl : 43 + 3 = 46) (k_bl (by omega)) (k_bl (by omega)) ck_shProg_shTape_4 rfl rfl (c_X8_sign X.l u (k_pl [4, 5] shTape (k_ap [(0, .inl (3, r37.1)), (1, .inr (.inr (.inl r37.2.1))), (2, .inr (.inr (.inl r37.2.2.1))), (3, .inr (.inr (.inl r37.2.2.2.1))), (4, .inl (3, r37.2.2.2.2.1)), (4, .inl (4, r37.2.2.2.2.2.1)), (4, .inl (5, r37.2.2.2.2.2.2.1)), (4, .inl (6, r37.2.2.2.2.2.2.2))] (shProg, I, L, Rf))) rfl ec4_2 rfl rfl rfl ea5 q43) rfl (fun _ => rfl) rfl (fun _ => rfl) rfl rfl rfl (k_jn (us' := [(0, .inl (3, r37.1)), (1, .inr (.inr (.inl r37.2.1))), (2, .inr (.inr (.inl r37.2.2.1))), (3, .inr (.inr (.inl r37.2.2.2.1))), (4, .inl (3, r43.1)), (4, .inl (4, r37.2.2.2.2.2.1)), (4, .inl (5, r43.2.1)), (4, .inl (6, r43.2.2))]) ds_X6_readAgain rfl rfl rfl) rfl ?_
    refine r_aload_n C dX6_readAgain_46 (rfl : 46 + 1 = 47) rfl ?_
    refine r_getR (q := 2) C dX6_readAgain_47 (rfl : 47 + 3 = 50) fl_X6_15 rfl rfl ?_
    refine r_iload C dX6_readAgain_50 (rfl : 50 + 2 = 52) rfl ?_
    refine r_iload C dX6_readAgain_52 (rfl : 52 + 2 = 54) rfl ?_
    obtain ⟨hi54, h⟩ := k_i_of h
    refine s_i (j := (v4).toNatClampNeg) (f := r37.2.2.1) (us' := [(0, .inl (3, r37.1)), (1, .inr (.inr (.inl r37.2.1))), (2, .inr (.inr (.inl (upd r37.2.2.1 ((v4).toNatClampNeg) r20.1)))), (3, .inr (.inr (.inl r37.2.2.2.1))), (4, .inl (3, r43.1)), (4, .inl (4, r37.2.2.2.2.2.1)), (4, .inl (5, r43.2.1)), (4, .inl (6, r43.2.2))]) C dX6_readAgain_54 (rfl : 54 + 1 = 55) rfl rfl hi54 rfl ds_X6_readAgain rfl rfl rfl ?_
    refine r_aload_n C dX6_readAgain_55 (rfl : 55 + 1 = 56) rfl ?_
    refine r_getR (q := 3) C dX6_readAgain_56 (rfl : 56 + 3 = 59) fl_X6_18 rfl rfl ?_
    refine r_iload C dX6_readAgain_59 (rfl : 59 + 2 = 61) rfl ?_
    refine r_aload_n C dX6_readAgain_61 (rfl : 61 + 1 = 62) rfl ?_
    refine r_getI (v := r37.1) C dX6_readAgain_62 (rfl : 62 + 3 = 65) fl_X6_21 rfl rfl rfl ?_
    refine r_iload C dX6_readAgain_65 (rfl : 65 + 2 = 67) rfl ?_
    refine r_isub C dX6_readAgain_67 (rfl : 67 + 1 = 68) ?_
    refine r_iconst (v := (1 : Int32)) C dX6_readAgain_68 (rfl : 68 + 1 = 69) rfl ?_
    refine r_isub C dX6_readAgain_69 (rfl : 69 + 1 = 70) ?_
    obtain ⟨hi70, h⟩ := k_i_of h
    refine s_i (j := (v4).toNatClampNeg) (f := r37.2.2.2.1) (us' := [(0, .inl (3, r37.1)), (1, .inr (.inr (.inl r37.2.1))), (2, .inr (.inr (.inl (upd r37.2.2.1 ((v4).toNatClampNeg) r20.1)))), (3, .inr (.inr (.inl (upd r37.2.2.2.1 ((v4).toNatClampNeg) ((r37.1 - v4) - (1 : Int32)))))), (4, .inl (3, r43.1)), (4, .inl (4, r37.2.2.2.2.2.1)), (4, .inl (5, r43.2.1)), (4, .inl (6, r43.2.2))]) C dX6_readAgain_70 (rfl : 70 + 1 = 71) rfl rfl hi70 rfl ds_X6_readAgain rfl rfl rfl ?_
    cases h
    exact r_vret C hr dX6_readAgain_71
  · have h := k_f c3 h
    refine r_aload_n C dX6_readAgain_6 (rfl : 6 + 1 = 7) rfl ?_
    refine r_iconst (v := (3 : Int32)) C dX6_readAgain_7 (rfl : 7 + 1 = 8) rfl ?_
    refine r_aload_n C dX6_readAgain_8 (rfl : 8 + 1 = 9) rfl ?_
    refine r_getI (v := c4_4) C dX6_readAgain_9 (rfl : 9 + 3 = 12) fl_X6_80 rfl rfl rfl ?_
    obtain ⟨r12, q12, h⟩ := k_b_of h
    refine d_Vp (pi := [4, 5]) (shl := shTape) (bl := 0) (As := [.int (3 : Int32), .int c4_4]) (Al := [.int (3 : Int32), .int c4_4]) (st := []) (st' := []) (h' := k_ap [(0, .inl (3, c0_3)), (1, .inr (.inr (.inl a1))), (2, .inr (.inr (.inl a2))), (3, .inr (.inr (.inl a3))), (4, .inl (3, c4_3)), (4, .inl (4, c4_4)), (4, .inl (5, r12.1)), (4, .inl (6, r12.2))] (shProg, I, L, Rf)) C hR ⟨Nat.zero_le _, Nat.zero_le _⟩ mv_X8_fail lk_X6_83 dX6_readAgain_12 (rfl : 12 + 3 = 15) (k_bl (by omega)) (k_bl (by omega)) ck_shProg_shTape_4 rfl rfl (c_X8_fail X.l u (k_pl [4, 5] shTape (k_ap [(0, .inl (3, c0_3)), (1, .inr (.inr (.inl a1))), (2, .inr (.inr (.inl a2))), (3, .inr (.inr (.inl a3))), (4, .inl (3, c4_3)), (4, .inl (4, c4_4)), (4, .inl (5, c4_5)), (4, .inl (6, c4_6))] (shProg, I, L, Rf))) rfl rfl rfl q12) rfl (fun _ => rfl) rfl (fun _ => rfl) rfl rfl rfl (k_jn (us' := [(0, .inl (3, c0_3)), (1, .inr (.inr (.inl a1))), (2, .inr (.inr (.inl a2))), (3, .inr (.inr (.inl a3))), (4, .inl (3, c4_3)), (4, .inl (4, c4_4)), (4, .inl (5, r12.1)), (4, .inl (6, r12.2))]) ds_X6_readAgain rfl rfl rfl) rfl ?_
    cases h
    exact r_vret C hr dX6_readAgain_15
set_option maxHeartbeats 400000 in
set_option maxRecDepth 100000 in
theorem c_X6_readAgain (l : Launch) (u : Nat) (g : Int32 → (Nat → Int32) → (Nat → Int32) → (Nat → Int32) → Int32 → Int32 → Int32 → Int32 → Int32 → (Nat → Int32) → Int32 → Int32 → Int32 → Option (Int32 × (Nat → Int32) × (Nat → Int32) × (Nat → Int32) × Int32 × Int32 × Int32 × Int32)) {fg ng : Nat} (hg : H_X6_readSteps l g fg ng) (h : k_H) (hsh : h.1 = shProg) {c0_3 : Int32} (ec0_3 : h.2.1 0 3 = c0_3) {a1 : (Nat → Int32)} (ea1 : h.2.1 1 = a1) {a2 : (Nat → Int32)} (ea2 : h.2.1 2 = a2) {a3 : (Nat → Int32)} (ea3 : h.2.1 3 = a3) {c4_2 : Int32} (ec4_2 : h.2.1 4 2 = c4_2) {c4_3 : Int32} (ec4_3 : h.2.1 4 3 = c4_3) {c4_4 : Int32} (ec4_4 : h.2.1 4 4 = c4_4) {c4_5 : Int32} (ec4_5 : h.2.1 4 5 = c4_5) {c4_6 : Int32} (ec4_6 : h.2.1 4 6 = c4_6) {a5 : (Nat → Int32)} (ea5 : h.2.1 5 = a5) {c6_0 : Int32} (ec6_0 : h.2.1 6 0 = c6_0) {c6_1 : Int32} (ec6_1 : h.2.1 6 1 = c6_1) {x2 : Int32} {x3 : Int32} {out : Int32 × (Nat → Int32) × (Nat → Int32) × (Nat → Int32) × Int32 × Int32 × Int32 × Int32} (hf : f_X6_readAgain u g c0_3 a1 a2 a3 c4_2 c4_3 c4_4 c4_5 c4_6 a5 c6_0 c6_1 x2 x3 = some out) : k_CT l yX6_readAgain cX6_readAgain 6 none (fg + 2) (ng + 45) [.ref 0, .ref 4, .ref 6, .int x2, .int x3] h none [(0, .inl (3, out.1)), (1, .inr (.inr (.inl out.2.1))), (2, .inr (.inr (.inl out.2.2.1))), (3, .inr (.inr (.inl out.2.2.2.1))), (4, .inl (3, out.2.2.2.2.1)), (4, .inl (4, out.2.2.2.2.2.1)), (4, .inl (5, out.2.2.2.2.2.2.1)), (4, .inl (6, out.2.2.2.2.2.2.2))] := by
  obtain ⟨sh, I, L, Rf⟩ := h
  try dsimp only
  obtain rfl : sh = shProg := hsh
  refine k_ofW (by decide) (Nat.le_of_ble_eq_true rfl) ?_
  intro X ad hl hR0 hr C
  have hg : H_X6_readSteps X.l g fg ng := by rw [hl]; exact hg
  have hR : X.R.frames = (fg + 2) ∧ X.R.locals = (ng + 45) := by rw [hR0]; exact ⟨rfl, rfl⟩
  have h := hf
  unfold f_X6_readAgain at h
  refine k_start (us := [(0, .inl (3, c0_3)), (1, .inr (.inr (.inl a1))), (2, .inr (.inr (.inl a2))), (3, .inr (.inr (.inl a3))), (4, .inl (3, c4_3)), (4, .inl (4, c4_4)), (4, .inl (5, c4_5)), (4, .inl (6, c4_6))]) (k_ao_I ec0_3 (k_ao_A ea1 (k_ao_A ea2 (k_ao_A ea3 (k_ao_I ec4_3 (k_ao_I ec4_4 (k_ao_I ec4_5 (k_ao_I ec4_6 k_ap_0)))))))) ?_
  show k_W X 6 0 0 _ ad (k_ap [(0, .inl (3, c0_3)), (1, .inr (.inr (.inl a1))), (2, .inr (.inr (.inl a2))), (3, .inr (.inr (.inl a3))), (4, .inl (3, c4_3)), (4, .inl (4, c4_4)), (4, .inl (5, c4_5)), (4, .inl (6, c4_6))] (shProg, I, L, Rf)) 0 [some (.ref 0), some (.ref 4), some (.ref 6), some (.int x2), some (.int x3), none] []
  refine k_mask [true, true, true, true, true, false] ?_
  exact sX6_readAgain_0 u g C hr hR hg ec4_2 ea5 ec6_0 ec6_1 c0_3 a1 a2 a3 c4_3 c4_4 c4_5 c4_6 x2 x3 h
/-! LullabyPit$Program.readStep(LLullabyPit$Tape;LLullabyPit$Pit;I)V -/
theorem ds_X6_readStep : k_ds [(0, 0, 3), (1, 2, 0), (2, 2, 0), (3, 2, 0), (4, 0, 3), (4, 0, 4), (4, 0, 5), (4, 0, 6)] = true := by decide +kernel
set_option maxHeartbeats 400000 in
set_option maxRecDepth 100000 in
theorem sX6_readStep_0 (u : Nat) (g : Int32 → (Nat → Int32) → (Nat → Int32) → (Nat → Int32) → Int32 → Int32 → Int32 → Int32 → Int32 → (Nat → Int32) → Int32 → Int32 → Int32 → Option (Int32 × (Nat → Int32) × (Nat → Int32) × (Nat → Int32) × Int32 × Int32 × Int32 × Int32)) {fg ng : Nat} {X : k_X} {ad : Nat → Nat} (C : k_C X cX6_readStep RX6 6 ad) (hr : X.meth.sig.returnType = none) (hR : X.R.frames = (fg + 6) ∧ X.R.locals = (ng + 133)) {I : Nat → Nat → Int32} {L : Nat → Nat → Int64} {Rf : Nat → Nat → Option Nat} (hg : H_X6_readSteps X.l g fg ng) {c4_2 : Int32} (ec4_2 : I 4 2 = c4_2) {a5 : (Nat → Int32)} (ea5 : I 5 = a5) {c6_0 : Int32} (ec6_0 : I 6 0 = c6_0) {c6_1 : Int32} (ec6_1 : I 6 1 = c6_1) {out : Int32 × (Nat → Int32) × (Nat → Int32) × (Nat → Int32) × Int32 × Int32 × Int32 × Int32} : ∀ (c0_3 : Int32) (a1 : (Nat → Int32)) (a2 : (Nat → Int32)) (a3 : (Nat → Int32)) (c4_3 : Int32) (c4_4 : Int32) (c4_5 : Int32) (c4_6 : Int32) (v3 : Int32), bX6_readStep_0 u g c4_2 a5 c6_0 c6_1 c0_3 a1 a2 a3 c4_3 c4_4 c4_5 c4_6 v3 = some out → k_W X 6 0 0 (k_Q X ad none (k_ap [(0, .inl (3, out.1)), (1, .inr (.inr (.inl out.2.1))), (2, .inr (.inr (.inl out.2.2.1))), (3, .inr (.inr (.inl out.2.2.2.1))), (4, .inl (3, out.2.2.2.2.1)), (4, .inl (4, out.2.2.2.2.2.1)), (4, .inl (5, out.2.2.2.2.2.2.1)), (4, .inl (6, out.2.2.2.2.2.2.2))] (shProg, I, L, Rf))) ad (k_ap [(0, .inl (3, c0_3)), (1, .inr (.inr (.inl a1))), (2, .inr (.inr (.inl a2))), (3, .inr (.inr (.inl a3))), (4, .inl (3, c4_3)), (4, .inl (4, c4_4)), (4, .inl (5, c4_5)), (4, .inl (6, c4_6))] (shProg, I, L, Rf)) 0 [some (.ref 0), some (.ref 4), some (.ref 6), some (.int v3), none, none] [] := by
  intro c0_3 a1 a2 a3 c4_3 c4_4 c4_5 c4_6 v3 h
  unfold bX6_readStep_0 at h
  refine r_aload_n C dX6_readStep_0 (rfl : 0 + 1 = 1) rfl ?_
  refine r_ldcS (i := 4) C rfl dX6_readStep_1 (rfl : 1 + 2 = 3) ?_
  obtain ⟨r3, q3, h⟩ := k_b_of h
  refine d_Vp (pi := [4, 5]) (shl := shTape) (bl := 0) (As := [.ref (1000000 + 4)]) (Al := [.ref (1000000 + 4)]) (st := []) (st' := [.int r3.1]) (h' := k_ap [(0, .inl (3, c0_3)), (1, .inr (.inr (.inl a1))), (2, .inr (.inr (.inl a2))), (3, .inr (.inr (.inl a3))), (4, .inl (3, r3.2.1)), (4, .inl (4, r3.2.2.1)), (4, .inl (5, r3.2.2.2.1)), (4, .inl (6, r3.2.2.2.2))] (shProg, I, L, Rf)) C hR ⟨Nat.zero_le _, Nat.zero_le _⟩ mv_X8_word lk_X6_57 dX6_readStep_3 (rfl : 3 + 3 = 6) (k_bl (by omega)) (k_bl (by omega)) ck_shProg_shTape_4 rfl rfl (c_X8_word X.l u 4 (by decide) (k_pl [4, 5] shTape (k_ap [(0, .inl (3, c0_3)), (1, .inr (.inr (.inl a1))), (2, .inr (.inr (.inl a2))), (3, .inr (.inr (.inl a3))), (4, .inl (3, c4_3)), (4, .inl (4, c4_4)), (4, .inl (5, c4_5)), (4, .inl (6, c4_6))] (shProg, I, L, Rf))) rfl ec4_2 rfl rfl rfl rfl ea5 q3) rfl (fun _ => rfl) rfl (fun _ => rfl) rfl rfl rfl (k_jn (us' := [(0, .inl (3, c0_3)), (1, .inr (.inr (.inl a1))), (2, .inr (.inr (.inl a2))), (3, .inr (.inr (.inl a3))), (4, .inl (3, r3.2.1)), (4, .inl (4, r3.2.2.1)), (4, .inl (5, r3.2.2.2.1)), (4, .inl (6, r3.2.2.2.2))]) ds_X6_readStep rfl rfl rfl) rfl ?_
  refine r_istore C dX6_readStep_6 (rfl : 6 + 2 = 8) (by decide) (Nat.le_of_ble_eq_true rfl) ?_
  show k_W _ _ _ _ _ _ _ _ [some (.ref 0), some (.ref 4), some (.ref 6), some (.int v3), some (.int r3.1), none] _
  refine r_aload_n C dX6_readStep_8 (rfl : 8 + 1 = 9) rfl ?_
  obtain ⟨r9, q9, h⟩ := k_b_of h
  refine d_Vp (pi := [4, 5]) (shl := shTape) (bl := 0) (As := []) (Al := []) (st := []) (st' := [.int r9]) (h' := k_ap [(0, .inl (3, c0_3)), (1, .inr (.inr (.inl a1))), (2, .inr (.inr (.inl a2))), (3, .inr (.inr (.inl a3))), (4, .inl (3, r3.2.1)), (4, .inl (4, r3.2.2.1)), (4, .inl (5, r3.2.2.2.1)), (4, .inl (6, r3.2.2.2.2))] (shProg, I, L, Rf)) C hR ⟨Nat.zero_le _, Nat.zero_le _⟩ mv_X8_good lk_X6_61 dX6_readStep_9 (rfl : 9 + 3 = 12) (k_bl (by omega)) (k_bl (by omega)) ck_shProg_shTape_4 rfl rfl (c_X8_good X.l u (k_pl [4, 5] shTape (k_ap [(0, .inl (3, c0_3)), (1, .inr (.inr (.inl a1))), (2, .inr (.inr (.inl a2))), (3, .inr (.inr (.inl a3))), (4, .inl (3, r3.2.1)), (4, .inl (4, r3.2.2.1)), (4, .inl (5, r3.2.2.2.1)), (4, .inl (6, r3.2.2.2.2))] (shProg, I, L, Rf))) rfl rfl q9) rfl (fun _ => rfl) rfl (fun _ => rfl) rfl rfl rfl rfl rfl ?_
  refine r_if_eq (tgt := 24) C dX6_readStep_12 (by decide) (rfl : 12 + 3 = 15) (fun c12 => ?_) (fun c12 => ?_)
  · have h := k_t c12 h
    cases h
    exact r_vret C hr dX6_readStep_24
  · have h := k_f c12 h
    refine r_aload_n C dX6_readStep_15 (rfl : 15 + 1 = 16) rfl ?_
    refine r_getI (v := c0_3) C dX6_readStep_16 (rfl : 16 + 3 = 19) fl_X6_21 rfl rfl rfl ?_
    refine r_bipush (v := (30 : Int32)) C dX6_readStep_19 (rfl : 19 + 2 = 21) rfl ?_
    refine r_icmp_lt (tgt := 25) C dX6_readStep_21 (by decide) (rfl : 21 + 3 = 24) (fun c21 => ?_) (fun c21 => ?_)
    · have h := k_t c21 h
      refine r_aload_n C dX6_readStep_25 (rfl : 25 + 1 = 26) rfl ?_
      refine r_getI (v := c0_3) C dX6_readStep_26 (rfl : 26 + 3 = 29) fl_X6_21 rfl rfl rfl ?_
      refine r_istore C dX6_readStep_29 (rfl : 29 + 2 = 31) (by decide) (Nat.le_of_ble_eq_true rfl) ?_
      show k_W _ _ _ _ _ _ _ _ [some (.ref 0), some (.ref 4), some (.ref 6), some (.int v3), some (.int r3.1), some (.int c0_3)] _
      refine r_aload_n C dX6_readStep_31 (rfl : 31 + 1 = 32) rfl ?_
      refine r_dup C dX6_readStep_32 (rfl : 32 + 1 = 33) rfl ?_
      refine r_getI (v := c0_3) C dX6_readStep_33 (rfl : 33 + 3 = 36) fl_X6_21 rfl rfl rfl ?_
      refine r_iconst (v := (1 : Int32)) C dX6_readStep_36 (rfl : 36 + 1 = 37) rfl ?_
      refine r_iadd C dX6_readStep_37 (rfl : 37 + 1 = 38) ?_
      refine p_I (us' := [(0, .inl (3, (c0_3 + (1 : Int32)))), (1, .inr (.inr (.inl a1))), (2, .inr (.inr (.inl a2))), (3, .inr (.inr (.inl a3))), (4, .inl (3, r3.2.1)), (4, .inl (4, r3.2.2.1)), (4, .inl (5, r3.2.2.2.1)), (4, .inl (6, r3.2.2.2.2))]) C dX6_readStep_38 (rfl : 38 + 3 = 41) fp_X6_21 rfl rfl ds_X6_readStep rfl rfl rfl ?_
      refine r_aload_n C dX6_readStep_41 (rfl : 41 + 1 = 42) rfl ?_
      refine r_getR (q := 1) C dX6_readStep_42 (rfl : 42 + 3 = 45) fl_X6_11 rfl rfl ?_
      refine r_iload C dX6_readStep_45 (rfl : 45 + 2 = 47) rfl ?_
      refine r_iload C dX6_readStep_47 (rfl : 47 + 2 = 49) rfl ?_
      obtain ⟨hi49, h⟩ := k_i_of h
      refine s_i (j := (c0_3).toNatClampNeg) (f := a1) (us' := [(0, .inl (3, (c0_3 + (1 : Int32)))), (1, .inr (.inr (.inl (upd a1 ((c0_3).toNatClampNeg) r3.1)))), (2, .inr (.inr (.inl a2))), (3, .inr (.inr (.inl a3))), (4, .inl (3, r3.2.1)), (4, .inl (4, r3.2.2.1)), (4, .inl (5, r3.2.2.2.1)), (4, .inl (6, r3.2.2.2.2))]) C dX6_readStep_49 (rfl : 49 + 1 = 50) rfl rfl hi49 rfl ds_X6_readStep rfl rfl rfl ?_
      refine r_iload C dX6_readStep_50 (rfl : 50 + 2 = 52) rfl ?_
      by_cases c52_0 : r3.1 = (0 : Int32)
      · have h := k_t c52_0 h
        refine r_tabIn (off := 40) (tgt := 92) C dX6_readStep_52 (by rw [c52_0]; decide) (by rw [c52_0]; decide) (by rw [c52_0]; rfl) (by decide) ?_
        refine r_aload_n C dX6_readStep_92 (rfl : 92 + 1 = 93) rfl ?_
        refine r_getR (q := 2) C dX6_readStep_93 (rfl : 93 + 3 = 96) fl_X6_15 rfl rfl ?_
        refine r_iload C dX6_readStep_96 (rfl : 96 + 2 = 98) rfl ?_
        refine r_aload_n C dX6_readStep_98 (rfl : 98 + 1 = 99) rfl ?_
        refine r_iconst (v := (0 : Int32)) C dX6_readStep_99 (rfl : 99 + 1 = 100) rfl ?_
        refine r_aload_n C dX6_readStep_100 (rfl : 100 + 1 = 101) rfl ?_
        refine r_getI (v := c6_0) C dX6_readStep_101 (rfl : 101 + 3 = 104) fl_X6_64 rfl rfl ec6_0 ?_
        refine r_iconst (v := (1 : Int32)) C dX6_readStep_104 (rfl : 104 + 1 = 105) rfl ?_
        refine r_isub C dX6_readStep_105 (rfl : 105 + 1 = 106) ?_
        obtain ⟨r106, q106, h⟩ := k_b_of h
        refine d_Vp (pi := [4, 5]) (shl := shTape) (bl := 0) (As := [.int (0 : Int32), .int (c6_0 - (1 : Int32))]) (Al := [.int (0 : Int32), .int (c6_0 - (1 : Int32))]) (st := [.int c0_3, .ref 2]) (st' := [.int r106.1, .int c0_3, .ref 2]) (h' := k_ap [(0, .inl (3, (c0_3 + (1 : Int32)))), (1, .inr (.inr (.inl (upd a1 ((c0_3).toNatClampNeg) r3.1)))), (2, .inr (.inr (.inl a2))), (3, .inr (.inr (.inl a3))), (4, .inl (3, r106.2.1)), (4, .inl (4, r106.2.2.1)), (4, .inl (5, r106.2.2.2.1)), (4, .inl (6, r106.2.2.2.2))] (shProg, I, L, Rf)) C hR ⟨Nat.zero_le _, Nat.zero_le _⟩ mv_X8_number lk_X6_69 dX6_readStep_106 (rfl : 106 + 3 = 109) (k_bl (by omega)) (k_bl (by omega)) ck_shProg_shTape_4 rfl rfl (c_X8_number X.l u (k_pl [4, 5] shTape (k_ap [(0, .inl (3, (c0_3 + (1 : Int32)))), (1, .inr (.inr (.inl (upd a1 ((c0_3).toNatClampNeg) r3.1)))), (2, .inr (.inr (.inl a2))), (3, .inr (.inr (.inl a3))), (4, .inl (3, r3.2.1)), (4, .inl (4, r3.2.2.1)), (4, .inl (5, r3.2.2.2.1)), (4, .inl (6, r3.2.2.2.2))] (shProg, I, L, Rf))) rfl ec4_2 rfl rfl rfl rfl ea5 q106) rfl (fun _ => rfl) rfl (fun _ => rfl) rfl rfl rfl (k_jn (us' := [(0, .inl (3, (c0_3 + (1 : Int32)))), (1, .inr (.inr (.inl (upd a1 ((c0_3).toNatClampNeg) r3.1)))), (2, .inr (.inr (.inl a2))), (3, .inr (.inr (.inl a3))), (4, .inl (3, r106.2.1)), (4, .inl (4, r106.2.2.1)), (4, .inl (5, r106.2.2.2.1)), (4, .inl (6, r106.2.2.2.2))]) ds_X6_readStep rfl rfl rfl) rfl ?_
        obtain ⟨hi109, h⟩ := k_i_of h
        refine s_i (j := (c0_3).toNatClampNeg) (f := a2) (us' := [(0, .inl (3, (c0_3 + (1 : Int32)))), (1, .inr (.inr (.inl (upd a1 ((c0_3).toNatClampNeg) r3.1)))), (2, .inr (.inr (.inl (upd a2 ((c0_3).toNatClampNeg) r106.1)))), (3, .inr (.inr (.inl a3))), (4, .inl (3, r106.2.1)), (4, .inl (4, r106.2.2.1)), (4, .inl (5, r106.2.2.2.1)), (4, .inl (6, r106.2.2.2.2))]) C dX6_readStep_109 (rfl : 109 + 1 = 110) rfl rfl hi109 rfl ds_X6_readStep rfl rfl rfl ?_
        refine r_aload_n C dX6_readStep_110 (rfl : 110 + 1 = 111) rfl ?_
        refine r_getR (q := 2) C dX6_readStep_111 (rfl : 111 + 3 = 114) fl_X6_15 rfl rfl ?_
        refine r_iload C dX6_readStep_114 (rfl : 114 + 2 = 116) rfl ?_
        refine r_dup2 C dX6_readStep_116 (rfl : 116 + 1 = 117) rfl rfl ?_
        obtain ⟨hi117, h⟩ := k_i_of h
        refine a_i (j := (c0_3).toNatClampNeg) (f := (upd a2 ((c0_3).toNatClampNeg) r106.1)) C dX6_readStep_117 (rfl : 117 + 1 = 118) rfl rfl hi117 rfl ?_
        refine r_bipush (v := (8 : Int32)) C dX6_readStep_118 (rfl : 118 + 2 = 120) rfl ?_
        refine r_aload_n C dX6_readStep_120 (rfl : 120 + 1 = 121) rfl ?_
        refine r_iconst (v := (0 : Int32)) C dX6_readStep_121 (rfl : 121 + 1 = 122) rfl ?_
        refine r_aload_n C dX6_readStep_122 (rfl : 122 + 1 = 123) rfl ?_
        refine r_getI (v := c6_1) C dX6_readStep_123 (rfl : 123 + 3 = 126) fl_X6_73 rfl rfl ec6_1 ?_
        refine r_iconst (v := (1 : Int32)) C dX6_readStep_126 (rfl : 126 + 1 = 127) rfl ?_
        refine r_isub C dX6_readStep_127 (rfl : 127 + 1 = 128) ?_
        obtain ⟨r128, q128, h⟩ := k_b_of h
        refine d_Vp (pi := [4, 5]) (shl := shTape) (bl := 0) (As := [.int (0 : Int32), .int (c6_1 - (1 : Int32))]) (Al := [.int (0 : Int32), .int (c6_1 - (1 : Int32))]) (st := [.int (8 : Int32), .int ((upd a2 ((c0_3).toNatClampNeg) r106.1) ((c0_3).toNatClampNeg)), .int c0_3, .ref 2]) (st' := [.int r128.1, .int (8 : Int32), .int ((upd a2 ((c0_3).toNatClampNeg) r106.1) ((c0_3).toNatClampNeg)), .int c0_3, .ref 2]) (h' := k_ap [(0, .inl (3, (c0_3 + (1 : Int32)))), (1, .inr (.inr (.inl (upd a1 ((c0_3).toNatClampNeg) r3.1)))), (2, .inr (.inr (.inl (upd a2 ((c0_3).toNatClampNeg) r106.1)))), (3, .inr (.inr (.inl a3))), (4, .inl (3, r128.2.1)), (4, .inl (4, r128.2.2.1)), (4, .inl (5, r128.2.2.2.1)), (4, .inl (6, r128.2.2.2.2))] (shProg, I, L, Rf)) C hR ⟨Nat.zero_le _, Nat.zero_le _⟩ mv_X8_number lk_X6_69 dX6_readStep_128 (rfl : 128 + 3 = 131) (k_bl (by omega)) (k_bl (by omega)) ck_shProg_shTape_4 rfl rfl (c_X8_number X.l u (k_pl [4, 5] shTape (k_ap [(0, .inl (3, (c0_3 + (1 : Int32)))), (1, .inr (.inr (.inl (upd a1 ((c0_3).toNatClampNeg) r3.1)))), (2, .inr (.inr (.inl (upd a2 ((c0_3).toNatClampNeg) r106.1)))), (3, .inr (.inr (.inl a3))), (4, .inl (3, r106.2.1)), (4, .inl (4, r106.2.2.1)), (4, .inl (5, r106.2.2.2.1)), (4, .inl (6, r106.2.2.2.2))] (shProg, I, L, Rf))) rfl ec4_2 rfl rfl rfl rfl ea5 q128) rfl (fun _ => rfl) rfl (fun _ => rfl) rfl rfl rfl (k_jn (us' := [(0, .inl (3, (c0_3 + (1 : Int32)))), (1, .inr (.inr (.inl (upd a1 ((c0_3).toNatClampNeg) r3.1)))), (2, .inr (.inr (.inl (upd a2 ((c0_3).toNatClampNeg) r106.1)))), (3, .inr (.inr (.inl a3))), (4, .inl (3, r128.2.1)), (4, .inl (4, r128.2.2.1)), (4, .inl (5, r128.2.2.2.1)), (4, .inl (6, r128.2.2.2.2))]) ds_X6_readStep rfl rfl rfl) rfl ?_
        refine r_imul C dX6_readStep_131 (rfl : 131 + 1 = 132) ?_
        refine r_iadd C dX6_readStep_132 (rfl : 132 + 1 = 133) ?_
        obtain ⟨hi133, h⟩ := k_i_of h
        refine s_i (j := (c0_3).toNatClampNeg) (f := (upd a2 ((c0_3).toNatClampNeg) r106.1)) (us' := [(0, .inl (3, (c0_3 + (1 : Int32)))), (1, .inr (.inr (.inl (upd a1 ((c0_3).toNatClampNeg) r3.1)))), (2, .inr (.inr (.inl (upd (upd a2 ((c0_3).toNatClampNeg) r106.1) ((c0_3).toNatClampNeg) (((upd a2 ((c0_3).toNatClampNeg) r106.1) ((c0_3).toNatClampNeg)) + ((8 : Int32) * r128.1)))))), (3, .inr (.inr (.inl a3))), (4, .inl (3, r128.2.1)), (4, .inl (4, r128.2.2.1)), (4, .inl (5, r128.2.2.2.1)), (4, .inl (6, r128.2.2.2.2))]) C dX6_readStep_133 (rfl : 133 + 1 = 134) rfl rfl hi133 rfl ds_X6_readStep rfl rfl rfl ?_
        refine r_goto (tgt := 179) C dX6_readStep_134 (by decide) ?_
        cases h
        exact r_vret C hr dX6_readStep_179
      · have h := k_f c52_0 h
        by_cases c52_1 : r3.1 = (1 : Int32)
        · have h := k_t c52_1 h
          refine r_tabIn (off := 40) (tgt := 92) C dX6_readStep_52 (by rw [c52_1]; decide) (by rw [c52_1]; decide) (by rw [c52_1]; rfl) (by decide) ?_
          refine r_aload_n C dX6_readStep_92 (rfl : 92 + 1 = 93) rfl ?_
          refine r_getR (q := 2) C dX6_readStep_93 (rfl : 93 + 3 = 96) fl_X6_15 rfl rfl ?_
          refine r_iload C dX6_readStep_96 (rfl : 96 + 2 = 98) rfl ?_
          refine r_aload_n C dX6_readStep_98 (rfl : 98 + 1 = 99) rfl ?_
          refine r_iconst (v := (0 : Int32)) C dX6_readStep_99 (rfl : 99 + 1 = 100) rfl ?_
          refine r_aload_n C dX6_readStep_100 (rfl : 100 + 1 = 101) rfl ?_
          refine r_getI (v := c6_0) C dX6_readStep_101 (rfl : 101 + 3 = 104) fl_X6_64 rfl rfl ec6_0 ?_
          refine r_iconst (v := (1 : Int32)) C dX6_readStep_104 (rfl : 104 + 1 = 105) rfl ?_
          refine r_isub C dX6_readStep_105 (rfl : 105 + 1 = 106) ?_
          obtain ⟨r106, q106, h⟩ := k_b_of h
          refine d_Vp (pi := [4, 5]) (shl := shTape) (bl := 0) (As := [.int (0 : Int32), .int (c6_0 - (1 : Int32))]) (Al := [.int (0 : Int32), .int (c6_0 - (1 : Int32))]) (st := [.int c0_3, .ref 2]) (st' := [.int r106.1, .int c0_3, .ref 2]) (h' := k_ap [(0, .inl (3, (c0_3 + (1 : Int32)))), (1, .inr (.inr (.inl (upd a1 ((c0_3).toNatClampNeg) r3.1)))), (2, .inr (.inr (.inl a2))), (3, .inr (.inr (.inl a3))), (4, .inl (3, r106.2.1)), (4, .inl (4, r106.2.2.1)), (4, .inl (5, r106.2.2.2.1)), (4, .inl (6, r106.2.2.2.2))] (shProg, I, L, Rf)) C hR ⟨Nat.zero_le _, Nat.zero_le _⟩ mv_X8_number lk_X6_69 dX6_readStep_106 (rfl : 106 + 3 = 109) (k_bl (by omega)) (k_bl (by omega)) ck_shProg_shTape_4 rfl rfl (c_X8_number X.l u (k_pl [4, 5] shTape (k_ap [(0, .inl (3, (c0_3 + (1 : Int32)))), (1, .inr (.inr (.inl (upd a1 ((c0_3).toNatClampNeg) r3.1)))), (2, .inr (.inr (.inl a2))), (3, .inr (.inr (.inl a3))), (4, .inl (3, r3.2.1)), (4, .inl (4, r3.2.2.1)), (4, .inl (5, r3.2.2.2.1)), (4, .inl (6, r3.2.2.2.2))] (shProg, I, L, Rf))) rfl ec4_2 rfl rfl rfl rfl ea5 q106) rfl (fun _ => rfl) rfl (fun _ => rfl) rfl rfl rfl (k_jn (us' := [(0, .inl (3, (c0_3 + (1 : Int32)))), (1, .inr (.inr (.inl (upd a1 ((c0_3).toNatClampNeg) r3.1)))), (2, .inr (.inr (.inl a2))), (3, .inr (.inr (.inl a3))), (4, .inl (3, r106.2.1)), (4, .inl (4, r106.2.2.1)), (4, .inl (5, r106.2.2.2.1)), (4, .inl (6, r106.2.2.2.2))]) ds_X6_readStep rfl rfl rfl) rfl ?_
          obtain ⟨hi109, h⟩ := k_i_of h
          refine s_i (j := (c0_3).toNatClampNeg) (f := a2) (us' := [(0, .inl (3, (c0_3 + (1 : Int32)))), (1, .inr (.inr (.inl (upd a1 ((c0_3).toNatClampNeg) r3.1)))), (2, .inr (.inr (.inl (upd a2 ((c0_3).toNatClampNeg) r106.1)))), (3, .inr (.inr (.inl a3))), (4, .inl (3, r106.2.1)), (4, .inl (4, r106.2.2.1)), (4, .inl (5, r106.2.2.2.1)), (4, .inl (6, r106.2.2.2.2))]) C dX6_readStep_109 (rfl : 109 + 1 = 110) rfl rfl hi109 rfl ds_X6_readStep rfl rfl rfl ?_
          refine r_aload_n C dX6_readStep_110 (rfl : 110 + 1 = 111) rfl ?_
          refine r_getR (q := 2) C dX6_readStep_111 (rfl : 111 + 3 = 114) fl_X6_15 rfl rfl ?_
          refine r_iload C dX6_readStep_114 (rfl : 114 + 2 = 116) rfl ?_
          refine r_dup2 C dX6_readStep_116 (rfl : 116 + 1 = 117) rfl rfl ?_
          obtain ⟨hi117, h⟩ := k_i_of h
          refine a_i (j := (c0_3).toNatClampNeg) (f := (upd a2 ((c0_3).toNatClampNeg) r106.1)) C dX6_readStep_117 (rfl : 117 + 1 = 118) rfl rfl hi117 rfl ?_
          refine r_bipush (v := (8 : Int32)) C dX6_readStep_118 (rfl : 118 + 2 = 120) rfl ?_
          refine r_aload_n C dX6_readStep_120 (rfl : 120 + 1 = 121) rfl ?_
          refine r_iconst (v := (0 : Int32)) C dX6_readStep_121 (rfl : 121 + 1 = 122) rfl ?_
          refine r_aload_n C dX6_readStep_122 (rfl : 122 + 1 = 123) rfl ?_
          refine r_getI (v := c6_1) C dX6_readStep_123 (rfl : 123 + 3 = 126) fl_X6_73 rfl rfl ec6_1 ?_
          refine r_iconst (v := (1 : Int32)) C dX6_readStep_126 (rfl : 126 + 1 = 127) rfl ?_
          refine r_isub C dX6_readStep_127 (rfl : 127 + 1 = 128) ?_
          obtain ⟨r128, q128, h⟩ := k_b_of h
          refine d_Vp (pi := [4, 5]) (shl := shTape) (bl := 0) (As := [.int (0 : Int32), .int (c6_1 - (1 : Int32))]) (Al := [.int (0 : Int32), .int (c6_1 - (1 : Int32))]) (st := [.int (8 : Int32), .int ((upd a2 ((c0_3).toNatClampNeg) r106.1) ((c0_3).toNatClampNeg)), .int c0_3, .ref 2]) (st' := [.int r128.1, .int (8 : Int32), .int ((upd a2 ((c0_3).toNatClampNeg) r106.1) ((c0_3).toNatClampNeg)), .int c0_3, .ref 2]) (h' := k_ap [(0, .inl (3, (c0_3 + (1 : Int32)))), (1, .inr (.inr (.inl (upd a1 ((c0_3).toNatClampNeg) r3.1)))), (2, .inr (.inr (.inl (upd a2 ((c0_3).toNatClampNeg) r106.1)))), (3, .inr (.inr (.inl a3))), (4, .inl (3, r128.2.1)), (4, .inl (4, r128.2.2.1)), (4, .inl (5, r128.2.2.2.1)), (4, .inl (6, r128.2.2.2.2))] (shProg, I, L, Rf)) C hR ⟨Nat.zero_le _, Nat.zero_le _⟩ mv_X8_number lk_X6_69 dX6_readStep_128 (rfl : 128 + 3 = 131) (k_bl (by omega)) (k_bl (by omega)) ck_shProg_shTape_4 rfl rfl (c_X8_number X.l u (k_pl [4, 5] shTape (k_ap [(0, .inl (3, (c0_3 + (1 : Int32)))), (1, .inr (.inr (.inl (upd a1 ((c0_3).toNatClampNeg) r3.1)))), (2, .inr (.inr (.inl (upd a2 ((c0_3).toNatClampNeg) r106.1)))), (3, .inr (.inr (.inl a3))), (4, .inl (3, r106.2.1)), (4, .inl (4, r106.2.2.1)), (4, .inl (5, r106.2.2.2.1)), (4, .inl (6, r106.2.2.2.2))] (shProg, I, L, Rf))) rfl ec4_2 rfl rfl rfl rfl ea5 q128) rfl (fun _ => rfl) rfl (fun _ => rfl) rfl rfl rfl (k_jn (us' := [(0, .inl (3, (c0_3 + (1 : Int32)))), (1, .inr (.inr (.inl (upd a1 ((c0_3).toNatClampNeg) r3.1)))), (2, .inr (.inr (.inl (upd a2 ((c0_3).toNatClampNeg) r106.1)))), (3, .inr (.inr (.inl a3))), (4, .inl (3, r128.2.1)), (4, .inl (4, r128.2.2.1)), (4, .inl (5, r128.2.2.2.1)), (4, .inl (6, r128.2.2.2.2))]) ds_X6_readStep rfl rfl rfl) rfl ?_
          refine r_imul C dX6_readStep_131 (rfl : 131 + 1 = 132) ?_
          refine r_iadd C dX6_readStep_132 (rfl : 132 + 1 = 133) ?_
          obtain ⟨hi133, h⟩ := k_i_of h
          refine s_i (j := (c0_3).toNatClampNeg) (f := (upd a2 ((c0_3).toNatClampNeg) r106.1)) (us' := [(0, .inl (3, (c0_3 + (1 : Int32)))), (1, .inr (.inr (.inl (upd a1 ((c0_3).toNatClampNeg) r3.1)))), (2, .inr (.inr (.inl (upd (upd a2 ((c0_3).toNatClampNeg) r106.1) ((c0_3).toNatClampNeg) (((upd a2 ((c0_3).toNatClampNeg) r106.1) ((c0_3).toNatClampNeg)) + ((8 : Int32) * r128.1)))))), (3, .inr (.inr (.inl a3))), (4, .inl (3, r128.2.1)), (4, .inl (4, r128.2.2.1)), (4, .inl (5, r128.2.2.2.1)), (4, .inl (6, r128.2.2.2.2))]) C dX6_readStep_133 (rfl : 133 + 1 = 134) rfl rfl hi133 rfl ds_X6_readStep rfl rfl rfl ?_
          refine r_goto (tgt := 179) C dX6_readStep_134 (by decide) ?_
          cases h
          exact r_vret C hr dX6_readStep_179
        · have h := k_f c52_1 h
          by_cases c52_2 : r3.1 = (2 : Int32)
          · have h := k_t c52_2 h
            refine r_tabIn (off := 127) (tgt := 179) C dX6_readStep_52 (by rw [c52_2]; decide) (by rw [c52_2]; decide) (by rw [c52_2]; rfl) (by decide) ?_
            cases h
            exact r_vret C hr dX6_readStep_179
          · have h := k_f c52_2 h
            by_cases c52_3 : r3.1 = (3 : Int32)
            · have h := k_t c52_3 h
              refine r_tabIn (off := 127) (tgt := 179) C dX6_readStep_52 (by rw [c52_3]; decide) (by rw [c52_3]; decide) (by rw [c52_3]; rfl) (by decide) ?_
              cases h
              exact r_vret C hr dX6_readStep_179
            · have h := k_f c52_3 h
              by_cases c52_4 : r3.1 = (4 : Int32)
              · have h := k_t c52_4 h
                refine r_tabIn (off := 85) (tgt := 137) C dX6_readStep_52 (by rw [c52_4]; decide) (by rw [c52_4]; decide) (by rw [c52_4]; rfl) (by decide) ?_
                refine r_aload_n C dX6_readStep_137 (rfl : 137 + 1 = 138) rfl ?_
                refine r_getR (q := 2) C dX6_readStep_138 (rfl : 138 + 3 = 141) fl_X6_15 rfl rfl ?_
                refine r_iload C dX6_readStep_141 (rfl : 141 + 2 = 143) rfl ?_
                refine r_aload_n C dX6_readStep_143 (rfl : 143 + 1 = 144) rfl ?_
                refine r_iconst (v := (1 : Int32)) C dX6_readStep_144 (rfl : 144 + 1 = 145) rfl ?_
                refine r_iconst (v := (4 : Int32)) C dX6_readStep_145 (rfl : 145 + 1 = 146) rfl ?_
                obtain ⟨r146, q146, h⟩ := k_b_of h
                refine d_Vp (pi := [4, 5]) (shl := shTape) (bl := 0) (As := [.int (1 : Int32), .int (4 : Int32)]) (Al := [.int (1 : Int32), .int (4 : Int32)]) (st := [.int c0_3, .ref 2]) (st' := [.int r146.1, .int c0_3, .ref 2]) (h' := k_ap [(0, .inl (3, (c0_3 + (1 : Int32)))), (1, .inr (.inr (.inl (upd a1 ((c0_3).toNatClampNeg) r3.1)))), (2, .inr (.inr (.inl a2))), (3, .inr (.inr (.inl a3))), (4, .inl (3, r146.2.1)), (4, .inl (4, r146.2.2.1)), (4, .inl (5, r146.2.2.2.1)), (4, .inl (6, r146.2.2.2.2))] (shProg, I, L, Rf)) C hR ⟨Nat.zero_le _, Nat.zero_le _⟩ mv_X8_number lk_X6_69 dX6_readStep_146 (rfl : 146 + 3 = 149) (k_bl (by omega)) (k_bl (by omega)) ck_shProg_shTape_4 rfl rfl (c_X8_number X.l u (k_pl [4, 5] shTape (k_ap [(0, .inl (3, (c0_3 + (1 : Int32)))), (1, .inr (.inr (.inl (upd a1 ((c0_3).toNatClampNeg) r3.1)))), (2, .inr (.inr (.inl a2))), (3, .inr (.inr (.inl a3))), (4, .inl (3, r3.2.1)), (4, .inl (4, r3.2.2.1)), (4, .inl (5, r3.2.2.2.1)), (4, .inl (6, r3.2.2.2.2))] (shProg, I, L, Rf))) rfl ec4_2 rfl rfl rfl rfl ea5 q146) rfl (fun _ => rfl) rfl (fun _ => rfl) rfl rfl rfl (k_jn (us' := [(0, .inl (3, (c0_3 + (1 : Int32)))), (1, .inr (.inr (.inl (upd a1 ((c0_3).toNatClampNeg) r3.1)))), (2, .inr (.inr (.inl a2))), (3, .inr (.inr (.inl a3))), (4, .inl (3, r146.2.1)), (4, .inl (4, r146.2.2.1)), (4, .inl (5, r146.2.2.2.1)), (4, .inl (6, r146.2.2.2.2))]) ds_X6_readStep rfl rfl rfl) rfl ?_
                obtain ⟨hi149, h⟩ := k_i_of h
                refine s_i (j := (c0_3).toNatClampNeg) (f := a2) (us' := [(0, .inl (3, (c0_3 + (1 : Int32)))), (1, .inr (.inr (.inl (upd a1 ((c0_3).toNatClampNeg) r3.1)))), (2, .inr (.inr (.inl (upd a2 ((c0_3).toNatClampNeg) r146.1)))), (3, .inr (.inr (.inl a3))), (4, .inl (3, r146.2.1)), (4, .inl (4, r146.2.2.1)), (4, .inl (5, r146.2.2.2.1)), (4, .inl (6, r146.2.2.2.2))]) C dX6_readStep_149 (rfl : 149 + 1 = 150) rfl rfl hi149 rfl ds_X6_readStep rfl rfl rfl ?_
                refine r_aload_n C dX6_readStep_150 (rfl : 150 + 1 = 151) rfl ?_
                refine r_getR (q := 3) C dX6_readStep_151 (rfl : 151 + 3 = 154) fl_X6_18 rfl rfl ?_
                refine r_iload C dX6_readStep_154 (rfl : 154 + 2 = 156) rfl ?_
                refine r_aload_n C dX6_readStep_156 (rfl : 156 + 1 = 157) rfl ?_
                refine r_iconst (v := (1 : Int32)) C dX6_readStep_157 (rfl : 157 + 1 = 158) rfl ?_
                refine r_bipush (v := (99 : Int32)) C dX6_readStep_158 (rfl : 158 + 2 = 160) rfl ?_
                obtain ⟨r160, q160, h⟩ := k_b_of h
                refine d_Vp (pi := [4, 5]) (shl := shTape) (bl := 0) (As := [.int (1 : Int32), .int (99 : Int32)]) (Al := [.int (1 : Int32), .int (99 : Int32)]) (st := [.int c0_3, .ref 3]) (st' := [.int r160.1, .int c0_3, .ref 3]) (h' := k_ap [(0, .inl (3, (c0_3 + (1 : Int32)))), (1, .inr (.inr (.inl (upd a1 ((c0_3).toNatClampNeg) r3.1)))), (2, .inr (.inr (.inl (upd a2 ((c0_3).toNatClampNeg) r146.1)))), (3, .inr (.inr (.inl a3))), (4, .inl (3, r160.2.1)), (4, .inl (4, r160.2.2.1)), (4, .inl (5, r160.2.2.2.1)), (4, .inl (6, r160.2.2.2.2))] (shProg, I, L, Rf)) C hR ⟨Nat.zero_le _, Nat.zero_le _⟩ mv_X8_number lk_X6_69 dX6_readStep_160 (rfl : 160 + 3 = 163) (k_bl (by omega)) (k_bl (by omega)) ck_shProg_shTape_4 rfl rfl (c_X8_number X.l u (k_pl [4, 5] shTape (k_ap [(0, .inl (3, (c0_3 + (1 : Int32)))), (1, .inr (.inr (.inl (upd a1 ((c0_3).toNatClampNeg) r3.1)))), (2, .inr (.inr (.inl (upd a2 ((c0_3).toNatClampNeg) r146.1)))), (3, .inr (.inr (.inl a3))), (4, .inl (3, r146.2.1)), (4, .inl (4, r146.2.2.1)), (4, .inl (5, r146.2.2.2.1)), (4, .inl (6, r146.2.2.2.2))] (shProg, I, L, Rf))) rfl ec4_2 rfl rfl rfl rfl ea5 q160) rfl (fun _ => rfl) rfl (fun _ => rfl) rfl rfl rfl (k_jn (us' := [(0, .inl (3, (c0_3 + (1 : Int32)))), (1, .inr (.inr (.inl (upd a1 ((c0_3).toNatClampNeg) r3.1)))), (2, .inr (.inr (.inl (upd a2 ((c0_3).toNatClampNeg) r146.1)))), (3, .inr (.inr (.inl a3))), (4, .inl (3, r160.2.1)), (4, .inl (4, r160.2.2.1)), (4, .inl (5, r160.2.2.2.1)), (4, .inl (6, r160.2.2.2.2))]) ds_X6_readStep rfl rfl rfl) rfl ?_
                obtain ⟨hi163, h⟩ := k_i_of h
                refine s_i (j := (c0_3).toNatClampNeg) (f := a3) (us' := [(0, .inl (3, (c0_3 + (1 : Int32)))), (1, .inr (.inr (.inl (upd a1 ((c0_3).toNatClampNeg) r3.1)))), (2, .inr (.inr (.inl (upd a2 ((c0_3).toNatClampNeg) r146.1)))), (3, .inr (.inr (.inl (upd a3 ((c0_3).toNatClampNeg) r160.1)))), (4, .inl (3, r160.2.1)), (4, .inl (4, r160.2.2.1)), (4, .inl (5, r160.2.2.2.1)), (4, .inl (6, r160.2.2.2.2))]) C dX6_readStep_163 (rfl : 163 + 1 = 164) rfl rfl hi163 rfl ds_X6_readStep rfl rfl rfl ?_
                refine r_goto (tgt := 179) C dX6_readStep_164 (by decide) ?_
                cases h
                exact r_vret C hr dX6_readStep_179
              · have h := k_f c52_4 h
                by_cases c52_5 : r3.1 = (5 : Int32)
                · have h := k_t c52_5 h
                  refine r_tabIn (off := 115) (tgt := 167) C dX6_readStep_52 (by rw [c52_5]; decide) (by rw [c52_5]; decide) (by rw [c52_5]; rfl) (by decide) ?_
                  refine r_aload_n C dX6_readStep_167 (rfl : 167 + 1 = 168) rfl ?_
                  refine r_aload_n C dX6_readStep_168 (rfl : 168 + 1 = 169) rfl ?_
                  refine r_aload_n C dX6_readStep_169 (rfl : 169 + 1 = 170) rfl ?_
                  refine r_iload_n C dX6_readStep_170 (rfl : 170 + 1 = 171) rfl ?_
                  refine r_iload C dX6_readStep_171 (rfl : 171 + 2 = 173) rfl ?_
                  obtain ⟨r173, q173, h⟩ := k_b_of h
                  refine d_V (As := [.ref 4, .ref 6, .int v3, .int c0_3]) (st := []) (st' := []) (h' := k_ap [(0, .inl (3, r173.1)), (1, .inr (.inr (.inl r173.2.1))), (2, .inr (.inr (.inl r173.2.2.1))), (3, .inr (.inr (.inl r173.2.2.2.1))), (4, .inl (3, r173.2.2.2.2.1)), (4, .inl (4, r173.2.2.2.2.2.1)), (4, .inl (5, r173.2.2.2.2.2.2.1)), (4, .inl (6, r173.2.2.2.2.2.2.2))] (shProg, I, L, Rf)) C hR ⟨Nat.zero_le _, Nat.zero_le _⟩ mv_X6_readAgain lk_X6_76 dX6_readStep_173 (rfl : 173 + 3 = 176) (k_bl (by omega)) (k_bl (by omega)) rfl rfl (c_X6_readAgain X.l u g hg (k_ap [(0, .inl (3, (c0_3 + (1 : Int32)))), (1, .inr (.inr (.inl (upd a1 ((c0_3).toNatClampNeg) r3.1)))), (2, .inr (.inr (.inl a2))), (3, .inr (.inr (.inl a3))), (4, .inl (3, r3.2.1)), (4, .inl (4, r3.2.2.1)), (4, .inl (5, r3.2.2.2.1)), (4, .inl (6, r3.2.2.2.2))] (shProg, I, L, Rf)) rfl rfl rfl rfl rfl ec4_2 rfl rfl rfl rfl ea5 ec6_0 ec6_1 q173) rfl rfl rfl (k_jn (us' := [(0, .inl (3, r173.1)), (1, .inr (.inr (.inl r173.2.1))), (2, .inr (.inr (.inl r173.2.2.1))), (3, .inr (.inr (.inl r173.2.2.2.1))), (4, .inl (3, r173.2.2.2.2.1)), (4, .inl (4, r173.2.2.2.2.2.1)), (4, .inl (5, r173.2.2.2.2.2.2.1)), (4, .inl (6, r173.2.2.2.2.2.2.2))]) ds_X6_readStep rfl rfl rfl) rfl ?_
                  refine r_goto (tgt := 179) C dX6_readStep_176 (by decide) ?_
                  cases h
                  exact r_vret C hr dX6_readStep_179
                · have h := k_f c52_5 h
                  have hsw : (r3.1 : Int32).toInt < 0 ∨ 5 < (r3.1 : Int32).toInt := k_sw [(0 : Int32), (1 : Int32), (2 : Int32), (3 : Int32), (4 : Int32), (5 : Int32)] (by decide) (by intro v hv; simp only [List.mem_cons, List.not_mem_nil, or_false] at hv; rcases hv with rfl | rfl | rfl | rfl | rfl | rfl <;> assumption)
                  refine r_tabOut (tgt := 179) C dX6_readStep_52 hsw (by decide) ?_
                  cases h
                  exact r_vret C hr dX6_readStep_179
    · have h := k_f c21 h
      cases h
      exact r_vret C hr dX6_readStep_24
set_option maxHeartbeats 400000 in
set_option maxRecDepth 100000 in
theorem c_X6_readStep (l : Launch) (u : Nat) (g : Int32 → (Nat → Int32) → (Nat → Int32) → (Nat → Int32) → Int32 → Int32 → Int32 → Int32 → Int32 → (Nat → Int32) → Int32 → Int32 → Int32 → Option (Int32 × (Nat → Int32) × (Nat → Int32) × (Nat → Int32) × Int32 × Int32 × Int32 × Int32)) {fg ng : Nat} (hg : H_X6_readSteps l g fg ng) (h : k_H) (hsh : h.1 = shProg) {c0_3 : Int32} (ec0_3 : h.2.1 0 3 = c0_3) {a1 : (Nat → Int32)} (ea1 : h.2.1 1 = a1) {a2 : (Nat → Int32)} (ea2 : h.2.1 2 = a2) {a3 : (Nat → Int32)} (ea3 : h.2.1 3 = a3) {c4_2 : Int32} (ec4_2 : h.2.1 4 2 = c4_2) {c4_3 : Int32} (ec4_3 : h.2.1 4 3 = c4_3) {c4_4 : Int32} (ec4_4 : h.2.1 4 4 = c4_4) {c4_5 : Int32} (ec4_5 : h.2.1 4 5 = c4_5) {c4_6 : Int32} (ec4_6 : h.2.1 4 6 = c4_6) {a5 : (Nat → Int32)} (ea5 : h.2.1 5 = a5) {c6_0 : Int32} (ec6_0 : h.2.1 6 0 = c6_0) {c6_1 : Int32} (ec6_1 : h.2.1 6 1 = c6_1) {x2 : Int32} {out : Int32 × (Nat → Int32) × (Nat → Int32) × (Nat → Int32) × Int32 × Int32 × Int32 × Int32} (hf : f_X6_readStep u g c0_3 a1 a2 a3 c4_2 c4_3 c4_4 c4_5 c4_6 a5 c6_0 c6_1 x2 = some out) : k_CT l yX6_readStep cX6_readStep 6 none (fg + 6) (ng + 133) [.ref 0, .ref 4, .ref 6, .int x2] h none [(0, .inl (3, out.1)), (1, .inr (.inr (.inl out.2.1))), (2, .inr (.inr (.inl out.2.2.1))), (3, .inr (.inr (.inl out.2.2.2.1))), (4, .inl (3, out.2.2.2.2.1)), (4, .inl (4, out.2.2.2.2.2.1)), (4, .inl (5, out.2.2.2.2.2.2.1)), (4, .inl (6, out.2.2.2.2.2.2.2))] := by
  obtain ⟨sh, I, L, Rf⟩ := h
  try dsimp only
  obtain rfl : sh = shProg := hsh
  refine k_ofW (by decide) (Nat.le_of_ble_eq_true rfl) ?_
  intro X ad hl hR0 hr C
  have hg : H_X6_readSteps X.l g fg ng := by rw [hl]; exact hg
  have hR : X.R.frames = (fg + 6) ∧ X.R.locals = (ng + 133) := by rw [hR0]; exact ⟨rfl, rfl⟩
  have h := hf
  unfold f_X6_readStep at h
  refine k_start (us := [(0, .inl (3, c0_3)), (1, .inr (.inr (.inl a1))), (2, .inr (.inr (.inl a2))), (3, .inr (.inr (.inl a3))), (4, .inl (3, c4_3)), (4, .inl (4, c4_4)), (4, .inl (5, c4_5)), (4, .inl (6, c4_6))]) (k_ao_I ec0_3 (k_ao_A ea1 (k_ao_A ea2 (k_ao_A ea3 (k_ao_I ec4_3 (k_ao_I ec4_4 (k_ao_I ec4_5 (k_ao_I ec4_6 k_ap_0)))))))) ?_
  show k_W X 6 0 0 _ ad (k_ap [(0, .inl (3, c0_3)), (1, .inr (.inr (.inl a1))), (2, .inr (.inr (.inl a2))), (3, .inr (.inr (.inl a3))), (4, .inl (3, c4_3)), (4, .inl (4, c4_4)), (4, .inl (5, c4_5)), (4, .inl (6, c4_6))] (shProg, I, L, Rf)) 0 [some (.ref 0), some (.ref 4), some (.ref 6), some (.int x2), none, none] []
  refine k_mask [true, true, true, true, false, false] ?_
  exact sX6_readStep_0 u g C hr hR hg ec4_2 ea5 ec6_0 ec6_1 c0_3 a1 a2 a3 c4_3 c4_4 c4_5 c4_6 x2 h
