/-! LullabyPit$Mine.richestCell()I -/
theorem ds_X3_richestCell : k_ds [] = true := by decide +kernel
set_option maxHeartbeats 400000 in
set_option maxRecDepth 100000 in
theorem sX3_richestCell_67 (u : Nat) {X : k_X} {ad : Nat → Nat} (C : k_C X cX3_richestCell RX3 6 ad) (hr : X.meth.sig.returnType = (some .int)) (hR : X.R.frames = 3 ∧ X.R.locals = 61) {I : Nat → Nat → Int32} {L : Nat → Nat → Int64} {Rf : Nat → Nat → Option Nat} {c0_15 : Int32} (ec0_15 : I 0 15 = c0_15) {c0_3 : Int64} (ec0_3 : L 0 3 = c0_3) {c0_4 : Int64} (ec0_4 : L 0 4 = c0_4) {c0_5 : Int64} (ec0_5 : L 0 5 = c0_5) {c5_5 : Int64} (ec5_5 : L 5 5 = c5_5) {c5_6 : Int64} (ec5_6 : L 5 6 = c5_6) {a6 : (Nat → Int32)} (ea6 : I 6 = a6) {a7 : (Nat → Int32)} (ea7 : I 7 = a7) {out : Int32} {k13 : Int64 → Int32 → Int32 → Int32 → Option (Int32)} (hk13 : ∀ (v1 : Int64) (v3 : Int32) (v4 : Int32) (v5 : Int32), k13 v1 v3 v4 v5 = some out → k_W X 6 0 0 (k_Q X ad (some (.int out)) (k_ap [] (shMine, I, L, Rf))) ad (k_ap [] (shMine, I, L, Rf)) 13 [some (.ref 0), some (.long v1), none, some (.int v3), some (.int v4), some (.int v5)] []) : ∀ (v1 : Int64) (v3 : Int32) (v4 : Int32) (v5 : Int32), bX3_richestCell_67 u c0_15 c0_3 c0_4 c0_5 c5_5 c5_6 a6 a7 k13 v1 v3 v4 v5 = some out → k_W X 6 0 0 (k_Q X ad (some (.int out)) (k_ap [] (shMine, I, L, Rf))) ad (k_ap [] (shMine, I, L, Rf)) 67 [some (.ref 0), some (.long v1), none, some (.int v3), some (.int v4), some (.int v5)] [] := by
  intro v1 v3 v4 v5 h
  unfold bX3_richestCell_67 at h
  refine r_iinc (v := (v5 + (1 : Int32))) C dX3_richestCell_67 (rfl : 67 + 3 = 70) rfl rfl (by decide) ?_
  show k_W _ _ _ _ _ _ _ _ [some (.ref 0), some (.long v1), none, some (.int v3), some (.int v4), some (.int (v5 + (1 : Int32)))] _
  refine r_goto (tgt := 13) C dX3_richestCell_70 (by decide) ?_
  refine k_mask [true, true, false, true, true, true] ?_
  exact hk13 v1 v3 v4 (v5 + (1 : Int32)) h
set_option maxHeartbeats 400000 in
set_option maxRecDepth 100000 in
theorem sX3_richestCell_13 (u : Nat) {X : k_X} {ad : Nat → Nat} (C : k_C X cX3_richestCell RX3 6 ad) (hr : X.meth.sig.returnType = (some .int)) (hR : X.R.frames = 3 ∧ X.R.locals = 61) {I : Nat → Nat → Int32} {L : Nat → Nat → Int64} {Rf : Nat → Nat → Option Nat} {c0_15 : Int32} (ec0_15 : I 0 15 = c0_15) {c0_3 : Int64} (ec0_3 : L 0 3 = c0_3) {c0_4 : Int64} (ec0_4 : L 0 4 = c0_4) {c0_5 : Int64} (ec0_5 : L 0 5 = c0_5) {c5_5 : Int64} (ec5_5 : L 5 5 = c5_5) {c5_6 : Int64} (ec5_6 : L 5 6 = c5_6) {a6 : (Nat → Int32)} (ea6 : I 6 = a6) {a7 : (Nat → Int32)} (ea7 : I 7 = a7) {out : Int32} : ∀ (n : Nat) (v1 : Int64) (v3 : Int32) (v4 : Int32) (v5 : Int32), bX3_richestCell_13 u c0_15 c0_3 c0_4 c0_5 c5_5 c5_6 a6 a7 n v1 v3 v4 v5 = some out → k_W X 6 0 0 (k_Q X ad (some (.int out)) (k_ap [] (shMine, I, L, Rf))) ad (k_ap [] (shMine, I, L, Rf)) 13 [some (.ref 0), some (.long v1), none, some (.int v3), some (.int v4), some (.int v5)] [] := by
  intro n
  induction n with
  | zero => intro v1 v3 v4 v5 h; cases h
  | succ n ih =>
    intro v1 v3 v4 v5 h
    refine r_iload C dX3_richestCell_13 (rfl : 13 + 2 = 15) rfl ?_
    refine r_bipush (v := (48 : Int32)) C dX3_richestCell_15 (rfl : 15 + 2 = 17) rfl ?_
    refine r_icmp_ge (tgt := 73) C dX3_richestCell_17 (by decide) (rfl : 17 + 3 = 20) (fun c17 => ?_) (fun c17 => ?_)
    · have h := k_t c17 h
      refine r_iload_n C dX3_richestCell_73 (rfl : 73 + 1 = 74) rfl ?_
      cases h
      exact r_iret C hr dX3_richestCell_74
    · have h := k_f c17 h
      refine r_lload_n C dX3_richestCell_20 (rfl : 20 + 1 = 21) rfl ?_
      refine r_iload C dX3_richestCell_21 (rfl : 21 + 2 = 23) rfl ?_
      refine r_lushr C dX3_richestCell_23 (rfl : 23 + 1 = 24) ?_
      refine r_lconst (v := (1 : Int64)) C dX3_richestCell_24 (rfl : 24 + 1 = 25) rfl ?_
      refine r_land C dX3_richestCell_25 (rfl : 25 + 1 = 26) ?_
      refine r_lconst (v := (0 : Int64)) C dX3_richestCell_26 (rfl : 26 + 1 = 27) rfl ?_
      refine r_lcmp C dX3_richestCell_27 (rfl : 27 + 1 = 28) ?_
      refine r_if_eq (tgt := 67) C dX3_richestCell_28 (by decide) (rfl : 28 + 3 = 31) (fun c28 => ?_) (fun c28 => ?_)
      · have h := k_t c28 h
        refine k_mask [true, true, false, true, true, true] ?_
        exact sX3_richestCell_67 u C hr hR ec0_15 ec0_3 ec0_4 ec0_5 ec5_5 ec5_6 ea6 ea7 ih v1 v3 v4 v5 h
      · have h := k_f c28 h
        refine r_aload_n C dX3_richestCell_31 (rfl : 31 + 1 = 32) rfl ?_
        refine r_getR (q := 5) C dX3_richestCell_32 (rfl : 32 + 3 = 35) fl_X3_24 rfl rfl ?_
        refine r_getR (q := 6) C dX3_richestCell_35 (rfl : 35 + 3 = 38) fl_X3_137 rfl rfl ?_
        refine r_iload C dX3_richestCell_38 (rfl : 38 + 2 = 40) rfl ?_
        obtain ⟨hi40, h⟩ := k_i_of h
        refine a_i (j := (v5).toNatClampNeg) (f := a6) C dX3_richestCell_40 (rfl : 40 + 1 = 41) rfl ea6 hi40 rfl ?_
        refine r_iconst (v := (5 : Int32)) C dX3_richestCell_41 (rfl : 41 + 1 = 42) rfl ?_
        refine r_icmp_eq (tgt := 67) C dX3_richestCell_42 (by decide) (rfl : 42 + 3 = 45) (fun c42 => ?_) (fun c42 => ?_)
        · have h := k_t c42 h
          refine k_mask [true, true, false, true, true, true] ?_
          exact sX3_richestCell_67 u C hr hR ec0_15 ec0_3 ec0_4 ec0_5 ec5_5 ec5_6 ea6 ea7 ih v1 v3 v4 v5 h
        · have h := k_f c42 h
          refine r_aload_n C dX3_richestCell_45 (rfl : 45 + 1 = 46) rfl ?_
          refine r_iload C dX3_richestCell_46 (rfl : 46 + 2 = 48) rfl ?_
          obtain ⟨r48, q48, h⟩ := k_b_of h
          refine d_V (As := [.int v5]) (st := []) (st' := [.int r48]) (h' := k_ap [] (shMine, I, L, Rf)) C hR ⟨Nat.zero_le _, Nat.zero_le _⟩ mv_X3_barsLeft lk_X3_130 dX3_richestCell_48 (rfl : 48 + 3 = 51) rfl rfl rfl rfl (c_X3_barsLeft X.l u (k_ap [] (shMine, I, L, Rf)) rfl ec0_3 ec0_4 ec0_5 ea7 q48) rfl rfl rfl rfl rfl ?_
          refine r_iload C dX3_richestCell_51 (rfl : 51 + 2 = 53) rfl ?_
          refine r_icmp_le (tgt := 67) C dX3_richestCell_53 (by decide) (rfl : 53 + 3 = 56) (fun c53 => ?_) (fun c53 => ?_)
          · have h := k_t c53 h
            refine k_mask [true, true, false, true, true, true] ?_
            exact sX3_richestCell_67 u C hr hR ec0_15 ec0_3 ec0_4 ec0_5 ec5_5 ec5_6 ea6 ea7 ih v1 v3 v4 v5 h
          · have h := k_f c53 h
            refine r_aload_n C dX3_richestCell_56 (rfl : 56 + 1 = 57) rfl ?_
            refine r_iload C dX3_richestCell_57 (rfl : 57 + 2 = 59) rfl ?_
            obtain ⟨r59, q59, h⟩ := k_b_of h
            refine d_V (As := [.int v5]) (st := []) (st' := [.int r59]) (h' := k_ap [] (shMine, I, L, Rf)) C hR ⟨Nat.zero_le _, Nat.zero_le _⟩ mv_X3_barsLeft lk_X3_130 dX3_richestCell_59 (rfl : 59 + 3 = 62) rfl rfl rfl rfl (c_X3_barsLeft X.l u (k_ap [] (shMine, I, L, Rf)) rfl ec0_3 ec0_4 ec0_5 ea7 q59) rfl rfl rfl rfl rfl ?_
            refine r_istore C dX3_richestCell_62 (rfl : 62 + 2 = 64) (by decide) (Nat.le_of_ble_eq_true rfl) ?_
            show k_W _ _ _ _ _ _ _ _ [some (.ref 0), some (.long v1), none, some (.int v3), some (.int r59), some (.int v5)] _
            refine r_iload C dX3_richestCell_64 (rfl : 64 + 2 = 66) rfl ?_
            refine r_istore_n C dX3_richestCell_66 (rfl : 66 + 1 = 67) (by decide) (Nat.le_of_ble_eq_true rfl) ?_
            show k_W _ _ _ _ _ _ _ _ [some (.ref 0), some (.long v1), none, some (.int v5), some (.int r59), some (.int v5)] _
            refine k_mask [true, true, false, true, true, true] ?_
            exact sX3_richestCell_67 u C hr hR ec0_15 ec0_3 ec0_4 ec0_5 ec5_5 ec5_6 ea6 ea7 ih v1 v5 r59 v5 h
set_option maxHeartbeats 400000 in
set_option maxRecDepth 100000 in
theorem sX3_richestCell_0 (u : Nat) {X : k_X} {ad : Nat → Nat} (C : k_C X cX3_richestCell RX3 6 ad) (hr : X.meth.sig.returnType = (some .int)) (hR : X.R.frames = 3 ∧ X.R.locals = 61) {I : Nat → Nat → Int32} {L : Nat → Nat → Int64} {Rf : Nat → Nat → Option Nat} {c0_15 : Int32} (ec0_15 : I 0 15 = c0_15) {c0_3 : Int64} (ec0_3 : L 0 3 = c0_3) {c0_4 : Int64} (ec0_4 : L 0 4 = c0_4) {c0_5 : Int64} (ec0_5 : L 0 5 = c0_5) {c5_5 : Int64} (ec5_5 : L 5 5 = c5_5) {c5_6 : Int64} (ec5_6 : L 5 6 = c5_6) {a6 : (Nat → Int32)} (ea6 : I 6 = a6) {a7 : (Nat → Int32)} (ea7 : I 7 = a7) {out : Int32} : bX3_richestCell_0 u c0_15 c0_3 c0_4 c0_5 c5_5 c5_6 a6 a7 = some out → k_W X 6 0 0 (k_Q X ad (some (.int out)) (k_ap [] (shMine, I, L, Rf))) ad (k_ap [] (shMine, I, L, Rf)) 0 [some (.ref 0), none, none, none, none, none] [] := by
  intro h
  unfold bX3_richestCell_0 at h
  refine r_aload_n C dX3_richestCell_0 (rfl : 0 + 1 = 1) rfl ?_
  obtain ⟨r1, q1, h⟩ := k_b_of h
  refine d_V (As := []) (st := []) (st' := [.long r1]) (h' := k_ap [] (shMine, I, L, Rf)) C hR ⟨Nat.zero_le _, Nat.zero_le _⟩ mv_X3_ableCells lk_X3_202 dX3_richestCell_1 (rfl : 1 + 3 = 4) rfl rfl rfl rfl (c_X3_ableCells X.l u (k_ap [] (shMine, I, L, Rf)) rfl ec0_15 ec0_3 ec0_4 ec5_5 ec5_6 q1) rfl rfl rfl rfl rfl ?_
  refine r_lstore_n C dX3_richestCell_4 (rfl : 4 + 1 = 5) (by decide) (Nat.le_of_ble_eq_true rfl) ?_
  show k_W _ _ _ _ _ _ _ _ [some (.ref 0), some (.long r1), none, none, none, none] _
  refine r_iconst (v := (-1 : Int32)) C dX3_richestCell_5 (rfl : 5 + 1 = 6) rfl ?_
  refine r_istore_n C dX3_richestCell_6 (rfl : 6 + 1 = 7) (by decide) (Nat.le_of_ble_eq_true rfl) ?_
  show k_W _ _ _ _ _ _ _ _ [some (.ref 0), some (.long r1), none, some (.int (-1 : Int32)), none, none] _
  refine r_iconst (v := (-1 : Int32)) C dX3_richestCell_7 (rfl : 7 + 1 = 8) rfl ?_
  refine r_istore C dX3_richestCell_8 (rfl : 8 + 2 = 10) (by decide) (Nat.le_of_ble_eq_true rfl) ?_
  show k_W _ _ _ _ _ _ _ _ [some (.ref 0), some (.long r1), none, some (.int (-1 : Int32)), some (.int (-1 : Int32)), none] _
  refine r_iconst (v := (0 : Int32)) C dX3_richestCell_10 (rfl : 10 + 1 = 11) rfl ?_
  refine r_istore C dX3_richestCell_11 (rfl : 11 + 2 = 13) (by decide) (Nat.le_of_ble_eq_true rfl) ?_
  show k_W _ _ _ _ _ _ _ _ [some (.ref 0), some (.long r1), none, some (.int (-1 : Int32)), some (.int (-1 : Int32)), some (.int (0 : Int32))] _
  refine k_mask [true, true, false, true, true, true] ?_
  exact sX3_richestCell_13 u C hr hR ec0_15 ec0_3 ec0_4 ec0_5 ec5_5 ec5_6 ea6 ea7 u r1 (-1 : Int32) (-1 : Int32) (0 : Int32) h
set_option maxHeartbeats 400000 in
set_option maxRecDepth 100000 in
theorem c_X3_richestCell (l : Launch) (u : Nat) (h : k_H) (hsh : h.1 = shMine) {c0_15 : Int32} (ec0_15 : h.2.1 0 15 = c0_15) {c0_3 : Int64} (ec0_3 : h.2.2.1 0 3 = c0_3) {c0_4 : Int64} (ec0_4 : h.2.2.1 0 4 = c0_4) {c0_5 : Int64} (ec0_5 : h.2.2.1 0 5 = c0_5) {c5_5 : Int64} (ec5_5 : h.2.2.1 5 5 = c5_5) {c5_6 : Int64} (ec5_6 : h.2.2.1 5 6 = c5_6) {a6 : (Nat → Int32)} (ea6 : h.2.1 6 = a6) {a7 : (Nat → Int32)} (ea7 : h.2.1 7 = a7) {out : Int32} (hf : f_X3_richestCell u c0_15 c0_3 c0_4 c0_5 c5_5 c5_6 a6 a7 = some out) : k_CT l yX3_richestCell cX3_richestCell 6 (some .int) 3 61 [.ref 0] h (some (.int out)) [] := by
  obtain ⟨sh, I, L, Rf⟩ := h
  try dsimp only
  obtain rfl : sh = shMine := hsh
  refine k_ofW (by decide) (Nat.le_of_ble_eq_true rfl) ?_
  intro X ad hl hR0 hr C
  have hR : X.R.frames = 3 ∧ X.R.locals = 61 := by rw [hR0]; exact ⟨rfl, rfl⟩
  have h := hf
  unfold f_X3_richestCell at h
  refine k_start (us := []) k_ap_0 ?_
  show k_W X 6 0 0 _ ad (k_ap [] (shMine, I, L, Rf)) 0 [some (.ref 0), none, none, none, none, none] []
  refine k_mask [true, false, false, false, false, false] ?_
  exact sX3_richestCell_0 u C hr hR ec0_15 ec0_3 ec0_4 ec0_5 ec5_5 ec5_6 ea6 ea7 h
/-! LullabyPit$Mine.digShift()V -/
theorem ds_X3_digShift : k_ds [(0, 0, 11), (0, 0, 14), (0, 0, 15), (0, 0, 16), (0, 0, 17), (0, 1, 3), (0, 1, 5), (1, 2, 0), (14, 2, 0), (17, 2, 0)] = true := by decide +kernel
set_option maxHeartbeats 400000 in
set_option maxRecDepth 100000 in
theorem sX3_digShift_15 (u : Nat) {X : k_X} {ad : Nat → Nat} (C : k_C X cX3_digShift RX3 4 ad) (hr : X.meth.sig.returnType = none) (hR : X.R.frames = 5 ∧ X.R.locals = 121) {I : Nat → Nat → Int32} {L : Nat → Nat → Int64} {Rf : Nat → Nat → Option Nat} {c0_10 : Int32} (ec0_10 : I 0 10 = c0_10) {c0_4 : Int64} (ec0_4 : L 0 4 = c0_4) {c5_8 : Int32} (ec5_8 : I 5 8 = c5_8) {c5_5 : Int64} (ec5_5 : L 5 5 = c5_5) {c5_6 : Int64} (ec5_6 : L 5 6 = c5_6) {a6 : (Nat → Int32)} (ea6 : I 6 = a6) {a7 : (Nat → Int32)} (ea7 : I 7 = a7) {c12_2 : Int32} (ec12_2 : I 12 2 = c12_2) {a13 : (Nat → Int32)} (ea13 : I 13 = a13) {c15_2 : Int32} (ec15_2 : I 15 2 = c15_2) {a16 : (Nat → Int32)} (ea16 : I 16 = a16) {out : Int32 × Int32 × Int32 × Int32 × Int32 × Int64 × Int64 × (Nat → Int32) × (Nat → Int32) × (Nat → Int32)} : ∀ (n : Nat) (c0_11 : Int32) (c0_14 : Int32) (c0_15 : Int32) (c0_16 : Int32) (c0_17 : Int32) (c0_3 : Int64) (c0_5 : Int64) (a1 : (Nat → Int32)) (a14 : (Nat → Int32)) (a17 : (Nat → Int32)) (v1 : Int32) (v2 : Int32), bX3_digShift_15 u c0_10 c0_4 c5_8 c5_5 c5_6 a6 a7 c12_2 a13 c15_2 a16 n c0_11 c0_14 c0_15 c0_16 c0_17 c0_3 c0_5 a1 a14 a17 v1 v2 = some out → k_W X 4 0 0 (k_Q X ad none (k_ap [(0, .inl (11, out.1)), (0, .inl (14, out.2.1)), (0, .inl (15, out.2.2.1)), (0, .inl (16, out.2.2.2.1)), (0, .inl (17, out.2.2.2.2.1)), (0, .inr (.inl (3, out.2.2.2.2.2.1))), (0, .inr (.inl (5, out.2.2.2.2.2.2.1))), (1, .inr (.inr (.inl out.2.2.2.2.2.2.2.1))), (14, .inr (.inr (.inl out.2.2.2.2.2.2.2.2.1))), (17, .inr (.inr (.inl out.2.2.2.2.2.2.2.2.2)))] (shMine, I, L, Rf))) ad (k_ap [(0, .inl (11, c0_11)), (0, .inl (14, c0_14)), (0, .inl (15, c0_15)), (0, .inl (16, c0_16)), (0, .inl (17, c0_17)), (0, .inr (.inl (3, c0_3))), (0, .inr (.inl (5, c0_5))), (1, .inr (.inr (.inl a1))), (14, .inr (.inr (.inl a14))), (17, .inr (.inr (.inl a17)))] (shMine, I, L, Rf)) 15 [some (.ref 0), some (.int v1), some (.int v2), none] [] := by
  intro n
  induction n with
  | zero => intro c0_11 c0_14 c0_15 c0_16 c0_17 c0_3 c0_5 a1 a14 a17 v1 v2 h; cases h
  | succ n ih =>
    intro c0_11 c0_14 c0_15 c0_16 c0_17 c0_3 c0_5 a1 a14 a17 v1 v2 h
    refine r_iload_n C dX3_digShift_15 (rfl : 15 + 1 = 16) rfl ?_
    refine r_iload_n C dX3_digShift_16 (rfl : 16 + 1 = 17) rfl ?_
    refine r_icmp_ge (tgt := 42) C dX3_digShift_17 (by decide) (rfl : 17 + 3 = 20) (fun c17 => ?_) (fun c17 => ?_)
    · have h := k_t c17 h
      cases h
      exact r_vret C hr dX3_digShift_42
    · have h := k_f c17 h
      refine r_aload_n C dX3_digShift_20 (rfl : 20 + 1 = 21) rfl ?_
      obtain ⟨r21, q21, h⟩ := k_b_of h
      refine d_V (As := []) (st := []) (st' := [.int r21]) (h' := k_ap [(0, .inl (11, c0_11)), (0, .inl (14, c0_14)), (0, .inl (15, c0_15)), (0, .inl (16, c0_16)), (0, .inl (17, c0_17)), (0, .inr (.inl (3, c0_3))), (0, .inr (.inl (5, c0_5))), (1, .inr (.inr (.inl a1))), (14, .inr (.inr (.inl a14))), (17, .inr (.inr (.inl a17)))] (shMine, I, L, Rf)) C hR ⟨Nat.zero_le _, Nat.zero_le _⟩ mv_X3_richestCell lk_X3_205 dX3_digShift_21 (rfl : 21 + 3 = 24) rfl rfl rfl rfl (c_X3_richestCell X.l u (k_ap [(0, .inl (11, c0_11)), (0, .inl (14, c0_14)), (0, .inl (15, c0_15)), (0, .inl (16, c0_16)), (0, .inl (17, c0_17)), (0, .inr (.inl (3, c0_3))), (0, .inr (.inl (5, c0_5))), (1, .inr (.inr (.inl a1))), (14, .inr (.inr (.inl a14))), (17, .inr (.inr (.inl a17)))] (shMine, I, L, Rf)) rfl rfl rfl ec0_4 rfl ec5_5 ec5_6 ea6 ea7 q21) rfl rfl rfl rfl rfl ?_
      refine r_istore_n C dX3_digShift_24 (rfl : 24 + 1 = 25) (by decide) (Nat.le_of_ble_eq_true rfl) ?_
      show k_W _ _ _ _ _ _ _ _ [some (.ref 0), some (.int v1), some (.int v2), some (.int r21)] _
      refine r_iload_n C dX3_digShift_25 (rfl : 25 + 1 = 26) rfl ?_
      refine r_iconst (v := (-1 : Int32)) C dX3_digShift_26 (rfl : 26 + 1 = 27) rfl ?_
      refine r_icmp_ne (tgt := 31) C dX3_digShift_27 (by decide) (rfl : 27 + 3 = 30) (fun c27 => ?_) (fun c27 => ?_)
      · have h := k_f c27 h
        refine r_aload_n C dX3_digShift_31 (rfl : 31 + 1 = 32) rfl ?_
        refine r_iload_n C dX3_digShift_32 (rfl : 32 + 1 = 33) rfl ?_
        obtain ⟨r33, q33, h⟩ := k_b_of h
        refine d_V (As := [.int r21]) (st := []) (st' := []) (h' := k_ap [(0, .inl (11, r33.1)), (0, .inl (14, r33.2.1)), (0, .inl (15, r33.2.2.1)), (0, .inl (16, r33.2.2.2.1)), (0, .inl (17, r33.2.2.2.2.1)), (0, .inr (.inl (3, r33.2.2.2.2.2.1))), (0, .inr (.inl (5, r33.2.2.2.2.2.2.1))), (1, .inr (.inr (.inl r33.2.2.2.2.2.2.2.1))), (14, .inr (.inr (.inl r33.2.2.2.2.2.2.2.2.1))), (17, .inr (.inr (.inl r33.2.2.2.2.2.2.2.2.2)))] (shMine, I, L, Rf)) C hR ⟨Nat.zero_le _, Nat.zero_le _⟩ mv_X3_breakOpen lk_X3_209 dX3_digShift_33 (rfl : 33 + 3 = 36) rfl rfl rfl rfl (c_X3_breakOpen X.l u (k_ap [(0, .inl (11, c0_11)), (0, .inl (14, c0_14)), (0, .inl (15, c0_15)), (0, .inl (16, c0_16)), (0, .inl (17, c0_17)), (0, .inr (.inl (3, c0_3))), (0, .inr (.inl (5, c0_5))), (1, .inr (.inr (.inl a1))), (14, .inr (.inr (.inl a14))), (17, .inr (.inr (.inl a17)))] (shMine, I, L, Rf)) rfl ec0_10 rfl rfl rfl rfl rfl rfl ec0_4 rfl rfl ea6 ea7 ec12_2 ea13 rfl ec15_2 ea16 rfl q33) rfl rfl rfl (k_jn (us' := [(0, .inl (11, r33.1)), (0, .inl (14, r33.2.1)), (0, .inl (15, r33.2.2.1)), (0, .inl (16, r33.2.2.2.1)), (0, .inl (17, r33.2.2.2.2.1)), (0, .inr (.inl (3, r33.2.2.2.2.2.1))), (0, .inr (.inl (5, r33.2.2.2.2.2.2.1))), (1, .inr (.inr (.inl r33.2.2.2.2.2.2.2.1))), (14, .inr (.inr (.inl r33.2.2.2.2.2.2.2.2.1))), (17, .inr (.inr (.inl r33.2.2.2.2.2.2.2.2.2)))]) ds_X3_digShift rfl rfl rfl) rfl ?_
        refine r_iinc (v := (v2 + (1 : Int32))) C dX3_digShift_36 (rfl : 36 + 3 = 39) rfl rfl (by decide) ?_
        show k_W _ _ _ _ _ _ _ _ [some (.ref 0), some (.int v1), some (.int (v2 + (1 : Int32))), some (.int r21)] _
        refine r_goto (tgt := 15) C dX3_digShift_39 (by decide) ?_
        refine k_mask [true, true, true, false] ?_
        exact ih r33.1 r33.2.1 r33.2.2.1 r33.2.2.2.1 r33.2.2.2.2.1 r33.2.2.2.2.2.1 r33.2.2.2.2.2.2.1 r33.2.2.2.2.2.2.2.1 r33.2.2.2.2.2.2.2.2.1 r33.2.2.2.2.2.2.2.2.2 v1 (v2 + (1 : Int32)) h
      · have h := k_t c27 h
        cases h
        exact r_vret C hr dX3_digShift_30
set_option maxHeartbeats 400000 in
set_option maxRecDepth 100000 in
theorem sX3_digShift_0 (u : Nat) {X : k_X} {ad : Nat → Nat} (C : k_C X cX3_digShift RX3 4 ad) (hr : X.meth.sig.returnType = none) (hR : X.R.frames = 5 ∧ X.R.locals = 121) {I : Nat → Nat → Int32} {L : Nat → Nat → Int64} {Rf : Nat → Nat → Option Nat} {c0_10 : Int32} (ec0_10 : I 0 10 = c0_10) {c0_4 : Int64} (ec0_4 : L 0 4 = c0_4) {c5_8 : Int32} (ec5_8 : I 5 8 = c5_8) {c5_5 : Int64} (ec5_5 : L 5 5 = c5_5) {c5_6 : Int64} (ec5_6 : L 5 6 = c5_6) {a6 : (Nat → Int32)} (ea6 : I 6 = a6) {a7 : (Nat → Int32)} (ea7 : I 7 = a7) {c12_2 : Int32} (ec12_2 : I 12 2 = c12_2) {a13 : (Nat → Int32)} (ea13 : I 13 = a13) {c15_2 : Int32} (ec15_2 : I 15 2 = c15_2) {a16 : (Nat → Int32)} (ea16 : I 16 = a16) {out : Int32 × Int32 × Int32 × Int32 × Int32 × Int64 × Int64 × (Nat → Int32) × (Nat → Int32) × (Nat → Int32)} : ∀ (c0_11 : Int32) (c0_14 : Int32) (c0_15 : Int32) (c0_16 : Int32) (c0_17 : Int32) (c0_3 : Int64) (c0_5 : Int64) (a1 : (Nat → Int32)) (a14 : (Nat → Int32)) (a17 : (Nat → Int32)), bX3_digShift_0 u c0_10 c0_4 c5_8 c5_5 c5_6 a6 a7 c12_2 a13 c15_2 a16 c0_11 c0_14 c0_15 c0_16 c0_17 c0_3 c0_5 a1 a14 a17 = some out → k_W X 4 0 0 (k_Q X ad none (k_ap [(0, .inl (11, out.1)), (0, .inl (14, out.2.1)), (0, .inl (15, out.2.2.1)), (0, .inl (16, out.2.2.2.1)), (0, .inl (17, out.2.2.2.2.1)), (0, .inr (.inl (3, out.2.2.2.2.2.1))), (0, .inr (.inl (5, out.2.2.2.2.2.2.1))), (1, .inr (.inr (.inl out.2.2.2.2.2.2.2.1))), (14, .inr (.inr (.inl out.2.2.2.2.2.2.2.2.1))), (17, .inr (.inr (.inl out.2.2.2.2.2.2.2.2.2)))] (shMine, I, L, Rf))) ad (k_ap [(0, .inl (11, c0_11)), (0, .inl (14, c0_14)), (0, .inl (15, c0_15)), (0, .inl (16, c0_16)), (0, .inl (17, c0_17)), (0, .inr (.inl (3, c0_3))), (0, .inr (.inl (5, c0_5))), (1, .inr (.inr (.inl a1))), (14, .inr (.inr (.inl a14))), (17, .inr (.inr (.inl a17)))] (shMine, I, L, Rf)) 0 [some (.ref 0), none, none, none] [] := by
  intro c0_11 c0_14 c0_15 c0_16 c0_17 c0_3 c0_5 a1 a14 a17 h
  unfold bX3_digShift_0 at h
  refine r_aload_n C dX3_digShift_0 (rfl : 0 + 1 = 1) rfl ?_
  refine r_getR (q := 5) C dX3_digShift_1 (rfl : 1 + 3 = 4) fl_X3_24 rfl rfl ?_
  refine r_getI (v := c5_8) C dX3_digShift_4 (rfl : 4 + 3 = 7) fl_X3_159 rfl rfl ec5_8 ?_
  refine r_aload_n C dX3_digShift_7 (rfl : 7 + 1 = 8) rfl ?_
  refine r_getI (v := c0_11) C dX3_digShift_8 (rfl : 8 + 3 = 11) fl_X3_55 rfl rfl rfl ?_
  refine r_isub C dX3_digShift_11 (rfl : 11 + 1 = 12) ?_
  refine r_istore_n C dX3_digShift_12 (rfl : 12 + 1 = 13) (by decide) (Nat.le_of_ble_eq_true rfl) ?_
  show k_W _ _ _ _ _ _ _ _ [some (.ref 0), some (.int (c5_8 - c0_11)), none, none] _
  refine r_iconst (v := (0 : Int32)) C dX3_digShift_13 (rfl : 13 + 1 = 14) rfl ?_
  refine r_istore_n C dX3_digShift_14 (rfl : 14 + 1 = 15) (by decide) (Nat.le_of_ble_eq_true rfl) ?_
  show k_W _ _ _ _ _ _ _ _ [some (.ref 0), some (.int (c5_8 - c0_11)), some (.int (0 : Int32)), none] _
  refine k_mask [true, true, true, false] ?_
  exact sX3_digShift_15 u C hr hR ec0_10 ec0_4 ec5_8 ec5_5 ec5_6 ea6 ea7 ec12_2 ea13 ec15_2 ea16 u c0_11 c0_14 c0_15 c0_16 c0_17 c0_3 c0_5 a1 a14 a17 (c5_8 - c0_11) (0 : Int32) h
set_option maxHeartbeats 400000 in
set_option maxRecDepth 100000 in
theorem c_X3_digShift (l : Launch) (u : Nat) (h : k_H) (hsh : h.1 = shMine) {c0_10 : Int32} (ec0_10 : h.2.1 0 10 = c0_10) {c0_11 : Int32} (ec0_11 : h.2.1 0 11 = c0_11) {c0_14 : Int32} (ec0_14 : h.2.1 0 14 = c0_14) {c0_15 : Int32} (ec0_15 : h.2.1 0 15 = c0_15) {c0_16 : Int32} (ec0_16 : h.2.1 0 16 = c0_16) {c0_17 : Int32} (ec0_17 : h.2.1 0 17 = c0_17) {c0_3 : Int64} (ec0_3 : h.2.2.1 0 3 = c0_3) {c0_4 : Int64} (ec0_4 : h.2.2.1 0 4 = c0_4) {c0_5 : Int64} (ec0_5 : h.2.2.1 0 5 = c0_5) {a1 : (Nat → Int32)} (ea1 : h.2.1 1 = a1) {c5_8 : Int32} (ec5_8 : h.2.1 5 8 = c5_8) {c5_5 : Int64} (ec5_5 : h.2.2.1 5 5 = c5_5) {c5_6 : Int64} (ec5_6 : h.2.2.1 5 6 = c5_6) {a6 : (Nat → Int32)} (ea6 : h.2.1 6 = a6) {a7 : (Nat → Int32)} (ea7 : h.2.1 7 = a7) {c12_2 : Int32} (ec12_2 : h.2.1 12 2 = c12_2) {a13 : (Nat → Int32)} (ea13 : h.2.1 13 = a13) {a14 : (Nat → Int32)} (ea14 : h.2.1 14 = a14) {c15_2 : Int32} (ec15_2 : h.2.1 15 2 = c15_2) {a16 : (Nat → Int32)} (ea16 : h.2.1 16 = a16) {a17 : (Nat → Int32)} (ea17 : h.2.1 17 = a17) {out : Int32 × Int32 × Int32 × Int32 × Int32 × Int64 × Int64 × (Nat → Int32) × (Nat → Int32) × (Nat → Int32)} (hf : f_X3_digShift u c0_10 c0_11 c0_14 c0_15 c0_16 c0_17 c0_3 c0_4 c0_5 a1 c5_8 c5_5 c5_6 a6 a7 c12_2 a13 a14 c15_2 a16 a17 = some out) : k_CT l yX3_digShift cX3_digShift 4 none 5 121 [.ref 0] h none [(0, .inl (11, out.1)), (0, .inl (14, out.2.1)), (0, .inl (15, out.2.2.1)), (0, .inl (16, out.2.2.2.1)), (0, .inl (17, out.2.2.2.2.1)), (0, .inr (.inl (3, out.2.2.2.2.2.1))), (0, .inr (.inl (5, out.2.2.2.2.2.2.1))), (1, .inr (.inr (.inl out.2.2.2.2.2.2.2.1))), (14, .inr (.inr (.inl out.2.2.2.2.2.2.2.2.1))), (17, .inr (.inr (.inl out.2.2.2.2.2.2.2.2.2)))] := by
  obtain ⟨sh, I, L, Rf⟩ := h
  try dsimp only
  obtain rfl : sh = shMine := hsh
  refine k_ofW (by decide) (Nat.le_of_ble_eq_true rfl) ?_
  intro X ad hl hR0 hr C
  have hR : X.R.frames = 5 ∧ X.R.locals = 121 := by rw [hR0]; exact ⟨rfl, rfl⟩
  have h := hf
  unfold f_X3_digShift at h
  refine k_start (us := [(0, .inl (11, c0_11)), (0, .inl (14, c0_14)), (0, .inl (15, c0_15)), (0, .inl (16, c0_16)), (0, .inl (17, c0_17)), (0, .inr (.inl (3, c0_3))), (0, .inr (.inl (5, c0_5))), (1, .inr (.inr (.inl a1))), (14, .inr (.inr (.inl a14))), (17, .inr (.inr (.inl a17)))]) (k_ao_I ec0_11 (k_ao_I ec0_14 (k_ao_I ec0_15 (k_ao_I ec0_16 (k_ao_I ec0_17 (k_ao_L ec0_3 (k_ao_L ec0_5 (k_ao_A ea1 (k_ao_A ea14 (k_ao_A ea17 k_ap_0)))))))))) ?_
  show k_W X 4 0 0 _ ad (k_ap [(0, .inl (11, c0_11)), (0, .inl (14, c0_14)), (0, .inl (15, c0_15)), (0, .inl (16, c0_16)), (0, .inl (17, c0_17)), (0, .inr (.inl (3, c0_3))), (0, .inr (.inl (5, c0_5))), (1, .inr (.inr (.inl a1))), (14, .inr (.inr (.inl a14))), (17, .inr (.inr (.inl a17)))] (shMine, I, L, Rf)) 0 [some (.ref 0), none, none, none] []
  refine k_mask [true, false, false, false] ?_
  exact sX3_digShift_0 u C hr hR ec0_10 ec0_4 ec5_8 ec5_5 ec5_6 ea6 ea7 ec12_2 ea13 ec15_2 ea16 c0_11 c0_14 c0_15 c0_16 c0_17 c0_3 c0_5 a1 a14 a17 h
/-! LullabyPit$Mine.copyFrom(LLullabyPit$Mine;)V -/
theorem ds_X3_copyFrom : k_ds [(0, 0, 10), (0, 0, 11), (0, 0, 12), (0, 0, 13), (0, 0, 14), (0, 0, 15), (0, 0, 16), (0, 0, 17), (0, 1, 3), (0, 1, 4), (0, 1, 5), (1, 2, 0), (2, 2, 0), (3, 2, 0), (4, 2, 0)] = true := by decide +kernel
set_option maxHeartbeats 400000 in
set_option maxRecDepth 100000 in
theorem sX3_copyFrom_0 (u : Nat) {X : k_X} {ad : Nat → Nat} (C : k_C X cX3_copyFrom RX3 2 ad) (hr : X.meth.sig.returnType = none) (hR : X.R.frames = 1 ∧ X.R.locals = 40) {I : Nat → Nat → Int32} {L : Nat → Nat → Int64} {Rf : Nat → Nat → Option Nat} {c18_10 : Int32} (ec18_10 : I 18 10 = c18_10) {c18_11 : Int32} (ec18_11 : I 18 11 = c18_11) {c18_12 : Int32} (ec18_12 : I 18 12 = c18_12) {c18_13 : Int32} (ec18_13 : I 18 13 = c18_13) {c18_14 : Int32} (ec18_14 : I 18 14 = c18_14) {c18_15 : Int32} (ec18_15 : I 18 15 = c18_15) {c18_16 : Int32} (ec18_16 : I 18 16 = c18_16) {c18_17 : Int32} (ec18_17 : I 18 17 = c18_17) {c18_3 : Int64} (ec18_3 : L 18 3 = c18_3) {c18_4 : Int64} (ec18_4 : L 18 4 = c18_4) {c18_5 : Int64} (ec18_5 : L 18 5 = c18_5) {a19 : (Nat → Int32)} (ea19 : I 19 = a19) {a20 : (Nat → Int32)} (ea20 : I 20 = a20) {a21 : (Nat → Int32)} (ea21 : I 21 = a21) {a22 : (Nat → Int32)} (ea22 : I 22 = a22) {out : Int32 × Int32 × Int32 × Int32 × Int32 × Int32 × Int32 × Int32 × Int64 × Int64 × Int64 × (Nat → Int32) × (Nat → Int32) × (Nat → Int32) × (Nat → Int32)} : ∀ (c0_10 : Int32) (c0_11 : Int32) (c0_12 : Int32) (c0_13 : Int32) (c0_14 : Int32) (c0_15 : Int32) (c0_16 : Int32) (c0_17 : Int32) (c0_3 : Int64) (c0_4 : Int64) (c0_5 : Int64) (a1 : (Nat → Int32)) (a2 : (Nat → Int32)) (a3 : (Nat → Int32)) (a4 : (Nat → Int32)), bX3_copyFrom_0 u c18_10 c18_11 c18_12 c18_13 c18_14 c18_15 c18_16 c18_17 c18_3 c18_4 c18_5 a19 a20 a21 a22 c0_10 c0_11 c0_12 c0_13 c0_14 c0_15 c0_16 c0_17 c0_3 c0_4 c0_5 a1 a2 a3 a4 = some out → k_W X 2 0 0 (k_Q X ad none (k_ap [(0, .inl (10, out.1)), (0, .inl (11, out.2.1)), (0, .inl (12, out.2.2.1)), (0, .inl (13, out.2.2.2.1)), (0, .inl (14, out.2.2.2.2.1)), (0, .inl (15, out.2.2.2.2.2.1)), (0, .inl (16, out.2.2.2.2.2.2.1)), (0, .inl (17, out.2.2.2.2.2.2.2.1)), (0, .inr (.inl (3, out.2.2.2.2.2.2.2.2.1))), (0, .inr (.inl (4, out.2.2.2.2.2.2.2.2.2.1))), (0, .inr (.inl (5, out.2.2.2.2.2.2.2.2.2.2.1))), (1, .inr (.inr (.inl out.2.2.2.2.2.2.2.2.2.2.2.1))), (2, .inr (.inr (.inl out.2.2.2.2.2.2.2.2.2.2.2.2.1))), (3, .inr (.inr (.inl out.2.2.2.2.2.2.2.2.2.2.2.2.2.1))), (4, .inr (.inr (.inl out.2.2.2.2.2.2.2.2.2.2.2.2.2.2)))] (shMine2, I, L, Rf))) ad (k_ap [(0, .inl (10, c0_10)), (0, .inl (11, c0_11)), (0, .inl (12, c0_12)), (0, .inl (13, c0_13)), (0, .inl (14, c0_14)), (0, .inl (15, c0_15)), (0, .inl (16, c0_16)), (0, .inl (17, c0_17)), (0, .inr (.inl (3, c0_3))), (0, .inr (.inl (4, c0_4))), (0, .inr (.inl (5, c0_5))), (1, .inr (.inr (.inl a1))), (2, .inr (.inr (.inl a2))), (3, .inr (.inr (.inl a3))), (4, .inr (.inr (.inl a4)))] (shMine2, I, L, Rf)) 0 [some (.ref 0), some (.ref 18)] [] := by
  intro c0_10 c0_11 c0_12 c0_13 c0_14 c0_15 c0_16 c0_17 c0_3 c0_4 c0_5 a1 a2 a3 a4 h
  unfold bX3_copyFrom_0 at h
  refine r_aload_n C dX3_copyFrom_0 (rfl : 0 + 1 = 1) rfl ?_
  refine r_aload_n C dX3_copyFrom_1 (rfl : 1 + 1 = 2) rfl ?_
  refine r_getL (v := c18_3) C dX3_copyFrom_2 (rfl : 2 + 3 = 5) fl_X3_35 (k_gS rfl) rfl (k_gOL (ks := [(0, 0, 10), (0, 0, 11), (0, 0, 12), (0, 0, 13), (0, 0, 14), (0, 0, 15), (0, 0, 16), (0, 0, 17), (0, 1, 3), (0, 1, 4), (0, 1, 5), (1, 2, 0), (2, 2, 0), (3, 2, 0), (4, 2, 0)]) rfl (by decide +kernel) ec18_3) ?_
  refine p_L (us' := [(0, .inl (10, c0_10)), (0, .inl (11, c0_11)), (0, .inl (12, c0_12)), (0, .inl (13, c0_13)), (0, .inl (14, c0_14)), (0, .inl (15, c0_15)), (0, .inl (16, c0_16)), (0, .inl (17, c0_17)), (0, .inr (.inl (3, c18_3))), (0, .inr (.inl (4, c0_4))), (0, .inr (.inl (5, c0_5))), (1, .inr (.inr (.inl a1))), (2, .inr (.inr (.inl a2))), (3, .inr (.inr (.inl a3))), (4, .inr (.inr (.inl a4)))]) C dX3_copyFrom_5 (rfl : 5 + 3 = 8) fp_X3_35 rfl rfl ds_X3_copyFrom rfl rfl rfl ?_
  refine r_aload_n C dX3_copyFrom_8 (rfl : 8 + 1 = 9) rfl ?_
  refine r_aload_n C dX3_copyFrom_9 (rfl : 9 + 1 = 10) rfl ?_
  refine r_getL (v := c18_4) C dX3_copyFrom_10 (rfl : 10 + 3 = 13) fl_X3_39 (k_gS rfl) rfl (k_gOL (ks := [(0, 0, 10), (0, 0, 11), (0, 0, 12), (0, 0, 13), (0, 0, 14), (0, 0, 15), (0, 0, 16), (0, 0, 17), (0, 1, 3), (0, 1, 4), (0, 1, 5), (1, 2, 0), (2, 2, 0), (3, 2, 0), (4, 2, 0)]) rfl (by decide +kernel) ec18_4) ?_
  refine p_L (us' := [(0, .inl (10, c0_10)), (0, .inl (11, c0_11)), (0, .inl (12, c0_12)), (0, .inl (13, c0_13)), (0, .inl (14, c0_14)), (0, .inl (15, c0_15)), (0, .inl (16, c0_16)), (0, .inl (17, c0_17)), (0, .inr (.inl (3, c18_3))), (0, .inr (.inl (4, c18_4))), (0, .inr (.inl (5, c0_5))), (1, .inr (.inr (.inl a1))), (2, .inr (.inr (.inl a2))), (3, .inr (.inr (.inl a3))), (4, .inr (.inr (.inl a4)))]) C dX3_copyFrom_13 (rfl : 13 + 3 = 16) fp_X3_39 rfl rfl ds_X3_copyFrom rfl rfl rfl ?_
  refine r_aload_n C dX3_copyFrom_16 (rfl : 16 + 1 = 17) rfl ?_
  refine r_aload_n C dX3_copyFrom_17 (rfl : 17 + 1 = 18) rfl ?_
  refine r_getL (v := c18_5) C dX3_copyFrom_18 (rfl : 18 + 3 = 21) fl_X3_42 (k_gS rfl) rfl (k_gOL (ks := [(0, 0, 10), (0, 0, 11), (0, 0, 12), (0, 0, 13), (0, 0, 14), (0, 0, 15), (0, 0, 16), (0, 0, 17), (0, 1, 3), (0, 1, 4), (0, 1, 5), (1, 2, 0), (2, 2, 0), (3, 2, 0), (4, 2, 0)]) rfl (by decide +kernel) ec18_5) ?_
  refine p_L (us' := [(0, .inl (10, c0_10)), (0, .inl (11, c0_11)), (0, .inl (12, c0_12)), (0, .inl (13, c0_13)), (0, .inl (14, c0_14)), (0, .inl (15, c0_15)), (0, .inl (16, c0_16)), (0, .inl (17, c0_17)), (0, .inr (.inl (3, c18_3))), (0, .inr (.inl (4, c18_4))), (0, .inr (.inl (5, c18_5))), (1, .inr (.inr (.inl a1))), (2, .inr (.inr (.inl a2))), (3, .inr (.inr (.inl a3))), (4, .inr (.inr (.inl a4)))]) C dX3_copyFrom_21 (rfl : 21 + 3 = 24) fp_X3_42 rfl rfl ds_X3_copyFrom rfl rfl rfl ?_
  refine r_aload_n C dX3_copyFrom_24 (rfl : 24 + 1 = 25) rfl ?_
  refine r_getR (q := 19) C dX3_copyFrom_25 (rfl : 25 + 3 = 28) fl_X3_9 (k_gS rfl) rfl ?_
  refine r_iconst (v := (0 : Int32)) C dX3_copyFrom_28 (rfl : 28 + 1 = 29) rfl ?_
  refine r_aload_n C dX3_copyFrom_29 (rfl : 29 + 1 = 30) rfl ?_
  refine r_getR (q := 1) C dX3_copyFrom_30 (rfl : 30 + 3 = 33) fl_X3_9 (k_gS rfl) rfl ?_
  refine r_iconst (v := (0 : Int32)) C dX3_copyFrom_33 (rfl : 33 + 1 = 34) rfl ?_
  refine r_bipush (v := (6 : Int32)) C dX3_copyFrom_34 (rfl : 34 + 2 = 36) rfl ?_
  refine r_acopy (f := a19) (g := a1) (us' := [(0, .inl (10, c0_10)), (0, .inl (11, c0_11)), (0, .inl (12, c0_12)), (0, .inl (13, c0_13)), (0, .inl (14, c0_14)), (0, .inl (15, c0_15)), (0, .inl (16, c0_16)), (0, .inl (17, c0_17)), (0, .inr (.inl (3, c18_3))), (0, .inr (.inl (4, c18_4))), (0, .inr (.inl (5, c18_5))), (1, .inr (.inr (.inl (va_cpy a19 a1 0 0 6)))), (2, .inr (.inr (.inl a2))), (3, .inr (.inr (.inl a3))), (4, .inr (.inr (.inl a4)))]) C hR dX3_copyFrom_36 (rfl : 36 + 3 = 39) lm_X3_84 rfl rfl (k_gOA (ks := [(0, 0, 10), (0, 0, 11), (0, 0, 12), (0, 0, 13), (0, 0, 14), (0, 0, 15), (0, 0, 16), (0, 0, 17), (0, 1, 3), (0, 1, 4), (0, 1, 5), (1, 2, 0), (2, 2, 0), (3, 2, 0), (4, 2, 0)]) rfl (by decide +kernel) ea19) (k_gA ds_X3_copyFrom rfl 11 rfl) (by decide) (by decide) (by decide) (by decide) (by decide) ds_X3_copyFrom rfl rfl rfl rfl rfl ?_
  refine r_aload_n C dX3_copyFrom_39 (rfl : 39 + 1 = 40) rfl ?_
  refine r_getR (q := 20) C dX3_copyFrom_40 (rfl : 40 + 3 = 43) fl_X3_15 (k_gS rfl) rfl ?_
  refine r_iconst (v := (0 : Int32)) C dX3_copyFrom_43 (rfl : 43 + 1 = 44) rfl ?_
  refine r_aload_n C dX3_copyFrom_44 (rfl : 44 + 1 = 45) rfl ?_
  refine r_getR (q := 2) C dX3_copyFrom_45 (rfl : 45 + 3 = 48) fl_X3_15 (k_gS rfl) rfl ?_
  refine r_iconst (v := (0 : Int32)) C dX3_copyFrom_48 (rfl : 48 + 1 = 49) rfl ?_
  refine r_bipush (v := (6 : Int32)) C dX3_copyFrom_49 (rfl : 49 + 2 = 51) rfl ?_
  refine r_acopy (f := a20) (g := a2) (us' := [(0, .inl (10, c0_10)), (0, .inl (11, c0_11)), (0, .inl (12, c0_12)), (0, .inl (13, c0_13)), (0, .inl (14, c0_14)), (0, .inl (15, c0_15)), (0, .inl (16, c0_16)), (0, .inl (17, c0_17)), (0, .inr (.inl (3, c18_3))), (0, .inr (.inl (4, c18_4))), (0, .inr (.inl (5, c18_5))), (1, .inr (.inr (.inl (va_cpy a19 a1 0 0 6)))), (2, .inr (.inr (.inl (va_cpy a20 a2 0 0 6)))), (3, .inr (.inr (.inl a3))), (4, .inr (.inr (.inl a4)))]) C hR dX3_copyFrom_51 (rfl : 51 + 3 = 54) lm_X3_84 rfl rfl (k_gOA (ks := [(0, 0, 10), (0, 0, 11), (0, 0, 12), (0, 0, 13), (0, 0, 14), (0, 0, 15), (0, 0, 16), (0, 0, 17), (0, 1, 3), (0, 1, 4), (0, 1, 5), (1, 2, 0), (2, 2, 0), (3, 2, 0), (4, 2, 0)]) rfl (by decide +kernel) ea20) (k_gA ds_X3_copyFrom rfl 12 rfl) (by decide) (by decide) (by decide) (by decide) (by decide) ds_X3_copyFrom rfl rfl rfl rfl rfl ?_
  refine r_aload_n C dX3_copyFrom_54 (rfl : 54 + 1 = 55) rfl ?_
  refine r_getR (q := 21) C dX3_copyFrom_55 (rfl : 55 + 3 = 58) fl_X3_18 (k_gS rfl) rfl ?_
  refine r_iconst (v := (0 : Int32)) C dX3_copyFrom_58 (rfl : 58 + 1 = 59) rfl ?_
  refine r_aload_n C dX3_copyFrom_59 (rfl : 59 + 1 = 60) rfl ?_
  refine r_getR (q := 3) C dX3_copyFrom_60 (rfl : 60 + 3 = 63) fl_X3_18 (k_gS rfl) rfl ?_
  refine r_iconst (v := (0 : Int32)) C dX3_copyFrom_63 (rfl : 63 + 1 = 64) rfl ?_
  refine r_bipush (v := (6 : Int32)) C dX3_copyFrom_64 (rfl : 64 + 2 = 66) rfl ?_
  refine r_acopy (f := a21) (g := a3) (us' := [(0, .inl (10, c0_10)), (0, .inl (11, c0_11)), (0, .inl (12, c0_12)), (0, .inl (13, c0_13)), (0, .inl (14, c0_14)), (0, .inl (15, c0_15)), (0, .inl (16, c0_16)), (0, .inl (17, c0_17)), (0, .inr (.inl (3, c18_3))), (0, .inr (.inl (4, c18_4))), (0, .inr (.inl (5, c18_5))), (1, .inr (.inr (.inl (va_cpy a19 a1 0 0 6)))), (2, .inr (.inr (.inl (va_cpy a20 a2 0 0 6)))), (3, .inr (.inr (.inl (va_cpy a21 a3 0 0 6)))), (4, .inr (.inr (.inl a4)))]) C hR dX3_copyFrom_66 (rfl : 66 + 3 = 69) lm_X3_84 rfl rfl (k_gOA (ks := [(0, 0, 10), (0, 0, 11), (0, 0, 12), (0, 0, 13), (0, 0, 14), (0, 0, 15), (0, 0, 16), (0, 0, 17), (0, 1, 3), (0, 1, 4), (0, 1, 5), (1, 2, 0), (2, 2, 0), (3, 2, 0), (4, 2, 0)]) rfl (by decide +kernel) ea21) (k_gA ds_X3_copyFrom rfl 13 rfl) (by decide) (by decide) (by decide) (by decide) (by decide) ds_X3_copyFrom rfl rfl rfl rfl rfl ?_
  refine r_aload_n C dX3_copyFrom_69 (rfl : 69 + 1 = 70) rfl ?_
  refine r_getR (q := 22) C dX3_copyFrom_70 (rfl : 70 + 3 = 73) fl_X3_21 (k_gS rfl) rfl ?_
  refine r_iconst (v := (0 : Int32)) C dX3_copyFrom_73 (rfl : 73 + 1 = 74) rfl ?_
  refine r_aload_n C dX3_copyFrom_74 (rfl : 74 + 1 = 75) rfl ?_
  refine r_getR (q := 4) C dX3_copyFrom_75 (rfl : 75 + 3 = 78) fl_X3_21 (k_gS rfl) rfl ?_
  refine r_iconst (v := (0 : Int32)) C dX3_copyFrom_78 (rfl : 78 + 1 = 79) rfl ?_
  refine r_bipush (v := (6 : Int32)) C dX3_copyFrom_79 (rfl : 79 + 2 = 81) rfl ?_
  refine r_acopy (f := a22) (g := a4) (us' := [(0, .inl (10, c0_10)), (0, .inl (11, c0_11)), (0, .inl (12, c0_12)), (0, .inl (13, c0_13)), (0, .inl (14, c0_14)), (0, .inl (15, c0_15)), (0, .inl (16, c0_16)), (0, .inl (17, c0_17)), (0, .inr (.inl (3, c18_3))), (0, .inr (.inl (4, c18_4))), (0, .inr (.inl (5, c18_5))), (1, .inr (.inr (.inl (va_cpy a19 a1 0 0 6)))), (2, .inr (.inr (.inl (va_cpy a20 a2 0 0 6)))), (3, .inr (.inr (.inl (va_cpy a21 a3 0 0 6)))), (4, .inr (.inr (.inl (va_cpy a22 a4 0 0 6))))]) C hR dX3_copyFrom_81 (rfl : 81 + 3 = 84) lm_X3_84 rfl rfl (k_gOA (ks := [(0, 0, 10), (0, 0, 11), (0, 0, 12), (0, 0, 13), (0, 0, 14), (0, 0, 15), (0, 0, 16), (0, 0, 17), (0, 1, 3), (0, 1, 4), (0, 1, 5), (1, 2, 0), (2, 2, 0), (3, 2, 0), (4, 2, 0)]) rfl (by decide +kernel) ea22) (k_gA ds_X3_copyFrom rfl 14 rfl) (by decide) (by decide) (by decide) (by decide) (by decide) ds_X3_copyFrom rfl rfl rfl rfl rfl ?_
  refine r_aload_n C dX3_copyFrom_84 (rfl : 84 + 1 = 85) rfl ?_
  refine r_aload_n C dX3_copyFrom_85 (rfl : 85 + 1 = 86) rfl ?_
  refine r_getI (v := c18_10) C dX3_copyFrom_86 (rfl : 86 + 3 = 89) fl_X3_51 (k_gS rfl) rfl (k_gOI (ks := [(0, 0, 10), (0, 0, 11), (0, 0, 12), (0, 0, 13), (0, 0, 14), (0, 0, 15), (0, 0, 16), (0, 0, 17), (0, 1, 3), (0, 1, 4), (0, 1, 5), (1, 2, 0), (2, 2, 0), (3, 2, 0), (4, 2, 0)]) rfl (by decide +kernel) ec18_10) ?_
  refine p_I (us' := [(0, .inl (10, c18_10)), (0, .inl (11, c0_11)), (0, .inl (12, c0_12)), (0, .inl (13, c0_13)), (0, .inl (14, c0_14)), (0, .inl (15, c0_15)), (0, .inl (16, c0_16)), (0, .inl (17, c0_17)), (0, .inr (.inl (3, c18_3))), (0, .inr (.inl (4, c18_4))), (0, .inr (.inl (5, c18_5))), (1, .inr (.inr (.inl (va_cpy a19 a1 0 0 6)))), (2, .inr (.inr (.inl (va_cpy a20 a2 0 0 6)))), (3, .inr (.inr (.inl (va_cpy a21 a3 0 0 6)))), (4, .inr (.inr (.inl (va_cpy a22 a4 0 0 6))))]) C dX3_copyFrom_89 (rfl : 89 + 3 = 92) fp_X3_51 rfl rfl ds_X3_copyFrom rfl rfl rfl ?_
  refine r_aload_n C dX3_copyFrom_92 (rfl : 92 + 1 = 93) rfl ?_
  refine r_aload_n C dX3_copyFrom_93 (rfl : 93 + 1 = 94) rfl ?_
  refine r_getI (v := c18_11) C dX3_copyFrom_94 (rfl : 94 + 3 = 97) fl_X3_55 (k_gS rfl) rfl (k_gOI (ks := [(0, 0, 10), (0, 0, 11), (0, 0, 12), (0, 0, 13), (0, 0, 14), (0, 0, 15), (0, 0, 16), (0, 0, 17), (0, 1, 3), (0, 1, 4), (0, 1, 5), (1, 2, 0), (2, 2, 0), (3, 2, 0), (4, 2, 0)]) rfl (by decide +kernel) ec18_11) ?_
  refine p_I (us' := [(0, .inl (10, c18_10)), (0, .inl (11, c18_11)), (0, .inl (12, c0_12)), (0, .inl (13, c0_13)), (0, .inl (14, c0_14)), (0, .inl (15, c0_15)), (0, .inl (16, c0_16)), (0, .inl (17, c0_17)), (0, .inr (.inl (3, c18_3))), (0, .inr (.inl (4, c18_4))), (0, .inr (.inl (5, c18_5))), (1, .inr (.inr (.inl (va_cpy a19 a1 0 0 6)))), (2, .inr (.inr (.inl (va_cpy a20 a2 0 0 6)))), (3, .inr (.inr (.inl (va_cpy a21 a3 0 0 6)))), (4, .inr (.inr (.inl (va_cpy a22 a4 0 0 6))))]) C dX3_copyFrom_97 (rfl : 97 + 3 = 100) fp_X3_55 rfl rfl ds_X3_copyFrom rfl rfl rfl ?_
  refine r_aload_n C dX3_copyFrom_100 (rfl : 100 + 1 = 101) rfl ?_
  refine r_aload_n C dX3_copyFrom_101 (rfl : 101 + 1 = 102) rfl ?_
  refine r_getI (v := c18_12) C dX3_copyFrom_102 (rfl : 102 + 3 = 105) fl_X3_63 (k_gS rfl) rfl (k_gOI (ks := [(0, 0, 10), (0, 0, 11), (0, 0, 12), (0, 0, 13), (0, 0, 14), (0, 0, 15), (0, 0, 16), (0, 0, 17), (0, 1, 3), (0, 1, 4), (0, 1, 5), (1, 2, 0), (2, 2, 0), (3, 2, 0), (4, 2, 0)]) rfl (by decide +kernel) ec18_12) ?_
  refine p_I (us' := [(0, .inl (10, c18_10)), (0, .inl (11, c18_11)), (0, .inl (12, c18_12)), (0, .inl (13, c0_13)), (0, .inl (14, c0_14)), (0, .inl (15, c0_15)), (0, .inl (16, c0_16)), (0, .inl (17, c0_17)), (0, .inr (.inl (3, c18_3))), (0, .inr (.inl (4, c18_4))), (0, .inr (.inl (5, c18_5))), (1, .inr (.inr (.inl (va_cpy a19 a1 0 0 6)))), (2, .inr (.inr (.inl (va_cpy a20 a2 0 0 6)))), (3, .inr (.inr (.inl (va_cpy a21 a3 0 0 6)))), (4, .inr (.inr (.inl (va_cpy a22 a4 0 0 6))))]) C dX3_copyFrom_105 (rfl : 105 + 3 = 108) fp_X3_63 rfl rfl ds_X3_copyFrom rfl rfl rfl ?_
  refine r_aload_n C dX3_copyFrom_108 (rfl : 108 + 1 = 109) rfl ?_
  refine r_aload_n C dX3_copyFrom_109 (rfl : 109 + 1 = 110) rfl ?_
  refine r_getI (v := c18_13) C dX3_copyFrom_110 (rfl : 110 + 3 = 113) fl_X3_66 (k_gS rfl) rfl (k_gOI (ks := [(0, 0, 10), (0, 0, 11), (0, 0, 12), (0, 0, 13), (0, 0, 14), (0, 0, 15), (0, 0, 16), (0, 0, 17), (0, 1, 3), (0, 1, 4), (0, 1, 5), (1, 2, 0), (2, 2, 0), (3, 2, 0), (4, 2, 0)]) rfl (by decide +kernel) ec18_13) ?_
  refine p_I (us' := [(0, .inl (10, c18_10)), (0, .inl (11, c18_11)), (0, .inl (12, c18_12)), (0, .inl (13, c18_13)), (0, .inl (14, c0_14)), (0, .inl (15, c0_15)), (0, .inl (16, c0_16)), (0, .inl (17, c0_17)), (0, .inr (.inl (3, c18_3))), (0, .inr (.inl (4, c18_4))), (0, .inr (.inl (5, c18_5))), (1, .inr (.inr (.inl (va_cpy a19 a1 0 0 6)))), (2, .inr (.inr (.inl (va_cpy a20 a2 0 0 6)))), (3, .inr (.inr (.inl (va_cpy a21 a3 0 0 6)))), (4, .inr (.inr (.inl (va_cpy a22 a4 0 0 6))))]) C dX3_copyFrom_113 (rfl : 113 + 3 = 116) fp_X3_66 rfl rfl ds_X3_copyFrom rfl rfl rfl ?_
  refine r_aload_n C dX3_copyFrom_116 (rfl : 116 + 1 = 117) rfl ?_
  refine r_aload_n C dX3_copyFrom_117 (rfl : 117 + 1 = 118) rfl ?_
  refine r_getI (v := c18_14) C dX3_copyFrom_118 (rfl : 118 + 3 = 121) fl_X3_69 (k_gS rfl) rfl (k_gOI (ks := [(0, 0, 10), (0, 0, 11), (0, 0, 12), (0, 0, 13), (0, 0, 14), (0, 0, 15), (0, 0, 16), (0, 0, 17), (0, 1, 3), (0, 1, 4), (0, 1, 5), (1, 2, 0), (2, 2, 0), (3, 2, 0), (4, 2, 0)]) rfl (by decide +kernel) ec18_14) ?_
  refine p_I (us' := [(0, .inl (10, c18_10)), (0, .inl (11, c18_11)), (0, .inl (12, c18_12)), (0, .inl (13, c18_13)), (0, .inl (14, c18_14)), (0, .inl (15, c0_15)), (0, .inl (16, c0_16)), (0, .inl (17, c0_17)), (0, .inr (.inl (3, c18_3))), (0, .inr (.inl (4, c18_4))), (0, .inr (.inl (5, c18_5))), (1, .inr (.inr (.inl (va_cpy a19 a1 0 0 6)))), (2, .inr (.inr (.inl (va_cpy a20 a2 0 0 6)))), (3, .inr (.inr (.inl (va_cpy a21 a3 0 0 6)))), (4, .inr (.inr (.inl (va_cpy a22 a4 0 0 6))))]) C dX3_copyFrom_121 (rfl : 121 + 3 = 124) fp_X3_69 rfl rfl ds_X3_copyFrom rfl rfl rfl ?_
  refine r_aload_n C dX3_copyFrom_124 (rfl : 124 + 1 = 125) rfl ?_
  refine r_aload_n C dX3_copyFrom_125 (rfl : 125 + 1 = 126) rfl ?_
  refine r_getI (v := c18_15) C dX3_copyFrom_126 (rfl : 126 + 3 = 129) fl_X3_75 (k_gS rfl) rfl (k_gOI (ks := [(0, 0, 10), (0, 0, 11), (0, 0, 12), (0, 0, 13), (0, 0, 14), (0, 0, 15), (0, 0, 16), (0, 0, 17), (0, 1, 3), (0, 1, 4), (0, 1, 5), (1, 2, 0), (2, 2, 0), (3, 2, 0), (4, 2, 0)]) rfl (by decide +kernel) ec18_15) ?_
  refine p_I (us' := [(0, .inl (10, c18_10)), (0, .inl (11, c18_11)), (0, .inl (12, c18_12)), (0, .inl (13, c18_13)), (0, .inl (14, c18_14)), (0, .inl (15, c18_15)), (0, .inl (16, c0_16)), (0, .inl (17, c0_17)), (0, .inr (.inl (3, c18_3))), (0, .inr (.inl (4, c18_4))), (0, .inr (.inl (5, c18_5))), (1, .inr (.inr (.inl (va_cpy a19 a1 0 0 6)))), (2, .inr (.inr (.inl (va_cpy a20 a2 0 0 6)))), (3, .inr (.inr (.inl (va_cpy a21 a3 0 0 6)))), (4, .inr (.inr (.inl (va_cpy a22 a4 0 0 6))))]) C dX3_copyFrom_129 (rfl : 129 + 3 = 132) fp_X3_75 rfl rfl ds_X3_copyFrom rfl rfl rfl ?_
  refine r_aload_n C dX3_copyFrom_132 (rfl : 132 + 1 = 133) rfl ?_
  refine r_aload_n C dX3_copyFrom_133 (rfl : 133 + 1 = 134) rfl ?_
  refine r_getI (v := c18_16) C dX3_copyFrom_134 (rfl : 134 + 3 = 137) fl_X3_78 (k_gS rfl) rfl (k_gOI (ks := [(0, 0, 10), (0, 0, 11), (0, 0, 12), (0, 0, 13), (0, 0, 14), (0, 0, 15), (0, 0, 16), (0, 0, 17), (0, 1, 3), (0, 1, 4), (0, 1, 5), (1, 2, 0), (2, 2, 0), (3, 2, 0), (4, 2, 0)]) rfl (by decide +kernel) ec18_16) ?_
  refine p_I (us' := [(0, .inl (10, c18_10)), (0, .inl (11, c18_11)), (0, .inl (12, c18_12)), (0, .inl (13, c18_13)), (0, .inl (14, c18_14)), (0, .inl (15, c18_15)), (0, .inl (16, c18_16)), (0, .inl (17, c0_17)), (0, .inr (.inl (3, c18_3))), (0, .inr (.inl (4, c18_4))), (0, .inr (.inl (5, c18_5))), (1, .inr (.inr (.inl (va_cpy a19 a1 0 0 6)))), (2, .inr (.inr (.inl (va_cpy a20 a2 0 0 6)))), (3, .inr (.inr (.inl (va_cpy a21 a3 0 0 6)))), (4, .inr (.inr (.inl (va_cpy a22 a4 0 0 6))))]) C dX3_copyFrom_137 (rfl : 137 + 3 = 140) fp_X3_78 rfl rfl ds_X3_copyFrom rfl rfl rfl ?_
  refine r_aload_n C dX3_copyFrom_140 (rfl : 140 + 1 = 141) rfl ?_
  refine r_aload_n C dX3_copyFrom_141 (rfl : 141 + 1 = 142) rfl ?_
  refine r_getI (v := c18_17) C dX3_copyFrom_142 (rfl : 142 + 3 = 145) fl_X3_81 (k_gS rfl) rfl (k_gOI (ks := [(0, 0, 10), (0, 0, 11), (0, 0, 12), (0, 0, 13), (0, 0, 14), (0, 0, 15), (0, 0, 16), (0, 0, 17), (0, 1, 3), (0, 1, 4), (0, 1, 5), (1, 2, 0), (2, 2, 0), (3, 2, 0), (4, 2, 0)]) rfl (by decide +kernel) ec18_17) ?_
  refine p_I (us' := [(0, .inl (10, c18_10)), (0, .inl (11, c18_11)), (0, .inl (12, c18_12)), (0, .inl (13, c18_13)), (0, .inl (14, c18_14)), (0, .inl (15, c18_15)), (0, .inl (16, c18_16)), (0, .inl (17, c18_17)), (0, .inr (.inl (3, c18_3))), (0, .inr (.inl (4, c18_4))), (0, .inr (.inl (5, c18_5))), (1, .inr (.inr (.inl (va_cpy a19 a1 0 0 6)))), (2, .inr (.inr (.inl (va_cpy a20 a2 0 0 6)))), (3, .inr (.inr (.inl (va_cpy a21 a3 0 0 6)))), (4, .inr (.inr (.inl (va_cpy a22 a4 0 0 6))))]) C dX3_copyFrom_145 (rfl : 145 + 3 = 148) fp_X3_81 rfl rfl ds_X3_copyFrom rfl rfl rfl ?_
  cases h
  exact r_vret C hr dX3_copyFrom_148
set_option maxHeartbeats 400000 in
set_option maxRecDepth 100000 in
theorem c_X3_copyFrom (l : Launch) (u : Nat) (h : k_H) (hsh : h.1 = shMine2) {c0_10 : Int32} (ec0_10 : h.2.1 0 10 = c0_10) {c0_11 : Int32} (ec0_11 : h.2.1 0 11 = c0_11) {c0_12 : Int32} (ec0_12 : h.2.1 0 12 = c0_12) {c0_13 : Int32} (ec0_13 : h.2.1 0 13 = c0_13) {c0_14 : Int32} (ec0_14 : h.2.1 0 14 = c0_14) {c0_15 : Int32} (ec0_15 : h.2.1 0 15 = c0_15) {c0_16 : Int32} (ec0_16 : h.2.1 0 16 = c0_16) {c0_17 : Int32} (ec0_17 : h.2.1 0 17 = c0_17) {c0_3 : Int64} (ec0_3 : h.2.2.1 0 3 = c0_3) {c0_4 : Int64} (ec0_4 : h.2.2.1 0 4 = c0_4) {c0_5 : Int64} (ec0_5 : h.2.2.1 0 5 = c0_5) {a1 : (Nat → Int32)} (ea1 : h.2.1 1 = a1) {a2 : (Nat → Int32)} (ea2 : h.2.1 2 = a2) {a3 : (Nat → Int32)} (ea3 : h.2.1 3 = a3) {a4 : (Nat → Int32)} (ea4 : h.2.1 4 = a4) {c18_10 : Int32} (ec18_10 : h.2.1 18 10 = c18_10) {c18_11 : Int32} (ec18_11 : h.2.1 18 11 = c18_11) {c18_12 : Int32} (ec18_12 : h.2.1 18 12 = c18_12) {c18_13 : Int32} (ec18_13 : h.2.1 18 13 = c18_13) {c18_14 : Int32} (ec18_14 : h.2.1 18 14 = c18_14) {c18_15 : Int32} (ec18_15 : h.2.1 18 15 = c18_15) {c18_16 : Int32} (ec18_16 : h.2.1 18 16 = c18_16) {c18_17 : Int32} (ec18_17 : h.2.1 18 17 = c18_17) {c18_3 : Int64} (ec18_3 : h.2.2.1 18 3 = c18_3) {c18_4 : Int64} (ec18_4 : h.2.2.1 18 4 = c18_4) {c18_5 : Int64} (ec18_5 : h.2.2.1 18 5 = c18_5) {a19 : (Nat → Int32)} (ea19 : h.2.1 19 = a19) {a20 : (Nat → Int32)} (ea20 : h.2.1 20 = a20) {a21 : (Nat → Int32)} (ea21 : h.2.1 21 = a21) {a22 : (Nat → Int32)} (ea22 : h.2.1 22 = a22) {out : Int32 × Int32 × Int32 × Int32 × Int32 × Int32 × Int32 × Int32 × Int64 × Int64 × Int64 × (Nat → Int32) × (Nat → Int32) × (Nat → Int32) × (Nat → Int32)} (hf : f_X3_copyFrom u c0_10 c0_11 c0_12 c0_13 c0_14 c0_15 c0_16 c0_17 c0_3 c0_4 c0_5 a1 a2 a3 a4 c18_10 c18_11 c18_12 c18_13 c18_14 c18_15 c18_16 c18_17 c18_3 c18_4 c18_5 a19 a20 a21 a22 = some out) : k_CT l yX3_copyFrom cX3_copyFrom 2 none 1 40 [.ref 0, .ref 18] h none [(0, .inl (10, out.1)), (0, .inl (11, out.2.1)), (0, .inl (12, out.2.2.1)), (0, .inl (13, out.2.2.2.1)), (0, .inl (14, out.2.2.2.2.1)), (0, .inl (15, out.2.2.2.2.2.1)), (0, .inl (16, out.2.2.2.2.2.2.1)), (0, .inl (17, out.2.2.2.2.2.2.2.1)), (0, .inr (.inl (3, out.2.2.2.2.2.2.2.2.1))), (0, .inr (.inl (4, out.2.2.2.2.2.2.2.2.2.1))), (0, .inr (.inl (5, out.2.2.2.2.2.2.2.2.2.2.1))), (1, .inr (.inr (.inl out.2.2.2.2.2.2.2.2.2.2.2.1))), (2, .inr (.inr (.inl out.2.2.2.2.2.2.2.2.2.2.2.2.1))), (3, .inr (.inr (.inl out.2.2.2.2.2.2.2.2.2.2.2.2.2.1))), (4, .inr (.inr (.inl out.2.2.2.2.2.2.2.2.2.2.2.2.2.2)))] := by
  obtain ⟨sh, I, L, Rf⟩ := h
  try dsimp only
  obtain rfl : sh = shMine2 := hsh
  refine k_ofW (by decide) (Nat.le_of_ble_eq_true rfl) ?_
  intro X ad hl hR0 hr C
  have hR : X.R.frames = 1 ∧ X.R.locals = 40 := by rw [hR0]; exact ⟨rfl, rfl⟩
  have h := hf
  unfold f_X3_copyFrom at h
  refine k_start (us := [(0, .inl (10, c0_10)), (0, .inl (11, c0_11)), (0, .inl (12, c0_12)), (0, .inl (13, c0_13)), (0, .inl (14, c0_14)), (0, .inl (15, c0_15)), (0, .inl (16, c0_16)), (0, .inl (17, c0_17)), (0, .inr (.inl (3, c0_3))), (0, .inr (.inl (4, c0_4))), (0, .inr (.inl (5, c0_5))), (1, .inr (.inr (.inl a1))), (2, .inr (.inr (.inl a2))), (3, .inr (.inr (.inl a3))), (4, .inr (.inr (.inl a4)))]) (k_ao_I ec0_10 (k_ao_I ec0_11 (k_ao_I ec0_12 (k_ao_I ec0_13 (k_ao_I ec0_14 (k_ao_I ec0_15 (k_ao_I ec0_16 (k_ao_I ec0_17 (k_ao_L ec0_3 (k_ao_L ec0_4 (k_ao_L ec0_5 (k_ao_A ea1 (k_ao_A ea2 (k_ao_A ea3 (k_ao_A ea4 k_ap_0))))))))))))))) ?_
  show k_W X 2 0 0 _ ad (k_ap [(0, .inl (10, c0_10)), (0, .inl (11, c0_11)), (0, .inl (12, c0_12)), (0, .inl (13, c0_13)), (0, .inl (14, c0_14)), (0, .inl (15, c0_15)), (0, .inl (16, c0_16)), (0, .inl (17, c0_17)), (0, .inr (.inl (3, c0_3))), (0, .inr (.inl (4, c0_4))), (0, .inr (.inl (5, c0_5))), (1, .inr (.inr (.inl a1))), (2, .inr (.inr (.inl a2))), (3, .inr (.inr (.inl a3))), (4, .inr (.inr (.inl a4)))] (shMine2, I, L, Rf)) 0 [some (.ref 0), some (.ref 18)] []
  refine k_mask [true, true] ?_
  exact sX3_copyFrom_0 u C hr hR ec18_10 ec18_11 ec18_12 ec18_13 ec18_14 ec18_15 ec18_16 ec18_17 ec18_3 ec18_4 ec18_5 ea19 ea20 ea21 ea22 c0_10 c0_11 c0_12 c0_13 c0_14 c0_15 c0_16 c0_17 c0_3 c0_4 c0_5 a1 a2 a3 a4 h
