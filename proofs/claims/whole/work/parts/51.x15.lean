/-! LullabyPit$Survey.isHeld(LLullabyPit$Mine;II)Z -/
theorem ds_X7_isHeld : k_ds [(0, 1, 3), (0, 1, 4), (14, 2, 0)] = true := by decide +kernel
set_option maxHeartbeats 400000 in
set_option maxRecDepth 100000 in
theorem sX7_isHeld_69 (u : Nat) {X : k_X} {ad : Nat → Nat} (C : k_C X cX7_isHeld RX7 7 ad) (hr : X.meth.sig.returnType = (some .boolean)) (hR : X.R.frames = 4 ∧ X.R.locals = 94) {I : Nat → Nat → Int32} {L : Nat → Nat → Int64} {Rf : Nat → Nat → Option Nat} {c0_10 : Int32} (ec0_10 : I 0 10 = c0_10) {a6 : (Nat → Int32)} (ea6 : I 6 = a6) {a7 : (Nat → Int32)} (ea7 : I 7 = a7) {c12_2 : Int32} (ec12_2 : I 12 2 = c12_2) {a13 : (Nat → Int32)} (ea13 : I 13 = a13) {out : Int32 × Int64 × Int64 × (Nat → Int32)} {k38 : Int64 → Int64 → (Nat → Int32) → Int32 → Int64 → Int32 → Int32 → Option (Int32 × Int64 × Int64 × (Nat → Int32))} (hk38 : ∀ (c0_3 : Int64) (c0_4 : Int64) (a14 : (Nat → Int32)) (v1 : Int32) (v3 : Int64) (v5 : Int32) (v6 : Int32), k38 c0_3 c0_4 a14 v1 v3 v5 v6 = some out → k_W X 7 0 0 (k_Q X ad (some (.int out.1)) (k_ap [(0, .inr (.inl (3, out.2.1))), (0, .inr (.inl (4, out.2.2.1))), (14, .inr (.inr (.inl out.2.2.2)))] (shMine, I, L, Rf))) ad (k_ap [(0, .inr (.inl (3, c0_3))), (0, .inr (.inl (4, c0_4))), (14, .inr (.inr (.inl a14)))] (shMine, I, L, Rf)) 38 [some (.ref 0), some (.int v1), none, some (.long v3), none, some (.int v5), some (.int v6)] []) : ∀ (c0_3 : Int64) (c0_4 : Int64) (a14 : (Nat → Int32)) (v1 : Int32) (v3 : Int64) (v6 : Int32) (w0 : Int32), bX7_isHeld_69 u c0_10 a6 a7 c12_2 a13 k38 c0_3 c0_4 a14 v1 v3 v6 w0 = some out → k_W X 7 0 0 (k_Q X ad (some (.int out.1)) (k_ap [(0, .inr (.inl (3, out.2.1))), (0, .inr (.inl (4, out.2.2.1))), (14, .inr (.inr (.inl out.2.2.2)))] (shMine, I, L, Rf))) ad (k_ap [(0, .inr (.inl (3, c0_3))), (0, .inr (.inl (4, c0_4))), (14, .inr (.inr (.inl a14)))] (shMine, I, L, Rf)) 69 [some (.ref 0), some (.int v1), none, some (.long v3), none, none, some (.int v6)] [.int w0] := by
  intro c0_3 c0_4 a14 v1 v3 v6 w0 h
  unfold bX7_isHeld_69 at h
  refine r_istore C dX7_isHeld_69 (rfl : 69 + 2 = 71) (by decide) (Nat.le_of_ble_eq_true rfl) ?_
  show k_W _ _ _ _ _ _ _ _ [some (.ref 0), some (.int v1), none, some (.long v3), none, some (.int w0), some (.int v6)] _
  refine r_iinc (v := (v6 + (1 : Int32))) C dX7_isHeld_71 (rfl : 71 + 3 = 74) rfl rfl (by decide) ?_
  show k_W _ _ _ _ _ _ _ _ [some (.ref 0), some (.int v1), none, some (.long v3), none, some (.int w0), some (.int (v6 + (1 : Int32)))] _
  refine r_goto (tgt := 38) C dX7_isHeld_74 (by decide) ?_
  refine k_mask [true, true, false, true, false, true, true] ?_
  exact hk38 c0_3 c0_4 a14 v1 v3 w0 (v6 + (1 : Int32)) h
set_option maxHeartbeats 400000 in
set_option maxRecDepth 100000 in
theorem sX7_isHeld_77 (u : Nat) {X : k_X} {ad : Nat → Nat} (C : k_C X cX7_isHeld RX7 7 ad) (hr : X.meth.sig.returnType = (some .boolean)) (hR : X.R.frames = 4 ∧ X.R.locals = 94) {I : Nat → Nat → Int32} {L : Nat → Nat → Int64} {Rf : Nat → Nat → Option Nat} {c0_10 : Int32} (ec0_10 : I 0 10 = c0_10) {a6 : (Nat → Int32)} (ea6 : I 6 = a6) {a7 : (Nat → Int32)} (ea7 : I 7 = a7) {c12_2 : Int32} (ec12_2 : I 12 2 = c12_2) {a13 : (Nat → Int32)} (ea13 : I 13 = a13) {out : Int32 × Int64 × Int64 × (Nat → Int32)} : ∀ (c0_3 : Int64) (c0_4 : Int64) (a14 : (Nat → Int32)) (v3 : Int64) (v5 : Int32), bX7_isHeld_77 u c0_10 a6 a7 c12_2 a13 c0_3 c0_4 a14 v3 v5 = some out → k_W X 7 0 0 (k_Q X ad (some (.int out.1)) (k_ap [(0, .inr (.inl (3, out.2.1))), (0, .inr (.inl (4, out.2.2.1))), (14, .inr (.inr (.inl out.2.2.2)))] (shMine, I, L, Rf))) ad (k_ap [(0, .inr (.inl (3, c0_3))), (0, .inr (.inl (4, c0_4))), (14, .inr (.inr (.inl a14)))] (shMine, I, L, Rf)) 77 [some (.ref 0), none, none, some (.long v3), none, some (.int v5), none] [] := by
  intro c0_3 c0_4 a14 v3 v5 h
  unfold bX7_isHeld_77 at h
  refine r_aload_n C dX7_isHeld_77 (rfl : 77 + 1 = 78) rfl ?_
  refine r_dup C dX7_isHeld_78 (rfl : 78 + 1 = 79) rfl ?_
  refine r_getL (v := c0_3) C dX7_isHeld_79 (rfl : 79 + 3 = 82) fl_X7_33 rfl rfl rfl ?_
  refine r_lload_n C dX7_isHeld_82 (rfl : 82 + 1 = 83) rfl ?_
  refine r_lor C dX7_isHeld_83 (rfl : 83 + 1 = 84) ?_
  refine p_L (us' := [(0, .inr (.inl (3, (c0_3 ||| v3)))), (0, .inr (.inl (4, c0_4))), (14, .inr (.inr (.inl a14)))]) C dX7_isHeld_84 (rfl : 84 + 3 = 87) fp_X7_33 rfl rfl ds_X7_isHeld rfl rfl rfl ?_
  refine r_aload_n C dX7_isHeld_87 (rfl : 87 + 1 = 88) rfl ?_
  refine r_dup C dX7_isHeld_88 (rfl : 88 + 1 = 89) rfl ?_
  refine r_getL (v := c0_4) C dX7_isHeld_89 (rfl : 89 + 3 = 92) fl_X7_139 rfl rfl rfl ?_
  refine r_lload_n C dX7_isHeld_92 (rfl : 92 + 1 = 93) rfl ?_
  refine r_ldc2 C dX7_isHeld_93 (rfl : 93 + 3 = 96) ct_X7_81 ?_
  refine r_lxor C dX7_isHeld_96 (rfl : 96 + 1 = 97) ?_
  refine r_land C dX7_isHeld_97 (rfl : 97 + 1 = 98) ?_
  refine p_L (us' := [(0, .inr (.inl (3, (c0_3 ||| v3)))), (0, .inr (.inl (4, (c0_4 &&& (v3 ^^^ (-1 : Int64)))))), (14, .inr (.inr (.inl a14)))]) C dX7_isHeld_98 (rfl : 98 + 3 = 101) fp_X7_139 rfl rfl ds_X7_isHeld rfl rfl rfl ?_
  refine r_iload C dX7_isHeld_101 (rfl : 101 + 2 = 103) rfl ?_
  obtain ⟨hz, h⟩ := k_z_of h
  cases h
  exact r_zret C hr hz dX7_isHeld_103
set_option maxHeartbeats 400000 in
set_option maxRecDepth 100000 in
theorem sX7_isHeld_38 (u : Nat) {X : k_X} {ad : Nat → Nat} (C : k_C X cX7_isHeld RX7 7 ad) (hr : X.meth.sig.returnType = (some .boolean)) (hR : X.R.frames = 4 ∧ X.R.locals = 94) {I : Nat → Nat → Int32} {L : Nat → Nat → Int64} {Rf : Nat → Nat → Option Nat} {c0_10 : Int32} (ec0_10 : I 0 10 = c0_10) {a6 : (Nat → Int32)} (ea6 : I 6 = a6) {a7 : (Nat → Int32)} (ea7 : I 7 = a7) {c12_2 : Int32} (ec12_2 : I 12 2 = c12_2) {a13 : (Nat → Int32)} (ea13 : I 13 = a13) {out : Int32 × Int64 × Int64 × (Nat → Int32)} : ∀ (n : Nat) (c0_3 : Int64) (c0_4 : Int64) (a14 : (Nat → Int32)) (v1 : Int32) (v3 : Int64) (v5 : Int32) (v6 : Int32), bX7_isHeld_38 u c0_10 a6 a7 c12_2 a13 n c0_3 c0_4 a14 v1 v3 v5 v6 = some out → k_W X 7 0 0 (k_Q X ad (some (.int out.1)) (k_ap [(0, .inr (.inl (3, out.2.1))), (0, .inr (.inl (4, out.2.2.1))), (14, .inr (.inr (.inl out.2.2.2)))] (shMine, I, L, Rf))) ad (k_ap [(0, .inr (.inl (3, c0_3))), (0, .inr (.inl (4, c0_4))), (14, .inr (.inr (.inl a14)))] (shMine, I, L, Rf)) 38 [some (.ref 0), some (.int v1), none, some (.long v3), none, some (.int v5), some (.int v6)] [] := by
  intro n
  induction n with
  | zero => intro c0_3 c0_4 a14 v1 v3 v5 v6 h; cases h
  | succ n ih =>
    intro c0_3 c0_4 a14 v1 v3 v5 v6 h
    refine r_iload C dX7_isHeld_38 (rfl : 38 + 2 = 40) rfl ?_
    refine r_bipush (v := (8 : Int32)) C dX7_isHeld_40 (rfl : 40 + 2 = 42) rfl ?_
    refine r_icmp_ge (tgt := 77) C dX7_isHeld_42 (by decide) (rfl : 42 + 3 = 45) (fun c42 => ?_) (fun c42 => ?_)
    · have h := k_t c42 h
      refine k_mask [true, false, false, true, false, true, false] ?_
      exact sX7_isHeld_77 u C hr hR ec0_10 ea6 ea7 ec12_2 ea13 c0_3 c0_4 a14 v3 v5 h
    · have h := k_f c42 h
      refine r_iload C dX7_isHeld_45 (rfl : 45 + 2 = 47) rfl ?_
      refine r_if_eq (tgt := 77) C dX7_isHeld_47 (by decide) (rfl : 47 + 3 = 50) (fun c47 => ?_) (fun c47 => ?_)
      · have h := k_t c47 h
        refine k_mask [true, false, false, true, false, true, false] ?_
        exact sX7_isHeld_77 u C hr hR ec0_10 ea6 ea7 ec12_2 ea13 c0_3 c0_4 a14 v3 v5 h
      · have h := k_f c47 h
        refine r_aload_n C dX7_isHeld_50 (rfl : 50 + 1 = 51) rfl ?_
        refine r_bipush (v := (8 : Int32)) C dX7_isHeld_51 (rfl : 51 + 2 = 53) rfl ?_
        refine r_iload_n C dX7_isHeld_53 (rfl : 53 + 1 = 54) rfl ?_
        refine r_imul C dX7_isHeld_54 (rfl : 54 + 1 = 55) ?_
        refine r_iload C dX7_isHeld_55 (rfl : 55 + 2 = 57) rfl ?_
        refine r_iadd C dX7_isHeld_57 (rfl : 57 + 1 = 58) ?_
        obtain ⟨r58, q58, h⟩ := k_b_of h
        refine d_V (As := [.int (((8 : Int32) * v1) + v6)]) (st := []) (st' := [.int r58.1]) (h' := k_ap [(0, .inr (.inl (3, c0_3))), (0, .inr (.inl (4, c0_4))), (14, .inr (.inr (.inl r58.2)))] (shMine, I, L, Rf)) C hR ⟨Nat.zero_le _, Nat.zero_le _⟩ mv_X3_wouldFall lk_X7_142 dX7_isHeld_58 (rfl : 58 + 3 = 61) rfl rfl rfl rfl (c_X3_wouldFall X.l u (k_ap [(0, .inr (.inl (3, c0_3))), (0, .inr (.inl (4, c0_4))), (14, .inr (.inr (.inl a14)))] (shMine, I, L, Rf)) rfl ec0_10 rfl rfl ea6 ea7 ec12_2 ea13 rfl q58) rfl rfl rfl (k_jn (us' := [(0, .inr (.inl (3, c0_3))), (0, .inr (.inl (4, c0_4))), (14, .inr (.inr (.inl r58.2)))]) ds_X7_isHeld rfl rfl rfl) rfl ?_
        refine r_if_ne (tgt := 68) C dX7_isHeld_61 (by decide) (rfl : 61 + 3 = 64) (fun c61 => ?_) (fun c61 => ?_)
        · have h := k_f c61 h
          refine r_iconst (v := (0 : Int32)) C dX7_isHeld_68 (rfl : 68 + 1 = 69) rfl ?_
          refine k_mask [true, true, false, true, false, false, true] ?_
          exact sX7_isHeld_69 u C hr hR ec0_10 ea6 ea7 ec12_2 ea13 ih c0_3 c0_4 r58.2 v1 v3 v6 (0 : Int32) h
        · have h := k_t c61 h
          refine r_iconst (v := (1 : Int32)) C dX7_isHeld_64 (rfl : 64 + 1 = 65) rfl ?_
          refine r_goto (tgt := 69) C dX7_isHeld_65 (by decide) ?_
          refine k_mask [true, true, false, true, false, false, true] ?_
          exact sX7_isHeld_69 u C hr hR ec0_10 ea6 ea7 ec12_2 ea13 ih c0_3 c0_4 r58.2 v1 v3 v6 (1 : Int32) h
set_option maxHeartbeats 400000 in
set_option maxRecDepth 100000 in
theorem sX7_isHeld_0 (u : Nat) {X : k_X} {ad : Nat → Nat} (C : k_C X cX7_isHeld RX7 7 ad) (hr : X.meth.sig.returnType = (some .boolean)) (hR : X.R.frames = 4 ∧ X.R.locals = 94) {I : Nat → Nat → Int32} {L : Nat → Nat → Int64} {Rf : Nat → Nat → Option Nat} {c0_10 : Int32} (ec0_10 : I 0 10 = c0_10) {a6 : (Nat → Int32)} (ea6 : I 6 = a6) {a7 : (Nat → Int32)} (ea7 : I 7 = a7) {c12_2 : Int32} (ec12_2 : I 12 2 = c12_2) {a13 : (Nat → Int32)} (ea13 : I 13 = a13) {out : Int32 × Int64 × Int64 × (Nat → Int32)} : ∀ (c0_3 : Int64) (c0_4 : Int64) (a14 : (Nat → Int32)) (v1 : Int32) (v2 : Int32), bX7_isHeld_0 u c0_10 a6 a7 c12_2 a13 c0_3 c0_4 a14 v1 v2 = some out → k_W X 7 0 0 (k_Q X ad (some (.int out.1)) (k_ap [(0, .inr (.inl (3, out.2.1))), (0, .inr (.inl (4, out.2.2.1))), (14, .inr (.inr (.inl out.2.2.2)))] (shMine, I, L, Rf))) ad (k_ap [(0, .inr (.inl (3, c0_3))), (0, .inr (.inl (4, c0_4))), (14, .inr (.inr (.inl a14)))] (shMine, I, L, Rf)) 0 [some (.ref 0), some (.int v1), some (.int v2), none, none, none, none] [] := by
  intro c0_3 c0_4 a14 v1 v2 h
  unfold bX7_isHeld_0 at h
  refine r_iload_n C dX7_isHeld_0 (rfl : 0 + 1 = 1) rfl ?_
  refine r_i2l C dX7_isHeld_1 (rfl : 1 + 1 = 2) ?_
  refine r_bipush (v := (8 : Int32)) C dX7_isHeld_2 (rfl : 2 + 2 = 4) rfl ?_
  refine r_iload_n C dX7_isHeld_4 (rfl : 4 + 1 = 5) rfl ?_
  refine r_imul C dX7_isHeld_5 (rfl : 5 + 1 = 6) ?_
  refine r_lshl C dX7_isHeld_6 (rfl : 6 + 1 = 7) ?_
  refine r_lstore_n C dX7_isHeld_7 (rfl : 7 + 1 = 8) (by decide) (Nat.le_of_ble_eq_true rfl) ?_
  show k_W _ _ _ _ _ _ _ _ [some (.ref 0), some (.int v1), some (.int v2), some (.long ((v2).toInt64 <<< ((((8 : Int32) * v1)).toInt64 &&& 63))), none, none, none] _
  refine r_aload_n C dX7_isHeld_8 (rfl : 8 + 1 = 9) rfl ?_
  refine r_dup C dX7_isHeld_9 (rfl : 9 + 1 = 10) rfl ?_
  refine r_getL (v := c0_3) C dX7_isHeld_10 (rfl : 10 + 3 = 13) fl_X7_33 rfl rfl rfl ?_
  refine r_lload_n C dX7_isHeld_13 (rfl : 13 + 1 = 14) rfl ?_
  refine r_ldc2 C dX7_isHeld_14 (rfl : 14 + 3 = 17) ct_X7_81 ?_
  refine r_lxor C dX7_isHeld_17 (rfl : 17 + 1 = 18) ?_
  refine r_land C dX7_isHeld_18 (rfl : 18 + 1 = 19) ?_
  refine p_L (us' := [(0, .inr (.inl (3, (c0_3 &&& (((v2).toInt64 <<< ((((8 : Int32) * v1)).toInt64 &&& 63)) ^^^ (-1 : Int64)))))), (0, .inr (.inl (4, c0_4))), (14, .inr (.inr (.inl a14)))]) C dX7_isHeld_19 (rfl : 19 + 3 = 22) fp_X7_33 rfl rfl ds_X7_isHeld rfl rfl rfl ?_
  refine r_aload_n C dX7_isHeld_22 (rfl : 22 + 1 = 23) rfl ?_
  refine r_dup C dX7_isHeld_23 (rfl : 23 + 1 = 24) rfl ?_
  refine r_getL (v := c0_4) C dX7_isHeld_24 (rfl : 24 + 3 = 27) fl_X7_139 rfl rfl rfl ?_
  refine r_lload_n C dX7_isHeld_27 (rfl : 27 + 1 = 28) rfl ?_
  refine r_lor C dX7_isHeld_28 (rfl : 28 + 1 = 29) ?_
  refine p_L (us' := [(0, .inr (.inl (3, (c0_3 &&& (((v2).toInt64 <<< ((((8 : Int32) * v1)).toInt64 &&& 63)) ^^^ (-1 : Int64)))))), (0, .inr (.inl (4, (c0_4 ||| ((v2).toInt64 <<< ((((8 : Int32) * v1)).toInt64 &&& 63)))))), (14, .inr (.inr (.inl a14)))]) C dX7_isHeld_29 (rfl : 29 + 3 = 32) fp_X7_139 rfl rfl ds_X7_isHeld rfl rfl rfl ?_
  refine r_iconst (v := (1 : Int32)) C dX7_isHeld_32 (rfl : 32 + 1 = 33) rfl ?_
  refine r_istore C dX7_isHeld_33 (rfl : 33 + 2 = 35) (by decide) (Nat.le_of_ble_eq_true rfl) ?_
  show k_W _ _ _ _ _ _ _ _ [some (.ref 0), some (.int v1), some (.int v2), some (.long ((v2).toInt64 <<< ((((8 : Int32) * v1)).toInt64 &&& 63))), none, some (.int (1 : Int32)), none] _
  refine r_iconst (v := (0 : Int32)) C dX7_isHeld_35 (rfl : 35 + 1 = 36) rfl ?_
  refine r_istore C dX7_isHeld_36 (rfl : 36 + 2 = 38) (by decide) (Nat.le_of_ble_eq_true rfl) ?_
  show k_W _ _ _ _ _ _ _ _ [some (.ref 0), some (.int v1), some (.int v2), some (.long ((v2).toInt64 <<< ((((8 : Int32) * v1)).toInt64 &&& 63))), none, some (.int (1 : Int32)), some (.int (0 : Int32))] _
  refine k_mask [true, true, false, true, false, true, true] ?_
  exact sX7_isHeld_38 u C hr hR ec0_10 ea6 ea7 ec12_2 ea13 u (c0_3 &&& (((v2).toInt64 <<< ((((8 : Int32) * v1)).toInt64 &&& 63)) ^^^ (-1 : Int64))) (c0_4 ||| ((v2).toInt64 <<< ((((8 : Int32) * v1)).toInt64 &&& 63))) a14 v1 ((v2).toInt64 <<< ((((8 : Int32) * v1)).toInt64 &&& 63)) (1 : Int32) (0 : Int32) h
set_option maxHeartbeats 400000 in
set_option maxRecDepth 100000 in
theorem c_X7_isHeld (l : Launch) (u : Nat) (h : k_H) (hsh : h.1 = shMine) {c0_10 : Int32} (ec0_10 : h.2.1 0 10 = c0_10) {c0_3 : Int64} (ec0_3 : h.2.2.1 0 3 = c0_3) {c0_4 : Int64} (ec0_4 : h.2.2.1 0 4 = c0_4) {a6 : (Nat → Int32)} (ea6 : h.2.1 6 = a6) {a7 : (Nat → Int32)} (ea7 : h.2.1 7 = a7) {c12_2 : Int32} (ec12_2 : h.2.1 12 2 = c12_2) {a13 : (Nat → Int32)} (ea13 : h.2.1 13 = a13) {a14 : (Nat → Int32)} (ea14 : h.2.1 14 = a14) {x1 : Int32} {x2 : Int32} {out : Int32 × Int64 × Int64 × (Nat → Int32)} (hf : f_X7_isHeld u c0_10 c0_3 c0_4 a6 a7 c12_2 a13 a14 x1 x2 = some out) : k_CT l yX7_isHeld cX7_isHeld 7 (some .boolean) 4 94 [.ref 0, .int x1, .int x2] h (some (.int out.1)) [(0, .inr (.inl (3, out.2.1))), (0, .inr (.inl (4, out.2.2.1))), (14, .inr (.inr (.inl out.2.2.2)))] := by
  obtain ⟨sh, I, L, Rf⟩ := h
  try dsimp only
  obtain rfl : sh = shMine := hsh
  refine k_ofW (by decide) (Nat.le_of_ble_eq_true rfl) ?_
  intro X ad hl hR0 hr C
  have hR : X.R.frames = 4 ∧ X.R.locals = 94 := by rw [hR0]; exact ⟨rfl, rfl⟩
  have h := hf
  unfold f_X7_isHeld at h
  refine k_start (us := [(0, .inr (.inl (3, c0_3))), (0, .inr (.inl (4, c0_4))), (14, .inr (.inr (.inl a14)))]) (k_ao_L ec0_3 (k_ao_L ec0_4 (k_ao_A ea14 k_ap_0))) ?_
  show k_W X 7 0 0 _ ad (k_ap [(0, .inr (.inl (3, c0_3))), (0, .inr (.inl (4, c0_4))), (14, .inr (.inr (.inl a14)))] (shMine, I, L, Rf)) 0 [some (.ref 0), some (.int x1), some (.int x2), none, none, none, none] []
  refine k_mask [true, true, true, false, false, false, false] ?_
  exact sX7_isHeld_0 u C hr hR ec0_10 ea6 ea7 ec12_2 ea13 c0_3 c0_4 a14 x1 x2 h
/-! LullabyPit$Survey.propsOfRow(LLullabyPit$Mine;II)I -/
theorem ds_X7_propsOfRow : k_ds [(0, 1, 3), (0, 1, 4), (14, 2, 0)] = true := by decide +kernel
set_option maxHeartbeats 400000 in
set_option maxRecDepth 100000 in
theorem sX7_propsOfRow_67 (u : Nat) {X : k_X} {ad : Nat → Nat} (C : k_C X cX7_propsOfRow RX7 7 ad) (hr : X.meth.sig.returnType = (some .int)) (hR : X.R.frames = 5 ∧ X.R.locals = 120) {I : Nat → Nat → Int32} {L : Nat → Nat → Int64} {Rf : Nat → Nat → Option Nat} {c0_10 : Int32} (ec0_10 : I 0 10 = c0_10) {a6 : (Nat → Int32)} (ea6 : I 6 = a6) {a7 : (Nat → Int32)} (ea7 : I 7 = a7) {c12_2 : Int32} (ec12_2 : I 12 2 = c12_2) {a13 : (Nat → Int32)} (ea13 : I 13 = a13) {out : Int32 × Int64 × Int64 × (Nat → Int32)} {k12 : Int64 → Int64 → (Nat → Int32) → Int32 → Int32 → Int32 → Int32 → Option (Int32 × Int64 × Int64 × (Nat → Int32))} (hk12 : ∀ (c0_3 : Int64) (c0_4 : Int64) (a14 : (Nat → Int32)) (v1 : Int32) (v2 : Int32) (v3 : Int32) (v4 : Int32), k12 c0_3 c0_4 a14 v1 v2 v3 v4 = some out → k_W X 7 0 0 (k_Q X ad (some (.int out.1)) (k_ap [(0, .inr (.inl (3, out.2.1))), (0, .inr (.inl (4, out.2.2.1))), (14, .inr (.inr (.inl out.2.2.2)))] (shMine, I, L, Rf))) ad (k_ap [(0, .inr (.inl (3, c0_3))), (0, .inr (.inl (4, c0_4))), (14, .inr (.inr (.inl a14)))] (shMine, I, L, Rf)) 12 [some (.ref 0), some (.int v1), some (.int v2), some (.int v3), some (.int v4), none, none] []) {k23 : Int64 → Int64 → (Nat → Int32) → Int32 → Int32 → Int32 → Int32 → Int32 → Option (Int32 × Int64 × Int64 × (Nat → Int32))} (hk23 : ∀ (c0_3 : Int64) (c0_4 : Int64) (a14 : (Nat → Int32)) (v1 : Int32) (v2 : Int32) (v3 : Int32) (v4 : Int32) (v5 : Int32), k23 c0_3 c0_4 a14 v1 v2 v3 v4 v5 = some out → k_W X 7 0 0 (k_Q X ad (some (.int out.1)) (k_ap [(0, .inr (.inl (3, out.2.1))), (0, .inr (.inl (4, out.2.2.1))), (14, .inr (.inr (.inl out.2.2.2)))] (shMine, I, L, Rf))) ad (k_ap [(0, .inr (.inl (3, c0_3))), (0, .inr (.inl (4, c0_4))), (14, .inr (.inr (.inl a14)))] (shMine, I, L, Rf)) 23 [some (.ref 0), some (.int v1), some (.int v2), some (.int v3), some (.int v4), some (.int v5), none] []) : ∀ (c0_3 : Int64) (c0_4 : Int64) (a14 : (Nat → Int32)) (v1 : Int32) (v2 : Int32) (v3 : Int32) (v4 : Int32) (v5 : Int32), bX7_propsOfRow_67 u c0_10 a6 a7 c12_2 a13 k12 k23 c0_3 c0_4 a14 v1 v2 v3 v4 v5 = some out → k_W X 7 0 0 (k_Q X ad (some (.int out.1)) (k_ap [(0, .inr (.inl (3, out.2.1))), (0, .inr (.inl (4, out.2.2.1))), (14, .inr (.inr (.inl out.2.2.2)))] (shMine, I, L, Rf))) ad (k_ap [(0, .inr (.inl (3, c0_3))), (0, .inr (.inl (4, c0_4))), (14, .inr (.inr (.inl a14)))] (shMine, I, L, Rf)) 67 [some (.ref 0), some (.int v1), some (.int v2), some (.int v3), some (.int v4), some (.int v5), none] [] := by
  intro c0_3 c0_4 a14 v1 v2 v3 v4 v5 h
  unfold bX7_propsOfRow_67 at h
  refine r_iinc (v := (v5 + (-1 : Int32))) C dX7_propsOfRow_67 (rfl : 67 + 3 = 70) rfl rfl (by decide) ?_
  show k_W _ _ _ _ _ _ _ _ [some (.ref 0), some (.int v1), some (.int v2), some (.int v3), some (.int v4), some (.int (v5 + (-1 : Int32))), none] _
  refine r_goto (tgt := 23) C dX7_propsOfRow_70 (by decide) ?_
  refine k_mask [true, true, true, true, true, true, false] ?_
  exact hk23 c0_3 c0_4 a14 v1 v2 v3 v4 (v5 + (-1 : Int32)) h
set_option maxHeartbeats 400000 in
set_option maxRecDepth 100000 in
theorem sX7_propsOfRow_23 (u : Nat) {X : k_X} {ad : Nat → Nat} (C : k_C X cX7_propsOfRow RX7 7 ad) (hr : X.meth.sig.returnType = (some .int)) (hR : X.R.frames = 5 ∧ X.R.locals = 120) {I : Nat → Nat → Int32} {L : Nat → Nat → Int64} {Rf : Nat → Nat → Option Nat} {c0_10 : Int32} (ec0_10 : I 0 10 = c0_10) {a6 : (Nat → Int32)} (ea6 : I 6 = a6) {a7 : (Nat → Int32)} (ea7 : I 7 = a7) {c12_2 : Int32} (ec12_2 : I 12 2 = c12_2) {a13 : (Nat → Int32)} (ea13 : I 13 = a13) {out : Int32 × Int64 × Int64 × (Nat → Int32)} {k12 : Int64 → Int64 → (Nat → Int32) → Int32 → Int32 → Int32 → Int32 → Option (Int32 × Int64 × Int64 × (Nat → Int32))} (hk12 : ∀ (c0_3 : Int64) (c0_4 : Int64) (a14 : (Nat → Int32)) (v1 : Int32) (v2 : Int32) (v3 : Int32) (v4 : Int32), k12 c0_3 c0_4 a14 v1 v2 v3 v4 = some out → k_W X 7 0 0 (k_Q X ad (some (.int out.1)) (k_ap [(0, .inr (.inl (3, out.2.1))), (0, .inr (.inl (4, out.2.2.1))), (14, .inr (.inr (.inl out.2.2.2)))] (shMine, I, L, Rf))) ad (k_ap [(0, .inr (.inl (3, c0_3))), (0, .inr (.inl (4, c0_4))), (14, .inr (.inr (.inl a14)))] (shMine, I, L, Rf)) 12 [some (.ref 0), some (.int v1), some (.int v2), some (.int v3), some (.int v4), none, none] []) : ∀ (n : Nat) (c0_3 : Int64) (c0_4 : Int64) (a14 : (Nat → Int32)) (v1 : Int32) (v2 : Int32) (v3 : Int32) (v4 : Int32) (v5 : Int32), bX7_propsOfRow_23 u c0_10 a6 a7 c12_2 a13 k12 n c0_3 c0_4 a14 v1 v2 v3 v4 v5 = some out → k_W X 7 0 0 (k_Q X ad (some (.int out.1)) (k_ap [(0, .inr (.inl (3, out.2.1))), (0, .inr (.inl (4, out.2.2.1))), (14, .inr (.inr (.inl out.2.2.2)))] (shMine, I, L, Rf))) ad (k_ap [(0, .inr (.inl (3, c0_3))), (0, .inr (.inl (4, c0_4))), (14, .inr (.inr (.inl a14)))] (shMine, I, L, Rf)) 23 [some (.ref 0), some (.int v1), some (.int v2), some (.int v3), some (.int v4), some (.int v5), none] [] := by
  intro n
  induction n with
  | zero => intro c0_3 c0_4 a14 v1 v2 v3 v4 v5 h; cases h
  | succ n ih =>
    intro c0_3 c0_4 a14 v1 v2 v3 v4 v5 h
    refine r_iload C dX7_propsOfRow_23 (rfl : 23 + 2 = 25) rfl ?_
    refine r_if_lt (tgt := 73) C dX7_propsOfRow_25 (by decide) (rfl : 25 + 3 = 28) (fun c25 => ?_) (fun c25 => ?_)
    · have h := k_t c25 h
      refine r_iinc (v := (v4 + (1 : Int32))) C dX7_propsOfRow_73 (rfl : 73 + 3 = 76) rfl rfl (by decide) ?_
      show k_W _ _ _ _ _ _ _ _ [some (.ref 0), some (.int v1), some (.int v2), some (.int v3), some (.int (v4 + (1 : Int32))), some (.int v5), none] _
      refine r_goto (tgt := 12) C dX7_propsOfRow_76 (by decide) ?_
      refine k_mask [true, true, true, true, true, false, false] ?_
      exact hk12 c0_3 c0_4 a14 v1 v2 v3 (v4 + (1 : Int32)) h
    · have h := k_f c25 h
      refine r_iload C dX7_propsOfRow_28 (rfl : 28 + 2 = 30) rfl ?_
      obtain ⟨r30, q30, h⟩ := k_b_of h
      refine d_S (As := [.int v5]) (st := []) (st' := [.int r30]) (h' := k_ap [(0, .inr (.inl (3, c0_3))), (0, .inr (.inl (4, c0_4))), (14, .inr (.inr (.inl a14)))] (shMine, I, L, Rf)) C hR ⟨Nat.zero_le _, Nat.zero_le _⟩ ms_J6_bitCount_0f7a4 lk_X7_124 dX7_propsOfRow_30 (rfl : 30 + 3 = 33) rfl rfl (c_J6_bitCount_0f7a4 X.l u (k_ap [(0, .inr (.inl (3, c0_3))), (0, .inr (.inl (4, c0_4))), (14, .inr (.inr (.inl a14)))] (shMine, I, L, Rf))  q30) rfl rfl rfl rfl rfl ?_
      refine r_iload C dX7_propsOfRow_33 (rfl : 33 + 2 = 35) rfl ?_
      refine r_icmp_ne (tgt := 67) C dX7_propsOfRow_35 (by decide) (rfl : 35 + 3 = 38) (fun c35 => ?_) (fun c35 => ?_)
      · have h := k_f c35 h
        refine k_mask [true, true, true, true, true, true, false] ?_
        exact sX7_propsOfRow_67 u C hr hR ec0_10 ea6 ea7 ec12_2 ea13 hk12 ih c0_3 c0_4 a14 v1 v2 v3 v4 v5 h
      · have h := k_t c35 h
        refine r_iload C dX7_propsOfRow_38 (rfl : 38 + 2 = 40) rfl ?_
        obtain ⟨r40, q40, h⟩ := k_b_of h
        refine d_S (As := [.int v5]) (st := []) (st' := [.int r40]) (h' := k_ap [(0, .inr (.inl (3, c0_3))), (0, .inr (.inl (4, c0_4))), (14, .inr (.inr (.inl a14)))] (shMine, I, L, Rf)) C hR ⟨Nat.zero_le _, Nat.zero_le _⟩ ms_X7_mirrored lk_X7_132 dX7_propsOfRow_40 (rfl : 40 + 3 = 43) rfl rfl (c_X7_mirrored X.l u (k_ap [(0, .inr (.inl (3, c0_3))), (0, .inr (.inl (4, c0_4))), (14, .inr (.inr (.inl a14)))] (shMine, I, L, Rf))  q40) rfl rfl rfl rfl rfl ?_
        refine r_istore C dX7_propsOfRow_43 (rfl : 43 + 2 = 45) (by decide) (Nat.le_of_ble_eq_true rfl) ?_
        show k_W _ _ _ _ _ _ _ _ [some (.ref 0), some (.int v1), some (.int v2), some (.int v3), some (.int v4), some (.int v5), some (.int r40)] _
        refine r_iload C dX7_propsOfRow_45 (rfl : 45 + 2 = 47) rfl ?_
        refine r_iload_n C dX7_propsOfRow_47 (rfl : 47 + 1 = 48) rfl ?_
        refine r_iconst (v := (-1 : Int32)) C dX7_propsOfRow_48 (rfl : 48 + 1 = 49) rfl ?_
        refine r_ixor C dX7_propsOfRow_49 (rfl : 49 + 1 = 50) ?_
        refine r_iand C dX7_propsOfRow_50 (rfl : 50 + 1 = 51) ?_
        refine r_if_ne (tgt := 67) C dX7_propsOfRow_51 (by decide) (rfl : 51 + 3 = 54) (fun c51 => ?_) (fun c51 => ?_)
        · have h := k_f c51 h
          refine k_mask [true, true, true, true, true, true, false] ?_
          exact sX7_propsOfRow_67 u C hr hR ec0_10 ea6 ea7 ec12_2 ea13 hk12 ih c0_3 c0_4 a14 v1 v2 v3 v4 v5 h
        · have h := k_t c51 h
          refine r_aload_n C dX7_propsOfRow_54 (rfl : 54 + 1 = 55) rfl ?_
          refine r_iload_n C dX7_propsOfRow_55 (rfl : 55 + 1 = 56) rfl ?_
          refine r_iload C dX7_propsOfRow_56 (rfl : 56 + 2 = 58) rfl ?_
          obtain ⟨r58, q58, h⟩ := k_b_of h
          refine d_S (As := [.ref 0, .int v1, .int r40]) (st := []) (st' := [.int r58.1]) (h' := k_ap [(0, .inr (.inl (3, r58.2.1))), (0, .inr (.inl (4, r58.2.2.1))), (14, .inr (.inr (.inl r58.2.2.2)))] (shMine, I, L, Rf)) C hR ⟨Nat.zero_le _, Nat.zero_le _⟩ ms_X7_isHeld lk_X7_135 dX7_propsOfRow_58 (rfl : 58 + 3 = 61) rfl rfl (c_X7_isHeld X.l u (k_ap [(0, .inr (.inl (3, c0_3))), (0, .inr (.inl (4, c0_4))), (14, .inr (.inr (.inl a14)))] (shMine, I, L, Rf)) rfl ec0_10 rfl rfl ea6 ea7 ec12_2 ea13 rfl q58) rfl rfl rfl (k_jn (us' := [(0, .inr (.inl (3, r58.2.1))), (0, .inr (.inl (4, r58.2.2.1))), (14, .inr (.inr (.inl r58.2.2.2)))]) ds_X7_propsOfRow rfl rfl rfl) rfl ?_
          refine r_if_eq (tgt := 67) C dX7_propsOfRow_61 (by decide) (rfl : 61 + 3 = 64) (fun c61 => ?_) (fun c61 => ?_)
          · have h := k_t c61 h
            refine k_mask [true, true, true, true, true, true, false] ?_
            exact sX7_propsOfRow_67 u C hr hR ec0_10 ea6 ea7 ec12_2 ea13 hk12 ih r58.2.1 r58.2.2.1 r58.2.2.2 v1 v2 v3 v4 v5 h
          · have h := k_f c61 h
            refine r_iload C dX7_propsOfRow_64 (rfl : 64 + 2 = 66) rfl ?_
            cases h
            exact r_iret C hr dX7_propsOfRow_66
set_option maxHeartbeats 400000 in
set_option maxRecDepth 100000 in
theorem sX7_propsOfRow_12 (u : Nat) {X : k_X} {ad : Nat → Nat} (C : k_C X cX7_propsOfRow RX7 7 ad) (hr : X.meth.sig.returnType = (some .int)) (hR : X.R.frames = 5 ∧ X.R.locals = 120) {I : Nat → Nat → Int32} {L : Nat → Nat → Int64} {Rf : Nat → Nat → Option Nat} {c0_10 : Int32} (ec0_10 : I 0 10 = c0_10) {a6 : (Nat → Int32)} (ea6 : I 6 = a6) {a7 : (Nat → Int32)} (ea7 : I 7 = a7) {c12_2 : Int32} (ec12_2 : I 12 2 = c12_2) {a13 : (Nat → Int32)} (ea13 : I 13 = a13) {out : Int32 × Int64 × Int64 × (Nat → Int32)} : ∀ (n : Nat) (c0_3 : Int64) (c0_4 : Int64) (a14 : (Nat → Int32)) (v1 : Int32) (v2 : Int32) (v3 : Int32) (v4 : Int32), bX7_propsOfRow_12 u c0_10 a6 a7 c12_2 a13 n c0_3 c0_4 a14 v1 v2 v3 v4 = some out → k_W X 7 0 0 (k_Q X ad (some (.int out.1)) (k_ap [(0, .inr (.inl (3, out.2.1))), (0, .inr (.inl (4, out.2.2.1))), (14, .inr (.inr (.inl out.2.2.2)))] (shMine, I, L, Rf))) ad (k_ap [(0, .inr (.inl (3, c0_3))), (0, .inr (.inl (4, c0_4))), (14, .inr (.inr (.inl a14)))] (shMine, I, L, Rf)) 12 [some (.ref 0), some (.int v1), some (.int v2), some (.int v3), some (.int v4), none, none] [] := by
  intro n
  induction n with
  | zero => intro c0_3 c0_4 a14 v1 v2 v3 v4 h; cases h
  | succ n ih =>
    intro c0_3 c0_4 a14 v1 v2 v3 v4 h
    refine r_iload C dX7_propsOfRow_12 (rfl : 12 + 2 = 14) rfl ?_
    refine r_iload_n C dX7_propsOfRow_14 (rfl : 14 + 1 = 15) rfl ?_
    refine r_icmp_gt (tgt := 79) C dX7_propsOfRow_15 (by decide) (rfl : 15 + 3 = 18) (fun c15 => ?_) (fun c15 => ?_)
    · have h := k_t c15 h
      refine r_iconst (v := (-1 : Int32)) C dX7_propsOfRow_79 (rfl : 79 + 1 = 80) rfl ?_
      cases h
      exact r_iret C hr dX7_propsOfRow_80
    · have h := k_f c15 h
      refine r_sipush (v := (255 : Int32)) C dX7_propsOfRow_18 (rfl : 18 + 3 = 21) rfl ?_
      refine r_istore C dX7_propsOfRow_21 (rfl : 21 + 2 = 23) (by decide) (Nat.le_of_ble_eq_true rfl) ?_
      show k_W _ _ _ _ _ _ _ _ [some (.ref 0), some (.int v1), some (.int v2), some (.int v3), some (.int v4), some (.int (255 : Int32)), none] _
      refine k_mask [true, true, true, true, true, true, false] ?_
      exact sX7_propsOfRow_23 u C hr hR ec0_10 ea6 ea7 ec12_2 ea13 ih u c0_3 c0_4 a14 v1 v2 v3 v4 (255 : Int32) h
set_option maxHeartbeats 400000 in
set_option maxRecDepth 100000 in
theorem sX7_propsOfRow_0 (u : Nat) {X : k_X} {ad : Nat → Nat} (C : k_C X cX7_propsOfRow RX7 7 ad) (hr : X.meth.sig.returnType = (some .int)) (hR : X.R.frames = 5 ∧ X.R.locals = 120) {I : Nat → Nat → Int32} {L : Nat → Nat → Int64} {Rf : Nat → Nat → Option Nat} {c0_10 : Int32} (ec0_10 : I 0 10 = c0_10) {a6 : (Nat → Int32)} (ea6 : I 6 = a6) {a7 : (Nat → Int32)} (ea7 : I 7 = a7) {c12_2 : Int32} (ec12_2 : I 12 2 = c12_2) {a13 : (Nat → Int32)} (ea13 : I 13 = a13) {out : Int32 × Int64 × Int64 × (Nat → Int32)} : ∀ (c0_3 : Int64) (c0_4 : Int64) (a14 : (Nat → Int32)) (v1 : Int32) (v2 : Int32), bX7_propsOfRow_0 u c0_10 a6 a7 c12_2 a13 c0_3 c0_4 a14 v1 v2 = some out → k_W X 7 0 0 (k_Q X ad (some (.int out.1)) (k_ap [(0, .inr (.inl (3, out.2.1))), (0, .inr (.inl (4, out.2.2.1))), (14, .inr (.inr (.inl out.2.2.2)))] (shMine, I, L, Rf))) ad (k_ap [(0, .inr (.inl (3, c0_3))), (0, .inr (.inl (4, c0_4))), (14, .inr (.inr (.inl a14)))] (shMine, I, L, Rf)) 0 [some (.ref 0), some (.int v1), some (.int v2), none, none, none, none] [] := by
  intro c0_3 c0_4 a14 v1 v2 h
  unfold bX7_propsOfRow_0 at h
  refine r_aload_n C dX7_propsOfRow_0 (rfl : 0 + 1 = 1) rfl ?_
  refine r_getL (v := c0_3) C dX7_propsOfRow_1 (rfl : 1 + 3 = 4) fl_X7_33 rfl rfl rfl ?_
  refine r_iload_n C dX7_propsOfRow_4 (rfl : 4 + 1 = 5) rfl ?_
  obtain ⟨r5, q5, h⟩ := k_b_of h
  refine d_S (As := [.long c0_3, .int v1]) (st := []) (st' := [.int r5]) (h' := k_ap [(0, .inr (.inl (3, c0_3))), (0, .inr (.inl (4, c0_4))), (14, .inr (.inr (.inl a14)))] (shMine, I, L, Rf)) C hR ⟨Nat.zero_le _, Nat.zero_le _⟩ ms_X10_rowOf lk_X7_128 dX7_propsOfRow_5 (rfl : 5 + 3 = 8) rfl rfl (c_X10_rowOf X.l u (k_ap [(0, .inr (.inl (3, c0_3))), (0, .inr (.inl (4, c0_4))), (14, .inr (.inr (.inl a14)))] (shMine, I, L, Rf))  q5) rfl rfl rfl rfl rfl ?_
  refine r_istore_n C dX7_propsOfRow_8 (rfl : 8 + 1 = 9) (by decide) (Nat.le_of_ble_eq_true rfl) ?_
  show k_W _ _ _ _ _ _ _ _ [some (.ref 0), some (.int v1), some (.int v2), some (.int r5), none, none, none] _
  refine r_iconst (v := (0 : Int32)) C dX7_propsOfRow_9 (rfl : 9 + 1 = 10) rfl ?_
  refine r_istore C dX7_propsOfRow_10 (rfl : 10 + 2 = 12) (by decide) (Nat.le_of_ble_eq_true rfl) ?_
  show k_W _ _ _ _ _ _ _ _ [some (.ref 0), some (.int v1), some (.int v2), some (.int r5), some (.int (0 : Int32)), none, none] _
  refine k_mask [true, true, true, true, true, false, false] ?_
  exact sX7_propsOfRow_12 u C hr hR ec0_10 ea6 ea7 ec12_2 ea13 u c0_3 c0_4 a14 v1 v2 r5 (0 : Int32) h
set_option maxHeartbeats 400000 in
set_option maxRecDepth 100000 in
theorem c_X7_propsOfRow (l : Launch) (u : Nat) (h : k_H) (hsh : h.1 = shMine) {c0_10 : Int32} (ec0_10 : h.2.1 0 10 = c0_10) {c0_3 : Int64} (ec0_3 : h.2.2.1 0 3 = c0_3) {c0_4 : Int64} (ec0_4 : h.2.2.1 0 4 = c0_4) {a6 : (Nat → Int32)} (ea6 : h.2.1 6 = a6) {a7 : (Nat → Int32)} (ea7 : h.2.1 7 = a7) {c12_2 : Int32} (ec12_2 : h.2.1 12 2 = c12_2) {a13 : (Nat → Int32)} (ea13 : h.2.1 13 = a13) {a14 : (Nat → Int32)} (ea14 : h.2.1 14 = a14) {x1 : Int32} {x2 : Int32} {out : Int32 × Int64 × Int64 × (Nat → Int32)} (hf : f_X7_propsOfRow u c0_10 c0_3 c0_4 a6 a7 c12_2 a13 a14 x1 x2 = some out) : k_CT l yX7_propsOfRow cX7_propsOfRow 7 (some .int) 5 120 [.ref 0, .int x1, .int x2] h (some (.int out.1)) [(0, .inr (.inl (3, out.2.1))), (0, .inr (.inl (4, out.2.2.1))), (14, .inr (.inr (.inl out.2.2.2)))] := by
  obtain ⟨sh, I, L, Rf⟩ := h
  try dsimp only
  obtain rfl : sh = shMine := hsh
  refine k_ofW (by decide) (Nat.le_of_ble_eq_true rfl) ?_
  intro X ad hl hR0 hr C
  have hR : X.R.frames = 5 ∧ X.R.locals = 120 := by rw [hR0]; exact ⟨rfl, rfl⟩
  have h := hf
  unfold f_X7_propsOfRow at h
  refine k_start (us := [(0, .inr (.inl (3, c0_3))), (0, .inr (.inl (4, c0_4))), (14, .inr (.inr (.inl a14)))]) (k_ao_L ec0_3 (k_ao_L ec0_4 (k_ao_A ea14 k_ap_0))) ?_
  show k_W X 7 0 0 _ ad (k_ap [(0, .inr (.inl (3, c0_3))), (0, .inr (.inl (4, c0_4))), (14, .inr (.inr (.inl a14)))] (shMine, I, L, Rf)) 0 [some (.ref 0), some (.int x1), some (.int x2), none, none, none, none] []
  refine k_mask [true, true, true, false, false, false, false] ?_
  exact sX7_propsOfRow_0 u C hr hR ec0_10 ea6 ea7 ec12_2 ea13 c0_3 c0_4 a14 x1 x2 h
/-! LullabyPit$Taps.forget()V -/
theorem ds_X9_forget : k_ds [(0, 0, 3), (1, 2, 0)] = true := by decide +kernel
set_option maxHeartbeats 400000 in
set_option maxRecDepth 100000 in
theorem sX9_forget_0 (u : Nat) {X : k_X} {ad : Nat → Nat} (C : k_C X cX9_forget RX9 1 ad) (hr : X.meth.sig.returnType = none) (hR : X.R.frames = 1 ∧ X.R.locals = 23) {I : Nat → Nat → Int32} {L : Nat → Nat → Int64} {Rf : Nat → Nat → Option Nat} {out : Int32 × (Nat → Int32)} : ∀ (c0_3 : Int32) (a1 : (Nat → Int32)), bX9_forget_0 u c0_3 a1 = some out → k_W X 1 0 0 (k_Q X ad none (k_ap [(0, .inl (3, out.1)), (1, .inr (.inr (.inl out.2)))] (shTaps, I, L, Rf))) ad (k_ap [(0, .inl (3, c0_3)), (1, .inr (.inr (.inl a1)))] (shTaps, I, L, Rf)) 0 [some (.ref 0)] [] := by
  intro c0_3 a1 h
  unfold bX9_forget_0 at h
  refine r_aload_n C dX9_forget_0 (rfl : 0 + 1 = 1) rfl ?_
  refine r_getR (q := 1) C dX9_forget_1 (rfl : 1 + 3 = 4) fl_X9_9 rfl rfl ?_
  refine r_iconst (v := (-1 : Int32)) C dX9_forget_4 (rfl : 4 + 1 = 5) rfl ?_
  obtain ⟨r5, q5, h⟩ := k_b_of h
  refine d_Sp (pi := [1]) (shl := (shArr 8)) (As := [.ref 1, .int (-1 : Int32)]) (Al := [.ref 0, .int (-1 : Int32)]) (st := []) (st' := []) (h' := k_ap [(0, .inl (3, c0_3)), (1, .inr (.inr (.inl r5)))] (shTaps, I, L, Rf)) C hR ⟨Nat.zero_le _, Nat.zero_le _⟩ ms_J7_fill_53178 lk_X9_22 dX9_forget_5 (rfl : 5 + 3 = 8) rfl rfl ck_shTaps_shArr_1_8 (c_J7_fill_53178 X.l u 8 (k_pl [1] (shArr 8) (k_ap [(0, .inl (3, c0_3)), (1, .inr (.inr (.inl a1)))] (shTaps, I, L, Rf))) rfl rfl q5) (fun _ => rfl) rfl (fun _ => rfl) rfl rfl rfl (k_jn (us' := [(0, .inl (3, c0_3)), (1, .inr (.inr (.inl r5)))]) ds_X9_forget rfl rfl rfl) rfl ?_
  refine r_aload_n C dX9_forget_8 (rfl : 8 + 1 = 9) rfl ?_
  refine r_iconst (v := (0 : Int32)) C dX9_forget_9 (rfl : 9 + 1 = 10) rfl ?_
  refine p_I (us' := [(0, .inl (3, (0 : Int32))), (1, .inr (.inr (.inl r5)))]) C dX9_forget_10 (rfl : 10 + 3 = 13) fp_X9_28 rfl rfl ds_X9_forget rfl rfl rfl ?_
  cases h
  exact r_vret C hr dX9_forget_13
set_option maxHeartbeats 400000 in
set_option maxRecDepth 100000 in
theorem c_X9_forget (l : Launch) (u : Nat) (h : k_H) (hsh : h.1 = shTaps) {c0_3 : Int32} (ec0_3 : h.2.1 0 3 = c0_3) {a1 : (Nat → Int32)} (ea1 : h.2.1 1 = a1) {out : Int32 × (Nat → Int32)} (hf : f_X9_forget u c0_3 a1 = some out) : k_CT l yX9_forget cX9_forget 1 none 1 23 [.ref 0] h none [(0, .inl (3, out.1)), (1, .inr (.inr (.inl out.2)))] := by
  obtain ⟨sh, I, L, Rf⟩ := h
  try dsimp only
  obtain rfl : sh = shTaps := hsh
  refine k_ofW (by decide) (Nat.le_of_ble_eq_true rfl) ?_
  intro X ad hl hR0 hr C
  have hR : X.R.frames = 1 ∧ X.R.locals = 23 := by rw [hR0]; exact ⟨rfl, rfl⟩
  have h := hf
  unfold f_X9_forget at h
  refine k_start (us := [(0, .inl (3, c0_3)), (1, .inr (.inr (.inl a1)))]) (k_ao_I ec0_3 (k_ao_A ea1 k_ap_0)) ?_
  show k_W X 1 0 0 _ ad (k_ap [(0, .inl (3, c0_3)), (1, .inr (.inr (.inl a1)))] (shTaps, I, L, Rf)) 0 [some (.ref 0)] []
  refine k_mask [true] ?_
  exact sX9_forget_0 u C hr hR c0_3 a1 h
/-! LullabyPit$Taps.heard(II)I -/
theorem ds_X9_heard : k_ds [] = true := by decide +kernel
set_option maxHeartbeats 400000 in
set_option maxRecDepth 100000 in
theorem sX9_heard_30 (u : Nat) {X : k_X} {ad : Nat → Nat} (C : k_C X cX9_heard RX9 5 ad) (hr : X.meth.sig.returnType = (some .int)) (hR : X.R.frames = 1 ∧ X.R.locals = 20) {I : Nat → Nat → Int32} {L : Nat → Nat → Int64} {Rf : Nat → Nat → Option Nat} {c3_0 : Int32} (ec3_0 : I 3 0 = c3_0) {c3_1 : Int32} (ec3_1 : I 3 1 = c3_1) {a4 : (Nat → Int32)} (ea4 : I 4 = a4) {out : Int32} : ∀ (n : Nat) (v3 : Int32) (v4 : Int32), bX9_heard_30 u c3_0 c3_1 a4 n v3 v4 = some out → k_W X 5 0 0 (k_Q X ad (some (.int out)) (k_ap [] (shTaps, I, L, Rf))) ad (k_ap [] (shTaps, I, L, Rf)) 30 [some (.ref 0), none, none, some (.int v3), some (.int v4)] [] := by
  intro n
  induction n with
  | zero => intro v3 v4 h; cases h
  | succ n ih =>
    intro v3 v4 h
    refine r_iload C dX9_heard_30 (rfl : 30 + 2 = 32) rfl ?_
    refine r_aload_n C dX9_heard_32 (rfl : 32 + 1 = 33) rfl ?_
    refine r_getR (q := 3) C dX9_heard_33 (rfl : 33 + 3 = 36) fl_X9_18 rfl rfl ?_
    refine r_getI (v := c3_1) C dX9_heard_36 (rfl : 36 + 3 = 39) fl_X9_67 rfl rfl ec3_1 ?_
    refine r_icmp_ge (tgt := 72) C dX9_heard_39 (by decide) (rfl : 39 + 3 = 42) (fun c39 => ?_) (fun c39 => ?_)
    · have h := k_t c39 h
      refine r_aload_n C dX9_heard_72 (rfl : 72 + 1 = 73) rfl ?_
      refine r_getR (q := 3) C dX9_heard_73 (rfl : 73 + 3 = 76) fl_X9_18 rfl rfl ?_
      refine r_getI (v := c3_1) C dX9_heard_76 (rfl : 76 + 3 = 79) fl_X9_67 rfl rfl ec3_1 ?_
      cases h
      exact r_iret C hr dX9_heard_79
    · have h := k_f c39 h
      refine r_aload_n C dX9_heard_42 (rfl : 42 + 1 = 43) rfl ?_
      refine r_getR (q := 3) C dX9_heard_43 (rfl : 43 + 3 = 46) fl_X9_18 rfl rfl ?_
      refine r_getR (q := 4) C dX9_heard_46 (rfl : 46 + 3 = 49) fl_X9_70 rfl rfl ?_
      refine r_bipush (v := (8 : Int32)) C dX9_heard_49 (rfl : 49 + 2 = 51) rfl ?_
      refine r_iload C dX9_heard_51 (rfl : 51 + 2 = 53) rfl ?_
      refine r_imul C dX9_heard_53 (rfl : 53 + 1 = 54) ?_
      refine r_iload_n C dX9_heard_54 (rfl : 54 + 1 = 55) rfl ?_
      refine r_iadd C dX9_heard_55 (rfl : 55 + 1 = 56) ?_
      obtain ⟨hi56, h⟩ := k_i_of h
      refine a_i (j := ((((8 : Int32) * v4) + v3)).toNatClampNeg) (f := a4) C dX9_heard_56 (rfl : 56 + 1 = 57) rfl ea4 hi56 rfl ?_
      obtain ⟨r57, q57, h⟩ := k_b_of h
      refine d_S (As := [.int (a4 (((((8 : Int32) * v4) + v3)).toNatClampNeg))]) (st := []) (st' := [.int r57]) (h' := k_ap [] (shTaps, I, L, Rf)) C hR ⟨Nat.zero_le _, Nat.zero_le _⟩ ms_X10_isMusic lk_X9_73 dX9_heard_57 (rfl : 57 + 3 = 60) rfl rfl (c_X10_isMusic X.l u (k_ap [] (shTaps, I, L, Rf))  q57) rfl rfl rfl rfl rfl ?_
      refine r_if_eq (tgt := 66) C dX9_heard_60 (by decide) (rfl : 60 + 3 = 63) (fun c60 => ?_) (fun c60 => ?_)
      · have h := k_t c60 h
        refine r_iinc (v := (v4 + (1 : Int32))) C dX9_heard_66 (rfl : 66 + 3 = 69) rfl rfl (by decide) ?_
        show k_W _ _ _ _ _ _ _ _ [some (.ref 0), none, none, some (.int v3), some (.int (v4 + (1 : Int32)))] _
        refine r_goto (tgt := 30) C dX9_heard_69 (by decide) ?_
        refine k_mask [true, false, false, true, true] ?_
        exact ih v3 (v4 + (1 : Int32)) h
      · have h := k_f c60 h
        refine r_iload C dX9_heard_63 (rfl : 63 + 2 = 65) rfl ?_
        cases h
        exact r_iret C hr dX9_heard_65
set_option maxHeartbeats 400000 in
set_option maxRecDepth 100000 in
theorem sX9_heard_0 (u : Nat) {X : k_X} {ad : Nat → Nat} (C : k_C X cX9_heard RX9 5 ad) (hr : X.meth.sig.returnType = (some .int)) (hR : X.R.frames = 1 ∧ X.R.locals = 20) {I : Nat → Nat → Int32} {L : Nat → Nat → Int64} {Rf : Nat → Nat → Option Nat} {c3_0 : Int32} (ec3_0 : I 3 0 = c3_0) {c3_1 : Int32} (ec3_1 : I 3 1 = c3_1) {a4 : (Nat → Int32)} (ea4 : I 4 = a4) {out : Int32} : ∀ (v1 : Int32) (v2 : Int32), bX9_heard_0 u c3_0 c3_1 a4 v1 v2 = some out → k_W X 5 0 0 (k_Q X ad (some (.int out)) (k_ap [] (shTaps, I, L, Rf))) ad (k_ap [] (shTaps, I, L, Rf)) 0 [some (.ref 0), some (.int v1), some (.int v2), none, none] [] := by
  intro v1 v2 h
  unfold bX9_heard_0 at h
  refine r_iload_n C dX9_heard_0 (rfl : 0 + 1 = 1) rfl ?_
  refine r_iload_n C dX9_heard_1 (rfl : 1 + 1 = 2) rfl ?_
  refine r_isub C dX9_heard_2 (rfl : 2 + 1 = 3) ?_
  refine r_istore_n C dX9_heard_3 (rfl : 3 + 1 = 4) (by decide) (Nat.le_of_ble_eq_true rfl) ?_
  show k_W _ _ _ _ _ _ _ _ [some (.ref 0), some (.int v1), some (.int v2), some (.int (v1 - v2)), none] _
  refine r_iload_n C dX9_heard_4 (rfl : 4 + 1 = 5) rfl ?_
  refine r_if_lt (tgt := 19) C dX9_heard_5 (by decide) (rfl : 5 + 3 = 8) (fun c5 => ?_) (fun c5 => ?_)
  · have h := k_t c5 h
    refine r_aload_n C dX9_heard_19 (rfl : 19 + 1 = 20) rfl ?_
    refine r_getR (q := 3) C dX9_heard_20 (rfl : 20 + 3 = 23) fl_X9_18 rfl rfl ?_
    refine r_getI (v := c3_1) C dX9_heard_23 (rfl : 23 + 3 = 26) fl_X9_67 rfl rfl ec3_1 ?_
    cases h
    exact r_iret C hr dX9_heard_26
  · have h := k_f c5 h
    refine r_iload_n C dX9_heard_8 (rfl : 8 + 1 = 9) rfl ?_
    refine r_aload_n C dX9_heard_9 (rfl : 9 + 1 = 10) rfl ?_
    refine r_getR (q := 3) C dX9_heard_10 (rfl : 10 + 3 = 13) fl_X9_18 rfl rfl ?_
    refine r_getI (v := c3_0) C dX9_heard_13 (rfl : 13 + 3 = 16) fl_X9_62 rfl rfl ec3_0 ?_
    refine r_icmp_lt (tgt := 27) C dX9_heard_16 (by decide) (rfl : 16 + 3 = 19) (fun c16 => ?_) (fun c16 => ?_)
    · have h := k_t c16 h
      refine r_iconst (v := (0 : Int32)) C dX9_heard_27 (rfl : 27 + 1 = 28) rfl ?_
      refine r_istore C dX9_heard_28 (rfl : 28 + 2 = 30) (by decide) (Nat.le_of_ble_eq_true rfl) ?_
      show k_W _ _ _ _ _ _ _ _ [some (.ref 0), some (.int v1), some (.int v2), some (.int (v1 - v2)), some (.int (0 : Int32))] _
      refine k_mask [true, false, false, true, true] ?_
      exact sX9_heard_30 u C hr hR ec3_0 ec3_1 ea4 u (v1 - v2) (0 : Int32) h
    · have h := k_f c16 h
      refine r_aload_n C dX9_heard_19 (rfl : 19 + 1 = 20) rfl ?_
      refine r_getR (q := 3) C dX9_heard_20 (rfl : 20 + 3 = 23) fl_X9_18 rfl rfl ?_
      refine r_getI (v := c3_1) C dX9_heard_23 (rfl : 23 + 3 = 26) fl_X9_67 rfl rfl ec3_1 ?_
      cases h
      exact r_iret C hr dX9_heard_26
set_option maxHeartbeats 400000 in
set_option maxRecDepth 100000 in
theorem c_X9_heard (l : Launch) (u : Nat) (h : k_H) (hsh : h.1 = shTaps) {c3_0 : Int32} (ec3_0 : h.2.1 3 0 = c3_0) {c3_1 : Int32} (ec3_1 : h.2.1 3 1 = c3_1) {a4 : (Nat → Int32)} (ea4 : h.2.1 4 = a4) {x0 : Int32} {x1 : Int32} {out : Int32} (hf : f_X9_heard u c3_0 c3_1 a4 x0 x1 = some out) : k_CT l yX9_heard cX9_heard 5 (some .int) 1 20 [.ref 0, .int x0, .int x1] h (some (.int out)) [] := by
  obtain ⟨sh, I, L, Rf⟩ := h
  try dsimp only
  obtain rfl : sh = shTaps := hsh
  refine k_ofW (by decide) (Nat.le_of_ble_eq_true rfl) ?_
  intro X ad hl hR0 hr C
  have hR : X.R.frames = 1 ∧ X.R.locals = 20 := by rw [hR0]; exact ⟨rfl, rfl⟩
  have h := hf
  unfold f_X9_heard at h
  refine k_start (us := []) k_ap_0 ?_
  show k_W X 5 0 0 _ ad (k_ap [] (shTaps, I, L, Rf)) 0 [some (.ref 0), some (.int x0), some (.int x1), none, none] []
  refine k_mask [true, true, true, false, false] ?_
  exact sX9_heard_0 u C hr hR ec3_0 ec3_1 ea4 x0 x1 h
/-! LullabyPit$Taps.isRight(I)Z -/
theorem ds_X9_isRight : k_ds [] = true := by decide +kernel
set_option maxHeartbeats 400000 in
set_option maxRecDepth 100000 in
theorem sX9_isRight_46 (u : Nat) {X : k_X} {ad : Nat → Nat} (C : k_C X cX9_isRight RX9 3 ad) (hr : X.meth.sig.returnType = (some .boolean)) (hR : X.R.frames = 2 ∧ X.R.locals = 44) {I : Nat → Nat → Int32} {L : Nat → Nat → Int64} {Rf : Nat → Nat → Option Nat} {a1 : (Nat → Int32)} (ea1 : I 1 = a1) {c3_0 : Int32} (ec3_0 : I 3 0 = c3_0) {c3_1 : Int32} (ec3_1 : I 3 1 = c3_1) {a4 : (Nat → Int32)} (ea4 : I 4 = a4) {out : Int32} {k2 : Int32 → Int32 → Option (Int32)} (hk2 : ∀ (v1 : Int32) (v2 : Int32), k2 v1 v2 = some out → k_W X 3 0 0 (k_Q X ad (some (.int out)) (k_ap [] (shTaps, I, L, Rf))) ad (k_ap [] (shTaps, I, L, Rf)) 2 [some (.ref 0), some (.int v1), some (.int v2)] []) : ∀ (v1 : Int32) (v2 : Int32), bX9_isRight_46 u a1 c3_0 c3_1 a4 k2 v1 v2 = some out → k_W X 3 0 0 (k_Q X ad (some (.int out)) (k_ap [] (shTaps, I, L, Rf))) ad (k_ap [] (shTaps, I, L, Rf)) 46 [some (.ref 0), some (.int v1), some (.int v2)] [] := by
  intro v1 v2 h
  unfold bX9_isRight_46 at h
  refine r_iinc (v := (v2 + (1 : Int32))) C dX9_isRight_46 (rfl : 46 + 3 = 49) rfl rfl (by decide) ?_
  show k_W _ _ _ _ _ _ _ _ [some (.ref 0), some (.int v1), some (.int (v2 + (1 : Int32)))] _
  refine r_goto (tgt := 2) C dX9_isRight_49 (by decide) ?_
  refine k_mask [true, true, true] ?_
  exact hk2 v1 (v2 + (1 : Int32)) h
set_option maxHeartbeats 400000 in
set_option maxRecDepth 100000 in
theorem sX9_isRight_2 (u : Nat) {X : k_X} {ad : Nat → Nat} (C : k_C X cX9_isRight RX9 3 ad) (hr : X.meth.sig.returnType = (some .boolean)) (hR : X.R.frames = 2 ∧ X.R.locals = 44) {I : Nat → Nat → Int32} {L : Nat → Nat → Int64} {Rf : Nat → Nat → Option Nat} {a1 : (Nat → Int32)} (ea1 : I 1 = a1) {c3_0 : Int32} (ec3_0 : I 3 0 = c3_0) {c3_1 : Int32} (ec3_1 : I 3 1 = c3_1) {a4 : (Nat → Int32)} (ea4 : I 4 = a4) {out : Int32} : ∀ (n : Nat) (v1 : Int32) (v2 : Int32), bX9_isRight_2 u a1 c3_0 c3_1 a4 n v1 v2 = some out → k_W X 3 0 0 (k_Q X ad (some (.int out)) (k_ap [] (shTaps, I, L, Rf))) ad (k_ap [] (shTaps, I, L, Rf)) 2 [some (.ref 0), some (.int v1), some (.int v2)] [] := by
  intro n
  induction n with
  | zero => intro v1 v2 h; cases h
  | succ n ih =>
    intro v1 v2 h
    refine r_iload_n C dX9_isRight_2 (rfl : 2 + 1 = 3) rfl ?_
    refine r_bipush (v := (8 : Int32)) C dX9_isRight_3 (rfl : 3 + 2 = 5) rfl ?_
    refine r_icmp_ge (tgt := 52) C dX9_isRight_5 (by decide) (rfl : 5 + 3 = 8) (fun c5 => ?_) (fun c5 => ?_)
    · have h := k_t c5 h
      refine r_iconst (v := (1 : Int32)) C dX9_isRight_52 (rfl : 52 + 1 = 53) rfl ?_
      cases h
      exact r_zret C hr (Or.inr rfl) dX9_isRight_53
    · have h := k_f c5 h
      refine r_aload_n C dX9_isRight_8 (rfl : 8 + 1 = 9) rfl ?_
      refine r_getR (q := 1) C dX9_isRight_9 (rfl : 9 + 3 = 12) fl_X9_9 rfl rfl ?_
      refine r_iload_n C dX9_isRight_12 (rfl : 12 + 1 = 13) rfl ?_
      obtain ⟨hi13, h⟩ := k_i_of h
      refine a_i (j := (v2).toNatClampNeg) (f := a1) C dX9_isRight_13 (rfl : 13 + 1 = 14) rfl ea1 hi13 rfl ?_
      refine r_iconst (v := (-1 : Int32)) C dX9_isRight_14 (rfl : 14 + 1 = 15) rfl ?_
      refine r_icmp_eq (tgt := 46) C dX9_isRight_15 (by decide) (rfl : 15 + 3 = 18) (fun c15 => ?_) (fun c15 => ?_)
      · have h := k_t c15 h
        refine k_mask [true, true, true] ?_
        exact sX9_isRight_46 u C hr hR ea1 ec3_0 ec3_1 ea4 ih v1 v2 h
      · have h := k_f c15 h
        refine r_iload_n C dX9_isRight_18 (rfl : 18 + 1 = 19) rfl ?_
        refine r_aload_n C dX9_isRight_19 (rfl : 19 + 1 = 20) rfl ?_
        refine r_getR (q := 3) C dX9_isRight_20 (rfl : 20 + 3 = 23) fl_X9_18 rfl rfl ?_
        refine r_getI (v := c3_0) C dX9_isRight_23 (rfl : 23 + 3 = 26) fl_X9_62 rfl rfl ec3_0 ?_
        refine r_icmp_ge (tgt := 44) C dX9_isRight_26 (by decide) (rfl : 26 + 3 = 29) (fun c26 => ?_) (fun c26 => ?_)
        · have h := k_t c26 h
          refine r_iconst (v := (0 : Int32)) C dX9_isRight_44 (rfl : 44 + 1 = 45) rfl ?_
          cases h
          exact r_zret C hr (Or.inl rfl) dX9_isRight_45
        · have h := k_f c26 h
          refine r_aload_n C dX9_isRight_29 (rfl : 29 + 1 = 30) rfl ?_
          refine r_iload_n C dX9_isRight_30 (rfl : 30 + 1 = 31) rfl ?_
          refine r_iload_n C dX9_isRight_31 (rfl : 31 + 1 = 32) rfl ?_
          obtain ⟨r32, q32, h⟩ := k_b_of h
          refine d_V (As := [.int v2, .int v1]) (st := []) (st' := [.int r32]) (h' := k_ap [] (shTaps, I, L, Rf)) C hR ⟨Nat.zero_le _, Nat.zero_le _⟩ mv_X9_heard lk_X9_80 dX9_isRight_32 (rfl : 32 + 3 = 35) rfl rfl rfl rfl (c_X9_heard X.l u (k_ap [] (shTaps, I, L, Rf)) rfl ec3_0 ec3_1 ea4 q32) rfl rfl rfl rfl rfl ?_
          refine r_aload_n C dX9_isRight_35 (rfl : 35 + 1 = 36) rfl ?_
          refine r_getR (q := 1) C dX9_isRight_36 (rfl : 36 + 3 = 39) fl_X9_9 rfl rfl ?_
          refine r_iload_n C dX9_isRight_39 (rfl : 39 + 1 = 40) rfl ?_
          obtain ⟨hi40, h⟩ := k_i_of h
          refine a_i (j := (v2).toNatClampNeg) (f := a1) C dX9_isRight_40 (rfl : 40 + 1 = 41) rfl ea1 hi40 rfl ?_
          refine r_icmp_eq (tgt := 46) C dX9_isRight_41 (by decide) (rfl : 41 + 3 = 44) (fun c41 => ?_) (fun c41 => ?_)
          · have h := k_t c41 h
            refine k_mask [true, true, true] ?_
            exact sX9_isRight_46 u C hr hR ea1 ec3_0 ec3_1 ea4 ih v1 v2 h
          · have h := k_f c41 h
            refine r_iconst (v := (0 : Int32)) C dX9_isRight_44 (rfl : 44 + 1 = 45) rfl ?_
            cases h
            exact r_zret C hr (Or.inl rfl) dX9_isRight_45
set_option maxHeartbeats 400000 in
set_option maxRecDepth 100000 in
theorem sX9_isRight_0 (u : Nat) {X : k_X} {ad : Nat → Nat} (C : k_C X cX9_isRight RX9 3 ad) (hr : X.meth.sig.returnType = (some .boolean)) (hR : X.R.frames = 2 ∧ X.R.locals = 44) {I : Nat → Nat → Int32} {L : Nat → Nat → Int64} {Rf : Nat → Nat → Option Nat} {a1 : (Nat → Int32)} (ea1 : I 1 = a1) {c3_0 : Int32} (ec3_0 : I 3 0 = c3_0) {c3_1 : Int32} (ec3_1 : I 3 1 = c3_1) {a4 : (Nat → Int32)} (ea4 : I 4 = a4) {out : Int32} : ∀ (v1 : Int32), bX9_isRight_0 u a1 c3_0 c3_1 a4 v1 = some out → k_W X 3 0 0 (k_Q X ad (some (.int out)) (k_ap [] (shTaps, I, L, Rf))) ad (k_ap [] (shTaps, I, L, Rf)) 0 [some (.ref 0), some (.int v1), none] [] := by
  intro v1 h
  unfold bX9_isRight_0 at h
  refine r_iconst (v := (0 : Int32)) C dX9_isRight_0 (rfl : 0 + 1 = 1) rfl ?_
  refine r_istore_n C dX9_isRight_1 (rfl : 1 + 1 = 2) (by decide) (Nat.le_of_ble_eq_true rfl) ?_
  show k_W _ _ _ _ _ _ _ _ [some (.ref 0), some (.int v1), some (.int (0 : Int32))] _
  refine k_mask [true, true, true] ?_
  exact sX9_isRight_2 u C hr hR ea1 ec3_0 ec3_1 ea4 u v1 (0 : Int32) h
set_option maxHeartbeats 400000 in
set_option maxRecDepth 100000 in
theorem c_X9_isRight (l : Launch) (u : Nat) (h : k_H) (hsh : h.1 = shTaps) {a1 : (Nat → Int32)} (ea1 : h.2.1 1 = a1) {c3_0 : Int32} (ec3_0 : h.2.1 3 0 = c3_0) {c3_1 : Int32} (ec3_1 : h.2.1 3 1 = c3_1) {a4 : (Nat → Int32)} (ea4 : h.2.1 4 = a4) {x0 : Int32} {out : Int32} (hf : f_X9_isRight u a1 c3_0 c3_1 a4 x0 = some out) : k_CT l yX9_isRight cX9_isRight 3 (some .boolean) 2 44 [.ref 0, .int x0] h (some (.int out)) [] := by
  obtain ⟨sh, I, L, Rf⟩ := h
  try dsimp only
  obtain rfl : sh = shTaps := hsh
  refine k_ofW (by decide) (Nat.le_of_ble_eq_true rfl) ?_
  intro X ad hl hR0 hr C
  have hR : X.R.frames = 2 ∧ X.R.locals = 44 := by rw [hR0]; exact ⟨rfl, rfl⟩
  have h := hf
  unfold f_X9_isRight at h
  refine k_start (us := []) k_ap_0 ?_
  show k_W X 3 0 0 _ ad (k_ap [] (shTaps, I, L, Rf)) 0 [some (.ref 0), some (.int x0), none] []
  refine k_mask [true, true, false] ?_
  exact sX9_isRight_0 u C hr hR ea1 ec3_0 ec3_1 ea4 x0 h
/-! LullabyPit$Taps.fitting()I -/
theorem ds_X9_fitting : k_ds [] = true := by decide +kernel
set_option maxHeartbeats 400000 in
set_option maxRecDepth 100000 in
theorem sX9_fitting_28 (u : Nat) {X : k_X} {ad : Nat → Nat} (C : k_C X cX9_fitting RX9 3 ad) (hr : X.meth.sig.returnType = (some .int)) (hR : X.R.frames = 3 ∧ X.R.locals = 66) {I : Nat → Nat → Int32} {L : Nat → Nat → Int64} {Rf : Nat → Nat → Option Nat} {a1 : (Nat → Int32)} (ea1 : I 1 = a1) {c3_0 : Int32} (ec3_0 : I 3 0 = c3_0) {c3_1 : Int32} (ec3_1 : I 3 1 = c3_1) {a4 : (Nat → Int32)} (ea4 : I 4 = a4) {out : Int32} {k5 : Int32 → Int32 → Option (Int32)} (hk5 : ∀ (v1 : Int32) (v2 : Int32), k5 v1 v2 = some out → k_W X 3 0 0 (k_Q X ad (some (.int out)) (k_ap [] (shTaps, I, L, Rf))) ad (k_ap [] (shTaps, I, L, Rf)) 5 [some (.ref 0), some (.int v1), some (.int v2)] []) : ∀ (v1 : Int32) (v2 : Int32), bX9_fitting_28 u a1 c3_0 c3_1 a4 k5 v1 v2 = some out → k_W X 3 0 0 (k_Q X ad (some (.int out)) (k_ap [] (shTaps, I, L, Rf))) ad (k_ap [] (shTaps, I, L, Rf)) 28 [some (.ref 0), some (.int v1), some (.int v2)] [] := by
  intro v1 v2 h
  unfold bX9_fitting_28 at h
  refine r_iinc (v := (v2 + (1 : Int32))) C dX9_fitting_28 (rfl : 28 + 3 = 31) rfl rfl (by decide) ?_
  show k_W _ _ _ _ _ _ _ _ [some (.ref 0), some (.int v1), some (.int (v2 + (1 : Int32)))] _
  refine r_goto (tgt := 5) C dX9_fitting_31 (by decide) ?_
  refine k_mask [true, true, true] ?_
  exact hk5 v1 (v2 + (1 : Int32)) h
set_option maxHeartbeats 400000 in
set_option maxRecDepth 100000 in
theorem sX9_fitting_5 (u : Nat) {X : k_X} {ad : Nat → Nat} (C : k_C X cX9_fitting RX9 3 ad) (hr : X.meth.sig.returnType = (some .int)) (hR : X.R.frames = 3 ∧ X.R.locals = 66) {I : Nat → Nat → Int32} {L : Nat → Nat → Int64} {Rf : Nat → Nat → Option Nat} {a1 : (Nat → Int32)} (ea1 : I 1 = a1) {c3_0 : Int32} (ec3_0 : I 3 0 = c3_0) {c3_1 : Int32} (ec3_1 : I 3 1 = c3_1) {a4 : (Nat → Int32)} (ea4 : I 4 = a4) {out : Int32} : ∀ (n : Nat) (v1 : Int32) (v2 : Int32), bX9_fitting_5 u a1 c3_0 c3_1 a4 n v1 v2 = some out → k_W X 3 0 0 (k_Q X ad (some (.int out)) (k_ap [] (shTaps, I, L, Rf))) ad (k_ap [] (shTaps, I, L, Rf)) 5 [some (.ref 0), some (.int v1), some (.int v2)] [] := by
  intro n
  induction n with
  | zero => intro v1 v2 h; cases h
  | succ n ih =>
    intro v1 v2 h
    refine r_iload_n C dX9_fitting_5 (rfl : 5 + 1 = 6) rfl ?_
    refine r_bipush (v := (7 : Int32)) C dX9_fitting_6 (rfl : 6 + 2 = 8) rfl ?_
    refine r_icmp_gt (tgt := 34) C dX9_fitting_8 (by decide) (rfl : 8 + 3 = 11) (fun c8 => ?_) (fun c8 => ?_)
    · have h := k_t c8 h
      refine r_iload_n C dX9_fitting_34 (rfl : 34 + 1 = 35) rfl ?_
      cases h
      exact r_iret C hr dX9_fitting_35
    · have h := k_f c8 h
      refine r_aload_n C dX9_fitting_11 (rfl : 11 + 1 = 12) rfl ?_
      refine r_iload_n C dX9_fitting_12 (rfl : 12 + 1 = 13) rfl ?_
      obtain ⟨r13, q13, h⟩ := k_b_of h
      refine d_V (As := [.int v2]) (st := []) (st' := [.int r13]) (h' := k_ap [] (shTaps, I, L, Rf)) C hR ⟨Nat.zero_le _, Nat.zero_le _⟩ mv_X9_isRight lk_X9_77 dX9_fitting_13 (rfl : 13 + 3 = 16) rfl rfl rfl rfl (c_X9_isRight X.l u (k_ap [] (shTaps, I, L, Rf)) rfl ea1 ec3_0 ec3_1 ea4 q13) rfl rfl rfl rfl rfl ?_
      refine r_if_eq (tgt := 28) C dX9_fitting_16 (by decide) (rfl : 16 + 3 = 19) (fun c16 => ?_) (fun c16 => ?_)
      · have h := k_t c16 h
        refine k_mask [true, true, true] ?_
        exact sX9_fitting_28 u C hr hR ea1 ec3_0 ec3_1 ea4 ih v1 v2 h
      · have h := k_f c16 h
        refine r_iload_n C dX9_fitting_19 (rfl : 19 + 1 = 20) rfl ?_
        refine r_iconst (v := (1 : Int32)) C dX9_fitting_20 (rfl : 20 + 1 = 21) rfl ?_
        refine r_iload_n C dX9_fitting_21 (rfl : 21 + 1 = 22) rfl ?_
        refine r_bipush (v := (7 : Int32)) C dX9_fitting_22 (rfl : 22 + 2 = 24) rfl ?_
        refine r_iadd C dX9_fitting_24 (rfl : 24 + 1 = 25) ?_
        refine r_ishl C dX9_fitting_25 (rfl : 25 + 1 = 26) ?_
        refine r_ior C dX9_fitting_26 (rfl : 26 + 1 = 27) ?_
        refine r_istore_n C dX9_fitting_27 (rfl : 27 + 1 = 28) (by decide) (Nat.le_of_ble_eq_true rfl) ?_
        show k_W _ _ _ _ _ _ _ _ [some (.ref 0), some (.int (v1 ||| ((1 : Int32) <<< ((v2 + (7 : Int32)) &&& 31)))), some (.int v2)] _
        refine k_mask [true, true, true] ?_
        exact sX9_fitting_28 u C hr hR ea1 ec3_0 ec3_1 ea4 ih (v1 ||| ((1 : Int32) <<< ((v2 + (7 : Int32)) &&& 31))) v2 h
set_option maxHeartbeats 400000 in
set_option maxRecDepth 100000 in
theorem sX9_fitting_0 (u : Nat) {X : k_X} {ad : Nat → Nat} (C : k_C X cX9_fitting RX9 3 ad) (hr : X.meth.sig.returnType = (some .int)) (hR : X.R.frames = 3 ∧ X.R.locals = 66) {I : Nat → Nat → Int32} {L : Nat → Nat → Int64} {Rf : Nat → Nat → Option Nat} {a1 : (Nat → Int32)} (ea1 : I 1 = a1) {c3_0 : Int32} (ec3_0 : I 3 0 = c3_0) {c3_1 : Int32} (ec3_1 : I 3 1 = c3_1) {a4 : (Nat → Int32)} (ea4 : I 4 = a4) {out : Int32} : bX9_fitting_0 u a1 c3_0 c3_1 a4 = some out → k_W X 3 0 0 (k_Q X ad (some (.int out)) (k_ap [] (shTaps, I, L, Rf))) ad (k_ap [] (shTaps, I, L, Rf)) 0 [some (.ref 0), none, none] [] := by
  intro h
  unfold bX9_fitting_0 at h
  refine r_iconst (v := (0 : Int32)) C dX9_fitting_0 (rfl : 0 + 1 = 1) rfl ?_
  refine r_istore_n C dX9_fitting_1 (rfl : 1 + 1 = 2) (by decide) (Nat.le_of_ble_eq_true rfl) ?_
  show k_W _ _ _ _ _ _ _ _ [some (.ref 0), some (.int (0 : Int32)), none] _
  refine r_bipush (v := (-7 : Int32)) C dX9_fitting_2 (rfl : 2 + 2 = 4) rfl ?_
  refine r_istore_n C dX9_fitting_4 (rfl : 4 + 1 = 5) (by decide) (Nat.le_of_ble_eq_true rfl) ?_
  show k_W _ _ _ _ _ _ _ _ [some (.ref 0), some (.int (0 : Int32)), some (.int (-7 : Int32))] _
  refine k_mask [true, true, true] ?_
  exact sX9_fitting_5 u C hr hR ea1 ec3_0 ec3_1 ea4 u (0 : Int32) (-7 : Int32) h
set_option maxHeartbeats 400000 in
set_option maxRecDepth 100000 in
theorem c_X9_fitting (l : Launch) (u : Nat) (h : k_H) (hsh : h.1 = shTaps) {a1 : (Nat → Int32)} (ea1 : h.2.1 1 = a1) {c3_0 : Int32} (ec3_0 : h.2.1 3 0 = c3_0) {c3_1 : Int32} (ec3_1 : h.2.1 3 1 = c3_1) {a4 : (Nat → Int32)} (ea4 : h.2.1 4 = a4) {out : Int32} (hf : f_X9_fitting u a1 c3_0 c3_1 a4 = some out) : k_CT l yX9_fitting cX9_fitting 3 (some .int) 3 66 [.ref 0] h (some (.int out)) [] := by
  obtain ⟨sh, I, L, Rf⟩ := h
  try dsimp only
  obtain rfl : sh = shTaps := hsh
  refine k_ofW (by decide) (Nat.le_of_ble_eq_true rfl) ?_
  intro X ad hl hR0 hr C
  have hR : X.R.frames = 3 ∧ X.R.locals = 66 := by rw [hR0]; exact ⟨rfl, rfl⟩
  have h := hf
  unfold f_X9_fitting at h
  refine k_start (us := []) k_ap_0 ?_
  show k_W X 3 0 0 _ ad (k_ap [] (shTaps, I, L, Rf)) 0 [some (.ref 0), none, none] []
  refine k_mask [true, false, false] ?_
  exact sX9_fitting_0 u C hr hR ea1 ec3_0 ec3_1 ea4 h
