/-! LullabyPit$Law.value(LLullabyPit$Mine;IZ)I -/
theorem ds_X1_value_H : k_ds [(17, 2, 0)] = true := by decide +kernel
set_option maxHeartbeats 400000 in
set_option maxRecDepth 100000 in
theorem sX1_value_H_110 (u : Nat) {X : k_X} {ad : Nat → Nat} (C : k_C X cX1_value RX1 7 ad) (hr : X.meth.sig.returnType = (some .int)) (hR : X.R.frames = 2 ∧ X.R.locals = 47) {I : Nat → Nat → Int32} {L : Nat → Nat → Int64} {Rf : Nat → Nat → Option Nat} {c0_10 : Int32} (ec0_10 : I 0 10 = c0_10) {c0_3 : Int64} (ec0_3 : L 0 3 = c0_3) {c0_4 : Int64} (ec0_4 : L 0 4 = c0_4) {a6 : (Nat → Int32)} (ea6 : I 6 = a6) {a7 : (Nat → Int32)} (ea7 : I 7 = a7) {c15_2 : Int32} (ec15_2 : I 15 2 = c15_2) {a16 : (Nat → Int32)} (ea16 : I 16 = a16) {out : Int32 × (Nat → Int32)} {k6 : (Nat → Int32) → Int32 → Int32 → Int32 → Int32 → Option (Int32 × (Nat → Int32))} (hk6 : ∀ (a17 : (Nat → Int32)) (v2 : Int32) (v3 : Int32) (v4 : Int32) (v5 : Int32), k6 a17 v2 v3 v4 v5 = some out → k_W X 7 0 0 (k_Q X ad (some (.int out.1)) (k_ap [(17, .inr (.inr (.inl out.2)))] (shMine, I, L, Rf))) ad (k_ap [(17, .inr (.inr (.inl a17)))] (shMine, I, L, Rf)) 6 [some (.ref 15), some (.ref 0), some (.int v2), some (.int v3), some (.int v4), some (.int v5), none] []) : ∀ (a17 : (Nat → Int32)) (v2 : Int32) (v3 : Int32) (v4 : Int32) (v5 : Int32), bX1_value_H_110 u c0_10 c0_3 c0_4 a6 a7 c15_2 a16 k6 a17 v2 v3 v4 v5 = some out → k_W X 7 0 0 (k_Q X ad (some (.int out.1)) (k_ap [(17, .inr (.inr (.inl out.2)))] (shMine, I, L, Rf))) ad (k_ap [(17, .inr (.inr (.inl a17)))] (shMine, I, L, Rf)) 110 [some (.ref 15), some (.ref 0), some (.int v2), some (.int v3), some (.int v4), some (.int v5), none] [] := by
  intro a17 v2 v3 v4 v5 h
  unfold bX1_value_H_110 at h
  refine r_iinc (v := (v5 + (1 : Int32))) C dX1_value_110 (rfl : 110 + 3 = 113) rfl rfl (by decide) ?_
  show k_W _ _ _ _ _ _ _ _ [some (.ref 15), some (.ref 0), some (.int v2), some (.int v3), some (.int v4), some (.int (v5 + (1 : Int32))), none] _
  refine r_goto (tgt := 6) C dX1_value_113 (by decide) ?_
  refine k_mask [true, true, true, true, true, true, false] ?_
  exact hk6 a17 v2 v3 v4 (v5 + (1 : Int32)) h
set_option maxHeartbeats 400000 in
set_option maxRecDepth 100000 in
theorem sX1_value_H_106 (u : Nat) {X : k_X} {ad : Nat → Nat} (C : k_C X cX1_value RX1 7 ad) (hr : X.meth.sig.returnType = (some .int)) (hR : X.R.frames = 2 ∧ X.R.locals = 47) {I : Nat → Nat → Int32} {L : Nat → Nat → Int64} {Rf : Nat → Nat → Option Nat} {c0_10 : Int32} (ec0_10 : I 0 10 = c0_10) {c0_3 : Int64} (ec0_3 : L 0 3 = c0_3) {c0_4 : Int64} (ec0_4 : L 0 4 = c0_4) {a6 : (Nat → Int32)} (ea6 : I 6 = a6) {a7 : (Nat → Int32)} (ea7 : I 7 = a7) {c15_2 : Int32} (ec15_2 : I 15 2 = c15_2) {a16 : (Nat → Int32)} (ea16 : I 16 = a16) {out : Int32 × (Nat → Int32)} {k6 : (Nat → Int32) → Int32 → Int32 → Int32 → Int32 → Option (Int32 × (Nat → Int32))} (hk6 : ∀ (a17 : (Nat → Int32)) (v2 : Int32) (v3 : Int32) (v4 : Int32) (v5 : Int32), k6 a17 v2 v3 v4 v5 = some out → k_W X 7 0 0 (k_Q X ad (some (.int out.1)) (k_ap [(17, .inr (.inr (.inl out.2)))] (shMine, I, L, Rf))) ad (k_ap [(17, .inr (.inr (.inl a17)))] (shMine, I, L, Rf)) 6 [some (.ref 15), some (.ref 0), some (.int v2), some (.int v3), some (.int v4), some (.int v5), none] []) : ∀ (a17 : (Nat → Int32)) (v2 : Int32) (v3 : Int32) (v4 : Int32) (v5 : Int32) (w0 : Int32) (w1 : Int32), bX1_value_H_106 u c0_10 c0_3 c0_4 a6 a7 c15_2 a16 k6 a17 v2 v3 v4 v5 w0 w1 = some out → k_W X 7 0 0 (k_Q X ad (some (.int out.1)) (k_ap [(17, .inr (.inr (.inl out.2)))] (shMine, I, L, Rf))) ad (k_ap [(17, .inr (.inr (.inl a17)))] (shMine, I, L, Rf)) 106 [some (.ref 15), some (.ref 0), some (.int v2), some (.int v3), some (.int v4), some (.int v5), none] [.int w0, .int w1, .ref 17] := by
  intro a17 v2 v3 v4 v5 w0 w1 h
  unfold bX1_value_H_106 at h
  obtain ⟨hi106, h⟩ := k_i_of h
  refine s_i (j := (w1).toNatClampNeg) (f := a17) (us' := [(17, .inr (.inr (.inl (upd a17 ((w1).toNatClampNeg) w0))))]) C dX1_value_106 (rfl : 106 + 1 = 107) rfl rfl hi106 rfl ds_X1_value_H rfl rfl rfl ?_
  refine r_iinc (v := (v4 + (1 : Int32))) C dX1_value_107 (rfl : 107 + 3 = 110) rfl rfl (by decide) ?_
  show k_W _ _ _ _ _ _ _ _ [some (.ref 15), some (.ref 0), some (.int v2), some (.int v3), some (.int (v4 + (1 : Int32))), some (.int v5), none] _
  refine k_mask [true, true, true, true, true, true, false] ?_
  exact sX1_value_H_110 u C hr hR ec0_10 ec0_3 ec0_4 ea6 ea7 ec15_2 ea16 hk6 (upd a17 ((w1).toNatClampNeg) w0) v2 v3 (v4 + (1 : Int32)) v5 h
set_option maxHeartbeats 400000 in
set_option maxRecDepth 100000 in
theorem sX1_value_H_6 (u : Nat) {X : k_X} {ad : Nat → Nat} (C : k_C X cX1_value RX1 7 ad) (hr : X.meth.sig.returnType = (some .int)) (hR : X.R.frames = 2 ∧ X.R.locals = 47) {I : Nat → Nat → Int32} {L : Nat → Nat → Int64} {Rf : Nat → Nat → Option Nat} {c0_10 : Int32} (ec0_10 : I 0 10 = c0_10) {c0_3 : Int64} (ec0_3 : L 0 3 = c0_3) {c0_4 : Int64} (ec0_4 : L 0 4 = c0_4) {a6 : (Nat → Int32)} (ea6 : I 6 = a6) {a7 : (Nat → Int32)} (ea7 : I 7 = a7) {c15_2 : Int32} (ec15_2 : I 15 2 = c15_2) {a16 : (Nat → Int32)} (ea16 : I 16 = a16) {out : Int32 × (Nat → Int32)} : ∀ (n : Nat) (a17 : (Nat → Int32)) (v2 : Int32) (v3 : Int32) (v4 : Int32) (v5 : Int32), bX1_value_H_6 u c0_10 c0_3 c0_4 a6 a7 c15_2 a16 n a17 v2 v3 v4 v5 = some out → k_W X 7 0 0 (k_Q X ad (some (.int out.1)) (k_ap [(17, .inr (.inr (.inl out.2)))] (shMine, I, L, Rf))) ad (k_ap [(17, .inr (.inr (.inl a17)))] (shMine, I, L, Rf)) 6 [some (.ref 15), some (.ref 0), some (.int v2), some (.int v3), some (.int v4), some (.int v5), none] [] := by
  intro n
  induction n with
  | zero => intro a17 v2 v3 v4 v5 h; cases h
  | succ n ih =>
    intro a17 v2 v3 v4 v5 h
    refine r_iload C dX1_value_6 (rfl : 6 + 2 = 8) rfl ?_
    refine r_aload_n C dX1_value_8 (rfl : 8 + 1 = 9) rfl ?_
    refine r_getI (v := c15_2) C dX1_value_9 (rfl : 9 + 3 = 12) fl_X1_18 rfl rfl ec15_2 ?_
    refine r_icmp_ge (tgt := 116) C dX1_value_12 (by decide) (rfl : 12 + 3 = 15) (fun c12 => ?_) (fun c12 => ?_)
    · have h := k_t c12 h
      refine r_aload_n C dX1_value_116 (rfl : 116 + 1 = 117) rfl ?_
      refine r_getR (q := 17) C dX1_value_117 (rfl : 117 + 3 = 120) fl_X1_15 rfl rfl ?_
      refine r_iconst (v := (0 : Int32)) C dX1_value_120 (rfl : 120 + 1 = 121) rfl ?_
      refine a_i (j := 0) (f := a17) C dX1_value_121 (rfl : 121 + 1 = 122) rfl rfl (show ¬ ((0 : Int32) < 0 ∨ 24 ≤ ((0 : Int32)).toNatClampNeg) by decide) rfl ?_
      cases h
      exact r_iret C hr dX1_value_122
    · have h := k_f c12 h
      refine r_aload_n C dX1_value_15 (rfl : 15 + 1 = 16) rfl ?_
      refine r_getR (q := 16) C dX1_value_16 (rfl : 16 + 3 = 19) fl_X1_9 rfl rfl ?_
      refine r_iload C dX1_value_19 (rfl : 19 + 2 = 21) rfl ?_
      obtain ⟨hi21, h⟩ := k_i_of h
      refine a_i (j := (v5).toNatClampNeg) (f := a16) C dX1_value_21 (rfl : 21 + 1 = 22) rfl ea16 hi21 rfl ?_
      refine r_istore C dX1_value_22 (rfl : 22 + 2 = 24) (by decide) (Nat.le_of_ble_eq_true rfl) ?_
      show k_W _ _ _ _ _ _ _ _ [some (.ref 15), some (.ref 0), some (.int v2), some (.int v3), some (.int v4), some (.int v5), some (.int (a16 ((v5).toNatClampNeg)))] _
      refine r_iload C dX1_value_24 (rfl : 24 + 2 = 26) rfl ?_
      refine r_bipush (v := (-9 : Int32)) C dX1_value_26 (rfl : 26 + 2 = 28) rfl ?_
      refine r_icmp_gt (tgt := 75) C dX1_value_28 (by decide) (rfl : 28 + 3 = 31) (fun c28 => ?_) (fun c28 => ?_)
      · have h := k_t c28 h
        refine r_iload C dX1_value_75 (rfl : 75 + 2 = 77) rfl ?_
        refine r_bipush (v := (24 : Int32)) C dX1_value_77 (rfl : 77 + 2 = 79) rfl ?_
        refine r_icmp_ge (tgt := 110) C dX1_value_79 (by decide) (rfl : 79 + 3 = 82) (fun c79 => ?_) (fun c79 => ?_)
        · have h := k_t c79 h
          refine k_mask [true, true, true, true, true, true, false] ?_
          exact sX1_value_H_110 u C hr hR ec0_10 ec0_3 ec0_4 ea6 ea7 ec15_2 ea16 ih a17 v2 v3 v4 v5 h
        · have h := k_f c79 h
          refine r_aload_n C dX1_value_82 (rfl : 82 + 1 = 83) rfl ?_
          refine r_getR (q := 17) C dX1_value_83 (rfl : 83 + 3 = 86) fl_X1_15 rfl rfl ?_
          refine r_iload C dX1_value_86 (rfl : 86 + 2 = 88) rfl ?_
          refine r_iload C dX1_value_88 (rfl : 88 + 2 = 90) rfl ?_
          refine r_if_lt (tgt := 98) C dX1_value_90 (by decide) (rfl : 90 + 3 = 93) (fun c90 => ?_) (fun c90 => ?_)
          · have h := k_t c90 h
            refine r_aload_n C dX1_value_98 (rfl : 98 + 1 = 99) rfl ?_
            refine r_iload C dX1_value_99 (rfl : 99 + 2 = 101) rfl ?_
            refine r_iload_n C dX1_value_101 (rfl : 101 + 1 = 102) rfl ?_
            refine r_iload_n C dX1_value_102 (rfl : 102 + 1 = 103) rfl ?_
            obtain ⟨r103, q103, h⟩ := k_b_of h
            refine d_V (As := [.int (a16 ((v5).toNatClampNeg)), .int v2, .int v3]) (st := [.int v4, .ref 17]) (st' := [.int r103, .int v4, .ref 17]) (h' := k_ap [(17, .inr (.inr (.inl a17)))] (shMine, I, L, Rf)) C hR ⟨Nat.zero_le _, Nat.zero_le _⟩ mv_X3_sight lk_X1_92 dX1_value_103 (rfl : 103 + 3 = 106) rfl rfl rfl rfl (c_X3_sight X.l u (k_ap [(17, .inr (.inr (.inl a17)))] (shMine, I, L, Rf)) rfl ec0_10 ec0_3 ec0_4 ea6 ea7 q103) rfl rfl rfl rfl rfl ?_
            refine k_mask [true, true, true, true, true, true, false] ?_
            exact sX1_value_H_106 u C hr hR ec0_10 ec0_3 ec0_4 ea6 ea7 ec15_2 ea16 ih a17 v2 v3 v4 v5 r103 v4 h
          · have h := k_f c90 h
            refine r_iload C dX1_value_93 (rfl : 93 + 2 = 95) rfl ?_
            refine r_goto (tgt := 106) C dX1_value_95 (by decide) ?_
            refine k_mask [true, true, true, true, true, true, false] ?_
            exact sX1_value_H_106 u C hr hR ec0_10 ec0_3 ec0_4 ea6 ea7 ec15_2 ea16 ih a17 v2 v3 v4 v5 (a16 ((v5).toNatClampNeg)) v4 h
      · have h := k_f c28 h
        refine r_iload C dX1_value_31 (rfl : 31 + 2 = 33) rfl ?_
        refine r_iconst (v := (2 : Int32)) C dX1_value_33 (rfl : 33 + 1 = 34) rfl ?_
        refine r_icmp_lt (tgt := 110) C dX1_value_34 (by decide) (rfl : 34 + 3 = 37) (fun c34 => ?_) (fun c34 => ?_)
        · have h := k_t c34 h
          refine k_mask [true, true, true, true, true, true, false] ?_
          exact sX1_value_H_110 u C hr hR ec0_10 ec0_3 ec0_4 ea6 ea7 ec15_2 ea16 ih a17 v2 v3 v4 v5 h
        · have h := k_f c34 h
          refine r_aload_n C dX1_value_37 (rfl : 37 + 1 = 38) rfl ?_
          refine r_getR (q := 17) C dX1_value_38 (rfl : 38 + 3 = 41) fl_X1_15 rfl rfl ?_
          refine r_iload C dX1_value_41 (rfl : 41 + 2 = 43) rfl ?_
          refine r_iconst (v := (2 : Int32)) C dX1_value_43 (rfl : 43 + 1 = 44) rfl ?_
          refine r_isub C dX1_value_44 (rfl : 44 + 1 = 45) ?_
          refine r_iload C dX1_value_45 (rfl : 45 + 2 = 47) rfl ?_
          refine r_aload_n C dX1_value_47 (rfl : 47 + 1 = 48) rfl ?_
          refine r_getR (q := 17) C dX1_value_48 (rfl : 48 + 3 = 51) fl_X1_15 rfl rfl ?_
          refine r_iload C dX1_value_51 (rfl : 51 + 2 = 53) rfl ?_
          refine r_iconst (v := (2 : Int32)) C dX1_value_53 (rfl : 53 + 1 = 54) rfl ?_
          refine r_isub C dX1_value_54 (rfl : 54 + 1 = 55) ?_
          obtain ⟨hi55, h⟩ := k_i_of h
          refine a_i (j := ((v4 - (2 : Int32))).toNatClampNeg) (f := a17) C dX1_value_55 (rfl : 55 + 1 = 56) rfl rfl hi55 rfl ?_
          refine r_aload_n C dX1_value_56 (rfl : 56 + 1 = 57) rfl ?_
          refine r_getR (q := 17) C dX1_value_57 (rfl : 57 + 3 = 60) fl_X1_15 rfl rfl ?_
          refine r_iload C dX1_value_60 (rfl : 60 + 2 = 62) rfl ?_
          refine r_iconst (v := (1 : Int32)) C dX1_value_62 (rfl : 62 + 1 = 63) rfl ?_
          refine r_isub C dX1_value_63 (rfl : 63 + 1 = 64) ?_
          obtain ⟨hi64, h⟩ := k_i_of h
          refine a_i (j := ((v4 - (1 : Int32))).toNatClampNeg) (f := a17) C dX1_value_64 (rfl : 64 + 1 = 65) rfl rfl hi64 rfl ?_
          obtain ⟨r65, q65, h⟩ := k_b_of h
          refine d_S (As := [.int (a16 ((v5).toNatClampNeg)), .int (a17 (((v4 - (2 : Int32))).toNatClampNeg)), .int (a17 (((v4 - (1 : Int32))).toNatClampNeg))]) (st := [.int (v4 - (2 : Int32)), .ref 17]) (st' := [.int r65, .int (v4 - (2 : Int32)), .ref 17]) (h' := k_ap [(17, .inr (.inr (.inl a17)))] (shMine, I, L, Rf)) C hR ⟨Nat.zero_le _, Nat.zero_le _⟩ ms_X1_joined lk_X1_88 dX1_value_65 (rfl : 65 + 3 = 68) rfl rfl (c_X1_joined X.l u (k_ap [(17, .inr (.inr (.inl a17)))] (shMine, I, L, Rf))  q65) rfl rfl rfl rfl rfl ?_
          obtain ⟨hi68, h⟩ := k_i_of h
          refine s_i (j := ((v4 - (2 : Int32))).toNatClampNeg) (f := a17) (us' := [(17, .inr (.inr (.inl (upd a17 (((v4 - (2 : Int32))).toNatClampNeg) r65))))]) C dX1_value_68 (rfl : 68 + 1 = 69) rfl rfl hi68 rfl ds_X1_value_H rfl rfl rfl ?_
          refine r_iinc (v := (v4 + (-1 : Int32))) C dX1_value_69 (rfl : 69 + 3 = 72) rfl rfl (by decide) ?_
          show k_W _ _ _ _ _ _ _ _ [some (.ref 15), some (.ref 0), some (.int v2), some (.int v3), some (.int (v4 + (-1 : Int32))), some (.int v5), some (.int (a16 ((v5).toNatClampNeg)))] _
          refine r_goto (tgt := 110) C dX1_value_72 (by decide) ?_
          refine k_mask [true, true, true, true, true, true, false] ?_
          exact sX1_value_H_110 u C hr hR ec0_10 ec0_3 ec0_4 ea6 ea7 ec15_2 ea16 ih (upd a17 (((v4 - (2 : Int32))).toNatClampNeg) r65) v2 v3 (v4 + (-1 : Int32)) v5 h
set_option maxHeartbeats 400000 in
set_option maxRecDepth 100000 in
theorem sX1_value_H_0 (u : Nat) {X : k_X} {ad : Nat → Nat} (C : k_C X cX1_value RX1 7 ad) (hr : X.meth.sig.returnType = (some .int)) (hR : X.R.frames = 2 ∧ X.R.locals = 47) {I : Nat → Nat → Int32} {L : Nat → Nat → Int64} {Rf : Nat → Nat → Option Nat} {c0_10 : Int32} (ec0_10 : I 0 10 = c0_10) {c0_3 : Int64} (ec0_3 : L 0 3 = c0_3) {c0_4 : Int64} (ec0_4 : L 0 4 = c0_4) {a6 : (Nat → Int32)} (ea6 : I 6 = a6) {a7 : (Nat → Int32)} (ea7 : I 7 = a7) {c15_2 : Int32} (ec15_2 : I 15 2 = c15_2) {a16 : (Nat → Int32)} (ea16 : I 16 = a16) {out : Int32 × (Nat → Int32)} : ∀ (a17 : (Nat → Int32)) (v2 : Int32) (v3 : Int32), bX1_value_H_0 u c0_10 c0_3 c0_4 a6 a7 c15_2 a16 a17 v2 v3 = some out → k_W X 7 0 0 (k_Q X ad (some (.int out.1)) (k_ap [(17, .inr (.inr (.inl out.2)))] (shMine, I, L, Rf))) ad (k_ap [(17, .inr (.inr (.inl a17)))] (shMine, I, L, Rf)) 0 [some (.ref 15), some (.ref 0), some (.int v2), some (.int v3), none, none, none] [] := by
  intro a17 v2 v3 h
  unfold bX1_value_H_0 at h
  refine r_iconst (v := (0 : Int32)) C dX1_value_0 (rfl : 0 + 1 = 1) rfl ?_
  refine r_istore C dX1_value_1 (rfl : 1 + 2 = 3) (by decide) (Nat.le_of_ble_eq_true rfl) ?_
  show k_W _ _ _ _ _ _ _ _ [some (.ref 15), some (.ref 0), some (.int v2), some (.int v3), some (.int (0 : Int32)), none, none] _
  refine r_iconst (v := (0 : Int32)) C dX1_value_3 (rfl : 3 + 1 = 4) rfl ?_
  refine r_istore C dX1_value_4 (rfl : 4 + 2 = 6) (by decide) (Nat.le_of_ble_eq_true rfl) ?_
  show k_W _ _ _ _ _ _ _ _ [some (.ref 15), some (.ref 0), some (.int v2), some (.int v3), some (.int (0 : Int32)), some (.int (0 : Int32)), none] _
  refine k_mask [true, true, true, true, true, true, false] ?_
  exact sX1_value_H_6 u C hr hR ec0_10 ec0_3 ec0_4 ea6 ea7 ec15_2 ea16 u a17 v2 v3 (0 : Int32) (0 : Int32) h
set_option maxHeartbeats 400000 in
set_option maxRecDepth 100000 in
theorem c_X1_value_H (l : Launch) (u : Nat) (h : k_H) (hsh : h.1 = shMine) {c0_10 : Int32} (ec0_10 : h.2.1 0 10 = c0_10) {c0_3 : Int64} (ec0_3 : h.2.2.1 0 3 = c0_3) {c0_4 : Int64} (ec0_4 : h.2.2.1 0 4 = c0_4) {a6 : (Nat → Int32)} (ea6 : h.2.1 6 = a6) {a7 : (Nat → Int32)} (ea7 : h.2.1 7 = a7) {c15_2 : Int32} (ec15_2 : h.2.1 15 2 = c15_2) {a16 : (Nat → Int32)} (ea16 : h.2.1 16 = a16) {a17 : (Nat → Int32)} (ea17 : h.2.1 17 = a17) {x1 : Int32} {x2 : Int32} {out : Int32 × (Nat → Int32)} (hf : f_X1_value_H u c0_10 c0_3 c0_4 a6 a7 c15_2 a16 a17 x1 x2 = some out) : k_CT l yX1_value cX1_value 7 (some .int) 2 47 [.ref 15, .ref 0, .int x1, .int x2] h (some (.int out.1)) [(17, .inr (.inr (.inl out.2)))] := by
  obtain ⟨sh, I, L, Rf⟩ := h
  try dsimp only
  obtain rfl : sh = shMine := hsh
  refine k_ofW (by decide) (Nat.le_of_ble_eq_true rfl) ?_
  intro X ad hl hR0 hr C
  have hR : X.R.frames = 2 ∧ X.R.locals = 47 := by rw [hR0]; exact ⟨rfl, rfl⟩
  have h := hf
  unfold f_X1_value_H at h
  refine k_start (us := [(17, .inr (.inr (.inl a17)))]) (k_ao_A ea17 k_ap_0) ?_
  show k_W X 7 0 0 _ ad (k_ap [(17, .inr (.inr (.inl a17)))] (shMine, I, L, Rf)) 0 [some (.ref 15), some (.ref 0), some (.int x1), some (.int x2), none, none, none] []
  refine k_mask [true, true, true, true, false, false, false] ?_
  exact sX1_value_H_0 u C hr hR ec0_10 ec0_3 ec0_4 ea6 ea7 ec15_2 ea16 a17 x1 x2 h
/-! LullabyPit$Mine.begin()V -/
theorem ds_X3_begin : k_ds [(0, 0, 10), (0, 0, 11), (0, 0, 12), (0, 0, 13), (0, 0, 14), (0, 0, 15), (0, 0, 16), (0, 0, 17), (0, 1, 3), (0, 1, 4), (0, 1, 5), (1, 2, 0), (2, 2, 0), (3, 2, 0), (4, 2, 0)] = true := by decide +kernel
set_option maxHeartbeats 400000 in
set_option maxRecDepth 100000 in
theorem sX3_begin_0 (u : Nat) {X : k_X} {ad : Nat → Nat} (C : k_C X cX3_begin RX3 1 ad) (hr : X.meth.sig.returnType = none) (hR : X.R.frames = 1 ∧ X.R.locals = 23) {I : Nat → Nat → Int32} {L : Nat → Nat → Int64} {Rf : Nat → Nat → Option Nat} {c5_1 : Int32} (ec5_1 : I 5 1 = c5_1) {c5_9 : Int32} (ec5_9 : I 5 9 = c5_9) {out : Int32 × Int32 × Int32 × Int32 × Int32 × Int32 × Int32 × Int32 × Int64 × Int64 × Int64 × (Nat → Int32) × (Nat → Int32) × (Nat → Int32) × (Nat → Int32)} : ∀ (c0_10 : Int32) (c0_11 : Int32) (c0_12 : Int32) (c0_13 : Int32) (c0_14 : Int32) (c0_15 : Int32) (c0_16 : Int32) (c0_17 : Int32) (c0_3 : Int64) (c0_4 : Int64) (c0_5 : Int64) (a1 : (Nat → Int32)) (a2 : (Nat → Int32)) (a3 : (Nat → Int32)) (a4 : (Nat → Int32)), bX3_begin_0 u c5_1 c5_9 c0_10 c0_11 c0_12 c0_13 c0_14 c0_15 c0_16 c0_17 c0_3 c0_4 c0_5 a1 a2 a3 a4 = some out → k_W X 1 0 0 (k_Q X ad none (k_ap [(0, .inl (10, out.1)), (0, .inl (11, out.2.1)), (0, .inl (12, out.2.2.1)), (0, .inl (13, out.2.2.2.1)), (0, .inl (14, out.2.2.2.2.1)), (0, .inl (15, out.2.2.2.2.2.1)), (0, .inl (16, out.2.2.2.2.2.2.1)), (0, .inl (17, out.2.2.2.2.2.2.2.1)), (0, .inr (.inl (3, out.2.2.2.2.2.2.2.2.1))), (0, .inr (.inl (4, out.2.2.2.2.2.2.2.2.2.1))), (0, .inr (.inl (5, out.2.2.2.2.2.2.2.2.2.2.1))), (1, .inr (.inr (.inl out.2.2.2.2.2.2.2.2.2.2.2.1))), (2, .inr (.inr (.inl out.2.2.2.2.2.2.2.2.2.2.2.2.1))), (3, .inr (.inr (.inl out.2.2.2.2.2.2.2.2.2.2.2.2.2.1))), (4, .inr (.inr (.inl out.2.2.2.2.2.2.2.2.2.2.2.2.2.2)))] (shMine, I, L, Rf))) ad (k_ap [(0, .inl (10, c0_10)), (0, .inl (11, c0_11)), (0, .inl (12, c0_12)), (0, .inl (13, c0_13)), (0, .inl (14, c0_14)), (0, .inl (15, c0_15)), (0, .inl (16, c0_16)), (0, .inl (17, c0_17)), (0, .inr (.inl (3, c0_3))), (0, .inr (.inl (4, c0_4))), (0, .inr (.inl (5, c0_5))), (1, .inr (.inr (.inl a1))), (2, .inr (.inr (.inl a2))), (3, .inr (.inr (.inl a3))), (4, .inr (.inr (.inl a4)))] (shMine, I, L, Rf)) 0 [some (.ref 0)] [] := by
  intro c0_10 c0_11 c0_12 c0_13 c0_14 c0_15 c0_16 c0_17 c0_3 c0_4 c0_5 a1 a2 a3 a4 h
  unfold bX3_begin_0 at h
  refine r_aload_n C dX3_begin_0 (rfl : 0 + 1 = 1) rfl ?_
  refine r_lconst (v := (0 : Int64)) C dX3_begin_1 (rfl : 1 + 1 = 2) rfl ?_
  refine p_L (us' := [(0, .inl (10, c0_10)), (0, .inl (11, c0_11)), (0, .inl (12, c0_12)), (0, .inl (13, c0_13)), (0, .inl (14, c0_14)), (0, .inl (15, c0_15)), (0, .inl (16, c0_16)), (0, .inl (17, c0_17)), (0, .inr (.inl (3, (0 : Int64)))), (0, .inr (.inl (4, c0_4))), (0, .inr (.inl (5, c0_5))), (1, .inr (.inr (.inl a1))), (2, .inr (.inr (.inl a2))), (3, .inr (.inr (.inl a3))), (4, .inr (.inr (.inl a4)))]) C dX3_begin_2 (rfl : 2 + 3 = 5) fp_X3_35 rfl rfl ds_X3_begin rfl rfl rfl ?_
  refine r_aload_n C dX3_begin_5 (rfl : 5 + 1 = 6) rfl ?_
  refine r_lconst (v := (0 : Int64)) C dX3_begin_6 (rfl : 6 + 1 = 7) rfl ?_
  refine p_L (us' := [(0, .inl (10, c0_10)), (0, .inl (11, c0_11)), (0, .inl (12, c0_12)), (0, .inl (13, c0_13)), (0, .inl (14, c0_14)), (0, .inl (15, c0_15)), (0, .inl (16, c0_16)), (0, .inl (17, c0_17)), (0, .inr (.inl (3, (0 : Int64)))), (0, .inr (.inl (4, (0 : Int64)))), (0, .inr (.inl (5, c0_5))), (1, .inr (.inr (.inl a1))), (2, .inr (.inr (.inl a2))), (3, .inr (.inr (.inl a3))), (4, .inr (.inr (.inl a4)))]) C dX3_begin_7 (rfl : 7 + 3 = 10) fp_X3_39 rfl rfl ds_X3_begin rfl rfl rfl ?_
  refine r_aload_n C dX3_begin_10 (rfl : 10 + 1 = 11) rfl ?_
  refine r_lconst (v := (0 : Int64)) C dX3_begin_11 (rfl : 11 + 1 = 12) rfl ?_
  refine p_L (us' := [(0, .inl (10, c0_10)), (0, .inl (11, c0_11)), (0, .inl (12, c0_12)), (0, .inl (13, c0_13)), (0, .inl (14, c0_14)), (0, .inl (15, c0_15)), (0, .inl (16, c0_16)), (0, .inl (17, c0_17)), (0, .inr (.inl (3, (0 : Int64)))), (0, .inr (.inl (4, (0 : Int64)))), (0, .inr (.inl (5, (0 : Int64)))), (1, .inr (.inr (.inl a1))), (2, .inr (.inr (.inl a2))), (3, .inr (.inr (.inl a3))), (4, .inr (.inr (.inl a4)))]) C dX3_begin_12 (rfl : 12 + 3 = 15) fp_X3_42 rfl rfl ds_X3_begin rfl rfl rfl ?_
  refine r_aload_n C dX3_begin_15 (rfl : 15 + 1 = 16) rfl ?_
  refine r_getR (q := 1) C dX3_begin_16 (rfl : 16 + 3 = 19) fl_X3_9 (k_gS rfl) rfl ?_
  refine r_iconst (v := (0 : Int32)) C dX3_begin_19 (rfl : 19 + 1 = 20) rfl ?_
  obtain ⟨r20, q20, h⟩ := k_b_of h
  refine d_Sp (pi := [1]) (shl := (shArr 6)) (As := [.ref 1, .int (0 : Int32)]) (Al := [.ref 0, .int (0 : Int32)]) (st := []) (st' := []) (h' := k_ap [(0, .inl (10, c0_10)), (0, .inl (11, c0_11)), (0, .inl (12, c0_12)), (0, .inl (13, c0_13)), (0, .inl (14, c0_14)), (0, .inl (15, c0_15)), (0, .inl (16, c0_16)), (0, .inl (17, c0_17)), (0, .inr (.inl (3, (0 : Int64)))), (0, .inr (.inl (4, (0 : Int64)))), (0, .inr (.inl (5, (0 : Int64)))), (1, .inr (.inr (.inl r20))), (2, .inr (.inr (.inl a2))), (3, .inr (.inr (.inl a3))), (4, .inr (.inr (.inl a4)))] (shMine, I, L, Rf)) C hR ⟨Nat.zero_le _, Nat.zero_le _⟩ ms_J7_fill_53178 lk_X3_45 dX3_begin_20 (rfl : 20 + 3 = 23) rfl rfl (k_ckS ck_shMine_shArr_1_6) (c_J7_fill_53178 X.l u 6 (k_pl [1] (shArr 6) (k_ap [(0, .inl (10, c0_10)), (0, .inl (11, c0_11)), (0, .inl (12, c0_12)), (0, .inl (13, c0_13)), (0, .inl (14, c0_14)), (0, .inl (15, c0_15)), (0, .inl (16, c0_16)), (0, .inl (17, c0_17)), (0, .inr (.inl (3, (0 : Int64)))), (0, .inr (.inl (4, (0 : Int64)))), (0, .inr (.inl (5, (0 : Int64)))), (1, .inr (.inr (.inl a1))), (2, .inr (.inr (.inl a2))), (3, .inr (.inr (.inl a3))), (4, .inr (.inr (.inl a4)))] (shMine, I, L, Rf))) rfl (k_plA rfl (k_gA ds_X3_begin rfl 11 rfl)) q20) (fun _ => rfl) rfl (fun _ => rfl) rfl rfl rfl (k_jn2 (us' := [(0, .inl (10, c0_10)), (0, .inl (11, c0_11)), (0, .inl (12, c0_12)), (0, .inl (13, c0_13)), (0, .inl (14, c0_14)), (0, .inl (15, c0_15)), (0, .inl (16, c0_16)), (0, .inl (17, c0_17)), (0, .inr (.inl (3, (0 : Int64)))), (0, .inr (.inl (4, (0 : Int64)))), (0, .inr (.inl (5, (0 : Int64)))), (1, .inr (.inr (.inl r20))), (2, .inr (.inr (.inl a2))), (3, .inr (.inr (.inl a3))), (4, .inr (.inr (.inl a4)))]) (vks := [(1, 2, 0)]) (js := [11]) ds_X3_begin rfl rfl (by decide +kernel) rfl) rfl ?_
  refine r_aload_n C dX3_begin_23 (rfl : 23 + 1 = 24) rfl ?_
  refine r_getR (q := 2) C dX3_begin_24 (rfl : 24 + 3 = 27) fl_X3_15 (k_gS rfl) rfl ?_
  refine r_iconst (v := (0 : Int32)) C dX3_begin_27 (rfl : 27 + 1 = 28) rfl ?_
  obtain ⟨r28, q28, h⟩ := k_b_of h
  refine d_Sp (pi := [2]) (shl := (shArr 6)) (As := [.ref 2, .int (0 : Int32)]) (Al := [.ref 0, .int (0 : Int32)]) (st := []) (st' := []) (h' := k_ap [(0, .inl (10, c0_10)), (0, .inl (11, c0_11)), (0, .inl (12, c0_12)), (0, .inl (13, c0_13)), (0, .inl (14, c0_14)), (0, .inl (15, c0_15)), (0, .inl (16, c0_16)), (0, .inl (17, c0_17)), (0, .inr (.inl (3, (0 : Int64)))), (0, .inr (.inl (4, (0 : Int64)))), (0, .inr (.inl (5, (0 : Int64)))), (1, .inr (.inr (.inl r20))), (2, .inr (.inr (.inl r28))), (3, .inr (.inr (.inl a3))), (4, .inr (.inr (.inl a4)))] (shMine, I, L, Rf)) C hR ⟨Nat.zero_le _, Nat.zero_le _⟩ ms_J7_fill_53178 lk_X3_45 dX3_begin_28 (rfl : 28 + 3 = 31) rfl rfl (k_ckS ck_shMine_shArr_2_6) (c_J7_fill_53178 X.l u 6 (k_pl [2] (shArr 6) (k_ap [(0, .inl (10, c0_10)), (0, .inl (11, c0_11)), (0, .inl (12, c0_12)), (0, .inl (13, c0_13)), (0, .inl (14, c0_14)), (0, .inl (15, c0_15)), (0, .inl (16, c0_16)), (0, .inl (17, c0_17)), (0, .inr (.inl (3, (0 : Int64)))), (0, .inr (.inl (4, (0 : Int64)))), (0, .inr (.inl (5, (0 : Int64)))), (1, .inr (.inr (.inl r20))), (2, .inr (.inr (.inl a2))), (3, .inr (.inr (.inl a3))), (4, .inr (.inr (.inl a4)))] (shMine, I, L, Rf))) rfl (k_plA rfl (k_gA ds_X3_begin rfl 12 rfl)) q28) (fun _ => rfl) rfl (fun _ => rfl) rfl rfl rfl (k_jn2 (us' := [(0, .inl (10, c0_10)), (0, .inl (11, c0_11)), (0, .inl (12, c0_12)), (0, .inl (13, c0_13)), (0, .inl (14, c0_14)), (0, .inl (15, c0_15)), (0, .inl (16, c0_16)), (0, .inl (17, c0_17)), (0, .inr (.inl (3, (0 : Int64)))), (0, .inr (.inl (4, (0 : Int64)))), (0, .inr (.inl (5, (0 : Int64)))), (1, .inr (.inr (.inl r20))), (2, .inr (.inr (.inl r28))), (3, .inr (.inr (.inl a3))), (4, .inr (.inr (.inl a4)))]) (vks := [(2, 2, 0)]) (js := [12]) ds_X3_begin rfl rfl (by decide +kernel) rfl) rfl ?_
  refine r_aload_n C dX3_begin_31 (rfl : 31 + 1 = 32) rfl ?_
  refine r_getR (q := 3) C dX3_begin_32 (rfl : 32 + 3 = 35) fl_X3_18 (k_gS rfl) rfl ?_
  refine r_iconst (v := (0 : Int32)) C dX3_begin_35 (rfl : 35 + 1 = 36) rfl ?_
  obtain ⟨r36, q36, h⟩ := k_b_of h
  refine d_Sp (pi := [3]) (shl := (shArr 6)) (As := [.ref 3, .int (0 : Int32)]) (Al := [.ref 0, .int (0 : Int32)]) (st := []) (st' := []) (h' := k_ap [(0, .inl (10, c0_10)), (0, .inl (11, c0_11)), (0, .inl (12, c0_12)), (0, .inl (13, c0_13)), (0, .inl (14, c0_14)), (0, .inl (15, c0_15)), (0, .inl (16, c0_16)), (0, .inl (17, c0_17)), (0, .inr (.inl (3, (0 : Int64)))), (0, .inr (.inl (4, (0 : Int64)))), (0, .inr (.inl (5, (0 : Int64)))), (1, .inr (.inr (.inl r20))), (2, .inr (.inr (.inl r28))), (3, .inr (.inr (.inl r36))), (4, .inr (.inr (.inl a4)))] (shMine, I, L, Rf)) C hR ⟨Nat.zero_le _, Nat.zero_le _⟩ ms_J7_fill_53178 lk_X3_45 dX3_begin_36 (rfl : 36 + 3 = 39) rfl rfl (k_ckS ck_shMine_shArr_3_6) (c_J7_fill_53178 X.l u 6 (k_pl [3] (shArr 6) (k_ap [(0, .inl (10, c0_10)), (0, .inl (11, c0_11)), (0, .inl (12, c0_12)), (0, .inl (13, c0_13)), (0, .inl (14, c0_14)), (0, .inl (15, c0_15)), (0, .inl (16, c0_16)), (0, .inl (17, c0_17)), (0, .inr (.inl (3, (0 : Int64)))), (0, .inr (.inl (4, (0 : Int64)))), (0, .inr (.inl (5, (0 : Int64)))), (1, .inr (.inr (.inl r20))), (2, .inr (.inr (.inl r28))), (3, .inr (.inr (.inl a3))), (4, .inr (.inr (.inl a4)))] (shMine, I, L, Rf))) rfl (k_plA rfl (k_gA ds_X3_begin rfl 13 rfl)) q36) (fun _ => rfl) rfl (fun _ => rfl) rfl rfl rfl (k_jn2 (us' := [(0, .inl (10, c0_10)), (0, .inl (11, c0_11)), (0, .inl (12, c0_12)), (0, .inl (13, c0_13)), (0, .inl (14, c0_14)), (0, .inl (15, c0_15)), (0, .inl (16, c0_16)), (0, .inl (17, c0_17)), (0, .inr (.inl (3, (0 : Int64)))), (0, .inr (.inl (4, (0 : Int64)))), (0, .inr (.inl (5, (0 : Int64)))), (1, .inr (.inr (.inl r20))), (2, .inr (.inr (.inl r28))), (3, .inr (.inr (.inl r36))), (4, .inr (.inr (.inl a4)))]) (vks := [(3, 2, 0)]) (js := [13]) ds_X3_begin rfl rfl (by decide +kernel) rfl) rfl ?_
  refine r_aload_n C dX3_begin_39 (rfl : 39 + 1 = 40) rfl ?_
  refine r_getR (q := 4) C dX3_begin_40 (rfl : 40 + 3 = 43) fl_X3_21 (k_gS rfl) rfl ?_
  refine r_iconst (v := (0 : Int32)) C dX3_begin_43 (rfl : 43 + 1 = 44) rfl ?_
  obtain ⟨r44, q44, h⟩ := k_b_of h
  refine d_Sp (pi := [4]) (shl := (shArr 6)) (As := [.ref 4, .int (0 : Int32)]) (Al := [.ref 0, .int (0 : Int32)]) (st := []) (st' := []) (h' := k_ap [(0, .inl (10, c0_10)), (0, .inl (11, c0_11)), (0, .inl (12, c0_12)), (0, .inl (13, c0_13)), (0, .inl (14, c0_14)), (0, .inl (15, c0_15)), (0, .inl (16, c0_16)), (0, .inl (17, c0_17)), (0, .inr (.inl (3, (0 : Int64)))), (0, .inr (.inl (4, (0 : Int64)))), (0, .inr (.inl (5, (0 : Int64)))), (1, .inr (.inr (.inl r20))), (2, .inr (.inr (.inl r28))), (3, .inr (.inr (.inl r36))), (4, .inr (.inr (.inl r44)))] (shMine, I, L, Rf)) C hR ⟨Nat.zero_le _, Nat.zero_le _⟩ ms_J7_fill_53178 lk_X3_45 dX3_begin_44 (rfl : 44 + 3 = 47) rfl rfl (k_ckS ck_shMine_shArr_4_6) (c_J7_fill_53178 X.l u 6 (k_pl [4] (shArr 6) (k_ap [(0, .inl (10, c0_10)), (0, .inl (11, c0_11)), (0, .inl (12, c0_12)), (0, .inl (13, c0_13)), (0, .inl (14, c0_14)), (0, .inl (15, c0_15)), (0, .inl (16, c0_16)), (0, .inl (17, c0_17)), (0, .inr (.inl (3, (0 : Int64)))), (0, .inr (.inl (4, (0 : Int64)))), (0, .inr (.inl (5, (0 : Int64)))), (1, .inr (.inr (.inl r20))), (2, .inr (.inr (.inl r28))), (3, .inr (.inr (.inl r36))), (4, .inr (.inr (.inl a4)))] (shMine, I, L, Rf))) rfl (k_plA rfl (k_gA ds_X3_begin rfl 14 rfl)) q44) (fun _ => rfl) rfl (fun _ => rfl) rfl rfl rfl (k_jn2 (us' := [(0, .inl (10, c0_10)), (0, .inl (11, c0_11)), (0, .inl (12, c0_12)), (0, .inl (13, c0_13)), (0, .inl (14, c0_14)), (0, .inl (15, c0_15)), (0, .inl (16, c0_16)), (0, .inl (17, c0_17)), (0, .inr (.inl (3, (0 : Int64)))), (0, .inr (.inl (4, (0 : Int64)))), (0, .inr (.inl (5, (0 : Int64)))), (1, .inr (.inr (.inl r20))), (2, .inr (.inr (.inl r28))), (3, .inr (.inr (.inl r36))), (4, .inr (.inr (.inl r44)))]) (vks := [(4, 2, 0)]) (js := [14]) ds_X3_begin rfl rfl (by decide +kernel) rfl) rfl ?_
  refine r_aload_n C dX3_begin_47 (rfl : 47 + 1 = 48) rfl ?_
  refine r_iconst (v := (1 : Int32)) C dX3_begin_48 (rfl : 48 + 1 = 49) rfl ?_
  refine p_I (us' := [(0, .inl (10, (1 : Int32))), (0, .inl (11, c0_11)), (0, .inl (12, c0_12)), (0, .inl (13, c0_13)), (0, .inl (14, c0_14)), (0, .inl (15, c0_15)), (0, .inl (16, c0_16)), (0, .inl (17, c0_17)), (0, .inr (.inl (3, (0 : Int64)))), (0, .inr (.inl (4, (0 : Int64)))), (0, .inr (.inl (5, (0 : Int64)))), (1, .inr (.inr (.inl r20))), (2, .inr (.inr (.inl r28))), (3, .inr (.inr (.inl r36))), (4, .inr (.inr (.inl r44)))]) C dX3_begin_49 (rfl : 49 + 3 = 52) fp_X3_51 rfl rfl ds_X3_begin rfl rfl rfl ?_
  refine r_aload_n C dX3_begin_52 (rfl : 52 + 1 = 53) rfl ?_
  refine r_iconst (v := (0 : Int32)) C dX3_begin_53 (rfl : 53 + 1 = 54) rfl ?_
  refine p_I (us' := [(0, .inl (10, (1 : Int32))), (0, .inl (11, (0 : Int32))), (0, .inl (12, c0_12)), (0, .inl (13, c0_13)), (0, .inl (14, c0_14)), (0, .inl (15, c0_15)), (0, .inl (16, c0_16)), (0, .inl (17, c0_17)), (0, .inr (.inl (3, (0 : Int64)))), (0, .inr (.inl (4, (0 : Int64)))), (0, .inr (.inl (5, (0 : Int64)))), (1, .inr (.inr (.inl r20))), (2, .inr (.inr (.inl r28))), (3, .inr (.inr (.inl r36))), (4, .inr (.inr (.inl r44)))]) C dX3_begin_54 (rfl : 54 + 3 = 57) fp_X3_55 rfl rfl ds_X3_begin rfl rfl rfl ?_
  refine r_aload_n C dX3_begin_57 (rfl : 57 + 1 = 58) rfl ?_
  refine r_aload_n C dX3_begin_58 (rfl : 58 + 1 = 59) rfl ?_
  refine r_getR (q := 5) C dX3_begin_59 (rfl : 59 + 3 = 62) fl_X3_24 (k_gS rfl) rfl ?_
  refine r_getI (v := c5_9) C dX3_begin_62 (rfl : 62 + 3 = 65) fl_X3_58 (k_gS rfl) rfl (k_gOI (ks := [(0, 0, 10), (0, 0, 11), (0, 0, 12), (0, 0, 13), (0, 0, 14), (0, 0, 15), (0, 0, 16), (0, 0, 17), (0, 1, 3), (0, 1, 4), (0, 1, 5), (1, 2, 0), (2, 2, 0), (3, 2, 0), (4, 2, 0)]) rfl (by decide +kernel) ec5_9) ?_
  refine p_I (us' := [(0, .inl (10, (1 : Int32))), (0, .inl (11, (0 : Int32))), (0, .inl (12, c5_9)), (0, .inl (13, c0_13)), (0, .inl (14, c0_14)), (0, .inl (15, c0_15)), (0, .inl (16, c0_16)), (0, .inl (17, c0_17)), (0, .inr (.inl (3, (0 : Int64)))), (0, .inr (.inl (4, (0 : Int64)))), (0, .inr (.inl (5, (0 : Int64)))), (1, .inr (.inr (.inl r20))), (2, .inr (.inr (.inl r28))), (3, .inr (.inr (.inl r36))), (4, .inr (.inr (.inl r44)))]) C dX3_begin_65 (rfl : 65 + 3 = 68) fp_X3_63 rfl rfl ds_X3_begin rfl rfl rfl ?_
  refine r_aload_n C dX3_begin_68 (rfl : 68 + 1 = 69) rfl ?_
  refine r_iconst (v := (0 : Int32)) C dX3_begin_69 (rfl : 69 + 1 = 70) rfl ?_
  refine p_I (us' := [(0, .inl (10, (1 : Int32))), (0, .inl (11, (0 : Int32))), (0, .inl (12, c5_9)), (0, .inl (13, (0 : Int32))), (0, .inl (14, c0_14)), (0, .inl (15, c0_15)), (0, .inl (16, c0_16)), (0, .inl (17, c0_17)), (0, .inr (.inl (3, (0 : Int64)))), (0, .inr (.inl (4, (0 : Int64)))), (0, .inr (.inl (5, (0 : Int64)))), (1, .inr (.inr (.inl r20))), (2, .inr (.inr (.inl r28))), (3, .inr (.inr (.inl r36))), (4, .inr (.inr (.inl r44)))]) C dX3_begin_70 (rfl : 70 + 3 = 73) fp_X3_66 rfl rfl ds_X3_begin rfl rfl rfl ?_
  refine r_aload_n C dX3_begin_73 (rfl : 73 + 1 = 74) rfl ?_
  refine r_iconst (v := (0 : Int32)) C dX3_begin_74 (rfl : 74 + 1 = 75) rfl ?_
  refine p_I (us' := [(0, .inl (10, (1 : Int32))), (0, .inl (11, (0 : Int32))), (0, .inl (12, c5_9)), (0, .inl (13, (0 : Int32))), (0, .inl (14, (0 : Int32))), (0, .inl (15, c0_15)), (0, .inl (16, c0_16)), (0, .inl (17, c0_17)), (0, .inr (.inl (3, (0 : Int64)))), (0, .inr (.inl (4, (0 : Int64)))), (0, .inr (.inl (5, (0 : Int64)))), (1, .inr (.inr (.inl r20))), (2, .inr (.inr (.inl r28))), (3, .inr (.inr (.inl r36))), (4, .inr (.inr (.inl r44)))]) C dX3_begin_75 (rfl : 75 + 3 = 78) fp_X3_69 rfl rfl ds_X3_begin rfl rfl rfl ?_
  refine r_aload_n C dX3_begin_78 (rfl : 78 + 1 = 79) rfl ?_
  refine r_aload_n C dX3_begin_79 (rfl : 79 + 1 = 80) rfl ?_
  refine r_getR (q := 5) C dX3_begin_80 (rfl : 80 + 3 = 83) fl_X3_24 (k_gS rfl) rfl ?_
  refine r_getI (v := c5_1) C dX3_begin_83 (rfl : 83 + 3 = 86) fl_X3_72 (k_gS rfl) rfl (k_gOI (ks := [(0, 0, 10), (0, 0, 11), (0, 0, 12), (0, 0, 13), (0, 0, 14), (0, 0, 15), (0, 0, 16), (0, 0, 17), (0, 1, 3), (0, 1, 4), (0, 1, 5), (1, 2, 0), (2, 2, 0), (3, 2, 0), (4, 2, 0)]) rfl (by decide +kernel) ec5_1) ?_
  refine p_I (us' := [(0, .inl (10, (1 : Int32))), (0, .inl (11, (0 : Int32))), (0, .inl (12, c5_9)), (0, .inl (13, (0 : Int32))), (0, .inl (14, (0 : Int32))), (0, .inl (15, c5_1)), (0, .inl (16, c0_16)), (0, .inl (17, c0_17)), (0, .inr (.inl (3, (0 : Int64)))), (0, .inr (.inl (4, (0 : Int64)))), (0, .inr (.inl (5, (0 : Int64)))), (1, .inr (.inr (.inl r20))), (2, .inr (.inr (.inl r28))), (3, .inr (.inr (.inl r36))), (4, .inr (.inr (.inl r44)))]) C dX3_begin_86 (rfl : 86 + 3 = 89) fp_X3_75 rfl rfl ds_X3_begin rfl rfl rfl ?_
  refine r_aload_n C dX3_begin_89 (rfl : 89 + 1 = 90) rfl ?_
  refine r_iconst (v := (0 : Int32)) C dX3_begin_90 (rfl : 90 + 1 = 91) rfl ?_
  refine p_I (us' := [(0, .inl (10, (1 : Int32))), (0, .inl (11, (0 : Int32))), (0, .inl (12, c5_9)), (0, .inl (13, (0 : Int32))), (0, .inl (14, (0 : Int32))), (0, .inl (15, c5_1)), (0, .inl (16, (0 : Int32))), (0, .inl (17, c0_17)), (0, .inr (.inl (3, (0 : Int64)))), (0, .inr (.inl (4, (0 : Int64)))), (0, .inr (.inl (5, (0 : Int64)))), (1, .inr (.inr (.inl r20))), (2, .inr (.inr (.inl r28))), (3, .inr (.inr (.inl r36))), (4, .inr (.inr (.inl r44)))]) C dX3_begin_91 (rfl : 91 + 3 = 94) fp_X3_78 rfl rfl ds_X3_begin rfl rfl rfl ?_
  refine r_aload_n C dX3_begin_94 (rfl : 94 + 1 = 95) rfl ?_
  refine r_iconst (v := (0 : Int32)) C dX3_begin_95 (rfl : 95 + 1 = 96) rfl ?_
  refine p_I (us' := [(0, .inl (10, (1 : Int32))), (0, .inl (11, (0 : Int32))), (0, .inl (12, c5_9)), (0, .inl (13, (0 : Int32))), (0, .inl (14, (0 : Int32))), (0, .inl (15, c5_1)), (0, .inl (16, (0 : Int32))), (0, .inl (17, (0 : Int32))), (0, .inr (.inl (3, (0 : Int64)))), (0, .inr (.inl (4, (0 : Int64)))), (0, .inr (.inl (5, (0 : Int64)))), (1, .inr (.inr (.inl r20))), (2, .inr (.inr (.inl r28))), (3, .inr (.inr (.inl r36))), (4, .inr (.inr (.inl r44)))]) C dX3_begin_96 (rfl : 96 + 3 = 99) fp_X3_81 rfl rfl ds_X3_begin rfl rfl rfl ?_
  cases h
  exact r_vret C hr dX3_begin_99
set_option maxHeartbeats 400000 in
set_option maxRecDepth 100000 in
theorem c_X3_begin (l : Launch) (u : Nat) (h : k_H) (hsh : h.1 = shMine) {c0_10 : Int32} (ec0_10 : h.2.1 0 10 = c0_10) {c0_11 : Int32} (ec0_11 : h.2.1 0 11 = c0_11) {c0_12 : Int32} (ec0_12 : h.2.1 0 12 = c0_12) {c0_13 : Int32} (ec0_13 : h.2.1 0 13 = c0_13) {c0_14 : Int32} (ec0_14 : h.2.1 0 14 = c0_14) {c0_15 : Int32} (ec0_15 : h.2.1 0 15 = c0_15) {c0_16 : Int32} (ec0_16 : h.2.1 0 16 = c0_16) {c0_17 : Int32} (ec0_17 : h.2.1 0 17 = c0_17) {c0_3 : Int64} (ec0_3 : h.2.2.1 0 3 = c0_3) {c0_4 : Int64} (ec0_4 : h.2.2.1 0 4 = c0_4) {c0_5 : Int64} (ec0_5 : h.2.2.1 0 5 = c0_5) {a1 : (Nat → Int32)} (ea1 : h.2.1 1 = a1) {a2 : (Nat → Int32)} (ea2 : h.2.1 2 = a2) {a3 : (Nat → Int32)} (ea3 : h.2.1 3 = a3) {a4 : (Nat → Int32)} (ea4 : h.2.1 4 = a4) {c5_1 : Int32} (ec5_1 : h.2.1 5 1 = c5_1) {c5_9 : Int32} (ec5_9 : h.2.1 5 9 = c5_9) {out : Int32 × Int32 × Int32 × Int32 × Int32 × Int32 × Int32 × Int32 × Int64 × Int64 × Int64 × (Nat → Int32) × (Nat → Int32) × (Nat → Int32) × (Nat → Int32)} (hf : f_X3_begin u c0_10 c0_11 c0_12 c0_13 c0_14 c0_15 c0_16 c0_17 c0_3 c0_4 c0_5 a1 a2 a3 a4 c5_1 c5_9 = some out) : k_CT l yX3_begin cX3_begin 1 none 1 23 [.ref 0] h none [(0, .inl (10, out.1)), (0, .inl (11, out.2.1)), (0, .inl (12, out.2.2.1)), (0, .inl (13, out.2.2.2.1)), (0, .inl (14, out.2.2.2.2.1)), (0, .inl (15, out.2.2.2.2.2.1)), (0, .inl (16, out.2.2.2.2.2.2.1)), (0, .inl (17, out.2.2.2.2.2.2.2.1)), (0, .inr (.inl (3, out.2.2.2.2.2.2.2.2.1))), (0, .inr (.inl (4, out.2.2.2.2.2.2.2.2.2.1))), (0, .inr (.inl (5, out.2.2.2.2.2.2.2.2.2.2.1))), (1, .inr (.inr (.inl out.2.2.2.2.2.2.2.2.2.2.2.1))), (2, .inr (.inr (.inl out.2.2.2.2.2.2.2.2.2.2.2.2.1))), (3, .inr (.inr (.inl out.2.2.2.2.2.2.2.2.2.2.2.2.2.1))), (4, .inr (.inr (.inl out.2.2.2.2.2.2.2.2.2.2.2.2.2.2)))] := by
  obtain ⟨sh, I, L, Rf⟩ := h
  try dsimp only
  obtain rfl : sh = shMine := hsh
  refine k_ofW (by decide) (Nat.le_of_ble_eq_true rfl) ?_
  intro X ad hl hR0 hr C
  have hR : X.R.frames = 1 ∧ X.R.locals = 23 := by rw [hR0]; exact ⟨rfl, rfl⟩
  have h := hf
  unfold f_X3_begin at h
  refine k_start (us := [(0, .inl (10, c0_10)), (0, .inl (11, c0_11)), (0, .inl (12, c0_12)), (0, .inl (13, c0_13)), (0, .inl (14, c0_14)), (0, .inl (15, c0_15)), (0, .inl (16, c0_16)), (0, .inl (17, c0_17)), (0, .inr (.inl (3, c0_3))), (0, .inr (.inl (4, c0_4))), (0, .inr (.inl (5, c0_5))), (1, .inr (.inr (.inl a1))), (2, .inr (.inr (.inl a2))), (3, .inr (.inr (.inl a3))), (4, .inr (.inr (.inl a4)))]) (k_ao_I ec0_10 (k_ao_I ec0_11 (k_ao_I ec0_12 (k_ao_I ec0_13 (k_ao_I ec0_14 (k_ao_I ec0_15 (k_ao_I ec0_16 (k_ao_I ec0_17 (k_ao_L ec0_3 (k_ao_L ec0_4 (k_ao_L ec0_5 (k_ao_A ea1 (k_ao_A ea2 (k_ao_A ea3 (k_ao_A ea4 k_ap_0))))))))))))))) ?_
  show k_W X 1 0 0 _ ad (k_ap [(0, .inl (10, c0_10)), (0, .inl (11, c0_11)), (0, .inl (12, c0_12)), (0, .inl (13, c0_13)), (0, .inl (14, c0_14)), (0, .inl (15, c0_15)), (0, .inl (16, c0_16)), (0, .inl (17, c0_17)), (0, .inr (.inl (3, c0_3))), (0, .inr (.inl (4, c0_4))), (0, .inr (.inl (5, c0_5))), (1, .inr (.inr (.inl a1))), (2, .inr (.inr (.inl a2))), (3, .inr (.inr (.inl a3))), (4, .inr (.inr (.inl a4)))] (shMine, I, L, Rf)) 0 [some (.ref 0)] []
  refine k_mask [true] ?_
  exact sX3_begin_0 u C hr hR ec5_1 ec5_9 c0_10 c0_11 c0_12 c0_13 c0_14 c0_15 c0_16 c0_17 c0_3 c0_4 c0_5 a1 a2 a3 a4 h
/-! LullabyPit$Mine.beside(J)J -/
theorem ds_X3_beside : k_ds [] = true := by decide +kernel
set_option maxHeartbeats 400000 in
set_option maxRecDepth 100000 in
theorem sX3_beside_0 (u : Nat) {X : k_X} {ad : Nat → Nat} {sh : List k_Sh} (C : k_C X cX3_beside RX3 2 ad) (hr : X.meth.sig.returnType = (some .long)) (hR : X.R.frames = 0 ∧ X.R.locals = 0) {I : Nat → Nat → Int32} {L : Nat → Nat → Int64} {Rf : Nat → Nat → Option Nat} {out : Int64} : ∀ (v0 : Int64), bX3_beside_0 u v0 = some out → k_W X 2 0 0 (k_Q X ad (some (.long out)) (k_ap [] (sh, I, L, Rf))) ad (k_ap [] (sh, I, L, Rf)) 0 [some (.long v0), none] [] := by
  intro v0 h
  unfold bX3_beside_0 at h
  refine r_lload_n C dX3_beside_0 (rfl : 0 + 1 = 1) rfl ?_
  refine r_iconst (v := (1 : Int32)) C dX3_beside_1 (rfl : 1 + 1 = 2) rfl ?_
  refine r_lshl C dX3_beside_2 (rfl : 2 + 1 = 3) ?_
  refine r_ldc2 C dX3_beside_3 (rfl : 3 + 3 = 6) ct_X3_97 ?_
  refine r_land C dX3_beside_6 (rfl : 6 + 1 = 7) ?_
  refine r_lload_n C dX3_beside_7 (rfl : 7 + 1 = 8) rfl ?_
  refine r_iconst (v := (1 : Int32)) C dX3_beside_8 (rfl : 8 + 1 = 9) rfl ?_
  refine r_lushr C dX3_beside_9 (rfl : 9 + 1 = 10) ?_
  refine r_ldc2 C dX3_beside_10 (rfl : 10 + 3 = 13) ct_X3_99 ?_
  refine r_land C dX3_beside_13 (rfl : 13 + 1 = 14) ?_
  refine r_lor C dX3_beside_14 (rfl : 14 + 1 = 15) ?_
  refine r_lload_n C dX3_beside_15 (rfl : 15 + 1 = 16) rfl ?_
  refine r_bipush (v := (8 : Int32)) C dX3_beside_16 (rfl : 16 + 2 = 18) rfl ?_
  refine r_lshl C dX3_beside_18 (rfl : 18 + 1 = 19) ?_
  refine r_lor C dX3_beside_19 (rfl : 19 + 1 = 20) ?_
  refine r_lload_n C dX3_beside_20 (rfl : 20 + 1 = 21) rfl ?_
  refine r_bipush (v := (8 : Int32)) C dX3_beside_21 (rfl : 21 + 2 = 23) rfl ?_
  refine r_lushr C dX3_beside_23 (rfl : 23 + 1 = 24) ?_
  refine r_lor C dX3_beside_24 (rfl : 24 + 1 = 25) ?_
  cases h
  exact r_lret C hr dX3_beside_25
set_option maxHeartbeats 400000 in
set_option maxRecDepth 100000 in
theorem c_X3_beside (l : Launch) (u : Nat) (h : k_H)  {x0 : Int64} {out : Int64} (hf : f_X3_beside u x0 = some out) : k_CT l yX3_beside cX3_beside 2 (some .long) 0 0 [.long x0] h (some (.long out)) [] := by
  obtain ⟨sh, I, L, Rf⟩ := h
  try dsimp only
  refine k_ofW (by decide) (Nat.le_of_ble_eq_true rfl) ?_
  intro X ad hl hR0 hr C
  have hR : X.R.frames = 0 ∧ X.R.locals = 0 := by rw [hR0]; exact ⟨rfl, rfl⟩
  have h := hf
  unfold f_X3_beside at h
  refine k_start (us := []) k_ap_0 ?_
  show k_W X 2 0 0 _ ad (k_ap [] (sh, I, L, Rf)) 0 [some (.long x0), none] []
  refine k_mask [true, false] ?_
  exact sX3_beside_0 u C hr hR x0 h
/-! LullabyPit$Mine.handCells()J -/
theorem ds_X3_handCells : k_ds [] = true := by decide +kernel
set_option maxHeartbeats 400000 in
set_option maxRecDepth 100000 in
theorem sX3_handCells_0 (u : Nat) {X : k_X} {ad : Nat → Nat} (C : k_C X cX3_handCells RX3 1 ad) (hr : X.meth.sig.returnType = (some .long)) (hR : X.R.frames = 1 ∧ X.R.locals = 21) {I : Nat → Nat → Int32} {L : Nat → Nat → Int64} {Rf : Nat → Nat → Option Nat} {c0_3 : Int64} (ec0_3 : L 0 3 = c0_3) {c0_4 : Int64} (ec0_4 : L 0 4 = c0_4) {c5_5 : Int64} (ec5_5 : L 5 5 = c5_5) {c5_6 : Int64} (ec5_6 : L 5 6 = c5_6) {out : Int64} : bX3_handCells_0 u c0_3 c0_4 c5_5 c5_6 = some out → k_W X 1 0 0 (k_Q X ad (some (.long out)) (k_ap [] (shMine, I, L, Rf))) ad (k_ap [] (shMine, I, L, Rf)) 0 [some (.ref 0)] [] := by
  intro h
  unfold bX3_handCells_0 at h
  refine r_aload_n C dX3_handCells_0 (rfl : 0 + 1 = 1) rfl ?_
  obtain ⟨r1, q1, h⟩ := k_b_of h
  refine d_V (As := []) (st := []) (st' := [.long r1]) (h' := k_ap [] (shMine, I, L, Rf)) C hR ⟨Nat.zero_le _, Nat.zero_le _⟩ mv_X3_openCells lk_X3_101 dX3_handCells_1 (rfl : 1 + 3 = 4) rfl rfl rfl rfl (c_X3_openCells X.l u (k_ap [] (shMine, I, L, Rf)) rfl ec0_3 ec0_4 q1) rfl rfl rfl rfl rfl ?_
  obtain ⟨r4, q4, h⟩ := k_b_of h
  refine d_S (As := [.long r1]) (st := []) (st' := [.long r4]) (h' := k_ap [] (shMine, I, L, Rf)) C hR ⟨Nat.zero_le _, Nat.zero_le _⟩ ms_X3_beside lk_X3_105 dX3_handCells_4 (rfl : 4 + 3 = 7) rfl rfl (c_X3_beside X.l u (k_ap [] (shMine, I, L, Rf))  q4) rfl rfl rfl rfl rfl ?_
  refine r_aload_n C dX3_handCells_7 (rfl : 7 + 1 = 8) rfl ?_
  refine r_getR (q := 5) C dX3_handCells_8 (rfl : 8 + 3 = 11) fl_X3_24 rfl rfl ?_
  refine r_getL (v := c5_6) C dX3_handCells_11 (rfl : 11 + 3 = 14) fl_X3_109 rfl rfl ec5_6 ?_
  refine r_lor C dX3_handCells_14 (rfl : 14 + 1 = 15) ?_
  refine r_aload_n C dX3_handCells_15 (rfl : 15 + 1 = 16) rfl ?_
  refine r_getR (q := 5) C dX3_handCells_16 (rfl : 16 + 3 = 19) fl_X3_24 rfl rfl ?_
  refine r_getL (v := c5_5) C dX3_handCells_19 (rfl : 19 + 3 = 22) fl_X3_112 rfl rfl ec5_5 ?_
  refine r_land C dX3_handCells_22 (rfl : 22 + 1 = 23) ?_
  cases h
  exact r_lret C hr dX3_handCells_23
set_option maxHeartbeats 400000 in
set_option maxRecDepth 100000 in
theorem c_X3_handCells (l : Launch) (u : Nat) (h : k_H) (hsh : h.1 = shMine) {c0_3 : Int64} (ec0_3 : h.2.2.1 0 3 = c0_3) {c0_4 : Int64} (ec0_4 : h.2.2.1 0 4 = c0_4) {c5_5 : Int64} (ec5_5 : h.2.2.1 5 5 = c5_5) {c5_6 : Int64} (ec5_6 : h.2.2.1 5 6 = c5_6) {out : Int64} (hf : f_X3_handCells u c0_3 c0_4 c5_5 c5_6 = some out) : k_CT l yX3_handCells cX3_handCells 1 (some .long) 1 21 [.ref 0] h (some (.long out)) [] := by
  obtain ⟨sh, I, L, Rf⟩ := h
  try dsimp only
  obtain rfl : sh = shMine := hsh
  refine k_ofW (by decide) (Nat.le_of_ble_eq_true rfl) ?_
  intro X ad hl hR0 hr C
  have hR : X.R.frames = 1 ∧ X.R.locals = 21 := by rw [hR0]; exact ⟨rfl, rfl⟩
  have h := hf
  unfold f_X3_handCells at h
  refine k_start (us := []) k_ap_0 ?_
  show k_W X 1 0 0 _ ad (k_ap [] (shMine, I, L, Rf)) 0 [some (.ref 0)] []
  refine k_mask [true] ?_
  exact sX3_handCells_0 u C hr hR ec0_3 ec0_4 ec5_5 ec5_6 h
/-! LullabyPit$Mine.wetCells()J -/
theorem ds_X3_wetCells : k_ds [] = true := by decide +kernel
set_option maxHeartbeats 400000 in
set_option maxRecDepth 100000 in
theorem sX3_wetCells_0 (u : Nat) {X : k_X} {ad : Nat → Nat} (C : k_C X cX3_wetCells RX3 1 ad) (hr : X.meth.sig.returnType = (some .long)) (hR : X.R.frames = 0 ∧ X.R.locals = 0) {I : Nat → Nat → Int32} {L : Nat → Nat → Int64} {Rf : Nat → Nat → Option Nat} {c0_15 : Int32} (ec0_15 : I 0 15 = c0_15) {c5_5 : Int64} (ec5_5 : L 5 5 = c5_5) {out : Int64} : bX3_wetCells_0 u c0_15 c5_5 = some out → k_W X 1 0 0 (k_Q X ad (some (.long out)) (k_ap [] (shMine, I, L, Rf))) ad (k_ap [] (shMine, I, L, Rf)) 0 [some (.ref 0)] [] := by
  intro h
  unfold bX3_wetCells_0 at h
  refine r_ldc2 C dX3_wetCells_0 (rfl : 0 + 3 = 3) ct_X3_115 ?_
  refine r_bipush (v := (8 : Int32)) C dX3_wetCells_3 (rfl : 3 + 2 = 5) rfl ?_
  refine r_aload_n C dX3_wetCells_5 (rfl : 5 + 1 = 6) rfl ?_
  refine r_getI (v := c0_15) C dX3_wetCells_6 (rfl : 6 + 3 = 9) fl_X3_75 rfl rfl ec0_15 ?_
  refine r_imul C dX3_wetCells_9 (rfl : 9 + 1 = 10) ?_
  refine r_lshl C dX3_wetCells_10 (rfl : 10 + 1 = 11) ?_
  refine r_aload_n C dX3_wetCells_11 (rfl : 11 + 1 = 12) rfl ?_
  refine r_getR (q := 5) C dX3_wetCells_12 (rfl : 12 + 3 = 15) fl_X3_24 rfl rfl ?_
  refine r_getL (v := c5_5) C dX3_wetCells_15 (rfl : 15 + 3 = 18) fl_X3_112 rfl rfl ec5_5 ?_
  refine r_land C dX3_wetCells_18 (rfl : 18 + 1 = 19) ?_
  cases h
  exact r_lret C hr dX3_wetCells_19
set_option maxHeartbeats 400000 in
set_option maxRecDepth 100000 in
theorem c_X3_wetCells (l : Launch) (u : Nat) (h : k_H) (hsh : h.1 = shMine) {c0_15 : Int32} (ec0_15 : h.2.1 0 15 = c0_15) {c5_5 : Int64} (ec5_5 : h.2.2.1 5 5 = c5_5) {out : Int64} (hf : f_X3_wetCells u c0_15 c5_5 = some out) : k_CT l yX3_wetCells cX3_wetCells 1 (some .long) 0 0 [.ref 0] h (some (.long out)) [] := by
  obtain ⟨sh, I, L, Rf⟩ := h
  try dsimp only
  obtain rfl : sh = shMine := hsh
  refine k_ofW (by decide) (Nat.le_of_ble_eq_true rfl) ?_
  intro X ad hl hR0 hr C
  have hR : X.R.frames = 0 ∧ X.R.locals = 0 := by rw [hR0]; exact ⟨rfl, rfl⟩
  have h := hf
  unfold f_X3_wetCells at h
  refine k_start (us := []) k_ap_0 ?_
  show k_W X 1 0 0 _ ad (k_ap [] (shMine, I, L, Rf)) 0 [some (.ref 0)] []
  refine k_mask [true] ?_
  exact sX3_wetCells_0 u C hr hR ec0_15 ec5_5 h
/-! LullabyPit$Mine.ableCells()J -/
theorem ds_X3_ableCells : k_ds [] = true := by decide +kernel
set_option maxHeartbeats 400000 in
set_option maxRecDepth 100000 in
theorem sX3_ableCells_0 (u : Nat) {X : k_X} {ad : Nat → Nat} (C : k_C X cX3_ableCells RX3 1 ad) (hr : X.meth.sig.returnType = (some .long)) (hR : X.R.frames = 2 ∧ X.R.locals = 41) {I : Nat → Nat → Int32} {L : Nat → Nat → Int64} {Rf : Nat → Nat → Option Nat} {c0_15 : Int32} (ec0_15 : I 0 15 = c0_15) {c0_3 : Int64} (ec0_3 : L 0 3 = c0_3) {c0_4 : Int64} (ec0_4 : L 0 4 = c0_4) {c5_5 : Int64} (ec5_5 : L 5 5 = c5_5) {c5_6 : Int64} (ec5_6 : L 5 6 = c5_6) {out : Int64} : bX3_ableCells_0 u c0_15 c0_3 c0_4 c5_5 c5_6 = some out → k_W X 1 0 0 (k_Q X ad (some (.long out)) (k_ap [] (shMine, I, L, Rf))) ad (k_ap [] (shMine, I, L, Rf)) 0 [some (.ref 0)] [] := by
  intro h
  unfold bX3_ableCells_0 at h
  refine r_aload_n C dX3_ableCells_0 (rfl : 0 + 1 = 1) rfl ?_
  obtain ⟨r1, q1, h⟩ := k_b_of h
  refine d_V (As := []) (st := []) (st' := [.long r1]) (h' := k_ap [] (shMine, I, L, Rf)) C hR ⟨Nat.zero_le _, Nat.zero_le _⟩ mv_X3_handCells lk_X3_117 dX3_ableCells_1 (rfl : 1 + 3 = 4) rfl rfl rfl rfl (c_X3_handCells X.l u (k_ap [] (shMine, I, L, Rf)) rfl ec0_3 ec0_4 ec5_5 ec5_6 q1) rfl rfl rfl rfl rfl ?_
  refine r_aload_n C dX3_ableCells_4 (rfl : 4 + 1 = 5) rfl ?_
  obtain ⟨r5, q5, h⟩ := k_b_of h
  refine d_V (As := []) (st := [.long r1]) (st' := [.long r5, .long r1]) (h' := k_ap [] (shMine, I, L, Rf)) C hR ⟨Nat.zero_le _, Nat.zero_le _⟩ mv_X3_openCells lk_X3_101 dX3_ableCells_5 (rfl : 5 + 3 = 8) rfl rfl rfl rfl (c_X3_openCells X.l u (k_ap [] (shMine, I, L, Rf)) rfl ec0_3 ec0_4 q5) rfl rfl rfl rfl rfl ?_
  refine r_ldc2 C dX3_ableCells_8 (rfl : 8 + 3 = 11) ct_X3_115 ?_
  refine r_lxor C dX3_ableCells_11 (rfl : 11 + 1 = 12) ?_
  refine r_land C dX3_ableCells_12 (rfl : 12 + 1 = 13) ?_
  refine r_aload_n C dX3_ableCells_13 (rfl : 13 + 1 = 14) rfl ?_
  obtain ⟨r14, q14, h⟩ := k_b_of h
  refine d_V (As := []) (st := [.long (r1 &&& (r5 ^^^ (-1 : Int64)))]) (st' := [.long r14, .long (r1 &&& (r5 ^^^ (-1 : Int64)))]) (h' := k_ap [] (shMine, I, L, Rf)) C hR ⟨Nat.zero_le _, Nat.zero_le _⟩ mv_X3_wetCells lk_X3_120 dX3_ableCells_14 (rfl : 14 + 3 = 17) rfl rfl rfl rfl (c_X3_wetCells X.l u (k_ap [] (shMine, I, L, Rf)) rfl ec0_15 ec5_5 q14) rfl rfl rfl rfl rfl ?_
  refine r_ldc2 C dX3_ableCells_17 (rfl : 17 + 3 = 20) ct_X3_115 ?_
  refine r_lxor C dX3_ableCells_20 (rfl : 20 + 1 = 21) ?_
  refine r_land C dX3_ableCells_21 (rfl : 21 + 1 = 22) ?_
  cases h
  exact r_lret C hr dX3_ableCells_22
set_option maxHeartbeats 400000 in
set_option maxRecDepth 100000 in
theorem c_X3_ableCells (l : Launch) (u : Nat) (h : k_H) (hsh : h.1 = shMine) {c0_15 : Int32} (ec0_15 : h.2.1 0 15 = c0_15) {c0_3 : Int64} (ec0_3 : h.2.2.1 0 3 = c0_3) {c0_4 : Int64} (ec0_4 : h.2.2.1 0 4 = c0_4) {c5_5 : Int64} (ec5_5 : h.2.2.1 5 5 = c5_5) {c5_6 : Int64} (ec5_6 : h.2.2.1 5 6 = c5_6) {out : Int64} (hf : f_X3_ableCells u c0_15 c0_3 c0_4 c5_5 c5_6 = some out) : k_CT l yX3_ableCells cX3_ableCells 1 (some .long) 2 41 [.ref 0] h (some (.long out)) [] := by
  obtain ⟨sh, I, L, Rf⟩ := h
  try dsimp only
  obtain rfl : sh = shMine := hsh
  refine k_ofW (by decide) (Nat.le_of_ble_eq_true rfl) ?_
  intro X ad hl hR0 hr C
  have hR : X.R.frames = 2 ∧ X.R.locals = 41 := by rw [hR0]; exact ⟨rfl, rfl⟩
  have h := hf
  unfold f_X3_ableCells at h
  refine k_start (us := []) k_ap_0 ?_
  show k_W X 1 0 0 _ ad (k_ap [] (shMine, I, L, Rf)) 0 [some (.ref 0)] []
  refine k_mask [true] ?_
  exact sX3_ableCells_0 u C hr hR ec0_15 ec0_3 ec0_4 ec5_5 ec5_6 h
/-! LullabyPit$Mine.isWhole(I)Z -/
theorem ds_X3_isWhole : k_ds [] = true := by decide +kernel
set_option maxHeartbeats 400000 in
set_option maxRecDepth 100000 in
theorem sX3_isWhole_0 (u : Nat) {X : k_X} {ad : Nat → Nat} (C : k_C X cX3_isWhole RX3 2 ad) (hr : X.meth.sig.returnType = (some .boolean)) (hR : X.R.frames = 0 ∧ X.R.locals = 0) {I : Nat → Nat → Int32} {L : Nat → Nat → Int64} {Rf : Nat → Nat → Option Nat} {c0_3 : Int64} (ec0_3 : L 0 3 = c0_3) {c0_4 : Int64} (ec0_4 : L 0 4 = c0_4) {c0_5 : Int64} (ec0_5 : L 0 5 = c0_5) {out : Int32} : ∀ (v1 : Int32), bX3_isWhole_0 u c0_3 c0_4 c0_5 v1 = some out → k_W X 2 0 0 (k_Q X ad (some (.int out)) (k_ap [] (shMine, I, L, Rf))) ad (k_ap [] (shMine, I, L, Rf)) 0 [some (.ref 0), some (.int v1)] [] := by
  intro v1 h
  unfold bX3_isWhole_0 at h
  refine r_aload_n C dX3_isWhole_0 (rfl : 0 + 1 = 1) rfl ?_
  refine r_getL (v := c0_3) C dX3_isWhole_1 (rfl : 1 + 3 = 4) fl_X3_35 rfl rfl ec0_3 ?_
  refine r_aload_n C dX3_isWhole_4 (rfl : 4 + 1 = 5) rfl ?_
  refine r_getL (v := c0_4) C dX3_isWhole_5 (rfl : 5 + 3 = 8) fl_X3_39 rfl rfl ec0_4 ?_
  refine r_lor C dX3_isWhole_8 (rfl : 8 + 1 = 9) ?_
  refine r_aload_n C dX3_isWhole_9 (rfl : 9 + 1 = 10) rfl ?_
  refine r_getL (v := c0_5) C dX3_isWhole_10 (rfl : 10 + 3 = 13) fl_X3_42 rfl rfl ec0_5 ?_
  refine r_lor C dX3_isWhole_13 (rfl : 13 + 1 = 14) ?_
  refine r_iload_n C dX3_isWhole_14 (rfl : 14 + 1 = 15) rfl ?_
  refine r_lushr C dX3_isWhole_15 (rfl : 15 + 1 = 16) ?_
  refine r_lconst (v := (1 : Int64)) C dX3_isWhole_16 (rfl : 16 + 1 = 17) rfl ?_
  refine r_land C dX3_isWhole_17 (rfl : 17 + 1 = 18) ?_
  refine r_lconst (v := (0 : Int64)) C dX3_isWhole_18 (rfl : 18 + 1 = 19) rfl ?_
  refine r_lcmp C dX3_isWhole_19 (rfl : 19 + 1 = 20) ?_
  refine r_if_ne (tgt := 27) C dX3_isWhole_20 (by decide) (rfl : 20 + 3 = 23) (fun c20 => ?_) (fun c20 => ?_)
  · have h := k_f c20 h
    refine r_iconst (v := (0 : Int32)) C dX3_isWhole_27 (rfl : 27 + 1 = 28) rfl ?_
    cases h
    exact r_zret C hr (Or.inl rfl) dX3_isWhole_28
  · have h := k_t c20 h
    refine r_iconst (v := (1 : Int32)) C dX3_isWhole_23 (rfl : 23 + 1 = 24) rfl ?_
    refine r_goto (tgt := 28) C dX3_isWhole_24 (by decide) ?_
    cases h
    exact r_zret C hr (Or.inr rfl) dX3_isWhole_28
set_option maxHeartbeats 400000 in
set_option maxRecDepth 100000 in
theorem c_X3_isWhole (l : Launch) (u : Nat) (h : k_H) (hsh : h.1 = shMine) {c0_3 : Int64} (ec0_3 : h.2.2.1 0 3 = c0_3) {c0_4 : Int64} (ec0_4 : h.2.2.1 0 4 = c0_4) {c0_5 : Int64} (ec0_5 : h.2.2.1 0 5 = c0_5) {x0 : Int32} {out : Int32} (hf : f_X3_isWhole u c0_3 c0_4 c0_5 x0 = some out) : k_CT l yX3_isWhole cX3_isWhole 2 (some .boolean) 0 0 [.ref 0, .int x0] h (some (.int out)) [] := by
  obtain ⟨sh, I, L, Rf⟩ := h
  try dsimp only
  obtain rfl : sh = shMine := hsh
  refine k_ofW (by decide) (Nat.le_of_ble_eq_true rfl) ?_
  intro X ad hl hR0 hr C
  have hR : X.R.frames = 0 ∧ X.R.locals = 0 := by rw [hR0]; exact ⟨rfl, rfl⟩
  have h := hf
  unfold f_X3_isWhole at h
  refine k_start (us := []) k_ap_0 ?_
  show k_W X 2 0 0 _ ad (k_ap [] (shMine, I, L, Rf)) 0 [some (.ref 0), some (.int x0)] []
  refine k_mask [true, true] ?_
  exact sX3_isWhole_0 u C hr hR ec0_3 ec0_4 ec0_5 x0 h
/-! LullabyPit$Mine.stateOf(I)I -/
theorem ds_X3_stateOf : k_ds [] = true := by decide +kernel
set_option maxHeartbeats 400000 in
set_option maxRecDepth 100000 in
theorem sX3_stateOf_0 (u : Nat) {X : k_X} {ad : Nat → Nat} (C : k_C X cX3_stateOf RX3 2 ad) (hr : X.meth.sig.returnType = (some .int)) (hR : X.R.frames = 0 ∧ X.R.locals = 0) {I : Nat → Nat → Int32} {L : Nat → Nat → Int64} {Rf : Nat → Nat → Option Nat} {c0_3 : Int64} (ec0_3 : L 0 3 = c0_3) {c0_4 : Int64} (ec0_4 : L 0 4 = c0_4) {c0_5 : Int64} (ec0_5 : L 0 5 = c0_5) {out : Int32} : ∀ (v1 : Int32), bX3_stateOf_0 u c0_3 c0_4 c0_5 v1 = some out → k_W X 2 0 0 (k_Q X ad (some (.int out)) (k_ap [] (shMine, I, L, Rf))) ad (k_ap [] (shMine, I, L, Rf)) 0 [some (.ref 0), some (.int v1)] [] := by
  intro v1 h
  unfold bX3_stateOf_0 at h
  refine r_aload_n C dX3_stateOf_0 (rfl : 0 + 1 = 1) rfl ?_
  refine r_getL (v := c0_3) C dX3_stateOf_1 (rfl : 1 + 3 = 4) fl_X3_35 rfl rfl ec0_3 ?_
  refine r_iload_n C dX3_stateOf_4 (rfl : 4 + 1 = 5) rfl ?_
  refine r_lushr C dX3_stateOf_5 (rfl : 5 + 1 = 6) ?_
  refine r_lconst (v := (1 : Int64)) C dX3_stateOf_6 (rfl : 6 + 1 = 7) rfl ?_
  refine r_land C dX3_stateOf_7 (rfl : 7 + 1 = 8) ?_
  refine r_lconst (v := (0 : Int64)) C dX3_stateOf_8 (rfl : 8 + 1 = 9) rfl ?_
  refine r_lcmp C dX3_stateOf_9 (rfl : 9 + 1 = 10) ?_
  refine r_if_eq (tgt := 15) C dX3_stateOf_10 (by decide) (rfl : 10 + 3 = 13) (fun c10 => ?_) (fun c10 => ?_)
  · have h := k_t c10 h
    refine r_aload_n C dX3_stateOf_15 (rfl : 15 + 1 = 16) rfl ?_
    refine r_getL (v := c0_4) C dX3_stateOf_16 (rfl : 16 + 3 = 19) fl_X3_39 rfl rfl ec0_4 ?_
    refine r_iload_n C dX3_stateOf_19 (rfl : 19 + 1 = 20) rfl ?_
    refine r_lushr C dX3_stateOf_20 (rfl : 20 + 1 = 21) ?_
    refine r_lconst (v := (1 : Int64)) C dX3_stateOf_21 (rfl : 21 + 1 = 22) rfl ?_
    refine r_land C dX3_stateOf_22 (rfl : 22 + 1 = 23) ?_
    refine r_lconst (v := (0 : Int64)) C dX3_stateOf_23 (rfl : 23 + 1 = 24) rfl ?_
    refine r_lcmp C dX3_stateOf_24 (rfl : 24 + 1 = 25) ?_
    refine r_if_eq (tgt := 30) C dX3_stateOf_25 (by decide) (rfl : 25 + 3 = 28) (fun c25 => ?_) (fun c25 => ?_)
    · have h := k_t c25 h
      refine r_aload_n C dX3_stateOf_30 (rfl : 30 + 1 = 31) rfl ?_
      refine r_getL (v := c0_5) C dX3_stateOf_31 (rfl : 31 + 3 = 34) fl_X3_42 rfl rfl ec0_5 ?_
      refine r_iload_n C dX3_stateOf_34 (rfl : 34 + 1 = 35) rfl ?_
      refine r_lushr C dX3_stateOf_35 (rfl : 35 + 1 = 36) ?_
      refine r_lconst (v := (1 : Int64)) C dX3_stateOf_36 (rfl : 36 + 1 = 37) rfl ?_
      refine r_land C dX3_stateOf_37 (rfl : 37 + 1 = 38) ?_
      refine r_lconst (v := (0 : Int64)) C dX3_stateOf_38 (rfl : 38 + 1 = 39) rfl ?_
      refine r_lcmp C dX3_stateOf_39 (rfl : 39 + 1 = 40) ?_
      refine r_if_eq (tgt := 47) C dX3_stateOf_40 (by decide) (rfl : 40 + 3 = 43) (fun c40 => ?_) (fun c40 => ?_)
      · have h := k_t c40 h
        refine r_iconst (v := (0 : Int32)) C dX3_stateOf_47 (rfl : 47 + 1 = 48) rfl ?_
        cases h
        exact r_iret C hr dX3_stateOf_48
      · have h := k_f c40 h
        refine r_iconst (v := (3 : Int32)) C dX3_stateOf_43 (rfl : 43 + 1 = 44) rfl ?_
        refine r_goto (tgt := 48) C dX3_stateOf_44 (by decide) ?_
        cases h
        exact r_iret C hr dX3_stateOf_48
    · have h := k_f c25 h
      refine r_iconst (v := (2 : Int32)) C dX3_stateOf_28 (rfl : 28 + 1 = 29) rfl ?_
      cases h
      exact r_iret C hr dX3_stateOf_29
  · have h := k_f c10 h
    refine r_iconst (v := (1 : Int32)) C dX3_stateOf_13 (rfl : 13 + 1 = 14) rfl ?_
    cases h
    exact r_iret C hr dX3_stateOf_14
set_option maxHeartbeats 400000 in
set_option maxRecDepth 100000 in
theorem c_X3_stateOf (l : Launch) (u : Nat) (h : k_H) (hsh : h.1 = shMine) {c0_3 : Int64} (ec0_3 : h.2.2.1 0 3 = c0_3) {c0_4 : Int64} (ec0_4 : h.2.2.1 0 4 = c0_4) {c0_5 : Int64} (ec0_5 : h.2.2.1 0 5 = c0_5) {x0 : Int32} {out : Int32} (hf : f_X3_stateOf u c0_3 c0_4 c0_5 x0 = some out) : k_CT l yX3_stateOf cX3_stateOf 2 (some .int) 0 0 [.ref 0, .int x0] h (some (.int out)) [] := by
  obtain ⟨sh, I, L, Rf⟩ := h
  try dsimp only
  obtain rfl : sh = shMine := hsh
  refine k_ofW (by decide) (Nat.le_of_ble_eq_true rfl) ?_
  intro X ad hl hR0 hr C
  have hR : X.R.frames = 0 ∧ X.R.locals = 0 := by rw [hR0]; exact ⟨rfl, rfl⟩
  have h := hf
  unfold f_X3_stateOf at h
  refine k_start (us := []) k_ap_0 ?_
  show k_W X 2 0 0 _ ad (k_ap [] (shMine, I, L, Rf)) 0 [some (.ref 0), some (.int x0)] []
  refine k_mask [true, true] ?_
  exact sX3_stateOf_0 u C hr hR ec0_3 ec0_4 ec0_5 x0 h
/-! LullabyPit$Mine.barsLeft(I)I -/
theorem ds_X3_barsLeft : k_ds [] = true := by decide +kernel
set_option maxHeartbeats 400000 in
set_option maxRecDepth 100000 in
theorem sX3_barsLeft_0 (u : Nat) {X : k_X} {ad : Nat → Nat} (C : k_C X cX3_barsLeft RX3 2 ad) (hr : X.meth.sig.returnType = (some .int)) (hR : X.R.frames = 1 ∧ X.R.locals = 21) {I : Nat → Nat → Int32} {L : Nat → Nat → Int64} {Rf : Nat → Nat → Option Nat} {c0_3 : Int64} (ec0_3 : L 0 3 = c0_3) {c0_4 : Int64} (ec0_4 : L 0 4 = c0_4) {c0_5 : Int64} (ec0_5 : L 0 5 = c0_5) {a7 : (Nat → Int32)} (ea7 : I 7 = a7) {out : Int32} : ∀ (v1 : Int32), bX3_barsLeft_0 u c0_3 c0_4 c0_5 a7 v1 = some out → k_W X 2 0 0 (k_Q X ad (some (.int out)) (k_ap [] (shMine, I, L, Rf))) ad (k_ap [] (shMine, I, L, Rf)) 0 [some (.ref 0), some (.int v1)] [] := by
  intro v1 h
  unfold bX3_barsLeft_0 at h
  refine r_iload_n C dX3_barsLeft_0 (rfl : 0 + 1 = 1) rfl ?_
  refine r_if_lt (tgt := 30) C dX3_barsLeft_1 (by decide) (rfl : 1 + 3 = 4) (fun c1 => ?_) (fun c1 => ?_)
  · have h := k_t c1 h
    refine r_iconst (v := (0 : Int32)) C dX3_barsLeft_30 (rfl : 30 + 1 = 31) rfl ?_
    cases h
    exact r_iret C hr dX3_barsLeft_31
  · have h := k_f c1 h
    refine r_iload_n C dX3_barsLeft_4 (rfl : 4 + 1 = 5) rfl ?_
    refine r_bipush (v := (48 : Int32)) C dX3_barsLeft_5 (rfl : 5 + 2 = 7) rfl ?_
    refine r_icmp_ge (tgt := 30) C dX3_barsLeft_7 (by decide) (rfl : 7 + 3 = 10) (fun c7 => ?_) (fun c7 => ?_)
    · have h := k_t c7 h
      refine r_iconst (v := (0 : Int32)) C dX3_barsLeft_30 (rfl : 30 + 1 = 31) rfl ?_
      cases h
      exact r_iret C hr dX3_barsLeft_31
    · have h := k_f c7 h
      refine r_aload_n C dX3_barsLeft_10 (rfl : 10 + 1 = 11) rfl ?_
      refine r_iload_n C dX3_barsLeft_11 (rfl : 11 + 1 = 12) rfl ?_
      obtain ⟨r12, q12, h⟩ := k_b_of h
      refine d_V (As := [.int v1]) (st := []) (st' := [.int r12]) (h' := k_ap [] (shMine, I, L, Rf)) C hR ⟨Nat.zero_le _, Nat.zero_le _⟩ mv_X3_isWhole lk_X3_123 dX3_barsLeft_12 (rfl : 12 + 3 = 15) rfl rfl rfl rfl (c_X3_isWhole X.l u (k_ap [] (shMine, I, L, Rf)) rfl ec0_3 ec0_4 ec0_5 q12) rfl rfl rfl rfl rfl ?_
      refine r_if_eq (tgt := 30) C dX3_barsLeft_15 (by decide) (rfl : 15 + 3 = 18) (fun c15 => ?_) (fun c15 => ?_)
      · have h := k_t c15 h
        refine r_iconst (v := (0 : Int32)) C dX3_barsLeft_30 (rfl : 30 + 1 = 31) rfl ?_
        cases h
        exact r_iret C hr dX3_barsLeft_31
      · have h := k_f c15 h
        refine r_aload_n C dX3_barsLeft_18 (rfl : 18 + 1 = 19) rfl ?_
        refine r_getR (q := 5) C dX3_barsLeft_19 (rfl : 19 + 3 = 22) fl_X3_24 rfl rfl ?_
        refine r_getR (q := 7) C dX3_barsLeft_22 (rfl : 22 + 3 = 25) fl_X3_127 rfl rfl ?_
        refine r_iload_n C dX3_barsLeft_25 (rfl : 25 + 1 = 26) rfl ?_
        obtain ⟨hi26, h⟩ := k_i_of h
        refine a_i (j := (v1).toNatClampNeg) (f := a7) C dX3_barsLeft_26 (rfl : 26 + 1 = 27) rfl ea7 hi26 rfl ?_
        refine r_goto (tgt := 31) C dX3_barsLeft_27 (by decide) ?_
        cases h
        exact r_iret C hr dX3_barsLeft_31
set_option maxHeartbeats 400000 in
set_option maxRecDepth 100000 in
theorem c_X3_barsLeft (l : Launch) (u : Nat) (h : k_H) (hsh : h.1 = shMine) {c0_3 : Int64} (ec0_3 : h.2.2.1 0 3 = c0_3) {c0_4 : Int64} (ec0_4 : h.2.2.1 0 4 = c0_4) {c0_5 : Int64} (ec0_5 : h.2.2.1 0 5 = c0_5) {a7 : (Nat → Int32)} (ea7 : h.2.1 7 = a7) {x0 : Int32} {out : Int32} (hf : f_X3_barsLeft u c0_3 c0_4 c0_5 a7 x0 = some out) : k_CT l yX3_barsLeft cX3_barsLeft 2 (some .int) 1 21 [.ref 0, .int x0] h (some (.int out)) [] := by
  obtain ⟨sh, I, L, Rf⟩ := h
  try dsimp only
  obtain rfl : sh = shMine := hsh
  refine k_ofW (by decide) (Nat.le_of_ble_eq_true rfl) ?_
  intro X ad hl hR0 hr C
  have hR : X.R.frames = 1 ∧ X.R.locals = 21 := by rw [hR0]; exact ⟨rfl, rfl⟩
  have h := hf
  unfold f_X3_barsLeft at h
  refine k_start (us := []) k_ap_0 ?_
  show k_W X 2 0 0 _ ad (k_ap [] (shMine, I, L, Rf)) 0 [some (.ref 0), some (.int x0)] []
  refine k_mask [true, true] ?_
  exact sX3_barsLeft_0 u C hr hR ec0_3 ec0_4 ec0_5 ea7 x0 h
