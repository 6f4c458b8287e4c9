/-! LullabyPit$Survey.penceOfOrders(LLullabyPit$Mine;I)I -/
theorem ds_X7_penceOfOrders : k_ds [] = true := by decide +kernel
set_option maxHeartbeats 400000 in
set_option maxRecDepth 100000 in
theorem sX7_penceOfOrders_50 (u : Nat) {X : k_X} {ad : Nat → Nat} {rest : List k_Sh} (C : k_C X cX7_penceOfOrders RX7 7 ad) (hr : X.meth.sig.returnType = (some .int)) (hR : X.R.frames = 2 ∧ X.R.locals = 47) {I : Nat → Nat → Int32} {L : Nat → Nat → Int64} {Rf : Nat → Nat → Option Nat} {c3_10 : Int32} (ec3_10 : I 3 10 = c3_10) {a6 : (Nat → Int32)} (ea6 : I 6 = a6) {a8 : (Nat → Int32)} (ea8 : I 8 = a8) {a9 : (Nat → Int32)} (ea9 : I 9 = a9) {a27 : (Nat → Int32)} (ea27 : I 27 = a27) {a30 : (Nat → Int32)} (ea30 : I 30 = a30) {out : Int32} {k5 : Int32 → Int32 → Int32 → Option (Int32)} (hk5 : ∀ (v2 : Int32) (v3 : Int32) (v4 : Int32), k5 v2 v3 v4 = some out → k_W X 7 0 0 (k_Q X ad (some (.int out)) (k_ap [] ((shX ++ rest), I, L, Rf))) ad (k_ap [] ((shX ++ rest), I, L, Rf)) 5 [some (.ref 40), some (.ref 26), some (.int v2), some (.int v3), some (.int v4), none, none] []) : ∀ (v2 : Int32) (v3 : Int32) (v4 : Int32), bX7_penceOfOrders_50 u c3_10 a6 a8 a9 a27 a30 k5 v2 v3 v4 = some out → k_W X 7 0 0 (k_Q X ad (some (.int out)) (k_ap [] ((shX ++ rest), I, L, Rf))) ad (k_ap [] ((shX ++ rest), I, L, Rf)) 50 [some (.ref 40), some (.ref 26), some (.int v2), some (.int v3), some (.int v4), none, none] [] := by
  intro v2 v3 v4 h
  unfold bX7_penceOfOrders_50 at h
  refine r_iinc (v := (v4 + (1 : Int32))) C dX7_penceOfOrders_50 (rfl : 50 + 3 = 53) rfl rfl (by decide) ?_
  show k_W _ _ _ _ _ _ _ _ [some (.ref 40), some (.ref 26), some (.int v2), some (.int v3), some (.int (v4 + (1 : Int32))), none, none] _
  refine r_goto (tgt := 5) C dX7_penceOfOrders_53 (by decide) ?_
  refine k_mask [true, true, true, true, true, false, false] ?_
  exact hk5 v2 v3 (v4 + (1 : Int32)) h
set_option maxHeartbeats 400000 in
set_option maxRecDepth 100000 in
theorem sX7_penceOfOrders_109 (u : Nat) {X : k_X} {ad : Nat → Nat} {rest : List k_Sh} (C : k_C X cX7_penceOfOrders RX7 7 ad) (hr : X.meth.sig.returnType = (some .int)) (hR : X.R.frames = 2 ∧ X.R.locals = 47) {I : Nat → Nat → Int32} {L : Nat → Nat → Int64} {Rf : Nat → Nat → Option Nat} {c3_10 : Int32} (ec3_10 : I 3 10 = c3_10) {a6 : (Nat → Int32)} (ea6 : I 6 = a6) {a8 : (Nat → Int32)} (ea8 : I 8 = a8) {a9 : (Nat → Int32)} (ea9 : I 9 = a9) {a27 : (Nat → Int32)} (ea27 : I 27 = a27) {a30 : (Nat → Int32)} (ea30 : I 30 = a30) {out : Int32} {k59 : Int32 → Int32 → Int32 → Option (Int32)} (hk59 : ∀ (v2 : Int32) (v3 : Int32) (v4 : Int32), k59 v2 v3 v4 = some out → k_W X 7 0 0 (k_Q X ad (some (.int out)) (k_ap [] ((shX ++ rest), I, L, Rf))) ad (k_ap [] ((shX ++ rest), I, L, Rf)) 59 [some (.ref 40), some (.ref 26), some (.int v2), some (.int v3), some (.int v4), none, none] []) {k71 : Int32 → Int32 → Int32 → Int32 → Int32 → Option (Int32)} (hk71 : ∀ (v2 : Int32) (v3 : Int32) (v4 : Int32) (v5 : Int32) (v6 : Int32), k71 v2 v3 v4 v5 v6 = some out → k_W X 7 0 0 (k_Q X ad (some (.int out)) (k_ap [] ((shX ++ rest), I, L, Rf))) ad (k_ap [] ((shX ++ rest), I, L, Rf)) 71 [some (.ref 40), some (.ref 26), some (.int v2), some (.int v3), some (.int v4), some (.int v5), some (.int v6)] []) : ∀ (v2 : Int32) (v3 : Int32) (v4 : Int32) (v6 : Int32) (w0 : Int32) (w1 : Int32), bX7_penceOfOrders_109 u c3_10 a6 a8 a9 a27 a30 k59 k71 v2 v3 v4 v6 w0 w1 = some out → k_W X 7 0 0 (k_Q X ad (some (.int out)) (k_ap [] ((shX ++ rest), I, L, Rf))) ad (k_ap [] ((shX ++ rest), I, L, Rf)) 109 [some (.ref 40), some (.ref 26), some (.int v2), some (.int v3), some (.int v4), none, some (.int v6)] [.int w0, .int w1] := by
  intro v2 v3 v4 v6 w0 w1 h
  unfold bX7_penceOfOrders_109 at h
  refine r_iadd C dX7_penceOfOrders_109 (rfl : 109 + 1 = 110) ?_
  refine r_istore C dX7_penceOfOrders_110 (rfl : 110 + 2 = 112) (by decide) (Nat.le_of_ble_eq_true rfl) ?_
  show k_W _ _ _ _ _ _ _ _ [some (.ref 40), some (.ref 26), some (.int v2), some (.int v3), some (.int v4), some (.int (w1 + w0)), some (.int v6)] _
  refine r_iinc (v := (v6 + (1 : Int32))) C dX7_penceOfOrders_112 (rfl : 112 + 3 = 115) rfl rfl (by decide) ?_
  show k_W _ _ _ _ _ _ _ _ [some (.ref 40), some (.ref 26), some (.int v2), some (.int v3), some (.int v4), some (.int (w1 + w0)), some (.int (v6 + (1 : Int32)))] _
  refine r_goto (tgt := 71) C dX7_penceOfOrders_115 (by decide) ?_
  refine k_mask [true, true, true, true, true, true, true] ?_
  exact hk71 v2 v3 v4 (w1 + w0) (v6 + (1 : Int32)) h
set_option maxHeartbeats 400000 in
set_option maxRecDepth 100000 in
theorem sX7_penceOfOrders_71 (u : Nat) {X : k_X} {ad : Nat → Nat} {rest : List k_Sh} (C : k_C X cX7_penceOfOrders RX7 7 ad) (hr : X.meth.sig.returnType = (some .int)) (hR : X.R.frames = 2 ∧ X.R.locals = 47) {I : Nat → Nat → Int32} {L : Nat → Nat → Int64} {Rf : Nat → Nat → Option Nat} {c3_10 : Int32} (ec3_10 : I 3 10 = c3_10) {a6 : (Nat → Int32)} (ea6 : I 6 = a6) {a8 : (Nat → Int32)} (ea8 : I 8 = a8) {a9 : (Nat → Int32)} (ea9 : I 9 = a9) {a27 : (Nat → Int32)} (ea27 : I 27 = a27) {a30 : (Nat → Int32)} (ea30 : I 30 = a30) {out : Int32} {k59 : Int32 → Int32 → Int32 → Option (Int32)} (hk59 : ∀ (v2 : Int32) (v3 : Int32) (v4 : Int32), k59 v2 v3 v4 = some out → k_W X 7 0 0 (k_Q X ad (some (.int out)) (k_ap [] ((shX ++ rest), I, L, Rf))) ad (k_ap [] ((shX ++ rest), I, L, Rf)) 59 [some (.ref 40), some (.ref 26), some (.int v2), some (.int v3), some (.int v4), none, none] []) : ∀ (n : Nat) (v2 : Int32) (v3 : Int32) (v4 : Int32) (v5 : Int32) (v6 : Int32), bX7_penceOfOrders_71 u c3_10 a6 a8 a9 a27 a30 k59 n v2 v3 v4 v5 v6 = some out → k_W X 7 0 0 (k_Q X ad (some (.int out)) (k_ap [] ((shX ++ rest), I, L, Rf))) ad (k_ap [] ((shX ++ rest), I, L, Rf)) 71 [some (.ref 40), some (.ref 26), some (.int v2), some (.int v3), some (.int v4), some (.int v5), some (.int v6)] [] := by
  intro n
  induction n with
  | zero => intro v2 v3 v4 v5 v6 h; cases h
  | succ n ih =>
    intro v2 v3 v4 v5 v6 h
    refine r_iload C dX7_penceOfOrders_71 (rfl : 71 + 2 = 73) rfl ?_
    refine r_aload_n C dX7_penceOfOrders_73 (rfl : 73 + 1 = 74) rfl ?_
    refine r_getR (q := 3) C dX7_penceOfOrders_74 (rfl : 74 + 3 = 77) fl_X7_21 rfl rfl ?_
    refine r_getI (v := c3_10) C dX7_penceOfOrders_77 (rfl : 77 + 3 = 80) fl_X7_146 rfl rfl ec3_10 ?_
    refine r_icmp_ge (tgt := 118) C dX7_penceOfOrders_80 (by decide) (rfl : 80 + 3 = 83) (fun c80 => ?_) (fun c80 => ?_)
    · have h := k_t c80 h
      refine r_iload C dX7_penceOfOrders_118 (rfl : 118 + 2 = 120) rfl ?_
      refine r_aload_n C dX7_penceOfOrders_120 (rfl : 120 + 1 = 121) rfl ?_
      refine r_getR (q := 27) C dX7_penceOfOrders_121 (rfl : 121 + 3 = 124) fl_X7_162 rfl rfl ?_
      refine r_iload C dX7_penceOfOrders_124 (rfl : 124 + 2 = 126) rfl ?_
      obtain ⟨hi126, h⟩ := k_i_of h
      refine a_i (j := (v4).toNatClampNeg) (f := a27) C dX7_penceOfOrders_126 (rfl : 126 + 1 = 127) rfl ea27 hi126 rfl ?_
      refine r_icmp_le (tgt := 132) C dX7_penceOfOrders_127 (by decide) (rfl : 127 + 3 = 130) (fun c127 => ?_) (fun c127 => ?_)
      · have h := k_t c127 h
        refine r_iinc (v := (v4 + (1 : Int32))) C dX7_penceOfOrders_132 (rfl : 132 + 3 = 135) rfl rfl (by decide) ?_
        show k_W _ _ _ _ _ _ _ _ [some (.ref 40), some (.ref 26), some (.int v2), some (.int v3), some (.int (v4 + (1 : Int32))), some (.int v5), some (.int v6)] _
        refine r_goto (tgt := 59) C dX7_penceOfOrders_135 (by decide) ?_
        refine k_mask [true, true, true, true, true, false, false] ?_
        exact hk59 v2 v3 (v4 + (1 : Int32)) h
      · have h := k_f c127 h
        refine r_iconst (v := (-1 : Int32)) C dX7_penceOfOrders_130 (rfl : 130 + 1 = 131) rfl ?_
        cases h
        exact r_iret C hr dX7_penceOfOrders_131
    · have h := k_f c80 h
      refine r_iload C dX7_penceOfOrders_83 (rfl : 83 + 2 = 85) rfl ?_
      refine r_iload_n C dX7_penceOfOrders_85 (rfl : 85 + 1 = 86) rfl ?_
      refine r_iload C dX7_penceOfOrders_86 (rfl : 86 + 2 = 88) rfl ?_
      refine r_iushr C dX7_penceOfOrders_88 (rfl : 88 + 1 = 89) ?_
      refine r_iconst (v := (1 : Int32)) C dX7_penceOfOrders_89 (rfl : 89 + 1 = 90) rfl ?_
      refine r_iand C dX7_penceOfOrders_90 (rfl : 90 + 1 = 91) ?_
      refine r_if_eq (tgt := 108) C dX7_penceOfOrders_91 (by decide) (rfl : 91 + 3 = 94) (fun c91 => ?_) (fun c91 => ?_)
      · have h := k_t c91 h
        refine r_iconst (v := (0 : Int32)) C dX7_penceOfOrders_108 (rfl : 108 + 1 = 109) rfl ?_
        refine k_mask [true, true, true, true, true, false, true] ?_
        exact sX7_penceOfOrders_109 u C hr hR ec3_10 ea6 ea8 ea9 ea27 ea30 hk59 ih v2 v3 v4 v6 (0 : Int32) v5 h
      · have h := k_f c91 h
        refine r_aload_n C dX7_penceOfOrders_94 (rfl : 94 + 1 = 95) rfl ?_
        refine r_getR (q := 3) C dX7_penceOfOrders_95 (rfl : 95 + 3 = 98) fl_X7_21 rfl rfl ?_
        refine r_iload C dX7_penceOfOrders_98 (rfl : 98 + 2 = 100) rfl ?_
        refine r_iload C dX7_penceOfOrders_100 (rfl : 100 + 2 = 102) rfl ?_
        obtain ⟨r102, q102, h⟩ := k_b_of h
        refine d_Vp (pi := [3, 4, 5, 6, 7, 8, 9]) (shl := shPit) (bl := 0) (As := [.int v6, .int v4]) (Al := [.int v6, .int v4]) (st := [.int v5]) (st' := [.int r102, .int v5]) (h' := k_ap [] ((shX ++ rest), I, L, Rf)) C hR ⟨Nat.zero_le _, Nat.zero_le _⟩ mv_X5_wanted lk_X7_159 dX7_penceOfOrders_102 (rfl : 102 + 3 = 105) rfl rfl ck_shX_shPit_3_8 rfl rfl (c_X5_wanted X.l u (k_pl [3, 4, 5, 6, 7, 8, 9] shPit (k_ap [] ((shX ++ rest), I, L, Rf))) rfl ec3_10 ea8 ea9 q102) rfl (fun _ => rfl) rfl (fun _ => rfl) rfl rfl rfl rfl rfl ?_
        refine r_goto (tgt := 109) C dX7_penceOfOrders_105 (by decide) ?_
        refine k_mask [true, true, true, true, true, false, true] ?_
        exact sX7_penceOfOrders_109 u C hr hR ec3_10 ea6 ea8 ea9 ea27 ea30 hk59 ih v2 v3 v4 v6 r102 v5 h
set_option maxHeartbeats 400000 in
set_option maxRecDepth 100000 in
theorem sX7_penceOfOrders_59 (u : Nat) {X : k_X} {ad : Nat → Nat} {rest : List k_Sh} (C : k_C X cX7_penceOfOrders RX7 7 ad) (hr : X.meth.sig.returnType = (some .int)) (hR : X.R.frames = 2 ∧ X.R.locals = 47) {I : Nat → Nat → Int32} {L : Nat → Nat → Int64} {Rf : Nat → Nat → Option Nat} {c3_10 : Int32} (ec3_10 : I 3 10 = c3_10) {a6 : (Nat → Int32)} (ea6 : I 6 = a6) {a8 : (Nat → Int32)} (ea8 : I 8 = a8) {a9 : (Nat → Int32)} (ea9 : I 9 = a9) {a27 : (Nat → Int32)} (ea27 : I 27 = a27) {a30 : (Nat → Int32)} (ea30 : I 30 = a30) {out : Int32} : ∀ (n : Nat) (v2 : Int32) (v3 : Int32) (v4 : Int32), bX7_penceOfOrders_59 u c3_10 a6 a8 a9 a27 a30 n v2 v3 v4 = some out → k_W X 7 0 0 (k_Q X ad (some (.int out)) (k_ap [] ((shX ++ rest), I, L, Rf))) ad (k_ap [] ((shX ++ rest), I, L, Rf)) 59 [some (.ref 40), some (.ref 26), some (.int v2), some (.int v3), some (.int v4), none, none] [] := by
  intro n
  induction n with
  | zero => intro v2 v3 v4 h; cases h
  | succ n ih =>
    intro v2 v3 v4 h
    refine r_iload C dX7_penceOfOrders_59 (rfl : 59 + 2 = 61) rfl ?_
    refine r_iconst (v := (4 : Int32)) C dX7_penceOfOrders_61 (rfl : 61 + 1 = 62) rfl ?_
    refine r_icmp_gt (tgt := 138) C dX7_penceOfOrders_62 (by decide) (rfl : 62 + 3 = 65) (fun c62 => ?_) (fun c62 => ?_)
    · have h := k_t c62 h
      refine r_iload_n C dX7_penceOfOrders_138 (rfl : 138 + 1 = 139) rfl ?_
      cases h
      exact r_iret C hr dX7_penceOfOrders_139
    · have h := k_f c62 h
      refine r_iconst (v := (0 : Int32)) C dX7_penceOfOrders_65 (rfl : 65 + 1 = 66) rfl ?_
      refine r_istore C dX7_penceOfOrders_66 (rfl : 66 + 2 = 68) (by decide) (Nat.le_of_ble_eq_true rfl) ?_
      show k_W _ _ _ _ _ _ _ _ [some (.ref 40), some (.ref 26), some (.int v2), some (.int v3), some (.int v4), some (.int (0 : Int32)), none] _
      refine r_iconst (v := (0 : Int32)) C dX7_penceOfOrders_68 (rfl : 68 + 1 = 69) rfl ?_
      refine r_istore C dX7_penceOfOrders_69 (rfl : 69 + 2 = 71) (by decide) (Nat.le_of_ble_eq_true rfl) ?_
      show k_W _ _ _ _ _ _ _ _ [some (.ref 40), some (.ref 26), some (.int v2), some (.int v3), some (.int v4), some (.int (0 : Int32)), some (.int (0 : Int32))] _
      refine k_mask [true, true, true, true, true, true, true] ?_
      exact sX7_penceOfOrders_71 u C hr hR ec3_10 ea6 ea8 ea9 ea27 ea30 ih u v2 v3 v4 (0 : Int32) (0 : Int32) h
set_option maxHeartbeats 400000 in
set_option maxRecDepth 100000 in
theorem sX7_penceOfOrders_5 (u : Nat) {X : k_X} {ad : Nat → Nat} {rest : List k_Sh} (C : k_C X cX7_penceOfOrders RX7 7 ad) (hr : X.meth.sig.returnType = (some .int)) (hR : X.R.frames = 2 ∧ X.R.locals = 47) {I : Nat → Nat → Int32} {L : Nat → Nat → Int64} {Rf : Nat → Nat → Option Nat} {c3_10 : Int32} (ec3_10 : I 3 10 = c3_10) {a6 : (Nat → Int32)} (ea6 : I 6 = a6) {a8 : (Nat → Int32)} (ea8 : I 8 = a8) {a9 : (Nat → Int32)} (ea9 : I 9 = a9) {a27 : (Nat → Int32)} (ea27 : I 27 = a27) {a30 : (Nat → Int32)} (ea30 : I 30 = a30) {out : Int32} : ∀ (n : Nat) (v2 : Int32) (v3 : Int32) (v4 : Int32), bX7_penceOfOrders_5 u c3_10 a6 a8 a9 a27 a30 n v2 v3 v4 = some out → k_W X 7 0 0 (k_Q X ad (some (.int out)) (k_ap [] ((shX ++ rest), I, L, Rf))) ad (k_ap [] ((shX ++ rest), I, L, Rf)) 5 [some (.ref 40), some (.ref 26), some (.int v2), some (.int v3), some (.int v4), none, none] [] := by
  intro n
  induction n with
  | zero => intro v2 v3 v4 h; cases h
  | succ n ih =>
    intro v2 v3 v4 h
    refine r_iload C dX7_penceOfOrders_5 (rfl : 5 + 2 = 7) rfl ?_
    refine r_aload_n C dX7_penceOfOrders_7 (rfl : 7 + 1 = 8) rfl ?_
    refine r_getR (q := 3) C dX7_penceOfOrders_8 (rfl : 8 + 3 = 11) fl_X7_21 rfl rfl ?_
    refine r_getI (v := c3_10) C dX7_penceOfOrders_11 (rfl : 11 + 3 = 14) fl_X7_146 rfl rfl ec3_10 ?_
    refine r_icmp_ge (tgt := 56) C dX7_penceOfOrders_14 (by decide) (rfl : 14 + 3 = 17) (fun c14 => ?_) (fun c14 => ?_)
    · have h := k_t c14 h
      refine r_iconst (v := (1 : Int32)) C dX7_penceOfOrders_56 (rfl : 56 + 1 = 57) rfl ?_
      refine r_istore C dX7_penceOfOrders_57 (rfl : 57 + 2 = 59) (by decide) (Nat.le_of_ble_eq_true rfl) ?_
      show k_W _ _ _ _ _ _ _ _ [some (.ref 40), some (.ref 26), some (.int v2), some (.int v3), some (.int (1 : Int32)), none, none] _
      refine k_mask [true, true, true, true, true, false, false] ?_
      exact sX7_penceOfOrders_59 u C hr hR ec3_10 ea6 ea8 ea9 ea27 ea30 u v2 v3 (1 : Int32) h
    · have h := k_f c14 h
      refine r_iload_n C dX7_penceOfOrders_17 (rfl : 17 + 1 = 18) rfl ?_
      refine r_iload C dX7_penceOfOrders_18 (rfl : 18 + 2 = 20) rfl ?_
      refine r_iushr C dX7_penceOfOrders_20 (rfl : 20 + 1 = 21) ?_
      refine r_iconst (v := (1 : Int32)) C dX7_penceOfOrders_21 (rfl : 21 + 1 = 22) rfl ?_
      refine r_iand C dX7_penceOfOrders_22 (rfl : 22 + 1 = 23) ?_
      refine r_if_eq (tgt := 50) C dX7_penceOfOrders_23 (by decide) (rfl : 23 + 3 = 26) (fun c23 => ?_) (fun c23 => ?_)
      · have h := k_t c23 h
        refine k_mask [true, true, true, true, true, false, false] ?_
        exact sX7_penceOfOrders_50 u C hr hR ec3_10 ea6 ea8 ea9 ea27 ea30 ih v2 v3 v4 h
      · have h := k_f c23 h
        refine r_aload_n C dX7_penceOfOrders_26 (rfl : 26 + 1 = 27) rfl ?_
        refine r_getR (q := 30) C dX7_penceOfOrders_27 (rfl : 27 + 3 = 30) fl_X7_153 rfl rfl ?_
        refine r_iload C dX7_penceOfOrders_30 (rfl : 30 + 2 = 32) rfl ?_
        obtain ⟨hi32, h⟩ := k_i_of h
        refine a_i (j := (v4).toNatClampNeg) (f := a30) C dX7_penceOfOrders_32 (rfl : 32 + 1 = 33) rfl ea30 hi32 rfl ?_
        refine r_if_eq (tgt := 38) C dX7_penceOfOrders_33 (by decide) (rfl : 33 + 3 = 36) (fun c33 => ?_) (fun c33 => ?_)
        · have h := k_t c33 h
          refine r_iload_n C dX7_penceOfOrders_38 (rfl : 38 + 1 = 39) rfl ?_
          refine r_aload_n C dX7_penceOfOrders_39 (rfl : 39 + 1 = 40) rfl ?_
          refine r_getR (q := 3) C dX7_penceOfOrders_40 (rfl : 40 + 3 = 43) fl_X7_21 rfl rfl ?_
          refine r_iload C dX7_penceOfOrders_43 (rfl : 43 + 2 = 45) rfl ?_
          obtain ⟨r45, q45, h⟩ := k_b_of h
          refine d_Vp (pi := [3, 4, 5, 6, 7, 8, 9]) (shl := shPit) (bl := 0) (As := [.int v4]) (Al := [.int v4]) (st := [.int v3]) (st' := [.int r45, .int v3]) (h' := k_ap [] ((shX ++ rest), I, L, Rf)) C hR ⟨Nat.zero_le _, Nat.zero_le _⟩ mv_X5_orderWorth lk_X7_156 dX7_penceOfOrders_45 (rfl : 45 + 3 = 48) rfl rfl ck_shX_shPit_3_8 rfl rfl (c_X5_orderWorth X.l u (k_pl [3, 4, 5, 6, 7, 8, 9] shPit (k_ap [] ((shX ++ rest), I, L, Rf))) rfl ec3_10 ea6 ea8 ea9 q45) rfl (fun _ => rfl) rfl (fun _ => rfl) rfl rfl rfl rfl rfl ?_
          refine r_iadd C dX7_penceOfOrders_48 (rfl : 48 + 1 = 49) ?_
          refine r_istore_n C dX7_penceOfOrders_49 (rfl : 49 + 1 = 50) (by decide) (Nat.le_of_ble_eq_true rfl) ?_
          show k_W _ _ _ _ _ _ _ _ [some (.ref 40), some (.ref 26), some (.int v2), some (.int (v3 + r45)), some (.int v4), none, none] _
          refine k_mask [true, true, true, true, true, false, false] ?_
          exact sX7_penceOfOrders_50 u C hr hR ec3_10 ea6 ea8 ea9 ea27 ea30 ih v2 (v3 + r45) v4 h
        · have h := k_f c33 h
          refine r_iconst (v := (-1 : Int32)) C dX7_penceOfOrders_36 (rfl : 36 + 1 = 37) rfl ?_
          cases h
          exact r_iret C hr dX7_penceOfOrders_37
set_option maxHeartbeats 400000 in
set_option maxRecDepth 100000 in
theorem sX7_penceOfOrders_0 (u : Nat) {X : k_X} {ad : Nat → Nat} {rest : List k_Sh} (C : k_C X cX7_penceOfOrders RX7 7 ad) (hr : X.meth.sig.returnType = (some .int)) (hR : X.R.frames = 2 ∧ X.R.locals = 47) {I : Nat → Nat → Int32} {L : Nat → Nat → Int64} {Rf : Nat → Nat → Option Nat} {c3_10 : Int32} (ec3_10 : I 3 10 = c3_10) {a6 : (Nat → Int32)} (ea6 : I 6 = a6) {a8 : (Nat → Int32)} (ea8 : I 8 = a8) {a9 : (Nat → Int32)} (ea9 : I 9 = a9) {a27 : (Nat → Int32)} (ea27 : I 27 = a27) {a30 : (Nat → Int32)} (ea30 : I 30 = a30) {out : Int32} : ∀ (v2 : Int32), bX7_penceOfOrders_0 u c3_10 a6 a8 a9 a27 a30 v2 = some out → k_W X 7 0 0 (k_Q X ad (some (.int out)) (k_ap [] ((shX ++ rest), I, L, Rf))) ad (k_ap [] ((shX ++ rest), I, L, Rf)) 0 [some (.ref 40), some (.ref 26), some (.int v2), none, none, none, none] [] := by
  intro v2 h
  unfold bX7_penceOfOrders_0 at h
  refine r_iconst (v := (0 : Int32)) C dX7_penceOfOrders_0 (rfl : 0 + 1 = 1) rfl ?_
  refine r_istore_n C dX7_penceOfOrders_1 (rfl : 1 + 1 = 2) (by decide) (Nat.le_of_ble_eq_true rfl) ?_
  show k_W _ _ _ _ _ _ _ _ [some (.ref 40), some (.ref 26), some (.int v2), some (.int (0 : Int32)), none, none, none] _
  refine r_iconst (v := (0 : Int32)) C dX7_penceOfOrders_2 (rfl : 2 + 1 = 3) rfl ?_
  refine r_istore C dX7_penceOfOrders_3 (rfl : 3 + 2 = 5) (by decide) (Nat.le_of_ble_eq_true rfl) ?_
  show k_W _ _ _ _ _ _ _ _ [some (.ref 40), some (.ref 26), some (.int v2), some (.int (0 : Int32)), some (.int (0 : Int32)), none, none] _
  refine k_mask [true, true, true, true, true, false, false] ?_
  exact sX7_penceOfOrders_5 u C hr hR ec3_10 ea6 ea8 ea9 ea27 ea30 u v2 (0 : Int32) (0 : Int32) h
set_option maxHeartbeats 400000 in
set_option maxRecDepth 100000 in
theorem c_X7_penceOfOrders (l : Launch) (u : Nat) (h : k_H) {rest : List k_Sh} (hsh : h.1 = (shX ++ rest)) {c3_10 : Int32} (ec3_10 : h.2.1 3 10 = c3_10) {a6 : (Nat → Int32)} (ea6 : h.2.1 6 = a6) {a8 : (Nat → Int32)} (ea8 : h.2.1 8 = a8) {a9 : (Nat → Int32)} (ea9 : h.2.1 9 = a9) {a27 : (Nat → Int32)} (ea27 : h.2.1 27 = a27) {a30 : (Nat → Int32)} (ea30 : h.2.1 30 = a30) {x1 : Int32} {out : Int32} (hf : f_X7_penceOfOrders u c3_10 a6 a8 a9 a27 a30 x1 = some out) : k_CT l yX7_penceOfOrders cX7_penceOfOrders 7 (some .int) 2 47 [.ref 40, .ref 26, .int x1] h (some (.int out)) [] := by
  obtain ⟨sh, I, L, Rf⟩ := h
  try dsimp only
  obtain rfl : sh = (shX ++ rest) := hsh
  refine k_ofW (by decide) (Nat.le_of_ble_eq_true rfl) ?_
  intro X ad hl hR0 hr C
  have hR : X.R.frames = 2 ∧ X.R.locals = 47 := by rw [hR0]; exact ⟨rfl, rfl⟩
  have h := hf
  unfold f_X7_penceOfOrders at h
  refine k_start (us := []) k_ap_0 ?_
  show k_W X 7 0 0 _ ad (k_ap [] ((shX ++ rest), I, L, Rf)) 0 [some (.ref 40), some (.ref 26), some (.int x1), none, none, none, none] []
  refine k_mask [true, true, true, false, false, false, false] ?_
  exact sX7_penceOfOrders_0 u C hr hR ec3_10 ea6 ea8 ea9 ea27 ea30 x1 h
/-! LullabyPit$Survey.ordersToFill(LLullabyPit$Mine;Z)I -/
theorem ds_X7_ordersToFill : k_ds [] = true := by decide +kernel
set_option maxHeartbeats 400000 in
set_option maxRecDepth 100000 in
theorem sX7_ordersToFill_45 (u : Nat) {X : k_X} {ad : Nat → Nat} {rest : List k_Sh} (C : k_C X cX7_ordersToFill RX7 7 ad) (hr : X.meth.sig.returnType = (some .int)) (hR : X.R.frames = 3 ∧ X.R.locals = 73) {I : Nat → Nat → Int32} {L : Nat → Nat → Int64} {Rf : Nat → Nat → Option Nat} {c3_10 : Int32} (ec3_10 : I 3 10 = c3_10) {a6 : (Nat → Int32)} (ea6 : I 6 = a6) {a8 : (Nat → Int32)} (ea8 : I 8 = a8) {a9 : (Nat → Int32)} (ea9 : I 9 = a9) {a27 : (Nat → Int32)} (ea27 : I 27 = a27) {a30 : (Nat → Int32)} (ea30 : I 30 = a30) {out : Int32} {k8 : Int32 → Int32 → Int32 → Int32 → Option (Int32)} (hk8 : ∀ (v2 : Int32) (v3 : Int32) (v4 : Int32) (v5 : Int32), k8 v2 v3 v4 v5 = some out → k_W X 7 0 0 (k_Q X ad (some (.int out)) (k_ap [] ((shX ++ rest), I, L, Rf))) ad (k_ap [] ((shX ++ rest), I, L, Rf)) 8 [some (.ref 40), some (.ref 26), some (.int v2), some (.int v3), some (.int v4), some (.int v5), none] []) : ∀ (v2 : Int32) (v3 : Int32) (v4 : Int32) (v5 : Int32), bX7_ordersToFill_45 u c3_10 a6 a8 a9 a27 a30 k8 v2 v3 v4 v5 = some out → k_W X 7 0 0 (k_Q X ad (some (.int out)) (k_ap [] ((shX ++ rest), I, L, Rf))) ad (k_ap [] ((shX ++ rest), I, L, Rf)) 45 [some (.ref 40), some (.ref 26), some (.int v2), some (.int v3), some (.int v4), some (.int v5), none] [] := by
  intro v2 v3 v4 v5 h
  unfold bX7_ordersToFill_45 at h
  refine r_iinc (v := (v5 + (1 : Int32))) C dX7_ordersToFill_45 (rfl : 45 + 3 = 48) rfl rfl (by decide) ?_
  show k_W _ _ _ _ _ _ _ _ [some (.ref 40), some (.ref 26), some (.int v2), some (.int v3), some (.int v4), some (.int (v5 + (1 : Int32))), none] _
  refine r_goto (tgt := 8) C dX7_ordersToFill_48 (by decide) ?_
  refine k_mask [true, true, true, true, true, true, false] ?_
  exact hk8 v2 v3 v4 (v5 + (1 : Int32)) h
set_option maxHeartbeats 400000 in
set_option maxRecDepth 100000 in
theorem sX7_ordersToFill_8 (u : Nat) {X : k_X} {ad : Nat → Nat} {rest : List k_Sh} (C : k_C X cX7_ordersToFill RX7 7 ad) (hr : X.meth.sig.returnType = (some .int)) (hR : X.R.frames = 3 ∧ X.R.locals = 73) {I : Nat → Nat → Int32} {L : Nat → Nat → Int64} {Rf : Nat → Nat → Option Nat} {c3_10 : Int32} (ec3_10 : I 3 10 = c3_10) {a6 : (Nat → Int32)} (ea6 : I 6 = a6) {a8 : (Nat → Int32)} (ea8 : I 8 = a8) {a9 : (Nat → Int32)} (ea9 : I 9 = a9) {a27 : (Nat → Int32)} (ea27 : I 27 = a27) {a30 : (Nat → Int32)} (ea30 : I 30 = a30) {out : Int32} : ∀ (n : Nat) (v2 : Int32) (v3 : Int32) (v4 : Int32) (v5 : Int32), bX7_ordersToFill_8 u c3_10 a6 a8 a9 a27 a30 n v2 v3 v4 v5 = some out → k_W X 7 0 0 (k_Q X ad (some (.int out)) (k_ap [] ((shX ++ rest), I, L, Rf))) ad (k_ap [] ((shX ++ rest), I, L, Rf)) 8 [some (.ref 40), some (.ref 26), some (.int v2), some (.int v3), some (.int v4), some (.int v5), none] [] := by
  intro n
  induction n with
  | zero => intro v2 v3 v4 v5 h; cases h
  | succ n ih =>
    intro v2 v3 v4 v5 h
    refine r_iload C dX7_ordersToFill_8 (rfl : 8 + 2 = 10) rfl ?_
    refine r_iconst (v := (1 : Int32)) C dX7_ordersToFill_10 (rfl : 10 + 1 = 11) rfl ?_
    refine r_aload_n C dX7_ordersToFill_11 (rfl : 11 + 1 = 12) rfl ?_
    refine r_getR (q := 3) C dX7_ordersToFill_12 (rfl : 12 + 3 = 15) fl_X7_21 rfl rfl ?_
    refine r_getI (v := c3_10) C dX7_ordersToFill_15 (rfl : 15 + 3 = 18) fl_X7_146 rfl rfl ec3_10 ?_
    refine r_ishl C dX7_ordersToFill_18 (rfl : 18 + 1 = 19) ?_
    refine r_icmp_ge (tgt := 51) C dX7_ordersToFill_19 (by decide) (rfl : 19 + 3 = 22) (fun c19 => ?_) (fun c19 => ?_)
    · have h := k_t c19 h
      refine r_iload_n C dX7_ordersToFill_51 (rfl : 51 + 1 = 52) rfl ?_
      refine r_if_eq (tgt := 59) C dX7_ordersToFill_52 (by decide) (rfl : 52 + 3 = 55) (fun c52 => ?_) (fun c52 => ?_)
      · have h := k_t c52 h
        refine r_iload C dX7_ordersToFill_59 (rfl : 59 + 2 = 61) rfl ?_
        cases h
        exact r_iret C hr dX7_ordersToFill_61
      · have h := k_f c52 h
        refine r_iload_n C dX7_ordersToFill_55 (rfl : 55 + 1 = 56) rfl ?_
        refine r_goto (tgt := 61) C dX7_ordersToFill_56 (by decide) ?_
        cases h
        exact r_iret C hr dX7_ordersToFill_61
    · have h := k_f c19 h
      refine r_aload_n C dX7_ordersToFill_22 (rfl : 22 + 1 = 23) rfl ?_
      refine r_aload_n C dX7_ordersToFill_23 (rfl : 23 + 1 = 24) rfl ?_
      refine r_iload C dX7_ordersToFill_24 (rfl : 24 + 2 = 26) rfl ?_
      obtain ⟨r26, q26, h⟩ := k_b_of h
      refine d_V (As := [.ref 26, .int v5]) (st := []) (st' := [.int r26]) (h' := k_ap [] ((shX ++ rest), I, L, Rf)) C hR ⟨Nat.zero_le _, Nat.zero_le _⟩ mv_X7_penceOfOrders lk_X7_149 dX7_ordersToFill_26 (rfl : 26 + 3 = 29) rfl rfl rfl rfl (c_X7_penceOfOrders X.l u (k_ap [] ((shX ++ rest), I, L, Rf)) rfl ec3_10 ea6 ea8 ea9 ea27 ea30 q26) rfl rfl rfl rfl rfl ?_
      refine r_istore C dX7_ordersToFill_29 (rfl : 29 + 2 = 31) (by decide) (Nat.le_of_ble_eq_true rfl) ?_
      show k_W _ _ _ _ _ _ _ _ [some (.ref 40), some (.ref 26), some (.int v2), some (.int v3), some (.int v4), some (.int v5), some (.int r26)] _
      refine r_iload C dX7_ordersToFill_31 (rfl : 31 + 2 = 33) rfl ?_
      refine r_iload C dX7_ordersToFill_33 (rfl : 33 + 2 = 35) rfl ?_
      refine r_icmp_le (tgt := 45) C dX7_ordersToFill_35 (by decide) (rfl : 35 + 3 = 38) (fun c35 => ?_) (fun c35 => ?_)
      · have h := k_t c35 h
        refine k_mask [true, true, true, true, true, true, false] ?_
        exact sX7_ordersToFill_45 u C hr hR ec3_10 ea6 ea8 ea9 ea27 ea30 ih v2 v3 v4 v5 h
      · have h := k_f c35 h
        refine r_iload C dX7_ordersToFill_38 (rfl : 38 + 2 = 40) rfl ?_
        refine r_istore C dX7_ordersToFill_40 (rfl : 40 + 2 = 42) (by decide) (Nat.le_of_ble_eq_true rfl) ?_
        show k_W _ _ _ _ _ _ _ _ [some (.ref 40), some (.ref 26), some (.int v2), some (.int v3), some (.int r26), some (.int v5), some (.int r26)] _
        refine r_iload C dX7_ordersToFill_42 (rfl : 42 + 2 = 44) rfl ?_
        refine r_istore_n C dX7_ordersToFill_44 (rfl : 44 + 1 = 45) (by decide) (Nat.le_of_ble_eq_true rfl) ?_
        show k_W _ _ _ _ _ _ _ _ [some (.ref 40), some (.ref 26), some (.int v2), some (.int v5), some (.int r26), some (.int v5), some (.int r26)] _
        refine k_mask [true, true, true, true, true, true, false] ?_
        exact sX7_ordersToFill_45 u C hr hR ec3_10 ea6 ea8 ea9 ea27 ea30 ih v2 v5 r26 v5 h
set_option maxHeartbeats 400000 in
set_option maxRecDepth 100000 in
theorem sX7_ordersToFill_0 (u : Nat) {X : k_X} {ad : Nat → Nat} {rest : List k_Sh} (C : k_C X cX7_ordersToFill RX7 7 ad) (hr : X.meth.sig.returnType = (some .int)) (hR : X.R.frames = 3 ∧ X.R.locals = 73) {I : Nat → Nat → Int32} {L : Nat → Nat → Int64} {Rf : Nat → Nat → Option Nat} {c3_10 : Int32} (ec3_10 : I 3 10 = c3_10) {a6 : (Nat → Int32)} (ea6 : I 6 = a6) {a8 : (Nat → Int32)} (ea8 : I 8 = a8) {a9 : (Nat → Int32)} (ea9 : I 9 = a9) {a27 : (Nat → Int32)} (ea27 : I 27 = a27) {a30 : (Nat → Int32)} (ea30 : I 30 = a30) {out : Int32} : ∀ (v2 : Int32), bX7_ordersToFill_0 u c3_10 a6 a8 a9 a27 a30 v2 = some out → k_W X 7 0 0 (k_Q X ad (some (.int out)) (k_ap [] ((shX ++ rest), I, L, Rf))) ad (k_ap [] ((shX ++ rest), I, L, Rf)) 0 [some (.ref 40), some (.ref 26), some (.int v2), none, none, none, none] [] := by
  intro v2 h
  unfold bX7_ordersToFill_0 at h
  refine r_iconst (v := (0 : Int32)) C dX7_ordersToFill_0 (rfl : 0 + 1 = 1) rfl ?_
  refine r_istore_n C dX7_ordersToFill_1 (rfl : 1 + 1 = 2) (by decide) (Nat.le_of_ble_eq_true rfl) ?_
  show k_W _ _ _ _ _ _ _ _ [some (.ref 40), some (.ref 26), some (.int v2), some (.int (0 : Int32)), none, none, none] _
  refine r_iconst (v := (0 : Int32)) C dX7_ordersToFill_2 (rfl : 2 + 1 = 3) rfl ?_
  refine r_istore C dX7_ordersToFill_3 (rfl : 3 + 2 = 5) (by decide) (Nat.le_of_ble_eq_true rfl) ?_
  show k_W _ _ _ _ _ _ _ _ [some (.ref 40), some (.ref 26), some (.int v2), some (.int (0 : Int32)), some (.int (0 : Int32)), none, none] _
  refine r_iconst (v := (1 : Int32)) C dX7_ordersToFill_5 (rfl : 5 + 1 = 6) rfl ?_
  refine r_istore C dX7_ordersToFill_6 (rfl : 6 + 2 = 8) (by decide) (Nat.le_of_ble_eq_true rfl) ?_
  show k_W _ _ _ _ _ _ _ _ [some (.ref 40), some (.ref 26), some (.int v2), some (.int (0 : Int32)), some (.int (0 : Int32)), some (.int (1 : Int32)), none] _
  refine k_mask [true, true, true, true, true, true, false] ?_
  exact sX7_ordersToFill_8 u C hr hR ec3_10 ea6 ea8 ea9 ea27 ea30 u v2 (0 : Int32) (0 : Int32) (1 : Int32) h
set_option maxHeartbeats 400000 in
set_option maxRecDepth 100000 in
theorem c_X7_ordersToFill (l : Launch) (u : Nat) (h : k_H) {rest : List k_Sh} (hsh : h.1 = (shX ++ rest)) {c3_10 : Int32} (ec3_10 : h.2.1 3 10 = c3_10) {a6 : (Nat → Int32)} (ea6 : h.2.1 6 = a6) {a8 : (Nat → Int32)} (ea8 : h.2.1 8 = a8) {a9 : (Nat → Int32)} (ea9 : h.2.1 9 = a9) {a27 : (Nat → Int32)} (ea27 : h.2.1 27 = a27) {a30 : (Nat → Int32)} (ea30 : h.2.1 30 = a30) {x1 : Int32} {out : Int32} (hf : f_X7_ordersToFill u c3_10 a6 a8 a9 a27 a30 x1 = some out) : k_CT l yX7_ordersToFill cX7_ordersToFill 7 (some .int) 3 73 [.ref 40, .ref 26, .int x1] h (some (.int out)) [] := by
  obtain ⟨sh, I, L, Rf⟩ := h
  try dsimp only
  obtain rfl : sh = (shX ++ rest) := hsh
  refine k_ofW (by decide) (Nat.le_of_ble_eq_true rfl) ?_
  intro X ad hl hR0 hr C
  have hR : X.R.frames = 3 ∧ X.R.locals = 73 := by rw [hR0]; exact ⟨rfl, rfl⟩
  have h := hf
  unfold f_X7_ordersToFill at h
  refine k_start (us := []) k_ap_0 ?_
  show k_W X 7 0 0 _ ad (k_ap [] ((shX ++ rest), I, L, Rf)) 0 [some (.ref 40), some (.ref 26), some (.int x1), none, none, none, none] []
  refine k_mask [true, true, true, false, false, false, false] ?_
  exact sX7_ordersToFill_0 u C hr hR ec3_10 ea6 ea8 ea9 ea27 ea30 x1 h
