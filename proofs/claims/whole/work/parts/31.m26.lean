/-! LullabyPitModel.sums(I)I -/
theorem ds_X11_sums : k_ds [(0, 0, 0), (1, 2, 0), (21, 2, 0)] = true := by decide +kernel
set_option maxHeartbeats 400000 in
set_option maxRecDepth 100000 in
theorem sX11_sums_124 (u : Nat) {X : k_X} {ad : Nat → Nat} (C : k_C X cX11_sums RX11 5 ad) (hr : X.meth.sig.returnType = (some .int)) (hR : X.R.frames = 3 ∧ X.R.locals = 67) {I : Nat → Nat → Int32} {L : Nat → Nat → Int64} {Rf : Nat → Nat → Option Nat} {c0_25 : Int32} (ec0_25 : I 0 25 = c0_25) {c0_26 : Int32} (ec0_26 : I 0 26 = c0_26) {c0_27 : Int32} (ec0_27 : I 0 27 = c0_27) {a20 : (Nat → Int32)} (ea20 : I 20 = a20) {out : Int32 × Int32 × (Nat → Int32) × (Nat → Int32)} {k52 : Int32 → (Nat → Int32) → (Nat → Int32) → Int32 → Int32 → Int32 → Option (Int32 × Int32 × (Nat → Int32) × (Nat → Int32))} (hk52 : ∀ (c0_0 : Int32) (a1 : (Nat → Int32)) (a21 : (Nat → Int32)) (v1 : Int32) (v2 : Int32) (v3 : Int32), k52 c0_0 a1 a21 v1 v2 v3 = some out → k_W X 5 0 0 (k_Q X ad (some (.int out.1)) (k_ap [(0, .inl (0, out.2.1)), (1, .inr (.inr (.inl out.2.2.1))), (21, .inr (.inr (.inl out.2.2.2)))] (shM, I, L, Rf))) ad (k_ap [(0, .inl (0, c0_0)), (1, .inr (.inr (.inl a1))), (21, .inr (.inr (.inl a21)))] (shM, I, L, Rf)) 52 [some (.ref 0), some (.int v1), some (.int v2), some (.int v3), none] []) : ∀ (c0_0 : Int32) (a1 : (Nat → Int32)) (a21 : (Nat → Int32)) (v1 : Int32) (v3 : Int32) (w0 : Int32) (w1 : Int32), bX11_sums_124 u c0_25 c0_26 c0_27 a20 k52 c0_0 a1 a21 v1 v3 w0 w1 = some out → k_W X 5 0 0 (k_Q X ad (some (.int out.1)) (k_ap [(0, .inl (0, out.2.1)), (1, .inr (.inr (.inl out.2.2.1))), (21, .inr (.inr (.inl out.2.2.2)))] (shM, I, L, Rf))) ad (k_ap [(0, .inl (0, c0_0)), (1, .inr (.inr (.inl a1))), (21, .inr (.inr (.inl a21)))] (shM, I, L, Rf)) 124 [some (.ref 0), some (.int v1), none, some (.int v3), none] [.int w0, .int w1] := by
  intro c0_0 a1 a21 v1 v3 w0 w1 h
  unfold bX11_sums_124 at h
  refine r_iadd C dX11_sums_124 (rfl : 124 + 1 = 125) ?_
  refine r_istore_n C dX11_sums_125 (rfl : 125 + 1 = 126) (by decide) (Nat.le_of_ble_eq_true rfl) ?_
  show k_W _ _ _ _ _ _ _ _ [some (.ref 0), some (.int v1), some (.int (w1 + w0)), some (.int v3), none] _
  refine r_iinc (v := (v3 + (1 : Int32))) C dX11_sums_126 (rfl : 126 + 3 = 129) rfl rfl (by decide) ?_
  show k_W _ _ _ _ _ _ _ _ [some (.ref 0), some (.int v1), some (.int (w1 + w0)), some (.int (v3 + (1 : Int32))), none] _
  refine r_goto (tgt := 52) C dX11_sums_129 (by decide) ?_
  refine k_mask [true, true, true, true, false] ?_
  exact hk52 c0_0 a1 a21 v1 (w1 + w0) (v3 + (1 : Int32)) h
set_option maxHeartbeats 400000 in
set_option maxRecDepth 100000 in
theorem sX11_sums_123 (u : Nat) {X : k_X} {ad : Nat → Nat} (C : k_C X cX11_sums RX11 5 ad) (hr : X.meth.sig.returnType = (some .int)) (hR : X.R.frames = 3 ∧ X.R.locals = 67) {I : Nat → Nat → Int32} {L : Nat → Nat → Int64} {Rf : Nat → Nat → Option Nat} {c0_25 : Int32} (ec0_25 : I 0 25 = c0_25) {c0_26 : Int32} (ec0_26 : I 0 26 = c0_26) {c0_27 : Int32} (ec0_27 : I 0 27 = c0_27) {a20 : (Nat → Int32)} (ea20 : I 20 = a20) {out : Int32 × Int32 × (Nat → Int32) × (Nat → Int32)} {k52 : Int32 → (Nat → Int32) → (Nat → Int32) → Int32 → Int32 → Int32 → Option (Int32 × Int32 × (Nat → Int32) × (Nat → Int32))} (hk52 : ∀ (c0_0 : Int32) (a1 : (Nat → Int32)) (a21 : (Nat → Int32)) (v1 : Int32) (v2 : Int32) (v3 : Int32), k52 c0_0 a1 a21 v1 v2 v3 = some out → k_W X 5 0 0 (k_Q X ad (some (.int out.1)) (k_ap [(0, .inl (0, out.2.1)), (1, .inr (.inr (.inl out.2.2.1))), (21, .inr (.inr (.inl out.2.2.2)))] (shM, I, L, Rf))) ad (k_ap [(0, .inl (0, c0_0)), (1, .inr (.inr (.inl a1))), (21, .inr (.inr (.inl a21)))] (shM, I, L, Rf)) 52 [some (.ref 0), some (.int v1), some (.int v2), some (.int v3), none] []) : ∀ (c0_0 : Int32) (a1 : (Nat → Int32)) (a21 : (Nat → Int32)) (v1 : Int32) (v3 : Int32) (w0 : Int32), bX11_sums_123 u c0_25 c0_26 c0_27 a20 k52 c0_0 a1 a21 v1 v3 w0 = some out → k_W X 5 0 0 (k_Q X ad (some (.int out.1)) (k_ap [(0, .inl (0, out.2.1)), (1, .inr (.inr (.inl out.2.2.1))), (21, .inr (.inr (.inl out.2.2.2)))] (shM, I, L, Rf))) ad (k_ap [(0, .inl (0, c0_0)), (1, .inr (.inr (.inl a1))), (21, .inr (.inr (.inl a21)))] (shM, I, L, Rf)) 123 [some (.ref 0), some (.int v1), none, some (.int v3), none] [.int w0] := by
  intro c0_0 a1 a21 v1 v3 w0 h
  unfold bX11_sums_123 at h
  refine r_iconst (v := (0 : Int32)) C dX11_sums_123 (rfl : 123 + 1 = 124) rfl ?_
  refine k_mask [true, true, false, true, false] ?_
  exact sX11_sums_124 u C hr hR ec0_25 ec0_26 ec0_27 ea20 hk52 c0_0 a1 a21 v1 v3 (0 : Int32) w0 h
set_option maxHeartbeats 400000 in
set_option maxRecDepth 100000 in
theorem sX11_sums_52 (u : Nat) {X : k_X} {ad : Nat → Nat} (C : k_C X cX11_sums RX11 5 ad) (hr : X.meth.sig.returnType = (some .int)) (hR : X.R.frames = 3 ∧ X.R.locals = 67) {I : Nat → Nat → Int32} {L : Nat → Nat → Int64} {Rf : Nat → Nat → Option Nat} {c0_25 : Int32} (ec0_25 : I 0 25 = c0_25) {c0_26 : Int32} (ec0_26 : I 0 26 = c0_26) {c0_27 : Int32} (ec0_27 : I 0 27 = c0_27) {a20 : (Nat → Int32)} (ea20 : I 20 = a20) {out : Int32 × Int32 × (Nat → Int32) × (Nat → Int32)} : ∀ (n : Nat) (c0_0 : Int32) (a1 : (Nat → Int32)) (a21 : (Nat → Int32)) (v1 : Int32) (v2 : Int32) (v3 : Int32), bX11_sums_52 u c0_25 c0_26 c0_27 a20 n c0_0 a1 a21 v1 v2 v3 = some out → k_W X 5 0 0 (k_Q X ad (some (.int out.1)) (k_ap [(0, .inl (0, out.2.1)), (1, .inr (.inr (.inl out.2.2.1))), (21, .inr (.inr (.inl out.2.2.2)))] (shM, I, L, Rf))) ad (k_ap [(0, .inl (0, c0_0)), (1, .inr (.inr (.inl a1))), (21, .inr (.inr (.inl a21)))] (shM, I, L, Rf)) 52 [some (.ref 0), some (.int v1), some (.int v2), some (.int v3), none] [] := by
  intro n
  induction n with
  | zero => intro c0_0 a1 a21 v1 v2 v3 h; cases h
  | succ n ih =>
    intro c0_0 a1 a21 v1 v2 v3 h
    refine r_iload_n C dX11_sums_52 (rfl : 52 + 1 = 53) rfl ?_
    refine r_bipush (v := (48 : Int32)) C dX11_sums_53 (rfl : 53 + 2 = 55) rfl ?_
    refine r_icmp_ge (tgt := 132) C dX11_sums_55 (by decide) (rfl : 55 + 3 = 58) (fun c55 => ?_) (fun c55 => ?_)
    · have h := k_t c55 h
      refine r_iload_n C dX11_sums_132 (rfl : 132 + 1 = 133) rfl ?_
      cases h
      exact r_iret C hr dX11_sums_133
    · have h := k_f c55 h
      refine r_aload_n C dX11_sums_58 (rfl : 58 + 1 = 59) rfl ?_
      refine r_iload_n C dX11_sums_59 (rfl : 59 + 1 = 60) rfl ?_
      refine r_bipush (v := (8 : Int32)) C dX11_sums_60 (rfl : 60 + 2 = 62) rfl ?_
      refine r_irem C dX11_sums_62 (rfl : 62 + 1 = 63) (by decide) ?_
      refine r_iload_n C dX11_sums_63 (rfl : 63 + 1 = 64) rfl ?_
      refine r_bipush (v := (8 : Int32)) C dX11_sums_64 (rfl : 64 + 2 = 66) rfl ?_
      refine r_idiv C dX11_sums_66 (rfl : 66 + 1 = 67) (by decide) ?_
      obtain ⟨r67, q67, h⟩ := k_b_of h
      refine d_V (As := [.int (v3 - v3 / (8 : Int32) * (8 : Int32)), .int (v3 / (8 : Int32))]) (st := []) (st' := [.int r67]) (h' := k_ap [(0, .inl (0, c0_0)), (1, .inr (.inr (.inl a1))), (21, .inr (.inr (.inl a21)))] (shM, I, L, Rf)) C hR ⟨Nat.zero_le _, Nat.zero_le _⟩ mv_X11_isOpen lk_X11_367 dX11_sums_67 (rfl : 67 + 3 = 70) rfl rfl rfl rfl (c_X11_isOpen X.l u (k_ap [(0, .inl (0, c0_0)), (1, .inr (.inr (.inl a1))), (21, .inr (.inr (.inl a21)))] (shM, I, L, Rf)) rfl ec0_25 ec0_26 rfl q67) rfl rfl rfl rfl rfl ?_
      refine r_istore C dX11_sums_70 (rfl : 70 + 2 = 72) (by decide) (Nat.le_of_ble_eq_true rfl) ?_
      show k_W _ _ _ _ _ _ _ _ [some (.ref 0), some (.int v1), some (.int v2), some (.int v3), some (.int r67)] _
      refine r_iload_n C dX11_sums_72 (rfl : 72 + 1 = 73) rfl ?_
      refine r_iload_n C dX11_sums_73 (rfl : 73 + 1 = 74) rfl ?_
      refine r_iconst (v := (2 : Int32)) C dX11_sums_74 (rfl : 74 + 1 = 75) rfl ?_
      refine r_icmp_ne (tgt := 91) C dX11_sums_75 (by decide) (rfl : 75 + 3 = 78) (fun c75 => ?_) (fun c75 => ?_)
      · have h := k_f c75 h
        refine r_iload C dX11_sums_91 (rfl : 91 + 2 = 93) rfl ?_
        refine r_if_ne (tgt := 123) C dX11_sums_93 (by decide) (rfl : 93 + 3 = 96) (fun c93 => ?_) (fun c93 => ?_)
        · have h := k_f c93 h
          refine k_mask [true, true, false, true, false] ?_
          exact sX11_sums_123 u C hr hR ec0_25 ec0_26 ec0_27 ea20 ih c0_0 a1 a21 v1 v3 v2 h
        · have h := k_t c93 h
          refine r_aload_n C dX11_sums_96 (rfl : 96 + 1 = 97) rfl ?_
          refine r_iload_n C dX11_sums_97 (rfl : 97 + 1 = 98) rfl ?_
          refine r_bipush (v := (8 : Int32)) C dX11_sums_98 (rfl : 98 + 2 = 100) rfl ?_
          refine r_irem C dX11_sums_100 (rfl : 100 + 1 = 101) (by decide) ?_
          refine r_iload_n C dX11_sums_101 (rfl : 101 + 1 = 102) rfl ?_
          refine r_bipush (v := (8 : Int32)) C dX11_sums_102 (rfl : 102 + 2 = 104) rfl ?_
          refine r_idiv C dX11_sums_104 (rfl : 104 + 1 = 105) (by decide) ?_
          obtain ⟨r105, q105, h⟩ := k_b_of h
          refine d_V (As := [.int (v3 - v3 / (8 : Int32) * (8 : Int32)), .int (v3 / (8 : Int32))]) (st := [.int v2]) (st' := [.int r105, .int v2]) (h' := k_ap [(0, .inl (0, c0_0)), (1, .inr (.inr (.inl a1))), (21, .inr (.inr (.inl a21)))] (shM, I, L, Rf)) C hR ⟨Nat.zero_le _, Nat.zero_le _⟩ mv_X11_isIn lk_X11_363 dX11_sums_105 (rfl : 105 + 3 = 108) rfl rfl rfl rfl (c_X11_isIn X.l u (k_ap [(0, .inl (0, c0_0)), (1, .inr (.inr (.inl a1))), (21, .inr (.inr (.inl a21)))] (shM, I, L, Rf)) rfl ec0_25 ec0_26 q105) rfl rfl rfl rfl rfl ?_
          refine r_if_eq (tgt := 123) C dX11_sums_108 (by decide) (rfl : 108 + 3 = 111) (fun c108 => ?_) (fun c108 => ?_)
          · have h := k_t c108 h
            refine k_mask [true, true, false, true, false] ?_
            exact sX11_sums_123 u C hr hR ec0_25 ec0_26 ec0_27 ea20 ih c0_0 a1 a21 v1 v3 v2 h
          · have h := k_f c108 h
            refine r_aload_n C dX11_sums_111 (rfl : 111 + 1 = 112) rfl ?_
            refine r_iload_n C dX11_sums_112 (rfl : 112 + 1 = 113) rfl ?_
            obtain ⟨r113, q113, h⟩ := k_b_of h
            refine d_V (As := [.int v3]) (st := [.int v2]) (st' := [.int r113, .int v2]) (h' := k_ap [(0, .inl (0, c0_0)), (1, .inr (.inr (.inl a1))), (21, .inr (.inr (.inl a21)))] (shM, I, L, Rf)) C hR ⟨Nat.zero_le _, Nat.zero_le _⟩ mv_X11_isAtHand lk_X11_385 dX11_sums_113 (rfl : 113 + 3 = 116) rfl rfl rfl rfl (c_X11_isAtHand X.l u (k_ap [(0, .inl (0, c0_0)), (1, .inr (.inr (.inl a1))), (21, .inr (.inr (.inl a21)))] (shM, I, L, Rf)) rfl ec0_25 ec0_26 ec0_27 rfl q113) rfl rfl rfl rfl rfl ?_
            refine r_if_eq (tgt := 123) C dX11_sums_116 (by decide) (rfl : 116 + 3 = 119) (fun c116 => ?_) (fun c116 => ?_)
            · have h := k_t c116 h
              refine k_mask [true, true, false, true, false] ?_
              exact sX11_sums_123 u C hr hR ec0_25 ec0_26 ec0_27 ea20 ih c0_0 a1 a21 v1 v3 v2 h
            · have h := k_f c116 h
              refine r_iconst (v := (1 : Int32)) C dX11_sums_119 (rfl : 119 + 1 = 120) rfl ?_
              refine r_goto (tgt := 124) C dX11_sums_120 (by decide) ?_
              refine k_mask [true, true, false, true, false] ?_
              exact sX11_sums_124 u C hr hR ec0_25 ec0_26 ec0_27 ea20 ih c0_0 a1 a21 v1 v3 (1 : Int32) v2 h
      · have h := k_t c75 h
        refine r_iload C dX11_sums_78 (rfl : 78 + 2 = 80) rfl ?_
        refine r_if_eq (tgt := 87) C dX11_sums_80 (by decide) (rfl : 80 + 3 = 83) (fun c80 => ?_) (fun c80 => ?_)
        · have h := k_t c80 h
          refine r_iconst (v := (0 : Int32)) C dX11_sums_87 (rfl : 87 + 1 = 88) rfl ?_
          refine r_goto (tgt := 124) C dX11_sums_88 (by decide) ?_
          refine k_mask [true, true, false, true, false] ?_
          exact sX11_sums_124 u C hr hR ec0_25 ec0_26 ec0_27 ea20 ih c0_0 a1 a21 v1 v3 (0 : Int32) v2 h
        · have h := k_f c80 h
          refine r_iconst (v := (1 : Int32)) C dX11_sums_83 (rfl : 83 + 1 = 84) rfl ?_
          refine r_goto (tgt := 124) C dX11_sums_84 (by decide) ?_
          refine k_mask [true, true, false, true, false] ?_
          exact sX11_sums_124 u C hr hR ec0_25 ec0_26 ec0_27 ea20 ih c0_0 a1 a21 v1 v3 (1 : Int32) v2 h
set_option maxHeartbeats 400000 in
set_option maxRecDepth 100000 in
theorem sX11_sums_0 (u : Nat) {X : k_X} {ad : Nat → Nat} (C : k_C X cX11_sums RX11 5 ad) (hr : X.meth.sig.returnType = (some .int)) (hR : X.R.frames = 3 ∧ X.R.locals = 67) {I : Nat → Nat → Int32} {L : Nat → Nat → Int64} {Rf : Nat → Nat → Option Nat} {c0_25 : Int32} (ec0_25 : I 0 25 = c0_25) {c0_26 : Int32} (ec0_26 : I 0 26 = c0_26) {c0_27 : Int32} (ec0_27 : I 0 27 = c0_27) {a20 : (Nat → Int32)} (ea20 : I 20 = a20) {out : Int32 × Int32 × (Nat → Int32) × (Nat → Int32)} : ∀ (c0_0 : Int32) (a1 : (Nat → Int32)) (a21 : (Nat → Int32)) (v1 : Int32), bX11_sums_0 u c0_25 c0_26 c0_27 a20 c0_0 a1 a21 v1 = some out → k_W X 5 0 0 (k_Q X ad (some (.int out.1)) (k_ap [(0, .inl (0, out.2.1)), (1, .inr (.inr (.inl out.2.2.1))), (21, .inr (.inr (.inl out.2.2.2)))] (shM, I, L, Rf))) ad (k_ap [(0, .inl (0, c0_0)), (1, .inr (.inr (.inl a1))), (21, .inr (.inr (.inl a21)))] (shM, I, L, Rf)) 0 [some (.ref 0), some (.int v1), none, none, none] [] := by
  intro c0_0 a1 a21 v1 h
  unfold bX11_sums_0 at h
  refine r_aload_n C dX11_sums_0 (rfl : 0 + 1 = 1) rfl ?_
  refine r_iconst (v := (0 : Int32)) C dX11_sums_1 (rfl : 1 + 1 = 2) rfl ?_
  refine p_I (us' := [(0, .inl (0, (0 : Int32))), (1, .inr (.inr (.inl a1))), (21, .inr (.inr (.inl a21)))]) C dX11_sums_2 (rfl : 2 + 3 = 5) fp_X11_3 rfl rfl ds_X11_sums rfl rfl rfl ?_
  refine r_aload_n C dX11_sums_5 (rfl : 5 + 1 = 6) rfl ?_
  refine r_iload_n C dX11_sums_6 (rfl : 6 + 1 = 7) rfl ?_
  refine r_iconst (v := (0 : Int32)) C dX11_sums_7 (rfl : 7 + 1 = 8) rfl ?_
  refine r_iconst (v := (3 : Int32)) C dX11_sums_8 (rfl : 8 + 1 = 9) rfl ?_
  obtain ⟨r9, q9, h⟩ := k_b_of h
  refine d_S (As := [.int v1, .int (0 : Int32), .int (3 : Int32)]) (st := [.ref 0]) (st' := [.int r9, .ref 0]) (h' := k_ap [(0, .inl (0, (0 : Int32))), (1, .inr (.inr (.inl a1))), (21, .inr (.inr (.inl a21)))] (shM, I, L, Rf)) C hR ⟨Nat.zero_le _, Nat.zero_le _⟩ ms_X11_within lk_X11_317 dX11_sums_9 (rfl : 9 + 3 = 12) rfl rfl (c_X11_within X.l u (k_ap [(0, .inl (0, (0 : Int32))), (1, .inr (.inr (.inl a1))), (21, .inr (.inr (.inl a21)))] (shM, I, L, Rf)) rfl  q9) rfl rfl rfl rfl rfl ?_
  refine r_iconst (v := (1 : Int32)) C dX11_sums_12 (rfl : 12 + 1 = 13) rfl ?_
  refine r_iconst (v := (2 : Int32)) C dX11_sums_13 (rfl : 13 + 1 = 14) rfl ?_
  obtain ⟨r14, q14, h⟩ := k_b_of h
  refine d_V (As := [.int r9, .int (1 : Int32), .int (2 : Int32)]) (st := []) (st' := [.int r14.1]) (h' := k_ap [(0, .inl (0, r14.2.1)), (1, .inr (.inr (.inl r14.2.2))), (21, .inr (.inr (.inl a21)))] (shM, I, L, Rf)) C hR ⟨Nat.zero_le _, Nat.zero_le _⟩ mv_X11_may lk_X11_252 dX11_sums_14 (rfl : 14 + 3 = 17) rfl rfl rfl rfl (c_X11_may X.l u (k_ap [(0, .inl (0, (0 : Int32))), (1, .inr (.inr (.inl a1))), (21, .inr (.inr (.inl a21)))] (shM, I, L, Rf)) rfl rfl rfl q14) rfl rfl rfl (k_jn (us' := [(0, .inl (0, r14.2.1)), (1, .inr (.inr (.inl r14.2.2))), (21, .inr (.inr (.inl a21)))]) ds_X11_sums rfl rfl rfl) rfl ?_
  refine r_if_ne (tgt := 22) C dX11_sums_17 (by decide) (rfl : 17 + 3 = 20) (fun c17 => ?_) (fun c17 => ?_)
  · have h := k_f c17 h
    refine r_iload_n C dX11_sums_22 (rfl : 22 + 1 = 23) rfl ?_
    refine r_iconst (v := (2 : Int32)) C dX11_sums_23 (rfl : 23 + 1 = 24) rfl ?_
    refine r_icmp_ge (tgt := 44) C dX11_sums_24 (by decide) (rfl : 24 + 3 = 27) (fun c24 => ?_) (fun c24 => ?_)
    · have h := k_t c24 h
      refine r_aload_n C dX11_sums_44 (rfl : 44 + 1 = 45) rfl ?_
      obtain ⟨r45, q45, h⟩ := k_b_of h
      refine d_V (As := []) (st := []) (st' := []) (h' := k_ap [(0, .inl (0, r14.2.1)), (1, .inr (.inr (.inl r14.2.2))), (21, .inr (.inr (.inl r45)))] (shM, I, L, Rf)) C hR ⟨Nat.zero_le _, Nat.zero_le _⟩ mv_X11_take lk_X11_345 dX11_sums_45 (rfl : 45 + 3 = 48) rfl rfl rfl rfl (c_X11_take X.l u (k_ap [(0, .inl (0, r14.2.1)), (1, .inr (.inr (.inl r14.2.2))), (21, .inr (.inr (.inl a21)))] (shM, I, L, Rf)) rfl ea20 rfl q45) rfl rfl rfl (k_jn (us' := [(0, .inl (0, r14.2.1)), (1, .inr (.inr (.inl r14.2.2))), (21, .inr (.inr (.inl r45)))]) ds_X11_sums rfl rfl rfl) rfl ?_
      refine r_iconst (v := (0 : Int32)) C dX11_sums_48 (rfl : 48 + 1 = 49) rfl ?_
      refine r_istore_n C dX11_sums_49 (rfl : 49 + 1 = 50) (by decide) (Nat.le_of_ble_eq_true rfl) ?_
      show k_W _ _ _ _ _ _ _ _ [some (.ref 0), some (.int v1), some (.int (0 : Int32)), none, none] _
      refine r_iconst (v := (0 : Int32)) C dX11_sums_50 (rfl : 50 + 1 = 51) rfl ?_
      refine r_istore_n C dX11_sums_51 (rfl : 51 + 1 = 52) (by decide) (Nat.le_of_ble_eq_true rfl) ?_
      show k_W _ _ _ _ _ _ _ _ [some (.ref 0), some (.int v1), some (.int (0 : Int32)), some (.int (0 : Int32)), none] _
      refine k_mask [true, true, true, true, false] ?_
      exact sX11_sums_52 u C hr hR ec0_25 ec0_26 ec0_27 ea20 u r14.2.1 r14.2.2 r45 v1 (0 : Int32) (0 : Int32) h
    · have h := k_f c24 h
      refine r_aload_n C dX11_sums_27 (rfl : 27 + 1 = 28) rfl ?_
      refine r_getR (q := 20) C dX11_sums_28 (rfl : 28 + 3 = 31) fl_X11_74 rfl rfl ?_
      refine r_iload_n C dX11_sums_31 (rfl : 31 + 1 = 32) rfl ?_
      refine r_if_ne (tgt := 40) C dX11_sums_32 (by decide) (rfl : 32 + 3 = 35) (fun c32 => ?_) (fun c32 => ?_)
      · have h := k_f c32 h
        refine r_bipush (v := (76 : Int32)) C dX11_sums_40 (rfl : 40 + 2 = 42) rfl ?_
        refine a_i (j := 76) (f := a20) C dX11_sums_42 (rfl : 42 + 1 = 43) rfl ea20 (show ¬ ((76 : Int32) < 0 ∨ 77 ≤ ((76 : Int32)).toNatClampNeg) by decide) rfl ?_
        cases h
        exact r_iret C hr dX11_sums_43
      · have h := k_t c32 h
        refine r_bipush (v := (75 : Int32)) C dX11_sums_35 (rfl : 35 + 2 = 37) rfl ?_
        refine r_goto (tgt := 42) C dX11_sums_37 (by decide) ?_
        refine a_i (j := 75) (f := a20) C dX11_sums_42 (rfl : 42 + 1 = 43) rfl ea20 (show ¬ ((75 : Int32) < 0 ∨ 77 ≤ ((75 : Int32)).toNatClampNeg) by decide) rfl ?_
        cases h
        exact r_iret C hr dX11_sums_43
  · have h := k_t c17 h
    refine r_iconst (v := (0 : Int32)) C dX11_sums_20 (rfl : 20 + 1 = 21) rfl ?_
    cases h
    exact r_iret C hr dX11_sums_21
set_option maxHeartbeats 400000 in
set_option maxRecDepth 100000 in
theorem c_X11_sums (l : Launch) (u : Nat) (h : k_H) (hsh : h.1 = shM) {c0_0 : Int32} (ec0_0 : h.2.1 0 0 = c0_0) {c0_25 : Int32} (ec0_25 : h.2.1 0 25 = c0_25) {c0_26 : Int32} (ec0_26 : h.2.1 0 26 = c0_26) {c0_27 : Int32} (ec0_27 : h.2.1 0 27 = c0_27) {a1 : (Nat → Int32)} (ea1 : h.2.1 1 = a1) {a20 : (Nat → Int32)} (ea20 : h.2.1 20 = a20) {a21 : (Nat → Int32)} (ea21 : h.2.1 21 = a21) {x0 : Int32} {out : Int32 × Int32 × (Nat → Int32) × (Nat → Int32)} (hf : f_X11_sums u c0_0 c0_25 c0_26 c0_27 a1 a20 a21 x0 = some out) : k_CT l yX11_sums cX11_sums 5 (some .int) 3 67 [.ref 0, .int x0] h (some (.int out.1)) [(0, .inl (0, out.2.1)), (1, .inr (.inr (.inl out.2.2.1))), (21, .inr (.inr (.inl out.2.2.2)))] := by
  obtain ⟨sh, I, L, Rf⟩ := h
  try dsimp only
  obtain rfl : sh = shM := hsh
  refine k_ofW (by decide) (Nat.le_of_ble_eq_true rfl) ?_
  intro X ad hl hR0 hr C
  have hR : X.R.frames = 3 ∧ X.R.locals = 67 := by rw [hR0]; exact ⟨rfl, rfl⟩
  have h := hf
  unfold f_X11_sums at h
  refine k_start (us := [(0, .inl (0, c0_0)), (1, .inr (.inr (.inl a1))), (21, .inr (.inr (.inl a21)))]) (k_ao_I ec0_0 (k_ao_A ea1 (k_ao_A ea21 k_ap_0))) ?_
  show k_W X 5 0 0 _ ad (k_ap [(0, .inl (0, c0_0)), (1, .inr (.inr (.inl a1))), (21, .inr (.inr (.inl a21)))] (shM, I, L, Rf)) 0 [some (.ref 0), some (.int x0), none, none, none] []
  refine k_mask [true, true, false, false, false] ?_
  exact sX11_sums_0 u C hr hR ec0_25 ec0_26 ec0_27 ea20 c0_0 a1 a21 x0 h
/-! LullabyPitModel.open(I)I -/
theorem ds_X11_open : k_ds [(0, 0, 0), (1, 2, 0), (21, 2, 0)] = true := by decide +kernel
set_option maxHeartbeats 400000 in
set_option maxRecDepth 100000 in
theorem sX11_open_66 (u : Nat) {X : k_X} {ad : Nat → Nat} (C : k_C X cX11_open RX11 4 ad) (hr : X.meth.sig.returnType = (some .int)) (hR : X.R.frames = 2 ∧ X.R.locals = 44) {I : Nat → Nat → Int32} {L : Nat → Nat → Int64} {Rf : Nat → Nat → Option Nat} {c0_25 : Int32} (ec0_25 : I 0 25 = c0_25) {c0_26 : Int32} (ec0_26 : I 0 26 = c0_26) {a20 : (Nat → Int32)} (ea20 : I 20 = a20) {out : Int32 × Int32 × (Nat → Int32) × (Nat → Int32)} {k41 : Int32 → (Nat → Int32) → (Nat → Int32) → Int32 → Int32 → Int32 → Option (Int32 × Int32 × (Nat → Int32) × (Nat → Int32))} (hk41 : ∀ (c0_0 : Int32) (a1 : (Nat → Int32)) (a21 : (Nat → Int32)) (v1 : Int32) (v2 : Int32) (v3 : Int32), k41 c0_0 a1 a21 v1 v2 v3 = some out → k_W X 4 0 0 (k_Q X ad (some (.int out.1)) (k_ap [(0, .inl (0, out.2.1)), (1, .inr (.inr (.inl out.2.2.1))), (21, .inr (.inr (.inl out.2.2.2)))] (shM, I, L, Rf))) ad (k_ap [(0, .inl (0, c0_0)), (1, .inr (.inr (.inl a1))), (21, .inr (.inr (.inl a21)))] (shM, I, L, Rf)) 41 [some (.ref 0), some (.int v1), some (.int v2), some (.int v3)] []) : ∀ (c0_0 : Int32) (a1 : (Nat → Int32)) (a21 : (Nat → Int32)) (v1 : Int32) (v3 : Int32) (w0 : Int32) (w1 : Int32), bX11_open_66 u c0_25 c0_26 a20 k41 c0_0 a1 a21 v1 v3 w0 w1 = some out → k_W X 4 0 0 (k_Q X ad (some (.int out.1)) (k_ap [(0, .inl (0, out.2.1)), (1, .inr (.inr (.inl out.2.2.1))), (21, .inr (.inr (.inl out.2.2.2)))] (shM, I, L, Rf))) ad (k_ap [(0, .inl (0, c0_0)), (1, .inr (.inr (.inl a1))), (21, .inr (.inr (.inl a21)))] (shM, I, L, Rf)) 66 [some (.ref 0), some (.int v1), none, some (.int v3)] [.int w0, .int w1] := by
  intro c0_0 a1 a21 v1 v3 w0 w1 h
  unfold bX11_open_66 at h
  refine r_ior C dX11_open_66 (rfl : 66 + 1 = 67) ?_
  refine r_istore_n C dX11_open_67 (rfl : 67 + 1 = 68) (by decide) (Nat.le_of_ble_eq_true rfl) ?_
  show k_W _ _ _ _ _ _ _ _ [some (.ref 0), some (.int v1), some (.int (w1 ||| w0)), some (.int v3)] _
  refine r_iinc (v := (v3 + (1 : Int32))) C dX11_open_68 (rfl : 68 + 3 = 71) rfl rfl (by decide) ?_
  show k_W _ _ _ _ _ _ _ _ [some (.ref 0), some (.int v1), some (.int (w1 ||| w0)), some (.int (v3 + (1 : Int32)))] _
  refine r_goto (tgt := 41) C dX11_open_71 (by decide) ?_
  refine k_mask [true, true, true, true] ?_
  exact hk41 c0_0 a1 a21 v1 (w1 ||| w0) (v3 + (1 : Int32)) h
set_option maxHeartbeats 400000 in
set_option maxRecDepth 100000 in
theorem sX11_open_41 (u : Nat) {X : k_X} {ad : Nat → Nat} (C : k_C X cX11_open RX11 4 ad) (hr : X.meth.sig.returnType = (some .int)) (hR : X.R.frames = 2 ∧ X.R.locals = 44) {I : Nat → Nat → Int32} {L : Nat → Nat → Int64} {Rf : Nat → Nat → Option Nat} {c0_25 : Int32} (ec0_25 : I 0 25 = c0_25) {c0_26 : Int32} (ec0_26 : I 0 26 = c0_26) {a20 : (Nat → Int32)} (ea20 : I 20 = a20) {out : Int32 × Int32 × (Nat → Int32) × (Nat → Int32)} : ∀ (n : Nat) (c0_0 : Int32) (a1 : (Nat → Int32)) (a21 : (Nat → Int32)) (v1 : Int32) (v2 : Int32) (v3 : Int32), bX11_open_41 u c0_25 c0_26 a20 n c0_0 a1 a21 v1 v2 v3 = some out → k_W X 4 0 0 (k_Q X ad (some (.int out.1)) (k_ap [(0, .inl (0, out.2.1)), (1, .inr (.inr (.inl out.2.2.1))), (21, .inr (.inr (.inl out.2.2.2)))] (shM, I, L, Rf))) ad (k_ap [(0, .inl (0, c0_0)), (1, .inr (.inr (.inl a1))), (21, .inr (.inr (.inl a21)))] (shM, I, L, Rf)) 41 [some (.ref 0), some (.int v1), some (.int v2), some (.int v3)] [] := by
  intro n
  induction n with
  | zero => intro c0_0 a1 a21 v1 v2 v3 h; cases h
  | succ n ih =>
    intro c0_0 a1 a21 v1 v2 v3 h
    refine r_iload_n C dX11_open_41 (rfl : 41 + 1 = 42) rfl ?_
    refine r_aload_n C dX11_open_42 (rfl : 42 + 1 = 43) rfl ?_
    refine r_getI (v := c0_25) C dX11_open_43 (rfl : 43 + 3 = 46) fl_X11_184 rfl rfl ec0_25 ?_
    refine r_icmp_ge (tgt := 74) C dX11_open_46 (by decide) (rfl : 46 + 3 = 49) (fun c46 => ?_) (fun c46 => ?_)
    · have h := k_t c46 h
      refine r_iload_n C dX11_open_74 (rfl : 74 + 1 = 75) rfl ?_
      cases h
      exact r_iret C hr dX11_open_75
    · have h := k_f c46 h
      refine r_iload_n C dX11_open_49 (rfl : 49 + 1 = 50) rfl ?_
      refine r_aload_n C dX11_open_50 (rfl : 50 + 1 = 51) rfl ?_
      refine r_iload_n C dX11_open_51 (rfl : 51 + 1 = 52) rfl ?_
      refine r_iload_n C dX11_open_52 (rfl : 52 + 1 = 53) rfl ?_
      obtain ⟨r53, q53, h⟩ := k_b_of h
      refine d_V (As := [.int v3, .int v1]) (st := [.int v2]) (st' := [.int r53, .int v2]) (h' := k_ap [(0, .inl (0, c0_0)), (1, .inr (.inr (.inl a1))), (21, .inr (.inr (.inl a21)))] (shM, I, L, Rf)) C hR ⟨Nat.zero_le _, Nat.zero_le _⟩ mv_X11_isOpen lk_X11_367 dX11_open_53 (rfl : 53 + 3 = 56) rfl rfl rfl rfl (c_X11_isOpen X.l u (k_ap [(0, .inl (0, c0_0)), (1, .inr (.inr (.inl a1))), (21, .inr (.inr (.inl a21)))] (shM, I, L, Rf)) rfl ec0_25 ec0_26 rfl q53) rfl rfl rfl rfl rfl ?_
      refine r_if_eq (tgt := 65) C dX11_open_56 (by decide) (rfl : 56 + 3 = 59) (fun c56 => ?_) (fun c56 => ?_)
      · have h := k_t c56 h
        refine r_iconst (v := (0 : Int32)) C dX11_open_65 (rfl : 65 + 1 = 66) rfl ?_
        refine k_mask [true, true, false, true] ?_
        exact sX11_open_66 u C hr hR ec0_25 ec0_26 ea20 ih c0_0 a1 a21 v1 v3 (0 : Int32) v2 h
      · have h := k_f c56 h
        refine r_iconst (v := (1 : Int32)) C dX11_open_59 (rfl : 59 + 1 = 60) rfl ?_
        refine r_iload_n C dX11_open_60 (rfl : 60 + 1 = 61) rfl ?_
        refine r_ishl C dX11_open_61 (rfl : 61 + 1 = 62) ?_
        refine r_goto (tgt := 66) C dX11_open_62 (by decide) ?_
        refine k_mask [true, true, false, true] ?_
        exact sX11_open_66 u C hr hR ec0_25 ec0_26 ea20 ih c0_0 a1 a21 v1 v3 ((1 : Int32) <<< (v3 &&& 31)) v2 h
set_option maxHeartbeats 400000 in
set_option maxRecDepth 100000 in
theorem sX11_open_23 (u : Nat) {X : k_X} {ad : Nat → Nat} (C : k_C X cX11_open RX11 4 ad) (hr : X.meth.sig.returnType = (some .int)) (hR : X.R.frames = 2 ∧ X.R.locals = 44) {I : Nat → Nat → Int32} {L : Nat → Nat → Int64} {Rf : Nat → Nat → Option Nat} {c0_25 : Int32} (ec0_25 : I 0 25 = c0_25) {c0_26 : Int32} (ec0_26 : I 0 26 = c0_26) {a20 : (Nat → Int32)} (ea20 : I 20 = a20) {out : Int32 × Int32 × (Nat → Int32) × (Nat → Int32)} : ∀ (c0_0 : Int32) (a1 : (Nat → Int32)) (a21 : (Nat → Int32)) (v1 : Int32) (w0 : Int32), bX11_open_23 u c0_25 c0_26 a20 c0_0 a1 a21 v1 w0 = some out → k_W X 4 0 0 (k_Q X ad (some (.int out.1)) (k_ap [(0, .inl (0, out.2.1)), (1, .inr (.inr (.inl out.2.2.1))), (21, .inr (.inr (.inl out.2.2.2)))] (shM, I, L, Rf))) ad (k_ap [(0, .inl (0, c0_0)), (1, .inr (.inr (.inl a1))), (21, .inr (.inr (.inl a21)))] (shM, I, L, Rf)) 23 [some (.ref 0), some (.int v1), none, none] [.int w0, .ref 0] := by
  intro c0_0 a1 a21 v1 w0 h
  unfold bX11_open_23 at h
  refine r_iconst (v := (1 : Int32)) C dX11_open_23 (rfl : 23 + 1 = 24) rfl ?_
  refine r_iconst (v := (2 : Int32)) C dX11_open_24 (rfl : 24 + 1 = 25) rfl ?_
  obtain ⟨r25, q25, h⟩ := k_b_of h
  refine d_V (As := [.int w0, .int (1 : Int32), .int (2 : Int32)]) (st := []) (st' := [.int r25.1]) (h' := k_ap [(0, .inl (0, r25.2.1)), (1, .inr (.inr (.inl r25.2.2))), (21, .inr (.inr (.inl a21)))] (shM, I, L, Rf)) C hR ⟨Nat.zero_le _, Nat.zero_le _⟩ mv_X11_may lk_X11_252 dX11_open_25 (rfl : 25 + 3 = 28) rfl rfl rfl rfl (c_X11_may X.l u (k_ap [(0, .inl (0, c0_0)), (1, .inr (.inr (.inl a1))), (21, .inr (.inr (.inl a21)))] (shM, I, L, Rf)) rfl rfl rfl q25) rfl rfl rfl (k_jn (us' := [(0, .inl (0, r25.2.1)), (1, .inr (.inr (.inl r25.2.2))), (21, .inr (.inr (.inl a21)))]) ds_X11_open rfl rfl rfl) rfl ?_
  refine r_if_ne (tgt := 33) C dX11_open_28 (by decide) (rfl : 28 + 3 = 31) (fun c28 => ?_) (fun c28 => ?_)
  · have h := k_f c28 h
    refine r_aload_n C dX11_open_33 (rfl : 33 + 1 = 34) rfl ?_
    obtain ⟨r34, q34, h⟩ := k_b_of h
    refine d_V (As := []) (st := []) (st' := []) (h' := k_ap [(0, .inl (0, r25.2.1)), (1, .inr (.inr (.inl r25.2.2))), (21, .inr (.inr (.inl r34)))] (shM, I, L, Rf)) C hR ⟨Nat.zero_le _, Nat.zero_le _⟩ mv_X11_take lk_X11_345 dX11_open_34 (rfl : 34 + 3 = 37) rfl rfl rfl rfl (c_X11_take X.l u (k_ap [(0, .inl (0, r25.2.1)), (1, .inr (.inr (.inl r25.2.2))), (21, .inr (.inr (.inl a21)))] (shM, I, L, Rf)) rfl ea20 rfl q34) rfl rfl rfl (k_jn (us' := [(0, .inl (0, r25.2.1)), (1, .inr (.inr (.inl r25.2.2))), (21, .inr (.inr (.inl r34)))]) ds_X11_open rfl rfl rfl) rfl ?_
    refine r_iconst (v := (0 : Int32)) C dX11_open_37 (rfl : 37 + 1 = 38) rfl ?_
    refine r_istore_n C dX11_open_38 (rfl : 38 + 1 = 39) (by decide) (Nat.le_of_ble_eq_true rfl) ?_
    show k_W _ _ _ _ _ _ _ _ [some (.ref 0), some (.int v1), some (.int (0 : Int32)), none] _
    refine r_iconst (v := (0 : Int32)) C dX11_open_39 (rfl : 39 + 1 = 40) rfl ?_
    refine r_istore_n C dX11_open_40 (rfl : 40 + 1 = 41) (by decide) (Nat.le_of_ble_eq_true rfl) ?_
    show k_W _ _ _ _ _ _ _ _ [some (.ref 0), some (.int v1), some (.int (0 : Int32)), some (.int (0 : Int32))] _
    refine k_mask [true, true, true, true] ?_
    exact sX11_open_41 u C hr hR ec0_25 ec0_26 ea20 u r25.2.1 r25.2.2 r34 v1 (0 : Int32) (0 : Int32) h
  · have h := k_t c28 h
    refine r_iconst (v := (0 : Int32)) C dX11_open_31 (rfl : 31 + 1 = 32) rfl ?_
    cases h
    exact r_iret C hr dX11_open_32
set_option maxHeartbeats 400000 in
set_option maxRecDepth 100000 in
theorem sX11_open_22 (u : Nat) {X : k_X} {ad : Nat → Nat} (C : k_C X cX11_open RX11 4 ad) (hr : X.meth.sig.returnType = (some .int)) (hR : X.R.frames = 2 ∧ X.R.locals = 44) {I : Nat → Nat → Int32} {L : Nat → Nat → Int64} {Rf : Nat → Nat → Option Nat} {c0_25 : Int32} (ec0_25 : I 0 25 = c0_25) {c0_26 : Int32} (ec0_26 : I 0 26 = c0_26) {a20 : (Nat → Int32)} (ea20 : I 20 = a20) {out : Int32 × Int32 × (Nat → Int32) × (Nat → Int32)} : ∀ (c0_0 : Int32) (a1 : (Nat → Int32)) (a21 : (Nat → Int32)) (v1 : Int32), bX11_open_22 u c0_25 c0_26 a20 c0_0 a1 a21 v1 = some out → k_W X 4 0 0 (k_Q X ad (some (.int out.1)) (k_ap [(0, .inl (0, out.2.1)), (1, .inr (.inr (.inl out.2.2.1))), (21, .inr (.inr (.inl out.2.2.2)))] (shM, I, L, Rf))) ad (k_ap [(0, .inl (0, c0_0)), (1, .inr (.inr (.inl a1))), (21, .inr (.inr (.inl a21)))] (shM, I, L, Rf)) 22 [some (.ref 0), some (.int v1), none, none] [.ref 0] := by
  intro c0_0 a1 a21 v1 h
  unfold bX11_open_22 at h
  refine r_iconst (v := (0 : Int32)) C dX11_open_22 (rfl : 22 + 1 = 23) rfl ?_
  refine k_mask [true, true, false, false] ?_
  exact sX11_open_23 u C hr hR ec0_25 ec0_26 ea20 c0_0 a1 a21 v1 (0 : Int32) h
set_option maxHeartbeats 400000 in
set_option maxRecDepth 100000 in
theorem sX11_open_0 (u : Nat) {X : k_X} {ad : Nat → Nat} (C : k_C X cX11_open RX11 4 ad) (hr : X.meth.sig.returnType = (some .int)) (hR : X.R.frames = 2 ∧ X.R.locals = 44) {I : Nat → Nat → Int32} {L : Nat → Nat → Int64} {Rf : Nat → Nat → Option Nat} {c0_25 : Int32} (ec0_25 : I 0 25 = c0_25) {c0_26 : Int32} (ec0_26 : I 0 26 = c0_26) {a20 : (Nat → Int32)} (ea20 : I 20 = a20) {out : Int32 × Int32 × (Nat → Int32) × (Nat → Int32)} : ∀ (c0_0 : Int32) (a1 : (Nat → Int32)) (a21 : (Nat → Int32)) (v1 : Int32), bX11_open_0 u c0_25 c0_26 a20 c0_0 a1 a21 v1 = some out → k_W X 4 0 0 (k_Q X ad (some (.int out.1)) (k_ap [(0, .inl (0, out.2.1)), (1, .inr (.inr (.inl out.2.2.1))), (21, .inr (.inr (.inl out.2.2.2)))] (shM, I, L, Rf))) ad (k_ap [(0, .inl (0, c0_0)), (1, .inr (.inr (.inl a1))), (21, .inr (.inr (.inl a21)))] (shM, I, L, Rf)) 0 [some (.ref 0), some (.int v1), none, none] [] := by
  intro c0_0 a1 a21 v1 h
  unfold bX11_open_0 at h
  refine r_aload_n C dX11_open_0 (rfl : 0 + 1 = 1) rfl ?_
  refine r_iconst (v := (0 : Int32)) C dX11_open_1 (rfl : 1 + 1 = 2) rfl ?_
  refine p_I (us' := [(0, .inl (0, (0 : Int32))), (1, .inr (.inr (.inl a1))), (21, .inr (.inr (.inl a21)))]) C dX11_open_2 (rfl : 2 + 3 = 5) fp_X11_3 rfl rfl ds_X11_open rfl rfl rfl ?_
  refine r_aload_n C dX11_open_5 (rfl : 5 + 1 = 6) rfl ?_
  refine r_iload_n C dX11_open_6 (rfl : 6 + 1 = 7) rfl ?_
  refine r_if_lt (tgt := 22) C dX11_open_7 (by decide) (rfl : 7 + 3 = 10) (fun c7 => ?_) (fun c7 => ?_)
  · have h := k_t c7 h
    refine k_mask [true, true, false, false] ?_
    exact sX11_open_22 u C hr hR ec0_25 ec0_26 ea20 (0 : Int32) a1 a21 v1 h
  · have h := k_f c7 h
    refine r_iload_n C dX11_open_10 (rfl : 10 + 1 = 11) rfl ?_
    refine r_aload_n C dX11_open_11 (rfl : 11 + 1 = 12) rfl ?_
    refine r_getI (v := c0_26) C dX11_open_12 (rfl : 12 + 3 = 15) fl_X11_187 rfl rfl ec0_26 ?_
    refine r_icmp_ge (tgt := 22) C dX11_open_15 (by decide) (rfl : 15 + 3 = 18) (fun c15 => ?_) (fun c15 => ?_)
    · have h := k_t c15 h
      refine k_mask [true, true, false, false] ?_
      exact sX11_open_22 u C hr hR ec0_25 ec0_26 ea20 (0 : Int32) a1 a21 v1 h
    · have h := k_f c15 h
      refine r_iconst (v := (1 : Int32)) C dX11_open_18 (rfl : 18 + 1 = 19) rfl ?_
      refine r_goto (tgt := 23) C dX11_open_19 (by decide) ?_
      refine k_mask [true, true, false, false] ?_
      exact sX11_open_23 u C hr hR ec0_25 ec0_26 ea20 (0 : Int32) a1 a21 v1 (1 : Int32) h
set_option maxHeartbeats 400000 in
set_option maxRecDepth 100000 in
theorem c_X11_open (l : Launch) (u : Nat) (h : k_H) (hsh : h.1 = shM) {c0_0 : Int32} (ec0_0 : h.2.1 0 0 = c0_0) {c0_25 : Int32} (ec0_25 : h.2.1 0 25 = c0_25) {c0_26 : Int32} (ec0_26 : h.2.1 0 26 = c0_26) {a1 : (Nat → Int32)} (ea1 : h.2.1 1 = a1) {a20 : (Nat → Int32)} (ea20 : h.2.1 20 = a20) {a21 : (Nat → Int32)} (ea21 : h.2.1 21 = a21) {x0 : Int32} {out : Int32 × Int32 × (Nat → Int32) × (Nat → Int32)} (hf : f_X11_open u c0_0 c0_25 c0_26 a1 a20 a21 x0 = some out) : k_CT l yX11_open cX11_open 4 (some .int) 2 44 [.ref 0, .int x0] h (some (.int out.1)) [(0, .inl (0, out.2.1)), (1, .inr (.inr (.inl out.2.2.1))), (21, .inr (.inr (.inl out.2.2.2)))] := by
  obtain ⟨sh, I, L, Rf⟩ := h
  try dsimp only
  obtain rfl : sh = shM := hsh
  refine k_ofW (by decide) (Nat.le_of_ble_eq_true rfl) ?_
  intro X ad hl hR0 hr C
  have hR : X.R.frames = 2 ∧ X.R.locals = 44 := by rw [hR0]; exact ⟨rfl, rfl⟩
  have h := hf
  unfold f_X11_open at h
  refine k_start (us := [(0, .inl (0, c0_0)), (1, .inr (.inr (.inl a1))), (21, .inr (.inr (.inl a21)))]) (k_ao_I ec0_0 (k_ao_A ea1 (k_ao_A ea21 k_ap_0))) ?_
  show k_W X 4 0 0 _ ad (k_ap [(0, .inl (0, c0_0)), (1, .inr (.inr (.inl a1))), (21, .inr (.inr (.inl a21)))] (shM, I, L, Rf)) 0 [some (.ref 0), some (.int x0), none, none] []
  refine k_mask [true, true, false, false] ?_
  exact sX11_open_0 u C hr hR ec0_25 ec0_26 ea20 c0_0 a1 a21 x0 h
/-! LullabyPitModel.keepsRow(I[IIZ)I -/
theorem ds_X11_keepsRow_20 : k_ds [(20, 2, 0), (31, 2, 0)] = true := by decide +kernel
set_option maxHeartbeats 400000 in
set_option maxRecDepth 100000 in
theorem sX11_keepsRow_20_43 (u : Nat) {X : k_X} {ad : Nat → Nat} (C : k_C X cX11_keepsRow RX11 6 ad) (hr : X.meth.sig.returnType = (some .int)) (hR : X.R.frames = 0 ∧ X.R.locals = 0) {I : Nat → Nat → Int32} {L : Nat → Nat → Int64} {Rf : Nat → Nat → Option Nat} {out : Int32 × (Nat → Int32) × (Nat → Int32)} {k3 : (Nat → Int32) → (Nat → Int32) → Int32 → Int32 → Int32 → Int32 → Option (Int32 × (Nat → Int32) × (Nat → Int32))} (hk3 : ∀ (a20 : (Nat → Int32)) (a31 : (Nat → Int32)) (v1 : Int32) (v3 : Int32) (v4 : Int32) (v5 : Int32), k3 a20 a31 v1 v3 v4 v5 = some out → k_W X 6 0 0 (k_Q X ad (some (.int out.1)) (k_ap [(20, .inr (.inr (.inl out.2.1))), (31, .inr (.inr (.inl out.2.2)))] (shM, I, L, Rf))) ad (k_ap [(20, .inr (.inr (.inl a20))), (31, .inr (.inr (.inl a31)))] (shM, I, L, Rf)) 3 [some (.ref 0), some (.int v1), some (.ref 20), some (.int v3), some (.int v4), some (.int v5)] []) : ∀ (a20 : (Nat → Int32)) (a31 : (Nat → Int32)) (v1 : Int32) (v3 : Int32) (v4 : Int32) (v5 : Int32), bX11_keepsRow_20_43 u k3 a20 a31 v1 v3 v4 v5 = some out → k_W X 6 0 0 (k_Q X ad (some (.int out.1)) (k_ap [(20, .inr (.inr (.inl out.2.1))), (31, .inr (.inr (.inl out.2.2)))] (shM, I, L, Rf))) ad (k_ap [(20, .inr (.inr (.inl a20))), (31, .inr (.inr (.inl a31)))] (shM, I, L, Rf)) 43 [some (.ref 0), some (.int v1), some (.ref 20), some (.int v3), some (.int v4), some (.int v5)] [] := by
  intro a20 a31 v1 v3 v4 v5 h
  unfold bX11_keepsRow_20_43 at h
  refine r_iinc (v := (v5 + (1 : Int32))) C dX11_keepsRow_43 (rfl : 43 + 3 = 46) rfl rfl (by decide) ?_
  show k_W _ _ _ _ _ _ _ _ [some (.ref 0), some (.int v1), some (.ref 20), some (.int v3), some (.int v4), some (.int (v5 + (1 : Int32)))] _
  refine r_goto (tgt := 3) C dX11_keepsRow_46 (by decide) ?_
  refine k_mask [true, true, true, true, true, true] ?_
  exact hk3 a20 a31 v1 v3 v4 (v5 + (1 : Int32)) h
set_option maxHeartbeats 400000 in
set_option maxRecDepth 100000 in
theorem sX11_keepsRow_20_3 (u : Nat) {X : k_X} {ad : Nat → Nat} (C : k_C X cX11_keepsRow RX11 6 ad) (hr : X.meth.sig.returnType = (some .int)) (hR : X.R.frames = 0 ∧ X.R.locals = 0) {I : Nat → Nat → Int32} {L : Nat → Nat → Int64} {Rf : Nat → Nat → Option Nat} {out : Int32 × (Nat → Int32) × (Nat → Int32)} : ∀ (n : Nat) (a20 : (Nat → Int32)) (a31 : (Nat → Int32)) (v1 : Int32) (v3 : Int32) (v4 : Int32) (v5 : Int32), bX11_keepsRow_20_3 u n a20 a31 v1 v3 v4 v5 = some out → k_W X 6 0 0 (k_Q X ad (some (.int out.1)) (k_ap [(20, .inr (.inr (.inl out.2.1))), (31, .inr (.inr (.inl out.2.2)))] (shM, I, L, Rf))) ad (k_ap [(20, .inr (.inr (.inl a20))), (31, .inr (.inr (.inl a31)))] (shM, I, L, Rf)) 3 [some (.ref 0), some (.int v1), some (.ref 20), some (.int v3), some (.int v4), some (.int v5)] [] := by
  intro n
  induction n with
  | zero => intro a20 a31 v1 v3 v4 v5 h; cases h
  | succ n ih =>
    intro a20 a31 v1 v3 v4 v5 h
    refine r_iload C dX11_keepsRow_3 (rfl : 3 + 2 = 5) rfl ?_
    refine r_iload_n C dX11_keepsRow_5 (rfl : 5 + 1 = 6) rfl ?_
    refine r_icmp_ge (tgt := 49) C dX11_keepsRow_6 (by decide) (rfl : 6 + 3 = 9) (fun c6 => ?_) (fun c6 => ?_)
    · have h := k_t c6 h
      refine r_iload_n C dX11_keepsRow_49 (rfl : 49 + 1 = 50) rfl ?_
      refine r_iload_n C dX11_keepsRow_50 (rfl : 50 + 1 = 51) rfl ?_
      refine r_iadd C dX11_keepsRow_51 (rfl : 51 + 1 = 52) ?_
      cases h
      exact r_iret C hr dX11_keepsRow_52
    · have h := k_f c6 h
      refine r_iload C dX11_keepsRow_9 (rfl : 9 + 2 = 11) rfl ?_
      refine r_if_eq (tgt := 30) C dX11_keepsRow_11 (by decide) (rfl : 11 + 3 = 14) (fun c11 => ?_) (fun c11 => ?_)
      · have h := k_t c11 h
        refine r_aload_n C dX11_keepsRow_30 (rfl : 30 + 1 = 31) rfl ?_
        refine r_iload C dX11_keepsRow_31 (rfl : 31 + 2 = 33) rfl ?_
        refine r_aload_n C dX11_keepsRow_33 (rfl : 33 + 1 = 34) rfl ?_
        refine r_getR (q := 31) C dX11_keepsRow_34 (rfl : 34 + 3 = 37) fl_X11_108 rfl rfl ?_
        refine r_iload_n C dX11_keepsRow_37 (rfl : 37 + 1 = 38) rfl ?_
        refine r_iload C dX11_keepsRow_38 (rfl : 38 + 2 = 40) rfl ?_
        refine r_iadd C dX11_keepsRow_40 (rfl : 40 + 1 = 41) ?_
        obtain ⟨hi41, h⟩ := k_i_of h
        refine a_i (j := ((v1 + v5)).toNatClampNeg) (f := a31) C dX11_keepsRow_41 (rfl : 41 + 1 = 42) rfl rfl hi41 rfl ?_
        obtain ⟨hi42, h⟩ := k_i_of h
        refine s_i (j := (v5).toNatClampNeg) (f := a20) (us' := [(20, .inr (.inr (.inl (upd a20 ((v5).toNatClampNeg) (a31 (((v1 + v5)).toNatClampNeg)))))), (31, .inr (.inr (.inl a31)))]) C dX11_keepsRow_42 (rfl : 42 + 1 = 43) rfl rfl hi42 rfl ds_X11_keepsRow_20 rfl rfl rfl ?_
        refine k_mask [true, true, true, true, true, true] ?_
        exact sX11_keepsRow_20_43 u C hr hR ih (upd a20 ((v5).toNatClampNeg) (a31 (((v1 + v5)).toNatClampNeg))) a31 v1 v3 v4 v5 h
      · have h := k_f c11 h
        refine r_aload_n C dX11_keepsRow_14 (rfl : 14 + 1 = 15) rfl ?_
        refine r_getR (q := 31) C dX11_keepsRow_15 (rfl : 15 + 3 = 18) fl_X11_108 rfl rfl ?_
        refine r_iload_n C dX11_keepsRow_18 (rfl : 18 + 1 = 19) rfl ?_
        refine r_iload C dX11_keepsRow_19 (rfl : 19 + 2 = 21) rfl ?_
        refine r_iadd C dX11_keepsRow_21 (rfl : 21 + 1 = 22) ?_
        refine r_aload_n C dX11_keepsRow_22 (rfl : 22 + 1 = 23) rfl ?_
        refine r_iload C dX11_keepsRow_23 (rfl : 23 + 2 = 25) rfl ?_
        obtain ⟨hi25, h⟩ := k_i_of h
        refine a_i (j := (v5).toNatClampNeg) (f := a20) C dX11_keepsRow_25 (rfl : 25 + 1 = 26) rfl rfl hi25 rfl ?_
        obtain ⟨hi26, h⟩ := k_i_of h
        refine s_i (j := ((v1 + v5)).toNatClampNeg) (f := a31) (us' := [(20, .inr (.inr (.inl a20))), (31, .inr (.inr (.inl (upd a31 (((v1 + v5)).toNatClampNeg) (a20 ((v5).toNatClampNeg))))))]) C dX11_keepsRow_26 (rfl : 26 + 1 = 27) rfl rfl hi26 rfl ds_X11_keepsRow_20 rfl rfl rfl ?_
        refine r_goto (tgt := 43) C dX11_keepsRow_27 (by decide) ?_
        refine k_mask [true, true, true, true, true, true] ?_
        exact sX11_keepsRow_20_43 u C hr hR ih a20 (upd a31 (((v1 + v5)).toNatClampNeg) (a20 ((v5).toNatClampNeg))) v1 v3 v4 v5 h
set_option maxHeartbeats 400000 in
set_option maxRecDepth 100000 in
theorem sX11_keepsRow_20_0 (u : Nat) {X : k_X} {ad : Nat → Nat} (C : k_C X cX11_keepsRow RX11 6 ad) (hr : X.meth.sig.returnType = (some .int)) (hR : X.R.frames = 0 ∧ X.R.locals = 0) {I : Nat → Nat → Int32} {L : Nat → Nat → Int64} {Rf : Nat → Nat → Option Nat} {out : Int32 × (Nat → Int32) × (Nat → Int32)} : ∀ (a20 : (Nat → Int32)) (a31 : (Nat → Int32)) (v1 : Int32) (v3 : Int32) (v4 : Int32), bX11_keepsRow_20_0 u a20 a31 v1 v3 v4 = some out → k_W X 6 0 0 (k_Q X ad (some (.int out.1)) (k_ap [(20, .inr (.inr (.inl out.2.1))), (31, .inr (.inr (.inl out.2.2)))] (shM, I, L, Rf))) ad (k_ap [(20, .inr (.inr (.inl a20))), (31, .inr (.inr (.inl a31)))] (shM, I, L, Rf)) 0 [some (.ref 0), some (.int v1), some (.ref 20), some (.int v3), some (.int v4), none] [] := by
  intro a20 a31 v1 v3 v4 h
  unfold bX11_keepsRow_20_0 at h
  refine r_iconst (v := (0 : Int32)) C dX11_keepsRow_0 (rfl : 0 + 1 = 1) rfl ?_
  refine r_istore C dX11_keepsRow_1 (rfl : 1 + 2 = 3) (by decide) (Nat.le_of_ble_eq_true rfl) ?_
  show k_W _ _ _ _ _ _ _ _ [some (.ref 0), some (.int v1), some (.ref 20), some (.int v3), some (.int v4), some (.int (0 : Int32))] _
  refine k_mask [true, true, true, true, true, true] ?_
  exact sX11_keepsRow_20_3 u C hr hR u a20 a31 v1 v3 v4 (0 : Int32) h
set_option maxHeartbeats 400000 in
set_option maxRecDepth 100000 in
theorem c_X11_keepsRow_20 (l : Launch) (u : Nat) (h : k_H) (hsh : h.1 = shM) {a20 : (Nat → Int32)} (ea20 : h.2.1 20 = a20) {a31 : (Nat → Int32)} (ea31 : h.2.1 31 = a31) {x0 : Int32} {x2 : Int32} {x3 : Int32} {out : Int32 × (Nat → Int32) × (Nat → Int32)} (hf : f_X11_keepsRow_20 u a20 a31 x0 x2 x3 = some out) : k_CT l yX11_keepsRow cX11_keepsRow 6 (some .int) 0 0 [.ref 0, .int x0, .ref 20, .int x2, .int x3] h (some (.int out.1)) [(20, .inr (.inr (.inl out.2.1))), (31, .inr (.inr (.inl out.2.2)))] := by
  obtain ⟨sh, I, L, Rf⟩ := h
  try dsimp only
  obtain rfl : sh = shM := hsh
  refine k_ofW (by decide) (Nat.le_of_ble_eq_true rfl) ?_
  intro X ad hl hR0 hr C
  have hR : X.R.frames = 0 ∧ X.R.locals = 0 := by rw [hR0]; exact ⟨rfl, rfl⟩
  have h := hf
  unfold f_X11_keepsRow_20 at h
  refine k_start (us := [(20, .inr (.inr (.inl a20))), (31, .inr (.inr (.inl a31)))]) (k_ao_A ea20 (k_ao_A ea31 k_ap_0)) ?_
  show k_W X 6 0 0 _ ad (k_ap [(20, .inr (.inr (.inl a20))), (31, .inr (.inr (.inl a31)))] (shM, I, L, Rf)) 0 [some (.ref 0), some (.int x0), some (.ref 20), some (.int x2), some (.int x3), none] []
  refine k_mask [true, true, true, true, true, false] ?_
  exact sX11_keepsRow_20_0 u C hr hR a20 a31 x0 x2 x3 h
/-! LullabyPitModel.keepsRow(I[IIZ)I -/
theorem ds_X11_keepsRow_22 : k_ds [(22, 2, 0), (31, 2, 0)] = true := by decide +kernel
set_option maxHeartbeats 400000 in
set_option maxRecDepth 100000 in
theorem sX11_keepsRow_22_43 (u : Nat) {X : k_X} {ad : Nat → Nat} (C : k_C X cX11_keepsRow RX11 6 ad) (hr : X.meth.sig.returnType = (some .int)) (hR : X.R.frames = 0 ∧ X.R.locals = 0) {I : Nat → Nat → Int32} {L : Nat → Nat → Int64} {Rf : Nat → Nat → Option Nat} {out : Int32 × (Nat → Int32) × (Nat → Int32)} {k3 : (Nat → Int32) → (Nat → Int32) → Int32 → Int32 → Int32 → Int32 → Option (Int32 × (Nat → Int32) × (Nat → Int32))} (hk3 : ∀ (a22 : (Nat → Int32)) (a31 : (Nat → Int32)) (v1 : Int32) (v3 : Int32) (v4 : Int32) (v5 : Int32), k3 a22 a31 v1 v3 v4 v5 = some out → k_W X 6 0 0 (k_Q X ad (some (.int out.1)) (k_ap [(22, .inr (.inr (.inl out.2.1))), (31, .inr (.inr (.inl out.2.2)))] (shM, I, L, Rf))) ad (k_ap [(22, .inr (.inr (.inl a22))), (31, .inr (.inr (.inl a31)))] (shM, I, L, Rf)) 3 [some (.ref 0), some (.int v1), some (.ref 22), some (.int v3), some (.int v4), some (.int v5)] []) : ∀ (a22 : (Nat → Int32)) (a31 : (Nat → Int32)) (v1 : Int32) (v3 : Int32) (v4 : Int32) (v5 : Int32), bX11_keepsRow_22_43 u k3 a22 a31 v1 v3 v4 v5 = some out → k_W X 6 0 0 (k_Q X ad (some (.int out.1)) (k_ap [(22, .inr (.inr (.inl out.2.1))), (31, .inr (.inr (.inl out.2.2)))] (shM, I, L, Rf))) ad (k_ap [(22, .inr (.inr (.inl a22))), (31, .inr (.inr (.inl a31)))] (shM, I, L, Rf)) 43 [some (.ref 0), some (.int v1), some (.ref 22), some (.int v3), some (.int v4), some (.int v5)] [] := by
  intro a22 a31 v1 v3 v4 v5 h
  unfold bX11_keepsRow_22_43 at h
  refine r_iinc (v := (v5 + (1 : Int32))) C dX11_keepsRow_43 (rfl : 43 + 3 = 46) rfl rfl (by decide) ?_
  show k_W _ _ _ _ _ _ _ _ [some (.ref 0), some (.int v1), some (.ref 22), some (.int v3), some (.int v4), some (.int (v5 + (1 : Int32)))] _
  refine r_goto (tgt := 3) C dX11_keepsRow_46 (by decide) ?_
  refine k_mask [true, true, true, true, true, true] ?_
  exact hk3 a22 a31 v1 v3 v4 (v5 + (1 : Int32)) h
set_option maxHeartbeats 400000 in
set_option maxRecDepth 100000 in
theorem sX11_keepsRow_22_3 (u : Nat) {X : k_X} {ad : Nat → Nat} (C : k_C X cX11_keepsRow RX11 6 ad) (hr : X.meth.sig.returnType = (some .int)) (hR : X.R.frames = 0 ∧ X.R.locals = 0) {I : Nat → Nat → Int32} {L : Nat → Nat → Int64} {Rf : Nat → Nat → Option Nat} {out : Int32 × (Nat → Int32) × (Nat → Int32)} : ∀ (n : Nat) (a22 : (Nat → Int32)) (a31 : (Nat → Int32)) (v1 : Int32) (v3 : Int32) (v4 : Int32) (v5 : Int32), bX11_keepsRow_22_3 u n a22 a31 v1 v3 v4 v5 = some out → k_W X 6 0 0 (k_Q X ad (some (.int out.1)) (k_ap [(22, .inr (.inr (.inl out.2.1))), (31, .inr (.inr (.inl out.2.2)))] (shM, I, L, Rf))) ad (k_ap [(22, .inr (.inr (.inl a22))), (31, .inr (.inr (.inl a31)))] (shM, I, L, Rf)) 3 [some (.ref 0), some (.int v1), some (.ref 22), some (.int v3), some (.int v4), some (.int v5)] [] := by
  intro n
  induction n with
  | zero => intro a22 a31 v1 v3 v4 v5 h; cases h
  | succ n ih =>
    intro a22 a31 v1 v3 v4 v5 h
    refine r_iload C dX11_keepsRow_3 (rfl : 3 + 2 = 5) rfl ?_
    refine r_iload_n C dX11_keepsRow_5 (rfl : 5 + 1 = 6) rfl ?_
    refine r_icmp_ge (tgt := 49) C dX11_keepsRow_6 (by decide) (rfl : 6 + 3 = 9) (fun c6 => ?_) (fun c6 => ?_)
    · have h := k_t c6 h
      refine r_iload_n C dX11_keepsRow_49 (rfl : 49 + 1 = 50) rfl ?_
      refine r_iload_n C dX11_keepsRow_50 (rfl : 50 + 1 = 51) rfl ?_
      refine r_iadd C dX11_keepsRow_51 (rfl : 51 + 1 = 52) ?_
      cases h
      exact r_iret C hr dX11_keepsRow_52
    · have h := k_f c6 h
      refine r_iload C dX11_keepsRow_9 (rfl : 9 + 2 = 11) rfl ?_
      refine r_if_eq (tgt := 30) C dX11_keepsRow_11 (by decide) (rfl : 11 + 3 = 14) (fun c11 => ?_) (fun c11 => ?_)
      · have h := k_t c11 h
        refine r_aload_n C dX11_keepsRow_30 (rfl : 30 + 1 = 31) rfl ?_
        refine r_iload C dX11_keepsRow_31 (rfl : 31 + 2 = 33) rfl ?_
        refine r_aload_n C dX11_keepsRow_33 (rfl : 33 + 1 = 34) rfl ?_
        refine r_getR (q := 31) C dX11_keepsRow_34 (rfl : 34 + 3 = 37) fl_X11_108 rfl rfl ?_
        refine r_iload_n C dX11_keepsRow_37 (rfl : 37 + 1 = 38) rfl ?_
        refine r_iload C dX11_keepsRow_38 (rfl : 38 + 2 = 40) rfl ?_
        refine r_iadd C dX11_keepsRow_40 (rfl : 40 + 1 = 41) ?_
        obtain ⟨hi41, h⟩ := k_i_of h
        refine a_i (j := ((v1 + v5)).toNatClampNeg) (f := a31) C dX11_keepsRow_41 (rfl : 41 + 1 = 42) rfl rfl hi41 rfl ?_
        obtain ⟨hi42, h⟩ := k_i_of h
        refine s_i (j := (v5).toNatClampNeg) (f := a22) (us' := [(22, .inr (.inr (.inl (upd a22 ((v5).toNatClampNeg) (a31 (((v1 + v5)).toNatClampNeg)))))), (31, .inr (.inr (.inl a31)))]) C dX11_keepsRow_42 (rfl : 42 + 1 = 43) rfl rfl hi42 rfl ds_X11_keepsRow_22 rfl rfl rfl ?_
        refine k_mask [true, true, true, true, true, true] ?_
        exact sX11_keepsRow_22_43 u C hr hR ih (upd a22 ((v5).toNatClampNeg) (a31 (((v1 + v5)).toNatClampNeg))) a31 v1 v3 v4 v5 h
      · have h := k_f c11 h
        refine r_aload_n C dX11_keepsRow_14 (rfl : 14 + 1 = 15) rfl ?_
        refine r_getR (q := 31) C dX11_keepsRow_15 (rfl : 15 + 3 = 18) fl_X11_108 rfl rfl ?_
        refine r_iload_n C dX11_keepsRow_18 (rfl : 18 + 1 = 19) rfl ?_
        refine r_iload C dX11_keepsRow_19 (rfl : 19 + 2 = 21) rfl ?_
        refine r_iadd C dX11_keepsRow_21 (rfl : 21 + 1 = 22) ?_
        refine r_aload_n C dX11_keepsRow_22 (rfl : 22 + 1 = 23) rfl ?_
        refine r_iload C dX11_keepsRow_23 (rfl : 23 + 2 = 25) rfl ?_
        obtain ⟨hi25, h⟩ := k_i_of h
        refine a_i (j := (v5).toNatClampNeg) (f := a22) C dX11_keepsRow_25 (rfl : 25 + 1 = 26) rfl rfl hi25 rfl ?_
        obtain ⟨hi26, h⟩ := k_i_of h
        refine s_i (j := ((v1 + v5)).toNatClampNeg) (f := a31) (us' := [(22, .inr (.inr (.inl a22))), (31, .inr (.inr (.inl (upd a31 (((v1 + v5)).toNatClampNeg) (a22 ((v5).toNatClampNeg))))))]) C dX11_keepsRow_26 (rfl : 26 + 1 = 27) rfl rfl hi26 rfl ds_X11_keepsRow_22 rfl rfl rfl ?_
        refine r_goto (tgt := 43) C dX11_keepsRow_27 (by decide) ?_
        refine k_mask [true, true, true, true, true, true] ?_
        exact sX11_keepsRow_22_43 u C hr hR ih a22 (upd a31 (((v1 + v5)).toNatClampNeg) (a22 ((v5).toNatClampNeg))) v1 v3 v4 v5 h
set_option maxHeartbeats 400000 in
set_option maxRecDepth 100000 in
theorem sX11_keepsRow_22_0 (u : Nat) {X : k_X} {ad : Nat → Nat} (C : k_C X cX11_keepsRow RX11 6 ad) (hr : X.meth.sig.returnType = (some .int)) (hR : X.R.frames = 0 ∧ X.R.locals = 0) {I : Nat → Nat → Int32} {L : Nat → Nat → Int64} {Rf : Nat → Nat → Option Nat} {out : Int32 × (Nat → Int32) × (Nat → Int32)} : ∀ (a22 : (Nat → Int32)) (a31 : (Nat → Int32)) (v1 : Int32) (v3 : Int32) (v4 : Int32), bX11_keepsRow_22_0 u a22 a31 v1 v3 v4 = some out → k_W X 6 0 0 (k_Q X ad (some (.int out.1)) (k_ap [(22, .inr (.inr (.inl out.2.1))), (31, .inr (.inr (.inl out.2.2)))] (shM, I, L, Rf))) ad (k_ap [(22, .inr (.inr (.inl a22))), (31, .inr (.inr (.inl a31)))] (shM, I, L, Rf)) 0 [some (.ref 0), some (.int v1), some (.ref 22), some (.int v3), some (.int v4), none] [] := by
  intro a22 a31 v1 v3 v4 h
  unfold bX11_keepsRow_22_0 at h
  refine r_iconst (v := (0 : Int32)) C dX11_keepsRow_0 (rfl : 0 + 1 = 1) rfl ?_
  refine r_istore C dX11_keepsRow_1 (rfl : 1 + 2 = 3) (by decide) (Nat.le_of_ble_eq_true rfl) ?_
  show k_W _ _ _ _ _ _ _ _ [some (.ref 0), some (.int v1), some (.ref 22), some (.int v3), some (.int v4), some (.int (0 : Int32))] _
  refine k_mask [true, true, true, true, true, true] ?_
  exact sX11_keepsRow_22_3 u C hr hR u a22 a31 v1 v3 v4 (0 : Int32) h
set_option maxHeartbeats 400000 in
set_option maxRecDepth 100000 in
theorem c_X11_keepsRow_22 (l : Launch) (u : Nat) (h : k_H) (hsh : h.1 = shM) {a22 : (Nat → Int32)} (ea22 : h.2.1 22 = a22) {a31 : (Nat → Int32)} (ea31 : h.2.1 31 = a31) {x0 : Int32} {x2 : Int32} {x3 : Int32} {out : Int32 × (Nat → Int32) × (Nat → Int32)} (hf : f_X11_keepsRow_22 u a22 a31 x0 x2 x3 = some out) : k_CT l yX11_keepsRow cX11_keepsRow 6 (some .int) 0 0 [.ref 0, .int x0, .ref 22, .int x2, .int x3] h (some (.int out.1)) [(22, .inr (.inr (.inl out.2.1))), (31, .inr (.inr (.inl out.2.2)))] := by
  obtain ⟨sh, I, L, Rf⟩ := h
  try dsimp only
  obtain rfl : sh = shM := hsh
  refine k_ofW (by decide) (Nat.le_of_ble_eq_true rfl) ?_
  intro X ad hl hR0 hr C
  have hR : X.R.frames = 0 ∧ X.R.locals = 0 := by rw [hR0]; exact ⟨rfl, rfl⟩
  have h := hf
  unfold f_X11_keepsRow_22 at h
  refine k_start (us := [(22, .inr (.inr (.inl a22))), (31, .inr (.inr (.inl a31)))]) (k_ao_A ea22 (k_ao_A ea31 k_ap_0)) ?_
  show k_W X 6 0 0 _ ad (k_ap [(22, .inr (.inr (.inl a22))), (31, .inr (.inr (.inl a31)))] (shM, I, L, Rf)) 0 [some (.ref 0), some (.int x0), some (.ref 22), some (.int x2), some (.int x3), none] []
  refine k_mask [true, true, true, true, true, false] ?_
  exact sX11_keepsRow_22_0 u C hr hR a22 a31 x0 x2 x3 h
/-! LullabyPitModel.keepsAll(IZ)V -/
theorem ds_X11_keepsAll : k_ds [(0, 0, 42), (20, 2, 0), (22, 2, 0), (31, 2, 0)] = true := by decide +kernel
set_option maxHeartbeats 400000 in
set_option maxRecDepth 100000 in
theorem sX11_keepsAll_0 (u : Nat) {X : k_X} {ad : Nat → Nat} (C : k_C X cX11_keepsAll RX11 4 ad) (hr : X.meth.sig.returnType = none) (hR : X.R.frames = 1 ∧ X.R.locals = 25) {I : Nat → Nat → Int32} {L : Nat → Nat → Int64} {Rf : Nat → Nat → Option Nat} {out : Int32 × (Nat → Int32) × (Nat → Int32) × (Nat → Int32)} : ∀ (c0_42 : Int32) (a20 : (Nat → Int32)) (a22 : (Nat → Int32)) (a31 : (Nat → Int32)) (v1 : Int32) (v2 : Int32), bX11_keepsAll_0 u c0_42 a20 a22 a31 v1 v2 = some out → k_W X 4 0 0 (k_Q X ad none (k_ap [(0, .inl (42, out.1)), (20, .inr (.inr (.inl out.2.1))), (22, .inr (.inr (.inl out.2.2.1))), (31, .inr (.inr (.inl out.2.2.2)))] (shM, I, L, Rf))) ad (k_ap [(0, .inl (42, c0_42)), (20, .inr (.inr (.inl a20))), (22, .inr (.inr (.inl a22))), (31, .inr (.inr (.inl a31)))] (shM, I, L, Rf)) 0 [some (.ref 0), some (.int v1), some (.int v2), none] [] := by
  intro c0_42 a20 a22 a31 v1 v2 h
  unfold bX11_keepsAll_0 at h
  refine r_aload_n C dX11_keepsAll_0 (rfl : 0 + 1 = 1) rfl ?_
  refine r_sipush (v := (1310 : Int32)) C dX11_keepsAll_1 (rfl : 1 + 3 = 4) rfl ?_
  refine r_iload_n C dX11_keepsAll_4 (rfl : 4 + 1 = 5) rfl ?_
  refine r_imul C dX11_keepsAll_5 (rfl : 5 + 1 = 6) ?_
  refine r_aload_n C dX11_keepsAll_6 (rfl : 6 + 1 = 7) rfl ?_
  refine r_getR (q := 20) C dX11_keepsAll_7 (rfl : 7 + 3 = 10) fl_X11_74 rfl rfl ?_
  refine r_bipush (v := (77 : Int32)) C dX11_keepsAll_10 (rfl : 10 + 2 = 12) rfl ?_
  refine r_iload_n C dX11_keepsAll_12 (rfl : 12 + 1 = 13) rfl ?_
  obtain ⟨r13, q13, h⟩ := k_b_of h
  refine d_V (As := [.int ((1310 : Int32) * v1), .ref 20, .int (77 : Int32), .int v2]) (st := []) (st' := [.int r13.1]) (h' := k_ap [(0, .inl (42, c0_42)), (20, .inr (.inr (.inl r13.2.1))), (22, .inr (.inr (.inl a22))), (31, .inr (.inr (.inl r13.2.2)))] (shM, I, L, Rf)) C hR ⟨Nat.zero_le _, Nat.zero_le _⟩ mv_X11_keepsRow lk_X11_493 dX11_keepsAll_13 (rfl : 13 + 3 = 16) rfl rfl rfl rfl (c_X11_keepsRow_20 X.l u (k_ap [(0, .inl (42, c0_42)), (20, .inr (.inr (.inl a20))), (22, .inr (.inr (.inl a22))), (31, .inr (.inr (.inl a31)))] (shM, I, L, Rf)) rfl rfl rfl q13) rfl rfl rfl (k_jn (us' := [(0, .inl (42, c0_42)), (20, .inr (.inr (.inl r13.2.1))), (22, .inr (.inr (.inl a22))), (31, .inr (.inr (.inl r13.2.2)))]) ds_X11_keepsAll rfl rfl rfl) rfl ?_
  refine r_istore_n C dX11_keepsAll_16 (rfl : 16 + 1 = 17) (by decide) (Nat.le_of_ble_eq_true rfl) ?_
  show k_W _ _ _ _ _ _ _ _ [some (.ref 0), some (.int v1), some (.int v2), some (.int r13.1)] _
  refine r_aload_n C dX11_keepsAll_17 (rfl : 17 + 1 = 18) rfl ?_
  refine r_iload_n C dX11_keepsAll_18 (rfl : 18 + 1 = 19) rfl ?_
  refine r_aload_n C dX11_keepsAll_19 (rfl : 19 + 1 = 20) rfl ?_
  refine r_getR (q := 22) C dX11_keepsAll_20 (rfl : 20 + 3 = 23) fl_X11_80 rfl rfl ?_
  refine r_sipush (v := (1232 : Int32)) C dX11_keepsAll_23 (rfl : 23 + 3 = 26) rfl ?_
  refine r_iload_n C dX11_keepsAll_26 (rfl : 26 + 1 = 27) rfl ?_
  obtain ⟨r27, q27, h⟩ := k_b_of h
  refine d_V (As := [.int r13.1, .ref 22, .int (1232 : Int32), .int v2]) (st := []) (st' := [.int r27.1]) (h' := k_ap [(0, .inl (42, c0_42)), (20, .inr (.inr (.inl r13.2.1))), (22, .inr (.inr (.inl r27.2.1))), (31, .inr (.inr (.inl r27.2.2)))] (shM, I, L, Rf)) C hR ⟨Nat.zero_le _, Nat.zero_le _⟩ mv_X11_keepsRow lk_X11_493 dX11_keepsAll_27 (rfl : 27 + 3 = 30) rfl rfl rfl rfl (c_X11_keepsRow_22 X.l u (k_ap [(0, .inl (42, c0_42)), (20, .inr (.inr (.inl r13.2.1))), (22, .inr (.inr (.inl a22))), (31, .inr (.inr (.inl r13.2.2)))] (shM, I, L, Rf)) rfl rfl rfl q27) rfl rfl rfl (k_jn (us' := [(0, .inl (42, c0_42)), (20, .inr (.inr (.inl r13.2.1))), (22, .inr (.inr (.inl r27.2.1))), (31, .inr (.inr (.inl r27.2.2)))]) ds_X11_keepsAll rfl rfl rfl) rfl ?_
  refine r_istore_n C dX11_keepsAll_30 (rfl : 30 + 1 = 31) (by decide) (Nat.le_of_ble_eq_true rfl) ?_
  show k_W _ _ _ _ _ _ _ _ [some (.ref 0), some (.int v1), some (.int v2), some (.int r27.1)] _
  refine r_iload_n C dX11_keepsAll_31 (rfl : 31 + 1 = 32) rfl ?_
  refine r_if_eq (tgt := 48) C dX11_keepsAll_32 (by decide) (rfl : 32 + 3 = 35) (fun c32 => ?_) (fun c32 => ?_)
  · have h := k_t c32 h
    refine r_aload_n C dX11_keepsAll_48 (rfl : 48 + 1 = 49) rfl ?_
    refine r_aload_n C dX11_keepsAll_49 (rfl : 49 + 1 = 50) rfl ?_
    refine r_getR (q := 31) C dX11_keepsAll_50 (rfl : 50 + 3 = 53) fl_X11_108 rfl rfl ?_
    refine r_iload_n C dX11_keepsAll_53 (rfl : 53 + 1 = 54) rfl ?_
    obtain ⟨hi54, h⟩ := k_i_of h
    refine a_i (j := (r27.1).toNatClampNeg) (f := r27.2.2) C dX11_keepsAll_54 (rfl : 54 + 1 = 55) rfl rfl hi54 rfl ?_
    refine p_I (us' := [(0, .inl (42, (r27.2.2 ((r27.1).toNatClampNeg)))), (20, .inr (.inr (.inl r13.2.1))), (22, .inr (.inr (.inl r27.2.1))), (31, .inr (.inr (.inl r27.2.2)))]) C dX11_keepsAll_55 (rfl : 55 + 3 = 58) fp_X11_209 rfl rfl ds_X11_keepsAll rfl rfl rfl ?_
    cases h
    exact r_vret C hr dX11_keepsAll_58
  · have h := k_f c32 h
    refine r_aload_n C dX11_keepsAll_35 (rfl : 35 + 1 = 36) rfl ?_
    refine r_getR (q := 31) C dX11_keepsAll_36 (rfl : 36 + 3 = 39) fl_X11_108 rfl rfl ?_
    refine r_iload_n C dX11_keepsAll_39 (rfl : 39 + 1 = 40) rfl ?_
    refine r_aload_n C dX11_keepsAll_40 (rfl : 40 + 1 = 41) rfl ?_
    refine r_getI (v := c0_42) C dX11_keepsAll_41 (rfl : 41 + 3 = 44) fl_X11_209 rfl rfl rfl ?_
    obtain ⟨hi44, h⟩ := k_i_of h
    refine s_i (j := (r27.1).toNatClampNeg) (f := r27.2.2) (us' := [(0, .inl (42, c0_42)), (20, .inr (.inr (.inl r13.2.1))), (22, .inr (.inr (.inl r27.2.1))), (31, .inr (.inr (.inl (upd r27.2.2 ((r27.1).toNatClampNeg) c0_42))))]) C dX11_keepsAll_44 (rfl : 44 + 1 = 45) rfl rfl hi44 rfl ds_X11_keepsAll rfl rfl rfl ?_
    refine r_goto (tgt := 58) C dX11_keepsAll_45 (by decide) ?_
    cases h
    exact r_vret C hr dX11_keepsAll_58
set_option maxHeartbeats 400000 in
set_option maxRecDepth 100000 in
theorem c_X11_keepsAll (l : Launch) (u : Nat) (h : k_H) (hsh : h.1 = shM) {c0_42 : Int32} (ec0_42 : h.2.1 0 42 = c0_42) {a20 : (Nat → Int32)} (ea20 : h.2.1 20 = a20) {a22 : (Nat → Int32)} (ea22 : h.2.1 22 = a22) {a31 : (Nat → Int32)} (ea31 : h.2.1 31 = a31) {x0 : Int32} {x1 : Int32} {out : Int32 × (Nat → Int32) × (Nat → Int32) × (Nat → Int32)} (hf : f_X11_keepsAll u c0_42 a20 a22 a31 x0 x1 = some out) : k_CT l yX11_keepsAll cX11_keepsAll 4 none 1 25 [.ref 0, .int x0, .int x1] h none [(0, .inl (42, out.1)), (20, .inr (.inr (.inl out.2.1))), (22, .inr (.inr (.inl out.2.2.1))), (31, .inr (.inr (.inl out.2.2.2)))] := by
  obtain ⟨sh, I, L, Rf⟩ := h
  try dsimp only
  obtain rfl : sh = shM := hsh
  refine k_ofW (by decide) (Nat.le_of_ble_eq_true rfl) ?_
  intro X ad hl hR0 hr C
  have hR : X.R.frames = 1 ∧ X.R.locals = 25 := by rw [hR0]; exact ⟨rfl, rfl⟩
  have h := hf
  unfold f_X11_keepsAll at h
  refine k_start (us := [(0, .inl (42, c0_42)), (20, .inr (.inr (.inl a20))), (22, .inr (.inr (.inl a22))), (31, .inr (.inr (.inl a31)))]) (k_ao_I ec0_42 (k_ao_A ea20 (k_ao_A ea22 (k_ao_A ea31 k_ap_0)))) ?_
  show k_W X 4 0 0 _ ad (k_ap [(0, .inl (42, c0_42)), (20, .inr (.inr (.inl a20))), (22, .inr (.inr (.inl a22))), (31, .inr (.inr (.inl a31)))] (shM, I, L, Rf)) 0 [some (.ref 0), some (.int x0), some (.int x1), none] []
  refine k_mask [true, true, true, false] ?_
  exact sX11_keepsAll_0 u C hr hR c0_42 a20 a22 a31 x0 x1 h
