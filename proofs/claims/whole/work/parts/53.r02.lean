/-! LullabyPitModel.readProduct()V -/
theorem ds_X11_readProduct : k_ds [(0, 0, 4), (0, 0, 5), (0, 0, 6), (0, 0, 7), (0, 0, 37), (11, 2, 0), (12, 2, 0)] = true := by decide +kernel
set_option maxHeartbeats 400000 in
set_option maxRecDepth 100000 in
theorem sX11_readProduct_43 (u : Nat) (g : Int32 → Int32 → Int32 → Int32 → Int32 → Int32 → (Nat → Int32) → (Nat → Int32) → (Nat → Int32) → Option (Int32 × Int32 × Int32 × Int32 × Int32 × (Nat → Int32) × (Nat → Int32))) {fg ng : Nat} {X : k_X} {ad : Nat → Nat} (C : k_C X cX11_readProduct RX11 2 ad) (hr : X.meth.sig.returnType = none) (hR : X.R.frames = (fg + 7) ∧ X.R.locals = (ng + 149)) {I : Nat → Nat → Int32} {L : Nat → Nat → Int64} {Rf : Nat → Nat → Option Nat} (hg : H_X11_readSum X.l g fg ng) {c0_3 : Int32} (ec0_3 : I 0 3 = c0_3) {a2 : (Nat → Int32)} (ea2 : I 2 = a2) {out : Int32 × Int32 × Int32 × Int32 × Int32 × (Nat → Int32) × (Nat → Int32)} {k4 : Int32 → Int32 → Int32 → Int32 → Int32 → (Nat → Int32) → (Nat → Int32) → Option (Int32 × Int32 × Int32 × Int32 × Int32 × (Nat → Int32) × (Nat → Int32))} (hk4 : ∀ (c0_4 : Int32) (c0_5 : Int32) (c0_6 : Int32) (c0_7 : Int32) (c0_37 : Int32) (a11 : (Nat → Int32)) (a12 : (Nat → Int32)), k4 c0_4 c0_5 c0_6 c0_7 c0_37 a11 a12 = some out → k_W X 2 0 0 (k_Q X ad none (k_ap [(0, .inl (4, out.1)), (0, .inl (5, out.2.1)), (0, .inl (6, out.2.2.1)), (0, .inl (7, out.2.2.2.1)), (0, .inl (37, out.2.2.2.2.1)), (11, .inr (.inr (.inl out.2.2.2.2.2.1))), (12, .inr (.inr (.inl out.2.2.2.2.2.2)))] (shM, I, L, Rf))) ad (k_ap [(0, .inl (4, c0_4)), (0, .inl (5, c0_5)), (0, .inl (6, c0_6)), (0, .inl (7, c0_7)), (0, .inl (37, c0_37)), (11, .inr (.inr (.inl a11))), (12, .inr (.inr (.inl a12)))] (shM, I, L, Rf)) 4 [some (.ref 0), none] []) : ∀ (c0_4 : Int32) (c0_5 : Int32) (c0_6 : Int32) (c0_7 : Int32) (c0_37 : Int32) (a11 : (Nat → Int32)) (a12 : (Nat → Int32)) (w0 : Int32), bX11_readProduct_43 u g c0_3 a2 k4 c0_4 c0_5 c0_6 c0_7 c0_37 a11 a12 w0 = some out → k_W X 2 0 0 (k_Q X ad none (k_ap [(0, .inl (4, out.1)), (0, .inl (5, out.2.1)), (0, .inl (6, out.2.2.1)), (0, .inl (7, out.2.2.2.1)), (0, .inl (37, out.2.2.2.2.1)), (11, .inr (.inr (.inl out.2.2.2.2.2.1))), (12, .inr (.inr (.inl out.2.2.2.2.2.2)))] (shM, I, L, Rf))) ad (k_ap [(0, .inl (4, c0_4)), (0, .inl (5, c0_5)), (0, .inl (6, c0_6)), (0, .inl (7, c0_7)), (0, .inl (37, c0_37)), (11, .inr (.inr (.inl a11))), (12, .inr (.inr (.inl a12)))] (shM, I, L, Rf)) 43 [some (.ref 0), none] [.int w0] := by
  intro c0_4 c0_5 c0_6 c0_7 c0_37 a11 a12 w0 h
  unfold bX11_readProduct_43 at h
  refine r_istore_n C dX11_readProduct_43 (rfl : 43 + 1 = 44) (by decide) (Nat.le_of_ble_eq_true rfl) ?_
  show k_W _ _ _ _ _ _ _ _ [some (.ref 0), some (.int w0)] _
  refine r_aload_n C dX11_readProduct_44 (rfl : 44 + 1 = 45) rfl ?_
  refine r_dup C dX11_readProduct_45 (rfl : 45 + 1 = 46) rfl ?_
  refine r_getI (v := c0_4) C dX11_readProduct_46 (rfl : 46 + 3 = 49) fl_X11_127 rfl rfl rfl ?_
  refine r_iconst (v := (1 : Int32)) C dX11_readProduct_49 (rfl : 49 + 1 = 50) rfl ?_
  refine r_iadd C dX11_readProduct_50 (rfl : 50 + 1 = 51) ?_
  refine p_I (us' := [(0, .inl (4, (c0_4 + (1 : Int32)))), (0, .inl (5, c0_5)), (0, .inl (6, c0_6)), (0, .inl (7, c0_7)), (0, .inl (37, c0_37)), (11, .inr (.inr (.inl a11))), (12, .inr (.inr (.inl a12)))]) C dX11_readProduct_51 (rfl : 51 + 3 = 54) fp_X11_127 rfl rfl ds_X11_readProduct rfl rfl rfl ?_
  refine r_aload_n C dX11_readProduct_54 (rfl : 54 + 1 = 55) rfl ?_
  obtain ⟨r55, q55, h⟩ := k_b_of h
  refine d_V (As := []) (st := []) (st' := []) (h' := k_ap [(0, .inl (4, r55.1)), (0, .inl (5, r55.2.1)), (0, .inl (6, r55.2.2.1)), (0, .inl (7, r55.2.2.2.1)), (0, .inl (37, r55.2.2.2.2.1)), (11, .inr (.inr (.inl r55.2.2.2.2.2.1))), (12, .inr (.inr (.inl r55.2.2.2.2.2.2)))] (shM, I, L, Rf)) C hR ⟨Nat.zero_le _, Nat.zero_le _⟩ mv_X11_readUnit lk_X11_285 dX11_readProduct_55 (rfl : 55 + 3 = 58) (k_bl (by omega)) (k_bl (by omega)) rfl rfl (c_X11_readUnit X.l u g hg (k_ap [(0, .inl (4, (c0_4 + (1 : Int32)))), (0, .inl (5, c0_5)), (0, .inl (6, c0_6)), (0, .inl (7, c0_7)), (0, .inl (37, c0_37)), (11, .inr (.inr (.inl a11))), (12, .inr (.inr (.inl a12)))] (shM, I, L, Rf)) rfl ec0_3 rfl rfl rfl rfl rfl ea2 rfl rfl q55) rfl rfl rfl (k_jn (us' := [(0, .inl (4, r55.1)), (0, .inl (5, r55.2.1)), (0, .inl (6, r55.2.2.1)), (0, .inl (7, r55.2.2.2.1)), (0, .inl (37, r55.2.2.2.2.1)), (11, .inr (.inr (.inl r55.2.2.2.2.2.1))), (12, .inr (.inr (.inl r55.2.2.2.2.2.2)))]) ds_X11_readProduct rfl rfl rfl) rfl ?_
  refine r_aload_n C dX11_readProduct_58 (rfl : 58 + 1 = 59) rfl ?_
  refine r_iload_n C dX11_readProduct_59 (rfl : 59 + 1 = 60) rfl ?_
  refine r_iconst (v := (0 : Int32)) C dX11_readProduct_60 (rfl : 60 + 1 = 61) rfl ?_
  obtain ⟨r61, q61, h⟩ := k_b_of h
  refine d_V (As := [.int w0, .int (0 : Int32)]) (st := []) (st' := []) (h' := k_ap [(0, .inl (4, r55.1)), (0, .inl (5, r55.2.1)), (0, .inl (6, r55.2.2.1)), (0, .inl (7, r55.2.2.2.1)), (0, .inl (37, r61.1)), (11, .inr (.inr (.inl r61.2.1))), (12, .inr (.inr (.inl r61.2.2)))] (shM, I, L, Rf)) C hR ⟨Nat.zero_le _, Nat.zero_le _⟩ mv_X11_emit lk_X11_282 dX11_readProduct_61 (rfl : 61 + 3 = 64) (k_bl (by omega)) (k_bl (by omega)) rfl rfl (c_X11_emit X.l u (k_ap [(0, .inl (4, r55.1)), (0, .inl (5, r55.2.1)), (0, .inl (6, r55.2.2.1)), (0, .inl (7, r55.2.2.2.1)), (0, .inl (37, r55.2.2.2.2.1)), (11, .inr (.inr (.inl r55.2.2.2.2.2.1))), (12, .inr (.inr (.inl r55.2.2.2.2.2.2)))] (shM, I, L, Rf)) rfl rfl rfl rfl rfl q61) rfl rfl rfl (k_jn (us' := [(0, .inl (4, r55.1)), (0, .inl (5, r55.2.1)), (0, .inl (6, r55.2.2.1)), (0, .inl (7, r55.2.2.2.1)), (0, .inl (37, r61.1)), (11, .inr (.inr (.inl r61.2.1))), (12, .inr (.inr (.inl r61.2.2)))]) ds_X11_readProduct rfl rfl rfl) rfl ?_
  refine r_goto (tgt := 4) C dX11_readProduct_64 (by decide) ?_
  refine k_mask [true, false] ?_
  exact hk4 r55.1 r55.2.1 r55.2.2.1 r55.2.2.2.1 r61.1 r61.2.1 r61.2.2 h
set_option maxHeartbeats 400000 in
set_option maxRecDepth 100000 in
theorem sX11_readProduct_29 (u : Nat) (g : Int32 → Int32 → Int32 → Int32 → Int32 → Int32 → (Nat → Int32) → (Nat → Int32) → (Nat → Int32) → Option (Int32 × Int32 × Int32 × Int32 × Int32 × (Nat → Int32) × (Nat → Int32))) {fg ng : Nat} {X : k_X} {ad : Nat → Nat} (C : k_C X cX11_readProduct RX11 2 ad) (hr : X.meth.sig.returnType = none) (hR : X.R.frames = (fg + 7) ∧ X.R.locals = (ng + 149)) {I : Nat → Nat → Int32} {L : Nat → Nat → Int64} {Rf : Nat → Nat → Option Nat} (hg : H_X11_readSum X.l g fg ng) {c0_3 : Int32} (ec0_3 : I 0 3 = c0_3) {a2 : (Nat → Int32)} (ea2 : I 2 = a2) {out : Int32 × Int32 × Int32 × Int32 × Int32 × (Nat → Int32) × (Nat → Int32)} {k4 : Int32 → Int32 → Int32 → Int32 → Int32 → (Nat → Int32) → (Nat → Int32) → Option (Int32 × Int32 × Int32 × Int32 × Int32 × (Nat → Int32) × (Nat → Int32))} (hk4 : ∀ (c0_4 : Int32) (c0_5 : Int32) (c0_6 : Int32) (c0_7 : Int32) (c0_37 : Int32) (a11 : (Nat → Int32)) (a12 : (Nat → Int32)), k4 c0_4 c0_5 c0_6 c0_7 c0_37 a11 a12 = some out → k_W X 2 0 0 (k_Q X ad none (k_ap [(0, .inl (4, out.1)), (0, .inl (5, out.2.1)), (0, .inl (6, out.2.2.1)), (0, .inl (7, out.2.2.2.1)), (0, .inl (37, out.2.2.2.2.1)), (11, .inr (.inr (.inl out.2.2.2.2.2.1))), (12, .inr (.inr (.inl out.2.2.2.2.2.2)))] (shM, I, L, Rf))) ad (k_ap [(0, .inl (4, c0_4)), (0, .inl (5, c0_5)), (0, .inl (6, c0_6)), (0, .inl (7, c0_7)), (0, .inl (37, c0_37)), (11, .inr (.inr (.inl a11))), (12, .inr (.inr (.inl a12)))] (shM, I, L, Rf)) 4 [some (.ref 0), none] []) : ∀ (c0_4 : Int32) (c0_5 : Int32) (c0_6 : Int32) (c0_7 : Int32) (c0_37 : Int32) (a11 : (Nat → Int32)) (a12 : (Nat → Int32)), bX11_readProduct_29 u g c0_3 a2 k4 c0_4 c0_5 c0_6 c0_7 c0_37 a11 a12 = some out → k_W X 2 0 0 (k_Q X ad none (k_ap [(0, .inl (4, out.1)), (0, .inl (5, out.2.1)), (0, .inl (6, out.2.2.1)), (0, .inl (7, out.2.2.2.1)), (0, .inl (37, out.2.2.2.2.1)), (11, .inr (.inr (.inl out.2.2.2.2.2.1))), (12, .inr (.inr (.inl out.2.2.2.2.2.2)))] (shM, I, L, Rf))) ad (k_ap [(0, .inl (4, c0_4)), (0, .inl (5, c0_5)), (0, .inl (6, c0_6)), (0, .inl (7, c0_7)), (0, .inl (37, c0_37)), (11, .inr (.inr (.inl a11))), (12, .inr (.inr (.inl a12)))] (shM, I, L, Rf)) 29 [some (.ref 0), none] [] := by
  intro c0_4 c0_5 c0_6 c0_7 c0_37 a11 a12 h
  unfold bX11_readProduct_29 at h
  refine r_aload_n C dX11_readProduct_29 (rfl : 29 + 1 = 30) rfl ?_
  obtain ⟨r30, q30, h⟩ := k_b_of h
  refine d_V (As := []) (st := []) (st' := [.int r30.1]) (h' := k_ap [(0, .inl (4, r30.2)), (0, .inl (5, c0_5)), (0, .inl (6, c0_6)), (0, .inl (7, c0_7)), (0, .inl (37, c0_37)), (11, .inr (.inr (.inl a11))), (12, .inr (.inr (.inl a12)))] (shM, I, L, Rf)) C hR ⟨Nat.zero_le _, Nat.zero_le _⟩ mv_X11_here lk_X11_133 dX11_readProduct_30 (rfl : 30 + 3 = 33) (k_bl (by omega)) (k_bl (by omega)) rfl rfl (c_X11_here X.l u (k_ap [(0, .inl (4, c0_4)), (0, .inl (5, c0_5)), (0, .inl (6, c0_6)), (0, .inl (7, c0_7)), (0, .inl (37, c0_37)), (11, .inr (.inr (.inl a11))), (12, .inr (.inr (.inl a12)))] (shM, I, L, Rf)) rfl ec0_3 rfl ea2 q30) rfl rfl rfl (k_jn (us' := [(0, .inl (4, r30.2)), (0, .inl (5, c0_5)), (0, .inl (6, c0_6)), (0, .inl (7, c0_7)), (0, .inl (37, c0_37)), (11, .inr (.inr (.inl a11))), (12, .inr (.inr (.inl a12)))]) ds_X11_readProduct rfl rfl rfl) rfl ?_
  refine r_bipush (v := (42 : Int32)) C dX11_readProduct_33 (rfl : 33 + 2 = 35) rfl ?_
  refine r_icmp_ne (tgt := 42) C dX11_readProduct_35 (by decide) (rfl : 35 + 3 = 38) (fun c35 => ?_) (fun c35 => ?_)
  · have h := k_f c35 h
    refine r_iconst (v := (5 : Int32)) C dX11_readProduct_42 (rfl : 42 + 1 = 43) rfl ?_
    refine k_mask [true, false] ?_
    exact sX11_readProduct_43 u g C hr hR hg ec0_3 ea2 hk4 r30.2 c0_5 c0_6 c0_7 c0_37 a11 a12 (5 : Int32) h
  · have h := k_t c35 h
    refine r_iconst (v := (4 : Int32)) C dX11_readProduct_38 (rfl : 38 + 1 = 39) rfl ?_
    refine r_goto (tgt := 43) C dX11_readProduct_39 (by decide) ?_
    refine k_mask [true, false] ?_
    exact sX11_readProduct_43 u g C hr hR hg ec0_3 ea2 hk4 r30.2 c0_5 c0_6 c0_7 c0_37 a11 a12 (4 : Int32) h
set_option maxHeartbeats 400000 in
set_option maxRecDepth 100000 in
theorem sX11_readProduct_4 (u : Nat) (g : Int32 → Int32 → Int32 → Int32 → Int32 → Int32 → (Nat → Int32) → (Nat → Int32) → (Nat → Int32) → Option (Int32 × Int32 × Int32 × Int32 × Int32 × (Nat → Int32) × (Nat → Int32))) {fg ng : Nat} {X : k_X} {ad : Nat → Nat} (C : k_C X cX11_readProduct RX11 2 ad) (hr : X.meth.sig.returnType = none) (hR : X.R.frames = (fg + 7) ∧ X.R.locals = (ng + 149)) {I : Nat → Nat → Int32} {L : Nat → Nat → Int64} {Rf : Nat → Nat → Option Nat} (hg : H_X11_readSum X.l g fg ng) {c0_3 : Int32} (ec0_3 : I 0 3 = c0_3) {a2 : (Nat → Int32)} (ea2 : I 2 = a2) {out : Int32 × Int32 × Int32 × Int32 × Int32 × (Nat → Int32) × (Nat → Int32)} : ∀ (n : Nat) (c0_4 : Int32) (c0_5 : Int32) (c0_6 : Int32) (c0_7 : Int32) (c0_37 : Int32) (a11 : (Nat → Int32)) (a12 : (Nat → Int32)), bX11_readProduct_4 u g c0_3 a2 n c0_4 c0_5 c0_6 c0_7 c0_37 a11 a12 = some out → k_W X 2 0 0 (k_Q X ad none (k_ap [(0, .inl (4, out.1)), (0, .inl (5, out.2.1)), (0, .inl (6, out.2.2.1)), (0, .inl (7, out.2.2.2.1)), (0, .inl (37, out.2.2.2.2.1)), (11, .inr (.inr (.inl out.2.2.2.2.2.1))), (12, .inr (.inr (.inl out.2.2.2.2.2.2)))] (shM, I, L, Rf))) ad (k_ap [(0, .inl (4, c0_4)), (0, .inl (5, c0_5)), (0, .inl (6, c0_6)), (0, .inl (7, c0_7)), (0, .inl (37, c0_37)), (11, .inr (.inr (.inl a11))), (12, .inr (.inr (.inl a12)))] (shM, I, L, Rf)) 4 [some (.ref 0), none] [] := by
  intro n
  induction n with
  | zero => intro c0_4 c0_5 c0_6 c0_7 c0_37 a11 a12 h; cases h
  | succ n ih =>
    intro c0_4 c0_5 c0_6 c0_7 c0_37 a11 a12 h
    refine r_aload_n C dX11_readProduct_4 (rfl : 4 + 1 = 5) rfl ?_
    obtain ⟨r5, q5, h⟩ := k_b_of h
    refine d_V (As := []) (st := []) (st' := [.int r5]) (h' := k_ap [(0, .inl (4, c0_4)), (0, .inl (5, c0_5)), (0, .inl (6, c0_6)), (0, .inl (7, c0_7)), (0, .inl (37, c0_37)), (11, .inr (.inr (.inl a11))), (12, .inr (.inr (.inl a12)))] (shM, I, L, Rf)) C hR ⟨Nat.zero_le _, Nat.zero_le _⟩ mv_X11_fine lk_X11_149 dX11_readProduct_5 (rfl : 5 + 3 = 8) (k_bl (by omega)) (k_bl (by omega)) rfl rfl (c_X11_fine X.l u (k_ap [(0, .inl (4, c0_4)), (0, .inl (5, c0_5)), (0, .inl (6, c0_6)), (0, .inl (7, c0_7)), (0, .inl (37, c0_37)), (11, .inr (.inr (.inl a11))), (12, .inr (.inr (.inl a12)))] (shM, I, L, Rf)) rfl rfl q5) rfl rfl rfl rfl rfl ?_
    refine r_if_eq (tgt := 67) C dX11_readProduct_8 (by decide) (rfl : 8 + 3 = 11) (fun c8 => ?_) (fun c8 => ?_)
    · have h := k_t c8 h
      cases h
      exact r_vret C hr dX11_readProduct_67
    · have h := k_f c8 h
      refine r_aload_n C dX11_readProduct_11 (rfl : 11 + 1 = 12) rfl ?_
      obtain ⟨r12, q12, h⟩ := k_b_of h
      refine d_V (As := []) (st := []) (st' := [.int r12.1]) (h' := k_ap [(0, .inl (4, r12.2)), (0, .inl (5, c0_5)), (0, .inl (6, c0_6)), (0, .inl (7, c0_7)), (0, .inl (37, c0_37)), (11, .inr (.inr (.inl a11))), (12, .inr (.inr (.inl a12)))] (shM, I, L, Rf)) C hR ⟨Nat.zero_le _, Nat.zero_le _⟩ mv_X11_here lk_X11_133 dX11_readProduct_12 (rfl : 12 + 3 = 15) (k_bl (by omega)) (k_bl (by omega)) rfl rfl (c_X11_here X.l u (k_ap [(0, .inl (4, c0_4)), (0, .inl (5, c0_5)), (0, .inl (6, c0_6)), (0, .inl (7, c0_7)), (0, .inl (37, c0_37)), (11, .inr (.inr (.inl a11))), (12, .inr (.inr (.inl a12)))] (shM, I, L, Rf)) rfl ec0_3 rfl ea2 q12) rfl rfl rfl (k_jn (us' := [(0, .inl (4, r12.2)), (0, .inl (5, c0_5)), (0, .inl (6, c0_6)), (0, .inl (7, c0_7)), (0, .inl (37, c0_37)), (11, .inr (.inr (.inl a11))), (12, .inr (.inr (.inl a12)))]) ds_X11_readProduct rfl rfl rfl) rfl ?_
      refine r_bipush (v := (42 : Int32)) C dX11_readProduct_15 (rfl : 15 + 2 = 17) rfl ?_
      refine r_icmp_eq (tgt := 29) C dX11_readProduct_17 (by decide) (rfl : 17 + 3 = 20) (fun c17 => ?_) (fun c17 => ?_)
      · have h := k_t c17 h
        refine k_mask [true, false] ?_
        exact sX11_readProduct_29 u g C hr hR hg ec0_3 ea2 ih r12.2 c0_5 c0_6 c0_7 c0_37 a11 a12 h
      · have h := k_f c17 h
        refine r_aload_n C dX11_readProduct_20 (rfl : 20 + 1 = 21) rfl ?_
        obtain ⟨r21, q21, h⟩ := k_b_of h
        refine d_V (As := []) (st := []) (st' := [.int r21.1]) (h' := k_ap [(0, .inl (4, r21.2)), (0, .inl (5, c0_5)), (0, .inl (6, c0_6)), (0, .inl (7, c0_7)), (0, .inl (37, c0_37)), (11, .inr (.inr (.inl a11))), (12, .inr (.inr (.inl a12)))] (shM, I, L, Rf)) C hR ⟨Nat.zero_le _, Nat.zero_le _⟩ mv_X11_here lk_X11_133 dX11_readProduct_21 (rfl : 21 + 3 = 24) (k_bl (by omega)) (k_bl (by omega)) rfl rfl (c_X11_here X.l u (k_ap [(0, .inl (4, r12.2)), (0, .inl (5, c0_5)), (0, .inl (6, c0_6)), (0, .inl (7, c0_7)), (0, .inl (37, c0_37)), (11, .inr (.inr (.inl a11))), (12, .inr (.inr (.inl a12)))] (shM, I, L, Rf)) rfl ec0_3 rfl ea2 q21) rfl rfl rfl (k_jn (us' := [(0, .inl (4, r21.2)), (0, .inl (5, c0_5)), (0, .inl (6, c0_6)), (0, .inl (7, c0_7)), (0, .inl (37, c0_37)), (11, .inr (.inr (.inl a11))), (12, .inr (.inr (.inl a12)))]) ds_X11_readProduct rfl rfl rfl) rfl ?_
        refine r_bipush (v := (47 : Int32)) C dX11_readProduct_24 (rfl : 24 + 2 = 26) rfl ?_
        refine r_icmp_ne (tgt := 67) C dX11_readProduct_26 (by decide) (rfl : 26 + 3 = 29) (fun c26 => ?_) (fun c26 => ?_)
        · have h := k_f c26 h
          cases h
          exact r_vret C hr dX11_readProduct_67
        · have h := k_t c26 h
          refine k_mask [true, false] ?_
          exact sX11_readProduct_29 u g C hr hR hg ec0_3 ea2 ih r21.2 c0_5 c0_6 c0_7 c0_37 a11 a12 h
set_option maxHeartbeats 400000 in
set_option maxRecDepth 100000 in
theorem sX11_readProduct_0 (u : Nat) (g : Int32 → Int32 → Int32 → Int32 → Int32 → Int32 → (Nat → Int32) → (Nat → Int32) → (Nat → Int32) → Option (Int32 × Int32 × Int32 × Int32 × Int32 × (Nat → Int32) × (Nat → Int32))) {fg ng : Nat} {X : k_X} {ad : Nat → Nat} (C : k_C X cX11_readProduct RX11 2 ad) (hr : X.meth.sig.returnType = none) (hR : X.R.frames = (fg + 7) ∧ X.R.locals = (ng + 149)) {I : Nat → Nat → Int32} {L : Nat → Nat → Int64} {Rf : Nat → Nat → Option Nat} (hg : H_X11_readSum X.l g fg ng) {c0_3 : Int32} (ec0_3 : I 0 3 = c0_3) {a2 : (Nat → Int32)} (ea2 : I 2 = a2) {out : Int32 × Int32 × Int32 × Int32 × Int32 × (Nat → Int32) × (Nat → Int32)} : ∀ (c0_4 : Int32) (c0_5 : Int32) (c0_6 : Int32) (c0_7 : Int32) (c0_37 : Int32) (a11 : (Nat → Int32)) (a12 : (Nat → Int32)), bX11_readProduct_0 u g c0_3 a2 c0_4 c0_5 c0_6 c0_7 c0_37 a11 a12 = some out → k_W X 2 0 0 (k_Q X ad none (k_ap [(0, .inl (4, out.1)), (0, .inl (5, out.2.1)), (0, .inl (6, out.2.2.1)), (0, .inl (7, out.2.2.2.1)), (0, .inl (37, out.2.2.2.2.1)), (11, .inr (.inr (.inl out.2.2.2.2.2.1))), (12, .inr (.inr (.inl out.2.2.2.2.2.2)))] (shM, I, L, Rf))) ad (k_ap [(0, .inl (4, c0_4)), (0, .inl (5, c0_5)), (0, .inl (6, c0_6)), (0, .inl (7, c0_7)), (0, .inl (37, c0_37)), (11, .inr (.inr (.inl a11))), (12, .inr (.inr (.inl a12)))] (shM, I, L, Rf)) 0 [some (.ref 0), none] [] := by
  intro c0_4 c0_5 c0_6 c0_7 c0_37 a11 a12 h
  unfold bX11_readProduct_0 at h
  refine r_aload_n C dX11_readProduct_0 (rfl : 0 + 1 = 1) rfl ?_
  obtain ⟨r1, q1, h⟩ := k_b_of h
  refine d_V (As := []) (st := []) (st' := []) (h' := k_ap [(0, .inl (4, r1.1)), (0, .inl (5, r1.2.1)), (0, .inl (6, r1.2.2.1)), (0, .inl (7, r1.2.2.2.1)), (0, .inl (37, r1.2.2.2.2.1)), (11, .inr (.inr (.inl r1.2.2.2.2.2.1))), (12, .inr (.inr (.inl r1.2.2.2.2.2.2)))] (shM, I, L, Rf)) C hR ⟨Nat.zero_le _, Nat.zero_le _⟩ mv_X11_readUnit lk_X11_285 dX11_readProduct_1 (rfl : 1 + 3 = 4) (k_bl (by omega)) (k_bl (by omega)) rfl rfl (c_X11_readUnit X.l u g hg (k_ap [(0, .inl (4, c0_4)), (0, .inl (5, c0_5)), (0, .inl (6, c0_6)), (0, .inl (7, c0_7)), (0, .inl (37, c0_37)), (11, .inr (.inr (.inl a11))), (12, .inr (.inr (.inl a12)))] (shM, I, L, Rf)) rfl ec0_3 rfl rfl rfl rfl rfl ea2 rfl rfl q1) rfl rfl rfl (k_jn (us' := [(0, .inl (4, r1.1)), (0, .inl (5, r1.2.1)), (0, .inl (6, r1.2.2.1)), (0, .inl (7, r1.2.2.2.1)), (0, .inl (37, r1.2.2.2.2.1)), (11, .inr (.inr (.inl r1.2.2.2.2.2.1))), (12, .inr (.inr (.inl r1.2.2.2.2.2.2)))]) ds_X11_readProduct rfl rfl rfl) rfl ?_
  refine k_mask [true, false] ?_
  exact sX11_readProduct_4 u g C hr hR hg ec0_3 ea2 u r1.1 r1.2.1 r1.2.2.1 r1.2.2.2.1 r1.2.2.2.2.1 r1.2.2.2.2.2.1 r1.2.2.2.2.2.2 h
set_option maxHeartbeats 400000 in
set_option maxRecDepth 100000 in
theorem c_X11_readProduct (l : Launch) (u : Nat) (g : Int32 → Int32 → Int32 → Int32 → Int32 → Int32 → (Nat → Int32) → (Nat → Int32) → (Nat → Int32) → Option (Int32 × Int32 × Int32 × Int32 × Int32 × (Nat → Int32) × (Nat → Int32))) {fg ng : Nat} (hg : H_X11_readSum l g fg ng) (h : k_H) (hsh : h.1 = shM) {c0_3 : Int32} (ec0_3 : h.2.1 0 3 = c0_3) {c0_4 : Int32} (ec0_4 : h.2.1 0 4 = c0_4) {c0_5 : Int32} (ec0_5 : h.2.1 0 5 = c0_5) {c0_6 : Int32} (ec0_6 : h.2.1 0 6 = c0_6) {c0_7 : Int32} (ec0_7 : h.2.1 0 7 = c0_7) {c0_37 : Int32} (ec0_37 : h.2.1 0 37 = c0_37) {a2 : (Nat → Int32)} (ea2 : h.2.1 2 = a2) {a11 : (Nat → Int32)} (ea11 : h.2.1 11 = a11) {a12 : (Nat → Int32)} (ea12 : h.2.1 12 = a12) {out : Int32 × Int32 × Int32 × Int32 × Int32 × (Nat → Int32) × (Nat → Int32)} (hf : f_X11_readProduct u g c0_3 c0_4 c0_5 c0_6 c0_7 c0_37 a2 a11 a12 = some out) : k_CT l yX11_readProduct cX11_readProduct 2 none (fg + 7) (ng + 149) [.ref 0] h none [(0, .inl (4, out.1)), (0, .inl (5, out.2.1)), (0, .inl (6, out.2.2.1)), (0, .inl (7, out.2.2.2.1)), (0, .inl (37, out.2.2.2.2.1)), (11, .inr (.inr (.inl out.2.2.2.2.2.1))), (12, .inr (.inr (.inl out.2.2.2.2.2.2)))] := by
  obtain ⟨sh, I, L, Rf⟩ := h
  try dsimp only
  obtain rfl : sh = shM := hsh
  refine k_ofW (by decide) (Nat.le_of_ble_eq_true rfl) ?_
  intro X ad hl hR0 hr C
  have hg : H_X11_readSum X.l g fg ng := by rw [hl]; exact hg
  have hR : X.R.frames = (fg + 7) ∧ X.R.locals = (ng + 149) := by rw [hR0]; exact ⟨rfl, rfl⟩
  have h := hf
  unfold f_X11_readProduct at h
  refine k_start (us := [(0, .inl (4, c0_4)), (0, .inl (5, c0_5)), (0, .inl (6, c0_6)), (0, .inl (7, c0_7)), (0, .inl (37, c0_37)), (11, .inr (.inr (.inl a11))), (12, .inr (.inr (.inl a12)))]) (k_ao_I ec0_4 (k_ao_I ec0_5 (k_ao_I ec0_6 (k_ao_I ec0_7 (k_ao_I ec0_37 (k_ao_A ea11 (k_ao_A ea12 k_ap_0))))))) ?_
  show k_W X 2 0 0 _ ad (k_ap [(0, .inl (4, c0_4)), (0, .inl (5, c0_5)), (0, .inl (6, c0_6)), (0, .inl (7, c0_7)), (0, .inl (37, c0_37)), (11, .inr (.inr (.inl a11))), (12, .inr (.inr (.inl a12)))] (shM, I, L, Rf)) 0 [some (.ref 0), none] []
  refine k_mask [true, false] ?_
  exact sX11_readProduct_0 u g C hr hR hg ec0_3 ea2 c0_4 c0_5 c0_6 c0_7 c0_37 a11 a12 h
/-! LullabyPitModel.readSum()V -/
theorem ds_X11_readSum : k_ds [(0, 0, 4), (0, 0, 5), (0, 0, 6), (0, 0, 7), (0, 0, 37), (11, 2, 0), (12, 2, 0)] = true := by decide +kernel
set_option maxHeartbeats 400000 in
set_option maxRecDepth 100000 in
theorem sX11_readSum_43 (u : Nat) (g : Int32 → Int32 → Int32 → Int32 → Int32 → Int32 → (Nat → Int32) → (Nat → Int32) → (Nat → Int32) → Option (Int32 × Int32 × Int32 × Int32 × Int32 × (Nat → Int32) × (Nat → Int32))) {fg ng : Nat} {X : k_X} {ad : Nat → Nat} (C : k_C X cX11_readSum RX11 2 ad) (hr : X.meth.sig.returnType = none) (hR : X.R.frames = (fg + 8) ∧ X.R.locals = (ng + 170)) {I : Nat → Nat → Int32} {L : Nat → Nat → Int64} {Rf : Nat → Nat → Option Nat} (hg : H_X11_readSum X.l g fg ng) {c0_3 : Int32} (ec0_3 : I 0 3 = c0_3) {a2 : (Nat → Int32)} (ea2 : I 2 = a2) {out : Int32 × Int32 × Int32 × Int32 × Int32 × (Nat → Int32) × (Nat → Int32)} {k4 : Int32 → Int32 → Int32 → Int32 → Int32 → (Nat → Int32) → (Nat → Int32) → Option (Int32 × Int32 × Int32 × Int32 × Int32 × (Nat → Int32) × (Nat → Int32))} (hk4 : ∀ (c0_4 : Int32) (c0_5 : Int32) (c0_6 : Int32) (c0_7 : Int32) (c0_37 : Int32) (a11 : (Nat → Int32)) (a12 : (Nat → Int32)), k4 c0_4 c0_5 c0_6 c0_7 c0_37 a11 a12 = some out → k_W X 2 0 0 (k_Q X ad none (k_ap [(0, .inl (4, out.1)), (0, .inl (5, out.2.1)), (0, .inl (6, out.2.2.1)), (0, .inl (7, out.2.2.2.1)), (0, .inl (37, out.2.2.2.2.1)), (11, .inr (.inr (.inl out.2.2.2.2.2.1))), (12, .inr (.inr (.inl out.2.2.2.2.2.2)))] (shM, I, L, Rf))) ad (k_ap [(0, .inl (4, c0_4)), (0, .inl (5, c0_5)), (0, .inl (6, c0_6)), (0, .inl (7, c0_7)), (0, .inl (37, c0_37)), (11, .inr (.inr (.inl a11))), (12, .inr (.inr (.inl a12)))] (shM, I, L, Rf)) 4 [some (.ref 0), none] []) : ∀ (c0_4 : Int32) (c0_5 : Int32) (c0_6 : Int32) (c0_7 : Int32) (c0_37 : Int32) (a11 : (Nat → Int32)) (a12 : (Nat → Int32)) (w0 : Int32), bX11_readSum_43 u g c0_3 a2 k4 c0_4 c0_5 c0_6 c0_7 c0_37 a11 a12 w0 = some out → k_W X 2 0 0 (k_Q X ad none (k_ap [(0, .inl (4, out.1)), (0, .inl (5, out.2.1)), (0, .inl (6, out.2.2.1)), (0, .inl (7, out.2.2.2.1)), (0, .inl (37, out.2.2.2.2.1)), (11, .inr (.inr (.inl out.2.2.2.2.2.1))), (12, .inr (.inr (.inl out.2.2.2.2.2.2)))] (shM, I, L, Rf))) ad (k_ap [(0, .inl (4, c0_4)), (0, .inl (5, c0_5)), (0, .inl (6, c0_6)), (0, .inl (7, c0_7)), (0, .inl (37, c0_37)), (11, .inr (.inr (.inl a11))), (12, .inr (.inr (.inl a12)))] (shM, I, L, Rf)) 43 [some (.ref 0), none] [.int w0] := by
  intro c0_4 c0_5 c0_6 c0_7 c0_37 a11 a12 w0 h
  unfold bX11_readSum_43 at h
  refine r_istore_n C dX11_readSum_43 (rfl : 43 + 1 = 44) (by decide) (Nat.le_of_ble_eq_true rfl) ?_
  show k_W _ _ _ _ _ _ _ _ [some (.ref 0), some (.int w0)] _
  refine r_aload_n C dX11_readSum_44 (rfl : 44 + 1 = 45) rfl ?_
  refine r_dup C dX11_readSum_45 (rfl : 45 + 1 = 46) rfl ?_
  refine r_getI (v := c0_4) C dX11_readSum_46 (rfl : 46 + 3 = 49) fl_X11_127 rfl rfl rfl ?_
  refine r_iconst (v := (1 : Int32)) C dX11_readSum_49 (rfl : 49 + 1 = 50) rfl ?_
  refine r_iadd C dX11_readSum_50 (rfl : 50 + 1 = 51) ?_
  refine p_I (us' := [(0, .inl (4, (c0_4 + (1 : Int32)))), (0, .inl (5, c0_5)), (0, .inl (6, c0_6)), (0, .inl (7, c0_7)), (0, .inl (37, c0_37)), (11, .inr (.inr (.inl a11))), (12, .inr (.inr (.inl a12)))]) C dX11_readSum_51 (rfl : 51 + 3 = 54) fp_X11_127 rfl rfl ds_X11_readSum rfl rfl rfl ?_
  refine r_aload_n C dX11_readSum_54 (rfl : 54 + 1 = 55) rfl ?_
  obtain ⟨r55, q55, h⟩ := k_b_of h
  refine d_V (As := []) (st := []) (st' := []) (h' := k_ap [(0, .inl (4, r55.1)), (0, .inl (5, r55.2.1)), (0, .inl (6, r55.2.2.1)), (0, .inl (7, r55.2.2.2.1)), (0, .inl (37, r55.2.2.2.2.1)), (11, .inr (.inr (.inl r55.2.2.2.2.2.1))), (12, .inr (.inr (.inl r55.2.2.2.2.2.2)))] (shM, I, L, Rf)) C hR ⟨Nat.zero_le _, Nat.zero_le _⟩ mv_X11_readProduct lk_X11_279 dX11_readSum_55 (rfl : 55 + 3 = 58) (k_bl (by omega)) (k_bl (by omega)) rfl rfl (c_X11_readProduct X.l u g hg (k_ap [(0, .inl (4, (c0_4 + (1 : Int32)))), (0, .inl (5, c0_5)), (0, .inl (6, c0_6)), (0, .inl (7, c0_7)), (0, .inl (37, c0_37)), (11, .inr (.inr (.inl a11))), (12, .inr (.inr (.inl a12)))] (shM, I, L, Rf)) rfl ec0_3 rfl rfl rfl rfl rfl ea2 rfl rfl q55) rfl rfl rfl (k_jn (us' := [(0, .inl (4, r55.1)), (0, .inl (5, r55.2.1)), (0, .inl (6, r55.2.2.1)), (0, .inl (7, r55.2.2.2.1)), (0, .inl (37, r55.2.2.2.2.1)), (11, .inr (.inr (.inl r55.2.2.2.2.2.1))), (12, .inr (.inr (.inl r55.2.2.2.2.2.2)))]) ds_X11_readSum rfl rfl rfl) rfl ?_
  refine r_aload_n C dX11_readSum_58 (rfl : 58 + 1 = 59) rfl ?_
  refine r_iload_n C dX11_readSum_59 (rfl : 59 + 1 = 60) rfl ?_
  refine r_iconst (v := (0 : Int32)) C dX11_readSum_60 (rfl : 60 + 1 = 61) rfl ?_
  obtain ⟨r61, q61, h⟩ := k_b_of h
  refine d_V (As := [.int w0, .int (0 : Int32)]) (st := []) (st' := []) (h' := k_ap [(0, .inl (4, r55.1)), (0, .inl (5, r55.2.1)), (0, .inl (6, r55.2.2.1)), (0, .inl (7, r55.2.2.2.1)), (0, .inl (37, r61.1)), (11, .inr (.inr (.inl r61.2.1))), (12, .inr (.inr (.inl r61.2.2)))] (shM, I, L, Rf)) C hR ⟨Nat.zero_le _, Nat.zero_le _⟩ mv_X11_emit lk_X11_282 dX11_readSum_61 (rfl : 61 + 3 = 64) (k_bl (by omega)) (k_bl (by omega)) rfl rfl (c_X11_emit X.l u (k_ap [(0, .inl (4, r55.1)), (0, .inl (5, r55.2.1)), (0, .inl (6, r55.2.2.1)), (0, .inl (7, r55.2.2.2.1)), (0, .inl (37, r55.2.2.2.2.1)), (11, .inr (.inr (.inl r55.2.2.2.2.2.1))), (12, .inr (.inr (.inl r55.2.2.2.2.2.2)))] (shM, I, L, Rf)) rfl rfl rfl rfl rfl q61) rfl rfl rfl (k_jn (us' := [(0, .inl (4, r55.1)), (0, .inl (5, r55.2.1)), (0, .inl (6, r55.2.2.1)), (0, .inl (7, r55.2.2.2.1)), (0, .inl (37, r61.1)), (11, .inr (.inr (.inl r61.2.1))), (12, .inr (.inr (.inl r61.2.2)))]) ds_X11_readSum rfl rfl rfl) rfl ?_
  refine r_goto (tgt := 4) C dX11_readSum_64 (by decide) ?_
  refine k_mask [true, false] ?_
  exact hk4 r55.1 r55.2.1 r55.2.2.1 r55.2.2.2.1 r61.1 r61.2.1 r61.2.2 h
set_option maxHeartbeats 400000 in
set_option maxRecDepth 100000 in
theorem sX11_readSum_29 (u : Nat) (g : Int32 → Int32 → Int32 → Int32 → Int32 → Int32 → (Nat → Int32) → (Nat → Int32) → (Nat → Int32) → Option (Int32 × Int32 × Int32 × Int32 × Int32 × (Nat → Int32) × (Nat → Int32))) {fg ng : Nat} {X : k_X} {ad : Nat → Nat} (C : k_C X cX11_readSum RX11 2 ad) (hr : X.meth.sig.returnType = none) (hR : X.R.frames = (fg + 8) ∧ X.R.locals = (ng + 170)) {I : Nat → Nat → Int32} {L : Nat → Nat → Int64} {Rf : Nat → Nat → Option Nat} (hg : H_X11_readSum X.l g fg ng) {c0_3 : Int32} (ec0_3 : I 0 3 = c0_3) {a2 : (Nat → Int32)} (ea2 : I 2 = a2) {out : Int32 × Int32 × Int32 × Int32 × Int32 × (Nat → Int32) × (Nat → Int32)} {k4 : Int32 → Int32 → Int32 → Int32 → Int32 → (Nat → Int32) → (Nat → Int32) → Option (Int32 × Int32 × Int32 × Int32 × Int32 × (Nat → Int32) × (Nat → Int32))} (hk4 : ∀ (c0_4 : Int32) (c0_5 : Int32) (c0_6 : Int32) (c0_7 : Int32) (c0_37 : Int32) (a11 : (Nat → Int32)) (a12 : (Nat → Int32)), k4 c0_4 c0_5 c0_6 c0_7 c0_37 a11 a12 = some out → k_W X 2 0 0 (k_Q X ad none (k_ap [(0, .inl (4, out.1)), (0, .inl (5, out.2.1)), (0, .inl (6, out.2.2.1)), (0, .inl (7, out.2.2.2.1)), (0, .inl (37, out.2.2.2.2.1)), (11, .inr (.inr (.inl out.2.2.2.2.2.1))), (12, .inr (.inr (.inl out.2.2.2.2.2.2)))] (shM, I, L, Rf))) ad (k_ap [(0, .inl (4, c0_4)), (0, .inl (5, c0_5)), (0, .inl (6, c0_6)), (0, .inl (7, c0_7)), (0, .inl (37, c0_37)), (11, .inr (.inr (.inl a11))), (12, .inr (.inr (.inl a12)))] (shM, I, L, Rf)) 4 [some (.ref 0), none] []) : ∀ (c0_4 : Int32) (c0_5 : Int32) (c0_6 : Int32) (c0_7 : Int32) (c0_37 : Int32) (a11 : (Nat → Int32)) (a12 : (Nat → Int32)), bX11_readSum_29 u g c0_3 a2 k4 c0_4 c0_5 c0_6 c0_7 c0_37 a11 a12 = some out → k_W X 2 0 0 (k_Q X ad none (k_ap [(0, .inl (4, out.1)), (0, .inl (5, out.2.1)), (0, .inl (6, out.2.2.1)), (0, .inl (7, out.2.2.2.1)), (0, .inl (37, out.2.2.2.2.1)), (11, .inr (.inr (.inl out.2.2.2.2.2.1))), (12, .inr (.inr (.inl out.2.2.2.2.2.2)))] (shM, I, L, Rf))) ad (k_ap [(0, .inl (4, c0_4)), (0, .inl (5, c0_5)), (0, .inl (6, c0_6)), (0, .inl (7, c0_7)), (0, .inl (37, c0_37)), (11, .inr (.inr (.inl a11))), (12, .inr (.inr (.inl a12)))] (shM, I, L, Rf)) 29 [some (.ref 0), none] [] := by
  intro c0_4 c0_5 c0_6 c0_7 c0_37 a11 a12 h
  unfold bX11_readSum_29 at h
  refine r_aload_n C dX11_readSum_29 (rfl : 29 + 1 = 30) rfl ?_
  obtain ⟨r30, q30, h⟩ := k_b_of h
  refine d_V (As := []) (st := []) (st' := [.int r30.1]) (h' := k_ap [(0, .inl (4, r30.2)), (0, .inl (5, c0_5)), (0, .inl (6, c0_6)), (0, .inl (7, c0_7)), (0, .inl (37, c0_37)), (11, .inr (.inr (.inl a11))), (12, .inr (.inr (.inl a12)))] (shM, I, L, Rf)) C hR ⟨Nat.zero_le _, Nat.zero_le _⟩ mv_X11_here lk_X11_133 dX11_readSum_30 (rfl : 30 + 3 = 33) (k_bl (by omega)) (k_bl (by omega)) rfl rfl (c_X11_here X.l u (k_ap [(0, .inl (4, c0_4)), (0, .inl (5, c0_5)), (0, .inl (6, c0_6)), (0, .inl (7, c0_7)), (0, .inl (37, c0_37)), (11, .inr (.inr (.inl a11))), (12, .inr (.inr (.inl a12)))] (shM, I, L, Rf)) rfl ec0_3 rfl ea2 q30) rfl rfl rfl (k_jn (us' := [(0, .inl (4, r30.2)), (0, .inl (5, c0_5)), (0, .inl (6, c0_6)), (0, .inl (7, c0_7)), (0, .inl (37, c0_37)), (11, .inr (.inr (.inl a11))), (12, .inr (.inr (.inl a12)))]) ds_X11_readSum rfl rfl rfl) rfl ?_
  refine r_bipush (v := (43 : Int32)) C dX11_readSum_33 (rfl : 33 + 2 = 35) rfl ?_
  refine r_icmp_ne (tgt := 42) C dX11_readSum_35 (by decide) (rfl : 35 + 3 = 38) (fun c35 => ?_) (fun c35 => ?_)
  · have h := k_f c35 h
    refine r_iconst (v := (3 : Int32)) C dX11_readSum_42 (rfl : 42 + 1 = 43) rfl ?_
    refine k_mask [true, false] ?_
    exact sX11_readSum_43 u g C hr hR hg ec0_3 ea2 hk4 r30.2 c0_5 c0_6 c0_7 c0_37 a11 a12 (3 : Int32) h
  · have h := k_t c35 h
    refine r_iconst (v := (2 : Int32)) C dX11_readSum_38 (rfl : 38 + 1 = 39) rfl ?_
    refine r_goto (tgt := 43) C dX11_readSum_39 (by decide) ?_
    refine k_mask [true, false] ?_
    exact sX11_readSum_43 u g C hr hR hg ec0_3 ea2 hk4 r30.2 c0_5 c0_6 c0_7 c0_37 a11 a12 (2 : Int32) h
set_option maxHeartbeats 400000 in
set_option maxRecDepth 100000 in
theorem sX11_readSum_4 (u : Nat) (g : Int32 → Int32 → Int32 → Int32 → Int32 → Int32 → (Nat → Int32) → (Nat → Int32) → (Nat → Int32) → Option (Int32 × Int32 × Int32 × Int32 × Int32 × (Nat → Int32) × (Nat → Int32))) {fg ng : Nat} {X : k_X} {ad : Nat → Nat} (C : k_C X cX11_readSum RX11 2 ad) (hr : X.meth.sig.returnType = none) (hR : X.R.frames = (fg + 8) ∧ X.R.locals = (ng + 170)) {I : Nat → Nat → Int32} {L : Nat → Nat → Int64} {Rf : Nat → Nat → Option Nat} (hg : H_X11_readSum X.l g fg ng) {c0_3 : Int32} (ec0_3 : I 0 3 = c0_3) {a2 : (Nat → Int32)} (ea2 : I 2 = a2) {out : Int32 × Int32 × Int32 × Int32 × Int32 × (Nat → Int32) × (Nat → Int32)} : ∀ (n : Nat) (c0_4 : Int32) (c0_5 : Int32) (c0_6 : Int32) (c0_7 : Int32) (c0_37 : Int32) (a11 : (Nat → Int32)) (a12 : (Nat → Int32)), bX11_readSum_4 u g c0_3 a2 n c0_4 c0_5 c0_6 c0_7 c0_37 a11 a12 = some out → k_W X 2 0 0 (k_Q X ad none (k_ap [(0, .inl (4, out.1)), (0, .inl (5, out.2.1)), (0, .inl (6, out.2.2.1)), (0, .inl (7, out.2.2.2.1)), (0, .inl (37, out.2.2.2.2.1)), (11, .inr (.inr (.inl out.2.2.2.2.2.1))), (12, .inr (.inr (.inl out.2.2.2.2.2.2)))] (shM, I, L, Rf))) ad (k_ap [(0, .inl (4, c0_4)), (0, .inl (5, c0_5)), (0, .inl (6, c0_6)), (0, .inl (7, c0_7)), (0, .inl (37, c0_37)), (11, .inr (.inr (.inl a11))), (12, .inr (.inr (.inl a12)))] (shM, I, L, Rf)) 4 [some (.ref 0), none] [] := by
  intro n
  induction n with
  | zero => intro c0_4 c0_5 c0_6 c0_7 c0_37 a11 a12 h; cases h
  | succ n ih =>
    intro c0_4 c0_5 c0_6 c0_7 c0_37 a11 a12 h
    refine r_aload_n C dX11_readSum_4 (rfl : 4 + 1 = 5) rfl ?_
    obtain ⟨r5, q5, h⟩ := k_b_of h
    refine d_V (As := []) (st := []) (st' := [.int r5]) (h' := k_ap [(0, .inl (4, c0_4)), (0, .inl (5, c0_5)), (0, .inl (6, c0_6)), (0, .inl (7, c0_7)), (0, .inl (37, c0_37)), (11, .inr (.inr (.inl a11))), (12, .inr (.inr (.inl a12)))] (shM, I, L, Rf)) C hR ⟨Nat.zero_le _, Nat.zero_le _⟩ mv_X11_fine lk_X11_149 dX11_readSum_5 (rfl : 5 + 3 = 8) (k_bl (by omega)) (k_bl (by omega)) rfl rfl (c_X11_fine X.l u (k_ap [(0, .inl (4, c0_4)), (0, .inl (5, c0_5)), (0, .inl (6, c0_6)), (0, .inl (7, c0_7)), (0, .inl (37, c0_37)), (11, .inr (.inr (.inl a11))), (12, .inr (.inr (.inl a12)))] (shM, I, L, Rf)) rfl rfl q5) rfl rfl rfl rfl rfl ?_
    refine r_if_eq (tgt := 67) C dX11_readSum_8 (by decide) (rfl : 8 + 3 = 11) (fun c8 => ?_) (fun c8 => ?_)
    · have h := k_t c8 h
      cases h
      exact r_vret C hr dX11_readSum_67
    · have h := k_f c8 h
      refine r_aload_n C dX11_readSum_11 (rfl : 11 + 1 = 12) rfl ?_
      obtain ⟨r12, q12, h⟩ := k_b_of h
      refine d_V (As := []) (st := []) (st' := [.int r12.1]) (h' := k_ap [(0, .inl (4, r12.2)), (0, .inl (5, c0_5)), (0, .inl (6, c0_6)), (0, .inl (7, c0_7)), (0, .inl (37, c0_37)), (11, .inr (.inr (.inl a11))), (12, .inr (.inr (.inl a12)))] (shM, I, L, Rf)) C hR ⟨Nat.zero_le _, Nat.zero_le _⟩ mv_X11_here lk_X11_133 dX11_readSum_12 (rfl : 12 + 3 = 15) (k_bl (by omega)) (k_bl (by omega)) rfl rfl (c_X11_here X.l u (k_ap [(0, .inl (4, c0_4)), (0, .inl (5, c0_5)), (0, .inl (6, c0_6)), (0, .inl (7, c0_7)), (0, .inl (37, c0_37)), (11, .inr (.inr (.inl a11))), (12, .inr (.inr (.inl a12)))] (shM, I, L, Rf)) rfl ec0_3 rfl ea2 q12) rfl rfl rfl (k_jn (us' := [(0, .inl (4, r12.2)), (0, .inl (5, c0_5)), (0, .inl (6, c0_6)), (0, .inl (7, c0_7)), (0, .inl (37, c0_37)), (11, .inr (.inr (.inl a11))), (12, .inr (.inr (.inl a12)))]) ds_X11_readSum rfl rfl rfl) rfl ?_
      refine r_bipush (v := (43 : Int32)) C dX11_readSum_15 (rfl : 15 + 2 = 17) rfl ?_
      refine r_icmp_eq (tgt := 29) C dX11_readSum_17 (by decide) (rfl : 17 + 3 = 20) (fun c17 => ?_) (fun c17 => ?_)
      · have h := k_t c17 h
        refine k_mask [true, false] ?_
        exact sX11_readSum_29 u g C hr hR hg ec0_3 ea2 ih r12.2 c0_5 c0_6 c0_7 c0_37 a11 a12 h
      · have h := k_f c17 h
        refine r_aload_n C dX11_readSum_20 (rfl : 20 + 1 = 21) rfl ?_
        obtain ⟨r21, q21, h⟩ := k_b_of h
        refine d_V (As := []) (st := []) (st' := [.int r21.1]) (h' := k_ap [(0, .inl (4, r21.2)), (0, .inl (5, c0_5)), (0, .inl (6, c0_6)), (0, .inl (7, c0_7)), (0, .inl (37, c0_37)), (11, .inr (.inr (.inl a11))), (12, .inr (.inr (.inl a12)))] (shM, I, L, Rf)) C hR ⟨Nat.zero_le _, Nat.zero_le _⟩ mv_X11_here lk_X11_133 dX11_readSum_21 (rfl : 21 + 3 = 24) (k_bl (by omega)) (k_bl (by omega)) rfl rfl (c_X11_here X.l u (k_ap [(0, .inl (4, r12.2)), (0, .inl (5, c0_5)), (0, .inl (6, c0_6)), (0, .inl (7, c0_7)), (0, .inl (37, c0_37)), (11, .inr (.inr (.inl a11))), (12, .inr (.inr (.inl a12)))] (shM, I, L, Rf)) rfl ec0_3 rfl ea2 q21) rfl rfl rfl (k_jn (us' := [(0, .inl (4, r21.2)), (0, .inl (5, c0_5)), (0, .inl (6, c0_6)), (0, .inl (7, c0_7)), (0, .inl (37, c0_37)), (11, .inr (.inr (.inl a11))), (12, .inr (.inr (.inl a12)))]) ds_X11_readSum rfl rfl rfl) rfl ?_
        refine r_bipush (v := (45 : Int32)) C dX11_readSum_24 (rfl : 24 + 2 = 26) rfl ?_
        refine r_icmp_ne (tgt := 67) C dX11_readSum_26 (by decide) (rfl : 26 + 3 = 29) (fun c26 => ?_) (fun c26 => ?_)
        · have h := k_f c26 h
          cases h
          exact r_vret C hr dX11_readSum_67
        · have h := k_t c26 h
          refine k_mask [true, false] ?_
          exact sX11_readSum_29 u g C hr hR hg ec0_3 ea2 ih r21.2 c0_5 c0_6 c0_7 c0_37 a11 a12 h
set_option maxHeartbeats 400000 in
set_option maxRecDepth 100000 in
theorem sX11_readSum_0 (u : Nat) (g : Int32 → Int32 → Int32 → Int32 → Int32 → Int32 → (Nat → Int32) → (Nat → Int32) → (Nat → Int32) → Option (Int32 × Int32 × Int32 × Int32 × Int32 × (Nat → Int32) × (Nat → Int32))) {fg ng : Nat} {X : k_X} {ad : Nat → Nat} (C : k_C X cX11_readSum RX11 2 ad) (hr : X.meth.sig.returnType = none) (hR : X.R.frames = (fg + 8) ∧ X.R.locals = (ng + 170)) {I : Nat → Nat → Int32} {L : Nat → Nat → Int64} {Rf : Nat → Nat → Option Nat} (hg : H_X11_readSum X.l g fg ng) {c0_3 : Int32} (ec0_3 : I 0 3 = c0_3) {a2 : (Nat → Int32)} (ea2 : I 2 = a2) {out : Int32 × Int32 × Int32 × Int32 × Int32 × (Nat → Int32) × (Nat → Int32)} : ∀ (c0_4 : Int32) (c0_5 : Int32) (c0_6 : Int32) (c0_7 : Int32) (c0_37 : Int32) (a11 : (Nat → Int32)) (a12 : (Nat → Int32)), bX11_readSum_0 u g c0_3 a2 c0_4 c0_5 c0_6 c0_7 c0_37 a11 a12 = some out → k_W X 2 0 0 (k_Q X ad none (k_ap [(0, .inl (4, out.1)), (0, .inl (5, out.2.1)), (0, .inl (6, out.2.2.1)), (0, .inl (7, out.2.2.2.1)), (0, .inl (37, out.2.2.2.2.1)), (11, .inr (.inr (.inl out.2.2.2.2.2.1))), (12, .inr (.inr (.inl out.2.2.2.2.2.2)))] (shM, I, L, Rf))) ad (k_ap [(0, .inl (4, c0_4)), (0, .inl (5, c0_5)), (0, .inl (6, c0_6)), (0, .inl (7, c0_7)), (0, .inl (37, c0_37)), (11, .inr (.inr (.inl a11))), (12, .inr (.inr (.inl a12)))] (shM, I, L, Rf)) 0 [some (.ref 0), none] [] := by
  intro c0_4 c0_5 c0_6 c0_7 c0_37 a11 a12 h
  unfold bX11_readSum_0 at h
  refine r_aload_n C dX11_readSum_0 (rfl : 0 + 1 = 1) rfl ?_
  obtain ⟨r1, q1, h⟩ := k_b_of h
  refine d_V (As := []) (st := []) (st' := []) (h' := k_ap [(0, .inl (4, r1.1)), (0, .inl (5, r1.2.1)), (0, .inl (6, r1.2.2.1)), (0, .inl (7, r1.2.2.2.1)), (0, .inl (37, r1.2.2.2.2.1)), (11, .inr (.inr (.inl r1.2.2.2.2.2.1))), (12, .inr (.inr (.inl r1.2.2.2.2.2.2)))] (shM, I, L, Rf)) C hR ⟨Nat.zero_le _, Nat.zero_le _⟩ mv_X11_readProduct lk_X11_279 dX11_readSum_1 (rfl : 1 + 3 = 4) (k_bl (by omega)) (k_bl (by omega)) rfl rfl (c_X11_readProduct X.l u g hg (k_ap [(0, .inl (4, c0_4)), (0, .inl (5, c0_5)), (0, .inl (6, c0_6)), (0, .inl (7, c0_7)), (0, .inl (37, c0_37)), (11, .inr (.inr (.inl a11))), (12, .inr (.inr (.inl a12)))] (shM, I, L, Rf)) rfl ec0_3 rfl rfl rfl rfl rfl ea2 rfl rfl q1) rfl rfl rfl (k_jn (us' := [(0, .inl (4, r1.1)), (0, .inl (5, r1.2.1)), (0, .inl (6, r1.2.2.1)), (0, .inl (7, r1.2.2.2.1)), (0, .inl (37, r1.2.2.2.2.1)), (11, .inr (.inr (.inl r1.2.2.2.2.2.1))), (12, .inr (.inr (.inl r1.2.2.2.2.2.2)))]) ds_X11_readSum rfl rfl rfl) rfl ?_
  refine k_mask [true, false] ?_
  exact sX11_readSum_4 u g C hr hR hg ec0_3 ea2 u r1.1 r1.2.1 r1.2.2.1 r1.2.2.2.1 r1.2.2.2.2.1 r1.2.2.2.2.2.1 r1.2.2.2.2.2.2 h
set_option maxHeartbeats 400000 in
set_option maxRecDepth 100000 in
theorem c_X11_readSum (l : Launch) (u : Nat) (g : Int32 → Int32 → Int32 → Int32 → Int32 → Int32 → (Nat → Int32) → (Nat → Int32) → (Nat → Int32) → Option (Int32 × Int32 × Int32 × Int32 × Int32 × (Nat → Int32) × (Nat → Int32))) {fg ng : Nat} (hg : H_X11_readSum l g fg ng) (h : k_H) (hsh : h.1 = shM) {c0_3 : Int32} (ec0_3 : h.2.1 0 3 = c0_3) {c0_4 : Int32} (ec0_4 : h.2.1 0 4 = c0_4) {c0_5 : Int32} (ec0_5 : h.2.1 0 5 = c0_5) {c0_6 : Int32} (ec0_6 : h.2.1 0 6 = c0_6) {c0_7 : Int32} (ec0_7 : h.2.1 0 7 = c0_7) {c0_37 : Int32} (ec0_37 : h.2.1 0 37 = c0_37) {a2 : (Nat → Int32)} (ea2 : h.2.1 2 = a2) {a11 : (Nat → Int32)} (ea11 : h.2.1 11 = a11) {a12 : (Nat → Int32)} (ea12 : h.2.1 12 = a12) {out : Int32 × Int32 × Int32 × Int32 × Int32 × (Nat → Int32) × (Nat → Int32)} (hf : f_X11_readSum u g c0_3 c0_4 c0_5 c0_6 c0_7 c0_37 a2 a11 a12 = some out) : k_CT l yX11_readSum cX11_readSum 2 none (fg + 8) (ng + 170) [.ref 0] h none [(0, .inl (4, out.1)), (0, .inl (5, out.2.1)), (0, .inl (6, out.2.2.1)), (0, .inl (7, out.2.2.2.1)), (0, .inl (37, out.2.2.2.2.1)), (11, .inr (.inr (.inl out.2.2.2.2.2.1))), (12, .inr (.inr (.inl out.2.2.2.2.2.2)))] := by
  obtain ⟨sh, I, L, Rf⟩ := h
  try dsimp only
  obtain rfl : sh = shM := hsh
  refine k_ofW (by decide) (Nat.le_of_ble_eq_true rfl) ?_
  intro X ad hl hR0 hr C
  have hg : H_X11_readSum X.l g fg ng := by rw [hl]; exact hg
  have hR : X.R.frames = (fg + 8) ∧ X.R.locals = (ng + 170) := by rw [hR0]; exact ⟨rfl, rfl⟩
  have h := hf
  unfold f_X11_readSum at h
  refine k_start (us := [(0, .inl (4, c0_4)), (0, .inl (5, c0_5)), (0, .inl (6, c0_6)), (0, .inl (7, c0_7)), (0, .inl (37, c0_37)), (11, .inr (.inr (.inl a11))), (12, .inr (.inr (.inl a12)))]) (k_ao_I ec0_4 (k_ao_I ec0_5 (k_ao_I ec0_6 (k_ao_I ec0_7 (k_ao_I ec0_37 (k_ao_A ea11 (k_ao_A ea12 k_ap_0))))))) ?_
  show k_W X 2 0 0 _ ad (k_ap [(0, .inl (4, c0_4)), (0, .inl (5, c0_5)), (0, .inl (6, c0_6)), (0, .inl (7, c0_7)), (0, .inl (37, c0_37)), (11, .inr (.inr (.inl a11))), (12, .inr (.inr (.inl a12)))] (shM, I, L, Rf)) 0 [some (.ref 0), none] []
  refine k_mask [true, false] ?_
  exact sX11_readSum_0 u g C hr hR hg ec0_3 ea2 c0_4 c0_5 c0_6 c0_7 c0_37 a11 a12 h
theorem c_X11_readSum_r (l : Launch) (u : Nat) : ∀ d : Nat, H_X11_readSum l (f_X11_readSum_r u d) (8 * d) (170 * d)
  | 0 => by
    intro h hsh
    intros
    rename_i hf
    cases hf
  | d + 1 => by
    intro h hsh
    intros
    rename_i hf
    exact c_X11_readSum l u (f_X11_readSum_r u d) (c_X11_readSum_r l u d) h hsh (by assumption) (by assumption) (by assumption) (by assumption) (by assumption) (by assumption) (by assumption) (by assumption) (by assumption) hf
def H_X11_readStep (l : Launch) (g : Int32 → Int32 → Int32 → Int32 → Int32 → Int32 → Int32 → Int32 → (Nat → Int32) → (Nat → Int32) → Option (Int32 × Int32 × Int32 × Int32 × Int32 × (Nat → Int32))) (fg ng : Nat) : Prop := ∀ (h : k_H) (hsh : h.1 = shM) {c0_3 : Int32} (ec0_3 : h.2.1 0 3 = c0_3) {c0_4 : Int32} (ec0_4 : h.2.1 0 4 = c0_4) {c0_5 : Int32} (ec0_5 : h.2.1 0 5 = c0_5) {c0_6 : Int32} (ec0_6 : h.2.1 0 6 = c0_6) {c0_7 : Int32} (ec0_7 : h.2.1 0 7 = c0_7) {c0_25 : Int32} (ec0_25 : h.2.1 0 25 = c0_25) {c0_26 : Int32} (ec0_26 : h.2.1 0 26 = c0_26) {c0_41 : Int32} (ec0_41 : h.2.1 0 41 = c0_41) {a2 : (Nat → Int32)} (ea2 : h.2.1 2 = a2) {a18 : (Nat → Int32)} (ea18 : h.2.1 18 = a18) {out : Int32 × Int32 × Int32 × Int32 × Int32 × (Nat → Int32)} (hf : g c0_3 c0_4 c0_5 c0_6 c0_7 c0_25 c0_26 c0_41 a2 a18 = some out), k_CT l yX11_readStep cX11_readStep 4 none fg ng [.ref 0] h none [(0, .inl (4, out.1)), (0, .inl (5, out.2.1)), (0, .inl (6, out.2.2.1)), (0, .inl (7, out.2.2.2.1)), (0, .inl (41, out.2.2.2.2.1)), (18, .inr (.inr (.inl out.2.2.2.2.2)))]
