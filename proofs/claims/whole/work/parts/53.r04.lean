/-! LullabyPitModel.goesSteps(II)V -/
theorem ds_X11_goesSteps : k_ds [(0, 0, 44), (0, 0, 45), (0, 0, 46), (16, 2, 0), (17, 2, 0), (21, 2, 0), (23, 2, 0), (24, 2, 0)] = true := by decide +kernel
set_option maxHeartbeats 400000 in
set_option maxRecDepth 100000 in
theorem sX11_goesSteps_88 (u : Nat) (g : Int32 → Int32 → Int32 → Int32 → Int32 → Int32 → Int32 → Int32 → (Nat → Int32) → (Nat → Int32) → (Nat → Int32) → (Nat → Int32) → (Nat → Int32) → (Nat → Int32) → (Nat → Int32) → (Nat → Int32) → (Nat → Int32) → (Nat → Int32) → (Nat → Int32) → (Nat → Int32) → (Nat → Int32) → Int32 → Int32 → Option (Int32 × Int32 × Int32 × (Nat → Int32) × (Nat → Int32) × (Nat → Int32) × (Nat → Int32) × (Nat → Int32))) {fg ng : Nat} {X : k_X} {ad : Nat → Nat} (C : k_C X cX11_goesSteps RX11 6 ad) (hr : X.meth.sig.returnType = none) (hR : X.R.frames = (fg + 7) ∧ X.R.locals = (ng + 156)) {I : Nat → Nat → Int32} {L : Nat → Nat → Int64} {Rf : Nat → Nat → Option Nat} (hg : H_X11_goesSteps X.l g fg ng) {c0_25 : Int32} (ec0_25 : I 0 25 = c0_25) {c0_26 : Int32} (ec0_26 : I 0 26 = c0_26) {c0_27 : Int32} (ec0_27 : I 0 27 = c0_27) {c0_28 : Int32} (ec0_28 : I 0 28 = c0_28) {c0_30 : Int32} (ec0_30 : I 0 30 = c0_30) {a7 : (Nat → Int32)} (ea7 : I 7 = a7) {a8 : (Nat → Int32)} (ea8 : I 8 = a8) {a9 : (Nat → Int32)} (ea9 : I 9 = a9) {a10 : (Nat → Int32)} (ea10 : I 10 = a10) {a13 : (Nat → Int32)} (ea13 : I 13 = a13) {a14 : (Nat → Int32)} (ea14 : I 14 = a14) {a15 : (Nat → Int32)} (ea15 : I 15 = a15) {a19 : (Nat → Int32)} (ea19 : I 19 = a19) {out : Int32 × Int32 × Int32 × (Nat → Int32) × (Nat → Int32) × (Nat → Int32) × (Nat → Int32) × (Nat → Int32)} {k2 : Int32 → Int32 → Int32 → (Nat → Int32) → (Nat → Int32) → (Nat → Int32) → (Nat → Int32) → (Nat → Int32) → Int32 → Int32 → Option (Int32 × Int32 × Int32 × (Nat → Int32) × (Nat → Int32) × (Nat → Int32) × (Nat → Int32) × (Nat → Int32))} (hk2 : ∀ (c0_44 : Int32) (c0_45 : Int32) (c0_46 : Int32) (a16 : (Nat → Int32)) (a17 : (Nat → Int32)) (a21 : (Nat → Int32)) (a23 : (Nat → Int32)) (a24 : (Nat → Int32)) (v2 : Int32) (v3 : Int32), k2 c0_44 c0_45 c0_46 a16 a17 a21 a23 a24 v2 v3 = some out → k_W X 6 0 0 (k_Q X ad none (k_ap [(0, .inl (44, out.1)), (0, .inl (45, out.2.1)), (0, .inl (46, out.2.2.1)), (16, .inr (.inr (.inl out.2.2.2.1))), (17, .inr (.inr (.inl out.2.2.2.2.1))), (21, .inr (.inr (.inl out.2.2.2.2.2.1))), (23, .inr (.inr (.inl out.2.2.2.2.2.2.1))), (24, .inr (.inr (.inl out.2.2.2.2.2.2.2)))] (shM, I, L, Rf))) ad (k_ap [(0, .inl (44, c0_44)), (0, .inl (45, c0_45)), (0, .inl (46, c0_46)), (16, .inr (.inr (.inl a16))), (17, .inr (.inr (.inl a17))), (21, .inr (.inr (.inl a21))), (23, .inr (.inr (.inl a23))), (24, .inr (.inr (.inl a24)))] (shM, I, L, Rf)) 2 [some (.ref 0), none, some (.int v2), some (.int v3), none, none] []) : ∀ (c0_44 : Int32) (c0_45 : Int32) (c0_46 : Int32) (a16 : (Nat → Int32)) (a17 : (Nat → Int32)) (a21 : (Nat → Int32)) (a23 : (Nat → Int32)) (a24 : (Nat → Int32)) (v2 : Int32) (v4 : Int32), bX11_goesSteps_88 u g c0_25 c0_26 c0_27 c0_28 c0_30 a7 a8 a9 a10 a13 a14 a15 a19 k2 c0_44 c0_45 c0_46 a16 a17 a21 a23 a24 v2 v4 = some out → k_W X 6 0 0 (k_Q X ad none (k_ap [(0, .inl (44, out.1)), (0, .inl (45, out.2.1)), (0, .inl (46, out.2.2.1)), (16, .inr (.inr (.inl out.2.2.2.1))), (17, .inr (.inr (.inl out.2.2.2.2.1))), (21, .inr (.inr (.inl out.2.2.2.2.2.1))), (23, .inr (.inr (.inl out.2.2.2.2.2.2.1))), (24, .inr (.inr (.inl out.2.2.2.2.2.2.2)))] (shM, I, L, Rf))) ad (k_ap [(0, .inl (44, c0_44)), (0, .inl (45, c0_45)), (0, .inl (46, c0_46)), (16, .inr (.inr (.inl a16))), (17, .inr (.inr (.inl a17))), (21, .inr (.inr (.inl a21))), (23, .inr (.inr (.inl a23))), (24, .inr (.inr (.inl a24)))] (shM, I, L, Rf)) 88 [some (.ref 0), none, some (.int v2), none, some (.int v4), none] [] := by
  intro c0_44 c0_45 c0_46 a16 a17 a21 a23 a24 v2 v4 h
  unfold bX11_goesSteps_88 at h
  refine r_iload C dX11_goesSteps_88 (rfl : 88 + 2 = 90) rfl ?_
  refine r_istore_n C dX11_goesSteps_90 (rfl : 90 + 1 = 91) (by decide) (Nat.le_of_ble_eq_true rfl) ?_
  show k_W _ _ _ _ _ _ _ _ [some (.ref 0), none, some (.int v2), some (.int v4), some (.int v4), none] _
  refine r_goto (tgt := 2) C dX11_goesSteps_91 (by decide) ?_
  refine k_mask [true, false, true, true, false, false] ?_
  exact hk2 c0_44 c0_45 c0_46 a16 a17 a21 a23 a24 v2 v4 h
set_option maxHeartbeats 400000 in
set_option maxRecDepth 100000 in
theorem sX11_goesSteps_50 (u : Nat) (g : Int32 → Int32 → Int32 → Int32 → Int32 → Int32 → Int32 → Int32 → (Nat → Int32) → (Nat → Int32) → (Nat → Int32) → (Nat → Int32) → (Nat → Int32) → (Nat → Int32) → (Nat → Int32) → (Nat → Int32) → (Nat → Int32) → (Nat → Int32) → (Nat → Int32) → (Nat → Int32) → (Nat → Int32) → Int32 → Int32 → Option (Int32 × Int32 × Int32 × (Nat → Int32) × (Nat → Int32) × (Nat → Int32) × (Nat → Int32) × (Nat → Int32))) {fg ng : Nat} {X : k_X} {ad : Nat → Nat} (C : k_C X cX11_goesSteps RX11 6 ad) (hr : X.meth.sig.returnType = none) (hR : X.R.frames = (fg + 7) ∧ X.R.locals = (ng + 156)) {I : Nat → Nat → Int32} {L : Nat → Nat → Int64} {Rf : Nat → Nat → Option Nat} (hg : H_X11_goesSteps X.l g fg ng) {c0_25 : Int32} (ec0_25 : I 0 25 = c0_25) {c0_26 : Int32} (ec0_26 : I 0 26 = c0_26) {c0_27 : Int32} (ec0_27 : I 0 27 = c0_27) {c0_28 : Int32} (ec0_28 : I 0 28 = c0_28) {c0_30 : Int32} (ec0_30 : I 0 30 = c0_30) {a7 : (Nat → Int32)} (ea7 : I 7 = a7) {a8 : (Nat → Int32)} (ea8 : I 8 = a8) {a9 : (Nat → Int32)} (ea9 : I 9 = a9) {a10 : (Nat → Int32)} (ea10 : I 10 = a10) {a13 : (Nat → Int32)} (ea13 : I 13 = a13) {a14 : (Nat → Int32)} (ea14 : I 14 = a14) {a15 : (Nat → Int32)} (ea15 : I 15 = a15) {a19 : (Nat → Int32)} (ea19 : I 19 = a19) {out : Int32 × Int32 × Int32 × (Nat → Int32) × (Nat → Int32) × (Nat → Int32) × (Nat → Int32) × (Nat → Int32)} {k2 : Int32 → Int32 → Int32 → (Nat → Int32) → (Nat → Int32) → (Nat → Int32) → (Nat → Int32) → (Nat → Int32) → Int32 → Int32 → Option (Int32 × Int32 × Int32 × (Nat → Int32) × (Nat → Int32) × (Nat → Int32) × (Nat → Int32) × (Nat → Int32))} (hk2 : ∀ (c0_44 : Int32) (c0_45 : Int32) (c0_46 : Int32) (a16 : (Nat → Int32)) (a17 : (Nat → Int32)) (a21 : (Nat → Int32)) (a23 : (Nat → Int32)) (a24 : (Nat → Int32)) (v2 : Int32) (v3 : Int32), k2 c0_44 c0_45 c0_46 a16 a17 a21 a23 a24 v2 v3 = some out → k_W X 6 0 0 (k_Q X ad none (k_ap [(0, .inl (44, out.1)), (0, .inl (45, out.2.1)), (0, .inl (46, out.2.2.1)), (16, .inr (.inr (.inl out.2.2.2.1))), (17, .inr (.inr (.inl out.2.2.2.2.1))), (21, .inr (.inr (.inl out.2.2.2.2.2.1))), (23, .inr (.inr (.inl out.2.2.2.2.2.2.1))), (24, .inr (.inr (.inl out.2.2.2.2.2.2.2)))] (shM, I, L, Rf))) ad (k_ap [(0, .inl (44, c0_44)), (0, .inl (45, c0_45)), (0, .inl (46, c0_46)), (16, .inr (.inr (.inl a16))), (17, .inr (.inr (.inl a17))), (21, .inr (.inr (.inl a21))), (23, .inr (.inr (.inl a23))), (24, .inr (.inr (.inl a24)))] (shM, I, L, Rf)) 2 [some (.ref 0), none, some (.int v2), some (.int v3), none, none] []) : ∀ (n : Nat) (c0_44 : Int32) (c0_45 : Int32) (c0_46 : Int32) (a16 : (Nat → Int32)) (a17 : (Nat → Int32)) (a21 : (Nat → Int32)) (a23 : (Nat → Int32)) (a24 : (Nat → Int32)) (v2 : Int32) (v3 : Int32) (v4 : Int32) (v5 : Int32), bX11_goesSteps_50 u g c0_25 c0_26 c0_27 c0_28 c0_30 a7 a8 a9 a10 a13 a14 a15 a19 k2 n c0_44 c0_45 c0_46 a16 a17 a21 a23 a24 v2 v3 v4 v5 = some out → k_W X 6 0 0 (k_Q X ad none (k_ap [(0, .inl (44, out.1)), (0, .inl (45, out.2.1)), (0, .inl (46, out.2.2.1)), (16, .inr (.inr (.inl out.2.2.2.1))), (17, .inr (.inr (.inl out.2.2.2.2.1))), (21, .inr (.inr (.inl out.2.2.2.2.2.1))), (23, .inr (.inr (.inl out.2.2.2.2.2.2.1))), (24, .inr (.inr (.inl out.2.2.2.2.2.2.2)))] (shM, I, L, Rf))) ad (k_ap [(0, .inl (44, c0_44)), (0, .inl (45, c0_45)), (0, .inl (46, c0_46)), (16, .inr (.inr (.inl a16))), (17, .inr (.inr (.inl a17))), (21, .inr (.inr (.inl a21))), (23, .inr (.inr (.inl a23))), (24, .inr (.inr (.inl a24)))] (shM, I, L, Rf)) 50 [some (.ref 0), none, some (.int v2), some (.int v3), some (.int v4), some (.int v5)] [] := by
  intro n
  induction n with
  | zero => intro c0_44 c0_45 c0_46 a16 a17 a21 a23 a24 v2 v3 v4 v5 h; cases h
  | succ n ih =>
    intro c0_44 c0_45 c0_46 a16 a17 a21 a23 a24 v2 v3 v4 v5 h
    refine r_iload C dX11_goesSteps_50 (rfl : 50 + 2 = 52) rfl ?_
    refine r_aload_n C dX11_goesSteps_52 (rfl : 52 + 1 = 53) rfl ?_
    refine r_getR (q := 19) C dX11_goesSteps_53 (rfl : 53 + 3 = 56) fl_X11_71 rfl rfl ?_
    refine r_iload_n C dX11_goesSteps_56 (rfl : 56 + 1 = 57) rfl ?_
    refine r_iconst (v := (1 : Int32)) C dX11_goesSteps_57 (rfl : 57 + 1 = 58) rfl ?_
    refine r_iadd C dX11_goesSteps_58 (rfl : 58 + 1 = 59) ?_
    obtain ⟨hi59, h⟩ := k_i_of h
    refine a_i (j := ((v3 + (1 : Int32))).toNatClampNeg) (f := a19) C dX11_goesSteps_59 (rfl : 59 + 1 = 60) rfl ea19 hi59 rfl ?_
    refine r_icmp_ge (tgt := 88) C dX11_goesSteps_60 (by decide) (rfl : 60 + 3 = 63) (fun c60 => ?_) (fun c60 => ?_)
    · have h := k_t c60 h
      refine k_mask [true, false, true, false, true, false] ?_
      exact sX11_goesSteps_88 u g C hr hR hg ec0_25 ec0_26 ec0_27 ec0_28 ec0_30 ea7 ea8 ea9 ea10 ea13 ea14 ea15 ea19 hk2 c0_44 c0_45 c0_46 a16 a17 a21 a23 a24 v2 v4 h
    · have h := k_f c60 h
      refine r_aload_n C dX11_goesSteps_63 (rfl : 63 + 1 = 64) rfl ?_
      refine r_getI (v := c0_44) C dX11_goesSteps_64 (rfl : 64 + 3 = 67) fl_X11_348 rfl rfl rfl ?_
      refine r_sipush (v := (200 : Int32)) C dX11_goesSteps_67 (rfl : 67 + 3 = 70) rfl ?_
      refine r_icmp_ge (tgt := 88) C dX11_goesSteps_70 (by decide) (rfl : 70 + 3 = 73) (fun c70 => ?_) (fun c70 => ?_)
      · have h := k_t c70 h
        refine k_mask [true, false, true, false, true, false] ?_
        exact sX11_goesSteps_88 u g C hr hR hg ec0_25 ec0_26 ec0_27 ec0_28 ec0_30 ea7 ea8 ea9 ea10 ea13 ea14 ea15 ea19 hk2 c0_44 c0_45 c0_46 a16 a17 a21 a23 a24 v2 v4 h
      · have h := k_f c70 h
        refine r_aload_n C dX11_goesSteps_73 (rfl : 73 + 1 = 74) rfl ?_
        refine r_iload_n C dX11_goesSteps_74 (rfl : 74 + 1 = 75) rfl ?_
        refine r_iconst (v := (3 : Int32)) C dX11_goesSteps_75 (rfl : 75 + 1 = 76) rfl ?_
        refine r_iadd C dX11_goesSteps_76 (rfl : 76 + 1 = 77) ?_
        refine r_iload C dX11_goesSteps_77 (rfl : 77 + 2 = 79) rfl ?_
        obtain ⟨r79, q79, h⟩ := k_b_of h
        refine d_V (As := [.int (v3 + (3 : Int32)), .int v4]) (st := []) (st' := []) (h' := k_ap [(0, .inl (44, r79.1)), (0, .inl (45, r79.2.1)), (0, .inl (46, r79.2.2.1)), (16, .inr (.inr (.inl r79.2.2.2.1))), (17, .inr (.inr (.inl r79.2.2.2.2.1))), (21, .inr (.inr (.inl r79.2.2.2.2.2.1))), (23, .inr (.inr (.inl r79.2.2.2.2.2.2.1))), (24, .inr (.inr (.inl r79.2.2.2.2.2.2.2)))] (shM, I, L, Rf)) C hR ⟨Nat.zero_le _, Nat.zero_le _⟩ mv_X11_goesSteps lk_X11_357 dX11_goesSteps_79 (rfl : 79 + 3 = 82) (k_bl (by omega)) (k_bl (by omega)) rfl rfl (hg (k_ap [(0, .inl (44, c0_44)), (0, .inl (45, c0_45)), (0, .inl (46, c0_46)), (16, .inr (.inr (.inl a16))), (17, .inr (.inr (.inl a17))), (21, .inr (.inr (.inl a21))), (23, .inr (.inr (.inl a23))), (24, .inr (.inr (.inl a24)))] (shM, I, L, Rf)) rfl ec0_25 ec0_26 ec0_27 ec0_28 ec0_30 rfl rfl rfl ea7 ea8 ea9 ea10 ea13 ea14 ea15 rfl rfl ea19 rfl rfl rfl q79) rfl rfl rfl (k_jn (us' := [(0, .inl (44, r79.1)), (0, .inl (45, r79.2.1)), (0, .inl (46, r79.2.2.1)), (16, .inr (.inr (.inl r79.2.2.2.1))), (17, .inr (.inr (.inl r79.2.2.2.2.1))), (21, .inr (.inr (.inl r79.2.2.2.2.2.1))), (23, .inr (.inr (.inl r79.2.2.2.2.2.2.1))), (24, .inr (.inr (.inl r79.2.2.2.2.2.2.2)))]) ds_X11_goesSteps rfl rfl rfl) rfl ?_
        refine r_iinc (v := (v5 + (1 : Int32))) C dX11_goesSteps_82 (rfl : 82 + 3 = 85) rfl rfl (by decide) ?_
        show k_W _ _ _ _ _ _ _ _ [some (.ref 0), none, some (.int v2), some (.int v3), some (.int v4), some (.int (v5 + (1 : Int32)))] _
        refine r_goto (tgt := 50) C dX11_goesSteps_85 (by decide) ?_
        refine k_mask [true, false, true, true, true, true] ?_
        exact ih r79.1 r79.2.1 r79.2.2.1 r79.2.2.2.1 r79.2.2.2.2.1 r79.2.2.2.2.2.1 r79.2.2.2.2.2.2.1 r79.2.2.2.2.2.2.2 v2 v3 v4 (v5 + (1 : Int32)) h
set_option maxHeartbeats 400000 in
set_option maxRecDepth 100000 in
theorem sX11_goesSteps_146 (u : Nat) (g : Int32 → Int32 → Int32 → Int32 → Int32 → Int32 → Int32 → Int32 → (Nat → Int32) → (Nat → Int32) → (Nat → Int32) → (Nat → Int32) → (Nat → Int32) → (Nat → Int32) → (Nat → Int32) → (Nat → Int32) → (Nat → Int32) → (Nat → Int32) → (Nat → Int32) → (Nat → Int32) → (Nat → Int32) → Int32 → Int32 → Option (Int32 × Int32 × Int32 × (Nat → Int32) × (Nat → Int32) × (Nat → Int32) × (Nat → Int32) × (Nat → Int32))) {fg ng : Nat} {X : k_X} {ad : Nat → Nat} (C : k_C X cX11_goesSteps RX11 6 ad) (hr : X.meth.sig.returnType = none) (hR : X.R.frames = (fg + 7) ∧ X.R.locals = (ng + 156)) {I : Nat → Nat → Int32} {L : Nat → Nat → Int64} {Rf : Nat → Nat → Option Nat} (hg : H_X11_goesSteps X.l g fg ng) {c0_25 : Int32} (ec0_25 : I 0 25 = c0_25) {c0_26 : Int32} (ec0_26 : I 0 26 = c0_26) {c0_27 : Int32} (ec0_27 : I 0 27 = c0_27) {c0_28 : Int32} (ec0_28 : I 0 28 = c0_28) {c0_30 : Int32} (ec0_30 : I 0 30 = c0_30) {a7 : (Nat → Int32)} (ea7 : I 7 = a7) {a8 : (Nat → Int32)} (ea8 : I 8 = a8) {a9 : (Nat → Int32)} (ea9 : I 9 = a9) {a10 : (Nat → Int32)} (ea10 : I 10 = a10) {a13 : (Nat → Int32)} (ea13 : I 13 = a13) {a14 : (Nat → Int32)} (ea14 : I 14 = a14) {a15 : (Nat → Int32)} (ea15 : I 15 = a15) {a19 : (Nat → Int32)} (ea19 : I 19 = a19) {out : Int32 × Int32 × Int32 × (Nat → Int32) × (Nat → Int32) × (Nat → Int32) × (Nat → Int32) × (Nat → Int32)} {k2 : Int32 → Int32 → Int32 → (Nat → Int32) → (Nat → Int32) → (Nat → Int32) → (Nat → Int32) → (Nat → Int32) → Int32 → Int32 → Option (Int32 × Int32 × Int32 × (Nat → Int32) × (Nat → Int32) × (Nat → Int32) × (Nat → Int32) × (Nat → Int32))} (hk2 : ∀ (c0_44 : Int32) (c0_45 : Int32) (c0_46 : Int32) (a16 : (Nat → Int32)) (a17 : (Nat → Int32)) (a21 : (Nat → Int32)) (a23 : (Nat → Int32)) (a24 : (Nat → Int32)) (v2 : Int32) (v3 : Int32), k2 c0_44 c0_45 c0_46 a16 a17 a21 a23 a24 v2 v3 = some out → k_W X 6 0 0 (k_Q X ad none (k_ap [(0, .inl (44, out.1)), (0, .inl (45, out.2.1)), (0, .inl (46, out.2.2.1)), (16, .inr (.inr (.inl out.2.2.2.1))), (17, .inr (.inr (.inl out.2.2.2.2.1))), (21, .inr (.inr (.inl out.2.2.2.2.2.1))), (23, .inr (.inr (.inl out.2.2.2.2.2.2.1))), (24, .inr (.inr (.inl out.2.2.2.2.2.2.2)))] (shM, I, L, Rf))) ad (k_ap [(0, .inl (44, c0_44)), (0, .inl (45, c0_45)), (0, .inl (46, c0_46)), (16, .inr (.inr (.inl a16))), (17, .inr (.inr (.inl a17))), (21, .inr (.inr (.inl a21))), (23, .inr (.inr (.inl a23))), (24, .inr (.inr (.inl a24)))] (shM, I, L, Rf)) 2 [some (.ref 0), none, some (.int v2), some (.int v3), none, none] []) : ∀ (c0_44 : Int32) (c0_45 : Int32) (c0_46 : Int32) (a16 : (Nat → Int32)) (a17 : (Nat → Int32)) (a21 : (Nat → Int32)) (a23 : (Nat → Int32)) (a24 : (Nat → Int32)) (v2 : Int32) (v3 : Int32), bX11_goesSteps_146 u g c0_25 c0_26 c0_27 c0_28 c0_30 a7 a8 a9 a10 a13 a14 a15 a19 k2 c0_44 c0_45 c0_46 a16 a17 a21 a23 a24 v2 v3 = some out → k_W X 6 0 0 (k_Q X ad none (k_ap [(0, .inl (44, out.1)), (0, .inl (45, out.2.1)), (0, .inl (46, out.2.2.1)), (16, .inr (.inr (.inl out.2.2.2.1))), (17, .inr (.inr (.inl out.2.2.2.2.1))), (21, .inr (.inr (.inl out.2.2.2.2.2.1))), (23, .inr (.inr (.inl out.2.2.2.2.2.2.1))), (24, .inr (.inr (.inl out.2.2.2.2.2.2.2)))] (shM, I, L, Rf))) ad (k_ap [(0, .inl (44, c0_44)), (0, .inl (45, c0_45)), (0, .inl (46, c0_46)), (16, .inr (.inr (.inl a16))), (17, .inr (.inr (.inl a17))), (21, .inr (.inr (.inl a21))), (23, .inr (.inr (.inl a23))), (24, .inr (.inr (.inl a24)))] (shM, I, L, Rf)) 146 [some (.ref 0), none, some (.int v2), some (.int v3), none, none] [] := by
  intro c0_44 c0_45 c0_46 a16 a17 a21 a23 a24 v2 v3 h
  unfold bX11_goesSteps_146 at h
  refine r_iinc (v := (v3 + (3 : Int32))) C dX11_goesSteps_146 (rfl : 146 + 3 = 149) rfl rfl (by decide) ?_
  show k_W _ _ _ _ _ _ _ _ [some (.ref 0), none, some (.int v2), some (.int (v3 + (3 : Int32))), none, none] _
  refine r_goto (tgt := 2) C dX11_goesSteps_149 (by decide) ?_
  refine k_mask [true, false, true, true, false, false] ?_
  exact hk2 c0_44 c0_45 c0_46 a16 a17 a21 a23 a24 v2 (v3 + (3 : Int32)) h
set_option maxHeartbeats 400000 in
set_option maxRecDepth 100000 in
theorem sX11_goesSteps_2 (u : Nat) (g : Int32 → Int32 → Int32 → Int32 → Int32 → Int32 → Int32 → Int32 → (Nat → Int32) → (Nat → Int32) → (Nat → Int32) → (Nat → Int32) → (Nat → Int32) → (Nat → Int32) → (Nat → Int32) → (Nat → Int32) → (Nat → Int32) → (Nat → Int32) → (Nat → Int32) → (Nat → Int32) → (Nat → Int32) → Int32 → Int32 → Option (Int32 × Int32 × Int32 × (Nat → Int32) × (Nat → Int32) × (Nat → Int32) × (Nat → Int32) × (Nat → Int32))) {fg ng : Nat} {X : k_X} {ad : Nat → Nat} (C : k_C X cX11_goesSteps RX11 6 ad) (hr : X.meth.sig.returnType = none) (hR : X.R.frames = (fg + 7) ∧ X.R.locals = (ng + 156)) {I : Nat → Nat → Int32} {L : Nat → Nat → Int64} {Rf : Nat → Nat → Option Nat} (hg : H_X11_goesSteps X.l g fg ng) {c0_25 : Int32} (ec0_25 : I 0 25 = c0_25) {c0_26 : Int32} (ec0_26 : I 0 26 = c0_26) {c0_27 : Int32} (ec0_27 : I 0 27 = c0_27) {c0_28 : Int32} (ec0_28 : I 0 28 = c0_28) {c0_30 : Int32} (ec0_30 : I 0 30 = c0_30) {a7 : (Nat → Int32)} (ea7 : I 7 = a7) {a8 : (Nat → Int32)} (ea8 : I 8 = a8) {a9 : (Nat → Int32)} (ea9 : I 9 = a9) {a10 : (Nat → Int32)} (ea10 : I 10 = a10) {a13 : (Nat → Int32)} (ea13 : I 13 = a13) {a14 : (Nat → Int32)} (ea14 : I 14 = a14) {a15 : (Nat → Int32)} (ea15 : I 15 = a15) {a19 : (Nat → Int32)} (ea19 : I 19 = a19) {out : Int32 × Int32 × Int32 × (Nat → Int32) × (Nat → Int32) × (Nat → Int32) × (Nat → Int32) × (Nat → Int32)} : ∀ (n : Nat) (c0_44 : Int32) (c0_45 : Int32) (c0_46 : Int32) (a16 : (Nat → Int32)) (a17 : (Nat → Int32)) (a21 : (Nat → Int32)) (a23 : (Nat → Int32)) (a24 : (Nat → Int32)) (v2 : Int32) (v3 : Int32), bX11_goesSteps_2 u g c0_25 c0_26 c0_27 c0_28 c0_30 a7 a8 a9 a10 a13 a14 a15 a19 n c0_44 c0_45 c0_46 a16 a17 a21 a23 a24 v2 v3 = some out → k_W X 6 0 0 (k_Q X ad none (k_ap [(0, .inl (44, out.1)), (0, .inl (45, out.2.1)), (0, .inl (46, out.2.2.1)), (16, .inr (.inr (.inl out.2.2.2.1))), (17, .inr (.inr (.inl out.2.2.2.2.1))), (21, .inr (.inr (.inl out.2.2.2.2.2.1))), (23, .inr (.inr (.inl out.2.2.2.2.2.2.1))), (24, .inr (.inr (.inl out.2.2.2.2.2.2.2)))] (shM, I, L, Rf))) ad (k_ap [(0, .inl (44, c0_44)), (0, .inl (45, c0_45)), (0, .inl (46, c0_46)), (16, .inr (.inr (.inl a16))), (17, .inr (.inr (.inl a17))), (21, .inr (.inr (.inl a21))), (23, .inr (.inr (.inl a23))), (24, .inr (.inr (.inl a24)))] (shM, I, L, Rf)) 2 [some (.ref 0), none, some (.int v2), some (.int v3), none, none] [] := by
  intro n
  induction n with
  | zero => intro c0_44 c0_45 c0_46 a16 a17 a21 a23 a24 v2 v3 h; cases h
  | succ n ih =>
    intro c0_44 c0_45 c0_46 a16 a17 a21 a23 a24 v2 v3 h
    refine r_iload_n C dX11_goesSteps_2 (rfl : 2 + 1 = 3) rfl ?_
    refine r_iload_n C dX11_goesSteps_3 (rfl : 3 + 1 = 4) rfl ?_
    refine r_icmp_ge (tgt := 152) C dX11_goesSteps_4 (by decide) (rfl : 4 + 3 = 7) (fun c4 => ?_) (fun c4 => ?_)
    · have h := k_t c4 h
      cases h
      exact r_vret C hr dX11_goesSteps_152
    · have h := k_f c4 h
      refine r_aload_n C dX11_goesSteps_7 (rfl : 7 + 1 = 8) rfl ?_
      refine r_getI (v := c0_44) C dX11_goesSteps_8 (rfl : 8 + 3 = 11) fl_X11_348 rfl rfl rfl ?_
      refine r_sipush (v := (200 : Int32)) C dX11_goesSteps_11 (rfl : 11 + 3 = 14) rfl ?_
      refine r_icmp_ge (tgt := 152) C dX11_goesSteps_14 (by decide) (rfl : 14 + 3 = 17) (fun c14 => ?_) (fun c14 => ?_)
      · have h := k_t c14 h
        cases h
        exact r_vret C hr dX11_goesSteps_152
      · have h := k_f c14 h
        refine r_aload_n C dX11_goesSteps_17 (rfl : 17 + 1 = 18) rfl ?_
        refine r_dup C dX11_goesSteps_18 (rfl : 18 + 1 = 19) rfl ?_
        refine r_getI (v := c0_44) C dX11_goesSteps_19 (rfl : 19 + 3 = 22) fl_X11_348 rfl rfl rfl ?_
        refine r_iconst (v := (1 : Int32)) C dX11_goesSteps_22 (rfl : 22 + 1 = 23) rfl ?_
        refine r_iadd C dX11_goesSteps_23 (rfl : 23 + 1 = 24) ?_
        refine p_I (us' := [(0, .inl (44, (c0_44 + (1 : Int32)))), (0, .inl (45, c0_45)), (0, .inl (46, c0_46)), (16, .inr (.inr (.inl a16))), (17, .inr (.inr (.inl a17))), (21, .inr (.inr (.inl a21))), (23, .inr (.inr (.inl a23))), (24, .inr (.inr (.inl a24)))]) C dX11_goesSteps_24 (rfl : 24 + 3 = 27) fp_X11_348 rfl rfl ds_X11_goesSteps rfl rfl rfl ?_
        refine r_aload_n C dX11_goesSteps_27 (rfl : 27 + 1 = 28) rfl ?_
        refine r_getR (q := 19) C dX11_goesSteps_28 (rfl : 28 + 3 = 31) fl_X11_71 rfl rfl ?_
        refine r_iload_n C dX11_goesSteps_31 (rfl : 31 + 1 = 32) rfl ?_
        obtain ⟨hi32, h⟩ := k_i_of h
        refine a_i (j := (v3).toNatClampNeg) (f := a19) C dX11_goesSteps_32 (rfl : 32 + 1 = 33) rfl ea19 hi32 rfl ?_
        refine r_iconst (v := (5 : Int32)) C dX11_goesSteps_33 (rfl : 33 + 1 = 34) rfl ?_
        refine r_icmp_ne (tgt := 94) C dX11_goesSteps_34 (by decide) (rfl : 34 + 3 = 37) (fun c34 => ?_) (fun c34 => ?_)
        · have h := k_f c34 h
          refine r_aload_n C dX11_goesSteps_94 (rfl : 94 + 1 = 95) rfl ?_
          refine r_aload_n C dX11_goesSteps_95 (rfl : 95 + 1 = 96) rfl ?_
          refine r_getR (q := 19) C dX11_goesSteps_96 (rfl : 96 + 3 = 99) fl_X11_71 rfl rfl ?_
          refine r_iload_n C dX11_goesSteps_99 (rfl : 99 + 1 = 100) rfl ?_
          obtain ⟨hi100, h⟩ := k_i_of h
          refine a_i (j := (v3).toNatClampNeg) (f := a19) C dX11_goesSteps_100 (rfl : 100 + 1 = 101) rfl ea19 hi100 rfl ?_
          refine r_aload_n C dX11_goesSteps_101 (rfl : 101 + 1 = 102) rfl ?_
          refine r_getR (q := 19) C dX11_goesSteps_102 (rfl : 102 + 3 = 105) fl_X11_71 rfl rfl ?_
          refine r_iload_n C dX11_goesSteps_105 (rfl : 105 + 1 = 106) rfl ?_
          refine r_iconst (v := (1 : Int32)) C dX11_goesSteps_106 (rfl : 106 + 1 = 107) rfl ?_
          refine r_iadd C dX11_goesSteps_107 (rfl : 107 + 1 = 108) ?_
          obtain ⟨hi108, h⟩ := k_i_of h
          refine a_i (j := ((v3 + (1 : Int32))).toNatClampNeg) (f := a19) C dX11_goesSteps_108 (rfl : 108 + 1 = 109) rfl ea19 hi108 rfl ?_
          refine r_aload_n C dX11_goesSteps_109 (rfl : 109 + 1 = 110) rfl ?_
          refine r_getR (q := 19) C dX11_goesSteps_110 (rfl : 110 + 3 = 113) fl_X11_71 rfl rfl ?_
          refine r_iload_n C dX11_goesSteps_113 (rfl : 113 + 1 = 114) rfl ?_
          refine r_iconst (v := (2 : Int32)) C dX11_goesSteps_114 (rfl : 114 + 1 = 115) rfl ?_
          refine r_iadd C dX11_goesSteps_115 (rfl : 115 + 1 = 116) ?_
          obtain ⟨hi116, h⟩ := k_i_of h
          refine a_i (j := ((v3 + (2 : Int32))).toNatClampNeg) (f := a19) C dX11_goesSteps_116 (rfl : 116 + 1 = 117) rfl ea19 hi116 rfl ?_
          obtain ⟨r117, q117, h⟩ := k_b_of h
          refine d_V (As := [.int (a19 ((v3).toNatClampNeg)), .int (a19 (((v3 + (1 : Int32))).toNatClampNeg)), .int (a19 (((v3 + (2 : Int32))).toNatClampNeg))]) (st := []) (st' := [.int r117.1]) (h' := k_ap [(0, .inl (44, (c0_44 + (1 : Int32)))), (0, .inl (45, c0_45)), (0, .inl (46, c0_46)), (16, .inr (.inr (.inl r117.2.1))), (17, .inr (.inr (.inl r117.2.2.1))), (21, .inr (.inr (.inl r117.2.2.2.1))), (23, .inr (.inr (.inl r117.2.2.2.2.1))), (24, .inr (.inr (.inl r117.2.2.2.2.2)))] (shM, I, L, Rf)) C hR ⟨Nat.zero_le _, Nat.zero_le _⟩ mv_X11_goes lk_X11_360 dX11_goesSteps_117 (rfl : 117 + 3 = 120) (k_bl (by omega)) (k_bl (by omega)) rfl rfl (c_X11_goes X.l u (k_ap [(0, .inl (44, (c0_44 + (1 : Int32)))), (0, .inl (45, c0_45)), (0, .inl (46, c0_46)), (16, .inr (.inr (.inl a16))), (17, .inr (.inr (.inl a17))), (21, .inr (.inr (.inl a21))), (23, .inr (.inr (.inl a23))), (24, .inr (.inr (.inl a24)))] (shM, I, L, Rf)) rfl ec0_25 ec0_26 ec0_27 ec0_28 ec0_30 ea7 ea8 ea9 ea10 ea13 ea14 ea15 rfl rfl rfl rfl rfl q117) rfl rfl rfl (k_jn (us' := [(0, .inl (44, (c0_44 + (1 : Int32)))), (0, .inl (45, c0_45)), (0, .inl (46, c0_46)), (16, .inr (.inr (.inl r117.2.1))), (17, .inr (.inr (.inl r117.2.2.1))), (21, .inr (.inr (.inl r117.2.2.2.1))), (23, .inr (.inr (.inl r117.2.2.2.2.1))), (24, .inr (.inr (.inl r117.2.2.2.2.2)))]) ds_X11_goesSteps rfl rfl rfl) rfl ?_
          refine r_if_eq (tgt := 136) C dX11_goesSteps_120 (by decide) (rfl : 120 + 3 = 123) (fun c120 => ?_) (fun c120 => ?_)
          · have h := k_t c120 h
            refine r_aload_n C dX11_goesSteps_136 (rfl : 136 + 1 = 137) rfl ?_
            refine r_dup C dX11_goesSteps_137 (rfl : 137 + 1 = 138) rfl ?_
            refine r_getI (v := c0_46) C dX11_goesSteps_138 (rfl : 138 + 3 = 141) fl_X11_354 rfl rfl rfl ?_
            refine r_iconst (v := (1 : Int32)) C dX11_goesSteps_141 (rfl : 141 + 1 = 142) rfl ?_
            refine r_iadd C dX11_goesSteps_142 (rfl : 142 + 1 = 143) ?_
            refine p_I (us' := [(0, .inl (44, (c0_44 + (1 : Int32)))), (0, .inl (45, c0_45)), (0, .inl (46, (c0_46 + (1 : Int32)))), (16, .inr (.inr (.inl r117.2.1))), (17, .inr (.inr (.inl r117.2.2.1))), (21, .inr (.inr (.inl r117.2.2.2.1))), (23, .inr (.inr (.inl r117.2.2.2.2.1))), (24, .inr (.inr (.inl r117.2.2.2.2.2)))]) C dX11_goesSteps_143 (rfl : 143 + 3 = 146) fp_X11_354 rfl rfl ds_X11_goesSteps rfl rfl rfl ?_
            refine k_mask [true, false, true, true, false, false] ?_
            exact sX11_goesSteps_146 u g C hr hR hg ec0_25 ec0_26 ec0_27 ec0_28 ec0_30 ea7 ea8 ea9 ea10 ea13 ea14 ea15 ea19 ih (c0_44 + (1 : Int32)) c0_45 (c0_46 + (1 : Int32)) r117.2.1 r117.2.2.1 r117.2.2.2.1 r117.2.2.2.2.1 r117.2.2.2.2.2 v2 v3 h
          · have h := k_f c120 h
            refine r_aload_n C dX11_goesSteps_123 (rfl : 123 + 1 = 124) rfl ?_
            refine r_dup C dX11_goesSteps_124 (rfl : 124 + 1 = 125) rfl ?_
            refine r_getI (v := c0_45) C dX11_goesSteps_125 (rfl : 125 + 3 = 128) fl_X11_351 rfl rfl rfl ?_
            refine r_iconst (v := (1 : Int32)) C dX11_goesSteps_128 (rfl : 128 + 1 = 129) rfl ?_
            refine r_iadd C dX11_goesSteps_129 (rfl : 129 + 1 = 130) ?_
            refine p_I (us' := [(0, .inl (44, (c0_44 + (1 : Int32)))), (0, .inl (45, (c0_45 + (1 : Int32)))), (0, .inl (46, c0_46)), (16, .inr (.inr (.inl r117.2.1))), (17, .inr (.inr (.inl r117.2.2.1))), (21, .inr (.inr (.inl r117.2.2.2.1))), (23, .inr (.inr (.inl r117.2.2.2.2.1))), (24, .inr (.inr (.inl r117.2.2.2.2.2)))]) C dX11_goesSteps_130 (rfl : 130 + 3 = 133) fp_X11_351 rfl rfl ds_X11_goesSteps rfl rfl rfl ?_
            refine r_goto (tgt := 146) C dX11_goesSteps_133 (by decide) ?_
            refine k_mask [true, false, true, true, false, false] ?_
            exact sX11_goesSteps_146 u g C hr hR hg ec0_25 ec0_26 ec0_27 ec0_28 ec0_30 ea7 ea8 ea9 ea10 ea13 ea14 ea15 ea19 ih (c0_44 + (1 : Int32)) (c0_45 + (1 : Int32)) c0_46 r117.2.1 r117.2.2.1 r117.2.2.2.1 r117.2.2.2.2.1 r117.2.2.2.2.2 v2 v3 h
        · have h := k_t c34 h
          refine r_aload_n C dX11_goesSteps_37 (rfl : 37 + 1 = 38) rfl ?_
          refine r_getR (q := 19) C dX11_goesSteps_38 (rfl : 38 + 3 = 41) fl_X11_71 rfl rfl ?_
          refine r_iload_n C dX11_goesSteps_41 (rfl : 41 + 1 = 42) rfl ?_
          refine r_iconst (v := (2 : Int32)) C dX11_goesSteps_42 (rfl : 42 + 1 = 43) rfl ?_
          refine r_iadd C dX11_goesSteps_43 (rfl : 43 + 1 = 44) ?_
          obtain ⟨hi44, h⟩ := k_i_of h
          refine a_i (j := ((v3 + (2 : Int32))).toNatClampNeg) (f := a19) C dX11_goesSteps_44 (rfl : 44 + 1 = 45) rfl ea19 hi44 rfl ?_
          refine r_istore C dX11_goesSteps_45 (rfl : 45 + 2 = 47) (by decide) (Nat.le_of_ble_eq_true rfl) ?_
          show k_W _ _ _ _ _ _ _ _ [some (.ref 0), none, some (.int v2), some (.int v3), some (.int (a19 (((v3 + (2 : Int32))).toNatClampNeg))), none] _
          refine r_iconst (v := (0 : Int32)) C dX11_goesSteps_47 (rfl : 47 + 1 = 48) rfl ?_
          refine r_istore C dX11_goesSteps_48 (rfl : 48 + 2 = 50) (by decide) (Nat.le_of_ble_eq_true rfl) ?_
          show k_W _ _ _ _ _ _ _ _ [some (.ref 0), none, some (.int v2), some (.int v3), some (.int (a19 (((v3 + (2 : Int32))).toNatClampNeg))), some (.int (0 : Int32))] _
          refine k_mask [true, false, true, true, true, true] ?_
          exact sX11_goesSteps_50 u g C hr hR hg ec0_25 ec0_26 ec0_27 ec0_28 ec0_30 ea7 ea8 ea9 ea10 ea13 ea14 ea15 ea19 ih u (c0_44 + (1 : Int32)) c0_45 c0_46 a16 a17 a21 a23 a24 v2 v3 (a19 (((v3 + (2 : Int32))).toNatClampNeg)) (0 : Int32) h
set_option maxHeartbeats 400000 in
set_option maxRecDepth 100000 in
theorem sX11_goesSteps_0 (u : Nat) (g : Int32 → Int32 → Int32 → Int32 → Int32 → Int32 → Int32 → Int32 → (Nat → Int32) → (Nat → Int32) → (Nat → Int32) → (Nat → Int32) → (Nat → Int32) → (Nat → Int32) → (Nat → Int32) → (Nat → Int32) → (Nat → Int32) → (Nat → Int32) → (Nat → Int32) → (Nat → Int32) → (Nat → Int32) → Int32 → Int32 → Option (Int32 × Int32 × Int32 × (Nat → Int32) × (Nat → Int32) × (Nat → Int32) × (Nat → Int32) × (Nat → Int32))) {fg ng : Nat} {X : k_X} {ad : Nat → Nat} (C : k_C X cX11_goesSteps RX11 6 ad) (hr : X.meth.sig.returnType = none) (hR : X.R.frames = (fg + 7) ∧ X.R.locals = (ng + 156)) {I : Nat → Nat → Int32} {L : Nat → Nat → Int64} {Rf : Nat → Nat → Option Nat} (hg : H_X11_goesSteps X.l g fg ng) {c0_25 : Int32} (ec0_25 : I 0 25 = c0_25) {c0_26 : Int32} (ec0_26 : I 0 26 = c0_26) {c0_27 : Int32} (ec0_27 : I 0 27 = c0_27) {c0_28 : Int32} (ec0_28 : I 0 28 = c0_28) {c0_30 : Int32} (ec0_30 : I 0 30 = c0_30) {a7 : (Nat → Int32)} (ea7 : I 7 = a7) {a8 : (Nat → Int32)} (ea8 : I 8 = a8) {a9 : (Nat → Int32)} (ea9 : I 9 = a9) {a10 : (Nat → Int32)} (ea10 : I 10 = a10) {a13 : (Nat → Int32)} (ea13 : I 13 = a13) {a14 : (Nat → Int32)} (ea14 : I 14 = a14) {a15 : (Nat → Int32)} (ea15 : I 15 = a15) {a19 : (Nat → Int32)} (ea19 : I 19 = a19) {out : Int32 × Int32 × Int32 × (Nat → Int32) × (Nat → Int32) × (Nat → Int32) × (Nat → Int32) × (Nat → Int32)} : ∀ (c0_44 : Int32) (c0_45 : Int32) (c0_46 : Int32) (a16 : (Nat → Int32)) (a17 : (Nat → Int32)) (a21 : (Nat → Int32)) (a23 : (Nat → Int32)) (a24 : (Nat → Int32)) (v1 : Int32) (v2 : Int32), bX11_goesSteps_0 u g c0_25 c0_26 c0_27 c0_28 c0_30 a7 a8 a9 a10 a13 a14 a15 a19 c0_44 c0_45 c0_46 a16 a17 a21 a23 a24 v1 v2 = some out → k_W X 6 0 0 (k_Q X ad none (k_ap [(0, .inl (44, out.1)), (0, .inl (45, out.2.1)), (0, .inl (46, out.2.2.1)), (16, .inr (.inr (.inl out.2.2.2.1))), (17, .inr (.inr (.inl out.2.2.2.2.1))), (21, .inr (.inr (.inl out.2.2.2.2.2.1))), (23, .inr (.inr (.inl out.2.2.2.2.2.2.1))), (24, .inr (.inr (.inl out.2.2.2.2.2.2.2)))] (shM, I, L, Rf))) ad (k_ap [(0, .inl (44, c0_44)), (0, .inl (45, c0_45)), (0, .inl (46, c0_46)), (16, .inr (.inr (.inl a16))), (17, .inr (.inr (.inl a17))), (21, .inr (.inr (.inl a21))), (23, .inr (.inr (.inl a23))), (24, .inr (.inr (.inl a24)))] (shM, I, L, Rf)) 0 [some (.ref 0), some (.int v1), some (.int v2), none, none, none] [] := by
  intro c0_44 c0_45 c0_46 a16 a17 a21 a23 a24 v1 v2 h
  unfold bX11_goesSteps_0 at h
  refine r_iload_n C dX11_goesSteps_0 (rfl : 0 + 1 = 1) rfl ?_
  refine r_istore_n C dX11_goesSteps_1 (rfl : 1 + 1 = 2) (by decide) (Nat.le_of_ble_eq_true rfl) ?_
  show k_W _ _ _ _ _ _ _ _ [some (.ref 0), some (.int v1), some (.int v2), some (.int v1), none, none] _
  refine k_mask [true, false, true, true, false, false] ?_
  exact sX11_goesSteps_2 u g C hr hR hg ec0_25 ec0_26 ec0_27 ec0_28 ec0_30 ea7 ea8 ea9 ea10 ea13 ea14 ea15 ea19 u c0_44 c0_45 c0_46 a16 a17 a21 a23 a24 v2 v1 h
set_option maxHeartbeats 400000 in
set_option maxRecDepth 100000 in
theorem c_X11_goesSteps (l : Launch) (u : Nat) (g : Int32 → Int32 → Int32 → Int32 → Int32 → Int32 → Int32 → Int32 → (Nat → Int32) → (Nat → Int32) → (Nat → Int32) → (Nat → Int32) → (Nat → Int32) → (Nat → Int32) → (Nat → Int32) → (Nat → Int32) → (Nat → Int32) → (Nat → Int32) → (Nat → Int32) → (Nat → Int32) → (Nat → Int32) → Int32 → Int32 → Option (Int32 × Int32 × Int32 × (Nat → Int32) × (Nat → Int32) × (Nat → Int32) × (Nat → Int32) × (Nat → Int32))) {fg ng : Nat} (hg : H_X11_goesSteps l g fg ng) (h : k_H) (hsh : h.1 = shM) {c0_25 : Int32} (ec0_25 : h.2.1 0 25 = c0_25) {c0_26 : Int32} (ec0_26 : h.2.1 0 26 = c0_26) {c0_27 : Int32} (ec0_27 : h.2.1 0 27 = c0_27) {c0_28 : Int32} (ec0_28 : h.2.1 0 28 = c0_28) {c0_30 : Int32} (ec0_30 : h.2.1 0 30 = c0_30) {c0_44 : Int32} (ec0_44 : h.2.1 0 44 = c0_44) {c0_45 : Int32} (ec0_45 : h.2.1 0 45 = c0_45) {c0_46 : Int32} (ec0_46 : h.2.1 0 46 = c0_46) {a7 : (Nat → Int32)} (ea7 : h.2.1 7 = a7) {a8 : (Nat → Int32)} (ea8 : h.2.1 8 = a8) {a9 : (Nat → Int32)} (ea9 : h.2.1 9 = a9) {a10 : (Nat → Int32)} (ea10 : h.2.1 10 = a10) {a13 : (Nat → Int32)} (ea13 : h.2.1 13 = a13) {a14 : (Nat → Int32)} (ea14 : h.2.1 14 = a14) {a15 : (Nat → Int32)} (ea15 : h.2.1 15 = a15) {a16 : (Nat → Int32)} (ea16 : h.2.1 16 = a16) {a17 : (Nat → Int32)} (ea17 : h.2.1 17 = a17) {a19 : (Nat → Int32)} (ea19 : h.2.1 19 = a19) {a21 : (Nat → Int32)} (ea21 : h.2.1 21 = a21) {a23 : (Nat → Int32)} (ea23 : h.2.1 23 = a23) {a24 : (Nat → Int32)} (ea24 : h.2.1 24 = a24) {x0 : Int32} {x1 : Int32} {out : Int32 × Int32 × Int32 × (Nat → Int32) × (Nat → Int32) × (Nat → Int32) × (Nat → Int32) × (Nat → Int32)} (hf : f_X11_goesSteps u g c0_25 c0_26 c0_27 c0_28 c0_30 c0_44 c0_45 c0_46 a7 a8 a9 a10 a13 a14 a15 a16 a17 a19 a21 a23 a24 x0 x1 = some out) : k_CT l yX11_goesSteps cX11_goesSteps 6 none (fg + 7) (ng + 156) [.ref 0, .int x0, .int x1] h none [(0, .inl (44, out.1)), (0, .inl (45, out.2.1)), (0, .inl (46, out.2.2.1)), (16, .inr (.inr (.inl out.2.2.2.1))), (17, .inr (.inr (.inl out.2.2.2.2.1))), (21, .inr (.inr (.inl out.2.2.2.2.2.1))), (23, .inr (.inr (.inl out.2.2.2.2.2.2.1))), (24, .inr (.inr (.inl out.2.2.2.2.2.2.2)))] := by
  obtain ⟨sh, I, L, Rf⟩ := h
  try dsimp only
  obtain rfl : sh = shM := hsh
  refine k_ofW (by decide) (Nat.le_of_ble_eq_true rfl) ?_
  intro X ad hl hR0 hr C
  have hg : H_X11_goesSteps X.l g fg ng := by rw [hl]; exact hg
  have hR : X.R.frames = (fg + 7) ∧ X.R.locals = (ng + 156) := by rw [hR0]; exact ⟨rfl, rfl⟩
  have h := hf
  unfold f_X11_goesSteps at h
  refine k_start (us := [(0, .inl (44, c0_44)), (0, .inl (45, c0_45)), (0, .inl (46, c0_46)), (16, .inr (.inr (.inl a16))), (17, .inr (.inr (.inl a17))), (21, .inr (.inr (.inl a21))), (23, .inr (.inr (.inl a23))), (24, .inr (.inr (.inl a24)))]) (k_ao_I ec0_44 (k_ao_I ec0_45 (k_ao_I ec0_46 (k_ao_A ea16 (k_ao_A ea17 (k_ao_A ea21 (k_ao_A ea23 (k_ao_A ea24 k_ap_0)))))))) ?_
  show k_W X 6 0 0 _ ad (k_ap [(0, .inl (44, c0_44)), (0, .inl (45, c0_45)), (0, .inl (46, c0_46)), (16, .inr (.inr (.inl a16))), (17, .inr (.inr (.inl a17))), (21, .inr (.inr (.inl a21))), (23, .inr (.inr (.inl a23))), (24, .inr (.inr (.inl a24)))] (shM, I, L, Rf)) 0 [some (.ref 0), some (.int x0), some (.int x1), none, none, none] []
  refine k_mask [true, true, true, false, false, false] ?_
  exact sX11_goesSteps_0 u g C hr hR hg ec0_25 ec0_26 ec0_27 ec0_28 ec0_30 ea7 ea8 ea9 ea10 ea13 ea14 ea15 ea19 c0_44 c0_45 c0_46 a16 a17 a21 a23 a24 x0 x1 h
theorem c_X11_goesSteps_r (l : Launch) (u : Nat) : ∀ d : Nat, H_X11_goesSteps l (f_X11_goesSteps_r u d) (7 * d) (156 * d)
  | 0 => by
    intro h hsh
    intros
    rename_i hf
    cases hf
  | d + 1 => by
    intro h hsh
    intros
    rename_i hf
    exact c_X11_goesSteps l u (f_X11_goesSteps_r u d) (c_X11_goesSteps_r l u d) h hsh (by assumption) (by assumption) (by assumption) (by assumption) (by assumption) (by assumption) (by assumption) (by assumption) (by assumption) (by assumption) (by assumption) (by assumption) (by assumption) (by assumption) (by assumption) (by assumption) (by assumption) (by assumption) (by assumption) (by assumption) (by assumption) hf
def H_X11_bestsOn (l : Launch) (g : Int32 → Int32 → Int32 → Int32 → Int32 → Int64 → (Nat → Int32) → (Nat → Int32) → (Nat → Int32) → (Nat → Int32) → (Nat → Int32) → (Nat → Int32) → (Nat → Int32) → (Nat → Int32) → (Nat → Int32) → (Nat → Int32) → (Nat → Int32) → Int32 → Int32 → Int32 → Int64 → Option (Int32 × Int32 × Int64 × (Nat → Int32) × (Nat → Int32) × (Nat → Int32) × (Nat → Int32) × (Nat → Int32))) (fg ng : Nat) : Prop := ∀ (h : k_H) (hsh : h.1 = shM) {c0_25 : Int32} (ec0_25 : h.2.1 0 25 = c0_25) {c0_26 : Int32} (ec0_26 : h.2.1 0 26 = c0_26) {c0_27 : Int32} (ec0_27 : h.2.1 0 27 = c0_27) {c0_56 : Int32} (ec0_56 : h.2.1 0 56 = c0_56) {c0_57 : Int32} (ec0_57 : h.2.1 0 57 = c0_57) {c0_58 : Int64} (ec0_58 : h.2.2.1 0 58 = c0_58) {a7 : (Nat → Int32)} (ea7 : h.2.1 7 = a7) {a8 : (Nat → Int32)} (ea8 : h.2.1 8 = a8) {a9 : (Nat → Int32)} (ea9 : h.2.1 9 = a9) {a13 : (Nat → Int32)} (ea13 : h.2.1 13 = a13) {a14 : (Nat → Int32)} (ea14 : h.2.1 14 = a14) {a15 : (Nat → Int32)} (ea15 : h.2.1 15 = a15) {a16 : (Nat → Int32)} (ea16 : h.2.1 16 = a16) {a17 : (Nat → Int32)} (ea17 : h.2.1 17 = a17) {a21 : (Nat → Int32)} (ea21 : h.2.1 21 = a21) {a23 : (Nat → Int32)} (ea23 : h.2.1 23 = a23) {a27 : (Nat → Int32)} (ea27 : h.2.1 27 = a27) {x0 : Int32} {x1 : Int32} {x2 : Int32} {x3 : Int64} {out : Int32 × Int32 × Int64 × (Nat → Int32) × (Nat → Int32) × (Nat → Int32) × (Nat → Int32) × (Nat → Int32)} (hf : g c0_25 c0_26 c0_27 c0_56 c0_57 c0_58 a7 a8 a9 a13 a14 a15 a16 a17 a21 a23 a27 x0 x1 x2 x3 = some out), k_CT l yX11_bestsOn cX11_bestsOn 9 none fg ng [.ref 0, .int x0, .int x1, .int x2, .long x3] h none [(0, .inl (56, out.1)), (0, .inl (57, out.2.1)), (0, .inr (.inl (58, out.2.2.1))), (16, .inr (.inr (.inl out.2.2.2.1))), (17, .inr (.inr (.inl out.2.2.2.2.1))), (21, .inr (.inr (.inl out.2.2.2.2.2.1))), (23, .inr (.inr (.inl out.2.2.2.2.2.2.1))), (27, .inr (.inr (.inl out.2.2.2.2.2.2.2)))]
