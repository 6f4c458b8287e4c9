/-! LullabyPitModel.findWays(I)V -/
theorem ds_X11_findWays : k_ds [(28, 2, 0), (29, 2, 0)] = true := by decide +kernel
set_option maxHeartbeats 400000 in
set_option maxRecDepth 100000 in
theorem sX11_findWays_102 (u : Nat) {X : k_X} {ad : Nat → Nat} (C : k_C X cX11_findWays RX11 6 ad) (hr : X.meth.sig.returnType = none) (hR : X.R.frames = 3 ∧ X.R.locals = 67) {I : Nat → Nat → Int32} {L : Nat → Nat → Int64} {Rf : Nat → Nat → Option Nat} {c0_25 : Int32} (ec0_25 : I 0 25 = c0_25) {c0_26 : Int32} (ec0_26 : I 0 26 = c0_26) {c0_27 : Int32} (ec0_27 : I 0 27 = c0_27) {a7 : (Nat → Int32)} (ea7 : I 7 = a7) {a8 : (Nat → Int32)} (ea8 : I 8 = a8) {a21 : (Nat → Int32)} (ea21 : I 21 = a21) {out : (Nat → Int32) × (Nat → Int32)} {k2 : (Nat → Int32) → (Nat → Int32) → Int32 → Int32 → Option ((Nat → Int32) × (Nat → Int32))} (hk2 : ∀ (a28 : (Nat → Int32)) (a29 : (Nat → Int32)) (v1 : Int32) (v2 : Int32), k2 a28 a29 v1 v2 = some out → k_W X 6 0 0 (k_Q X ad none (k_ap [(28, .inr (.inr (.inl out.1))), (29, .inr (.inr (.inl out.2)))] (shM, I, L, Rf))) ad (k_ap [(28, .inr (.inr (.inl a28))), (29, .inr (.inr (.inl a29)))] (shM, I, L, Rf)) 2 [some (.ref 0), some (.int v1), some (.int v2), none, none, none] []) : ∀ (a28 : (Nat → Int32)) (a29 : (Nat → Int32)) (v1 : Int32) (v2 : Int32) (w0 : Int32) (w1 : Int32), bX11_findWays_102 u c0_25 c0_26 c0_27 a7 a8 a21 k2 a28 a29 v1 v2 w0 w1 = some out → k_W X 6 0 0 (k_Q X ad none (k_ap [(28, .inr (.inr (.inl out.1))), (29, .inr (.inr (.inl out.2)))] (shM, I, L, Rf))) ad (k_ap [(28, .inr (.inr (.inl a28))), (29, .inr (.inr (.inl a29)))] (shM, I, L, Rf)) 102 [some (.ref 0), some (.int v1), some (.int v2), none, none, none] [.int w0, .int w1, .ref 29] := by
  intro a28 a29 v1 v2 w0 w1 h
  unfold bX11_findWays_102 at h
  obtain ⟨hi102, h⟩ := k_i_of h
  refine s_i (j := (w1).toNatClampNeg) (f := a29) (us' := [(28, .inr (.inr (.inl a28))), (29, .inr (.inr (.inl (upd a29 ((w1).toNatClampNeg) w0))))]) C dX11_findWays_102 (rfl : 102 + 1 = 103) rfl rfl hi102 rfl ds_X11_findWays rfl rfl rfl ?_
  refine r_iinc (v := (v2 + (1 : Int32))) C dX11_findWays_103 (rfl : 103 + 3 = 106) rfl rfl (by decide) ?_
  show k_W _ _ _ _ _ _ _ _ [some (.ref 0), some (.int v1), some (.int (v2 + (1 : Int32))), none, none, none] _
  refine r_goto (tgt := 2) C dX11_findWays_106 (by decide) ?_
  refine k_mask [true, true, true, false, false, false] ?_
  exact hk2 a28 (upd a29 ((w1).toNatClampNeg) w0) v1 (v2 + (1 : Int32)) h
set_option maxHeartbeats 400000 in
set_option maxRecDepth 100000 in
theorem sX11_findWays_83 (u : Nat) {X : k_X} {ad : Nat → Nat} (C : k_C X cX11_findWays RX11 6 ad) (hr : X.meth.sig.returnType = none) (hR : X.R.frames = 3 ∧ X.R.locals = 67) {I : Nat → Nat → Int32} {L : Nat → Nat → Int64} {Rf : Nat → Nat → Option Nat} {c0_25 : Int32} (ec0_25 : I 0 25 = c0_25) {c0_26 : Int32} (ec0_26 : I 0 26 = c0_26) {c0_27 : Int32} (ec0_27 : I 0 27 = c0_27) {a7 : (Nat → Int32)} (ea7 : I 7 = a7) {a8 : (Nat → Int32)} (ea8 : I 8 = a8) {a21 : (Nat → Int32)} (ea21 : I 21 = a21) {out : (Nat → Int32) × (Nat → Int32)} {k2 : (Nat → Int32) → (Nat → Int32) → Int32 → Int32 → Option ((Nat → Int32) × (Nat → Int32))} (hk2 : ∀ (a28 : (Nat → Int32)) (a29 : (Nat → Int32)) (v1 : Int32) (v2 : Int32), k2 a28 a29 v1 v2 = some out → k_W X 6 0 0 (k_Q X ad none (k_ap [(28, .inr (.inr (.inl out.1))), (29, .inr (.inr (.inl out.2)))] (shM, I, L, Rf))) ad (k_ap [(28, .inr (.inr (.inl a28))), (29, .inr (.inr (.inl a29)))] (shM, I, L, Rf)) 2 [some (.ref 0), some (.int v1), some (.int v2), none, none, none] []) : ∀ (a28 : (Nat → Int32)) (a29 : (Nat → Int32)) (v1 : Int32) (v2 : Int32) (v3 : Int32) (w0 : Int32) (w1 : Int32), bX11_findWays_83 u c0_25 c0_26 c0_27 a7 a8 a21 k2 a28 a29 v1 v2 v3 w0 w1 = some out → k_W X 6 0 0 (k_Q X ad none (k_ap [(28, .inr (.inr (.inl out.1))), (29, .inr (.inr (.inl out.2)))] (shM, I, L, Rf))) ad (k_ap [(28, .inr (.inr (.inl a28))), (29, .inr (.inr (.inl a29)))] (shM, I, L, Rf)) 83 [some (.ref 0), some (.int v1), some (.int v2), some (.int v3), none, none] [.int w0, .int w1, .ref 28] := by
  intro a28 a29 v1 v2 v3 w0 w1 h
  unfold bX11_findWays_83 at h
  obtain ⟨hi83, h⟩ := k_i_of h
  refine s_i (j := (w1).toNatClampNeg) (f := a28) (us' := [(28, .inr (.inr (.inl (upd a28 ((w1).toNatClampNeg) w0)))), (29, .inr (.inr (.inl a29)))]) C dX11_findWays_83 (rfl : 83 + 1 = 84) rfl rfl hi83 rfl ds_X11_findWays rfl rfl rfl ?_
  refine r_aload_n C dX11_findWays_84 (rfl : 84 + 1 = 85) rfl ?_
  refine r_getR (q := 29) C dX11_findWays_85 (rfl : 85 + 3 = 88) fl_X11_102 rfl rfl ?_
  refine r_iload_n C dX11_findWays_88 (rfl : 88 + 1 = 89) rfl ?_
  refine r_iload_n C dX11_findWays_89 (rfl : 89 + 1 = 90) rfl ?_
  refine r_if_eq (tgt := 101) C dX11_findWays_90 (by decide) (rfl : 90 + 3 = 93) (fun c90 => ?_) (fun c90 => ?_)
  · have h := k_t c90 h
    refine r_iconst (v := (0 : Int32)) C dX11_findWays_101 (rfl : 101 + 1 = 102) rfl ?_
    refine k_mask [true, true, true, false, false, false] ?_
    exact sX11_findWays_102 u C hr hR ec0_25 ec0_26 ec0_27 ea7 ea8 ea21 hk2 (upd a28 ((w1).toNatClampNeg) w0) a29 v1 v2 (0 : Int32) v2 h
  · have h := k_f c90 h
    refine r_aload_n C dX11_findWays_93 (rfl : 93 + 1 = 94) rfl ?_
    refine r_iload_n C dX11_findWays_94 (rfl : 94 + 1 = 95) rfl ?_
    obtain ⟨r95, q95, h⟩ := k_b_of h
    refine d_V (As := [.int v2]) (st := [.int v2, .ref 29]) (st' := [.int r95, .int v2, .ref 29]) (h' := k_ap [(28, .inr (.inr (.inl (upd a28 ((w1).toNatClampNeg) w0)))), (29, .inr (.inr (.inl a29)))] (shM, I, L, Rf)) C hR ⟨Nat.zero_le _, Nat.zero_le _⟩ mv_X11_barsIn lk_X11_437 dX11_findWays_95 (rfl : 95 + 3 = 98) rfl rfl rfl rfl (c_X11_barsIn X.l u (k_ap [(28, .inr (.inr (.inl (upd a28 ((w1).toNatClampNeg) w0)))), (29, .inr (.inr (.inl a29)))] (shM, I, L, Rf)) rfl ea8 ea21 q95) rfl rfl rfl rfl rfl ?_
    refine r_goto (tgt := 102) C dX11_findWays_98 (by decide) ?_
    refine k_mask [true, true, true, false, false, false] ?_
    exact sX11_findWays_102 u C hr hR ec0_25 ec0_26 ec0_27 ea7 ea8 ea21 hk2 (upd a28 ((w1).toNatClampNeg) w0) a29 v1 v2 r95 v2 h
set_option maxHeartbeats 400000 in
set_option maxRecDepth 100000 in
theorem sX11_findWays_66 (u : Nat) {X : k_X} {ad : Nat → Nat} (C : k_C X cX11_findWays RX11 6 ad) (hr : X.meth.sig.returnType = none) (hR : X.R.frames = 3 ∧ X.R.locals = 67) {I : Nat → Nat → Int32} {L : Nat → Nat → Int64} {Rf : Nat → Nat → Option Nat} {c0_25 : Int32} (ec0_25 : I 0 25 = c0_25) {c0_26 : Int32} (ec0_26 : I 0 26 = c0_26) {c0_27 : Int32} (ec0_27 : I 0 27 = c0_27) {a7 : (Nat → Int32)} (ea7 : I 7 = a7) {a8 : (Nat → Int32)} (ea8 : I 8 = a8) {a21 : (Nat → Int32)} (ea21 : I 21 = a21) {out : (Nat → Int32) × (Nat → Int32)} {k2 : (Nat → Int32) → (Nat → Int32) → Int32 → Int32 → Option ((Nat → Int32) × (Nat → Int32))} (hk2 : ∀ (a28 : (Nat → Int32)) (a29 : (Nat → Int32)) (v1 : Int32) (v2 : Int32), k2 a28 a29 v1 v2 = some out → k_W X 6 0 0 (k_Q X ad none (k_ap [(28, .inr (.inr (.inl out.1))), (29, .inr (.inr (.inl out.2)))] (shM, I, L, Rf))) ad (k_ap [(28, .inr (.inr (.inl a28))), (29, .inr (.inr (.inl a29)))] (shM, I, L, Rf)) 2 [some (.ref 0), some (.int v1), some (.int v2), none, none, none] []) : ∀ (a28 : (Nat → Int32)) (a29 : (Nat → Int32)) (v1 : Int32) (v2 : Int32) (w0 : Int32), bX11_findWays_66 u c0_25 c0_26 c0_27 a7 a8 a21 k2 a28 a29 v1 v2 w0 = some out → k_W X 6 0 0 (k_Q X ad none (k_ap [(28, .inr (.inr (.inl out.1))), (29, .inr (.inr (.inl out.2)))] (shM, I, L, Rf))) ad (k_ap [(28, .inr (.inr (.inl a28))), (29, .inr (.inr (.inl a29)))] (shM, I, L, Rf)) 66 [some (.ref 0), some (.int v1), some (.int v2), none, none, none] [.int w0] := by
  intro a28 a29 v1 v2 w0 h
  unfold bX11_findWays_66 at h
  refine r_istore_n C dX11_findWays_66 (rfl : 66 + 1 = 67) (by decide) (Nat.le_of_ble_eq_true rfl) ?_
  show k_W _ _ _ _ _ _ _ _ [some (.ref 0), some (.int v1), some (.int v2), some (.int w0), none, none] _
  refine r_aload_n C dX11_findWays_67 (rfl : 67 + 1 = 68) rfl ?_
  refine r_getR (q := 28) C dX11_findWays_68 (rfl : 68 + 3 = 71) fl_X11_99 rfl rfl ?_
  refine r_iload_n C dX11_findWays_71 (rfl : 71 + 1 = 72) rfl ?_
  refine r_iload_n C dX11_findWays_72 (rfl : 72 + 1 = 73) rfl ?_
  refine r_if_eq (tgt := 80) C dX11_findWays_73 (by decide) (rfl : 73 + 3 = 76) (fun c73 => ?_) (fun c73 => ?_)
  · have h := k_t c73 h
    refine r_sipush (v := (1000 : Int32)) C dX11_findWays_80 (rfl : 80 + 3 = 83) rfl ?_
    refine k_mask [true, true, true, true, false, false] ?_
    exact sX11_findWays_83 u C hr hR ec0_25 ec0_26 ec0_27 ea7 ea8 ea21 hk2 a28 a29 v1 v2 w0 (1000 : Int32) v2 h
  · have h := k_f c73 h
    refine r_iconst (v := (1 : Int32)) C dX11_findWays_76 (rfl : 76 + 1 = 77) rfl ?_
    refine r_goto (tgt := 83) C dX11_findWays_77 (by decide) ?_
    refine k_mask [true, true, true, true, false, false] ?_
    exact sX11_findWays_83 u C hr hR ec0_25 ec0_26 ec0_27 ea7 ea8 ea21 hk2 a28 a29 v1 v2 w0 (1 : Int32) v2 h
set_option maxHeartbeats 400000 in
set_option maxRecDepth 100000 in
theorem sX11_findWays_61 (u : Nat) {X : k_X} {ad : Nat → Nat} (C : k_C X cX11_findWays RX11 6 ad) (hr : X.meth.sig.returnType = none) (hR : X.R.frames = 3 ∧ X.R.locals = 67) {I : Nat → Nat → Int32} {L : Nat → Nat → Int64} {Rf : Nat → Nat → Option Nat} {c0_25 : Int32} (ec0_25 : I 0 25 = c0_25) {c0_26 : Int32} (ec0_26 : I 0 26 = c0_26) {c0_27 : Int32} (ec0_27 : I 0 27 = c0_27) {a7 : (Nat → Int32)} (ea7 : I 7 = a7) {a8 : (Nat → Int32)} (ea8 : I 8 = a8) {a21 : (Nat → Int32)} (ea21 : I 21 = a21) {out : (Nat → Int32) × (Nat → Int32)} {k2 : (Nat → Int32) → (Nat → Int32) → Int32 → Int32 → Option ((Nat → Int32) × (Nat → Int32))} (hk2 : ∀ (a28 : (Nat → Int32)) (a29 : (Nat → Int32)) (v1 : Int32) (v2 : Int32), k2 a28 a29 v1 v2 = some out → k_W X 6 0 0 (k_Q X ad none (k_ap [(28, .inr (.inr (.inl out.1))), (29, .inr (.inr (.inl out.2)))] (shM, I, L, Rf))) ad (k_ap [(28, .inr (.inr (.inl a28))), (29, .inr (.inr (.inl a29)))] (shM, I, L, Rf)) 2 [some (.ref 0), some (.int v1), some (.int v2), none, none, none] []) : ∀ (a28 : (Nat → Int32)) (a29 : (Nat → Int32)) (v1 : Int32) (v2 : Int32), bX11_findWays_61 u c0_25 c0_26 c0_27 a7 a8 a21 k2 a28 a29 v1 v2 = some out → k_W X 6 0 0 (k_Q X ad none (k_ap [(28, .inr (.inr (.inl out.1))), (29, .inr (.inr (.inl out.2)))] (shM, I, L, Rf))) ad (k_ap [(28, .inr (.inr (.inl a28))), (29, .inr (.inr (.inl a29)))] (shM, I, L, Rf)) 61 [some (.ref 0), some (.int v1), some (.int v2), none, none, none] [] := by
  intro a28 a29 v1 v2 h
  unfold bX11_findWays_61 at h
  refine r_iconst (v := (1 : Int32)) C dX11_findWays_61 (rfl : 61 + 1 = 62) rfl ?_
  refine r_goto (tgt := 66) C dX11_findWays_62 (by decide) ?_
  refine k_mask [true, true, true, false, false, false] ?_
  exact sX11_findWays_66 u C hr hR ec0_25 ec0_26 ec0_27 ea7 ea8 ea21 hk2 a28 a29 v1 v2 (1 : Int32) h
set_option maxHeartbeats 400000 in
set_option maxRecDepth 100000 in
theorem sX11_findWays_65 (u : Nat) {X : k_X} {ad : Nat → Nat} (C : k_C X cX11_findWays RX11 6 ad) (hr : X.meth.sig.returnType = none) (hR : X.R.frames = 3 ∧ X.R.locals = 67) {I : Nat → Nat → Int32} {L : Nat → Nat → Int64} {Rf : Nat → Nat → Option Nat} {c0_25 : Int32} (ec0_25 : I 0 25 = c0_25) {c0_26 : Int32} (ec0_26 : I 0 26 = c0_26) {c0_27 : Int32} (ec0_27 : I 0 27 = c0_27) {a7 : (Nat → Int32)} (ea7 : I 7 = a7) {a8 : (Nat → Int32)} (ea8 : I 8 = a8) {a21 : (Nat → Int32)} (ea21 : I 21 = a21) {out : (Nat → Int32) × (Nat → Int32)} {k2 : (Nat → Int32) → (Nat → Int32) → Int32 → Int32 → Option ((Nat → Int32) × (Nat → Int32))} (hk2 : ∀ (a28 : (Nat → Int32)) (a29 : (Nat → Int32)) (v1 : Int32) (v2 : Int32), k2 a28 a29 v1 v2 = some out → k_W X 6 0 0 (k_Q X ad none (k_ap [(28, .inr (.inr (.inl out.1))), (29, .inr (.inr (.inl out.2)))] (shM, I, L, Rf))) ad (k_ap [(28, .inr (.inr (.inl a28))), (29, .inr (.inr (.inl a29)))] (shM, I, L, Rf)) 2 [some (.ref 0), some (.int v1), some (.int v2), none, none, none] []) : ∀ (a28 : (Nat → Int32)) (a29 : (Nat → Int32)) (v1 : Int32) (v2 : Int32), bX11_findWays_65 u c0_25 c0_26 c0_27 a7 a8 a21 k2 a28 a29 v1 v2 = some out → k_W X 6 0 0 (k_Q X ad none (k_ap [(28, .inr (.inr (.inl out.1))), (29, .inr (.inr (.inl out.2)))] (shM, I, L, Rf))) ad (k_ap [(28, .inr (.inr (.inl a28))), (29, .inr (.inr (.inl a29)))] (shM, I, L, Rf)) 65 [some (.ref 0), some (.int v1), some (.int v2), none, none, none] [] := by
  intro a28 a29 v1 v2 h
  unfold bX11_findWays_65 at h
  refine r_iconst (v := (0 : Int32)) C dX11_findWays_65 (rfl : 65 + 1 = 66) rfl ?_
  refine k_mask [true, true, true, false, false, false] ?_
  exact sX11_findWays_66 u C hr hR ec0_25 ec0_26 ec0_27 ea7 ea8 ea21 hk2 a28 a29 v1 v2 (0 : Int32) h
set_option maxHeartbeats 400000 in
set_option maxRecDepth 100000 in
theorem sX11_findWays_313 (u : Nat) {X : k_X} {ad : Nat → Nat} (C : k_C X cX11_findWays RX11 6 ad) (hr : X.meth.sig.returnType = none) (hR : X.R.frames = 3 ∧ X.R.locals = 67) {I : Nat → Nat → Int32} {L : Nat → Nat → Int64} {Rf : Nat → Nat → Option Nat} {c0_25 : Int32} (ec0_25 : I 0 25 = c0_25) {c0_26 : Int32} (ec0_26 : I 0 26 = c0_26) {c0_27 : Int32} (ec0_27 : I 0 27 = c0_27) {a7 : (Nat → Int32)} (ea7 : I 7 = a7) {a8 : (Nat → Int32)} (ea8 : I 8 = a8) {a21 : (Nat → Int32)} (ea21 : I 21 = a21) {out : (Nat → Int32) × (Nat → Int32)} {k111 : (Nat → Int32) → (Nat → Int32) → Int32 → Int32 → Option ((Nat → Int32) × (Nat → Int32))} (hk111 : ∀ (a28 : (Nat → Int32)) (a29 : (Nat → Int32)) (v1 : Int32) (v2 : Int32), k111 a28 a29 v1 v2 = some out → k_W X 6 0 0 (k_Q X ad none (k_ap [(28, .inr (.inr (.inl out.1))), (29, .inr (.inr (.inl out.2)))] (shM, I, L, Rf))) ad (k_ap [(28, .inr (.inr (.inl a28))), (29, .inr (.inr (.inl a29)))] (shM, I, L, Rf)) 111 [some (.ref 0), some (.int v1), some (.int v2), none, none, none] []) {k119 : (Nat → Int32) → (Nat → Int32) → Int32 → Int32 → Int32 → Option ((Nat → Int32) × (Nat → Int32))} (hk119 : ∀ (a28 : (Nat → Int32)) (a29 : (Nat → Int32)) (v1 : Int32) (v2 : Int32) (v3 : Int32), k119 a28 a29 v1 v2 v3 = some out → k_W X 6 0 0 (k_Q X ad none (k_ap [(28, .inr (.inr (.inl out.1))), (29, .inr (.inr (.inl out.2)))] (shM, I, L, Rf))) ad (k_ap [(28, .inr (.inr (.inl a28))), (29, .inr (.inr (.inl a29)))] (shM, I, L, Rf)) 119 [some (.ref 0), some (.int v1), some (.int v2), some (.int v3), none, none] []) : ∀ (a28 : (Nat → Int32)) (a29 : (Nat → Int32)) (v1 : Int32) (v2 : Int32) (v3 : Int32), bX11_findWays_313 u c0_25 c0_26 c0_27 a7 a8 a21 k111 k119 a28 a29 v1 v2 v3 = some out → k_W X 6 0 0 (k_Q X ad none (k_ap [(28, .inr (.inr (.inl out.1))), (29, .inr (.inr (.inl out.2)))] (shM, I, L, Rf))) ad (k_ap [(28, .inr (.inr (.inl a28))), (29, .inr (.inr (.inl a29)))] (shM, I, L, Rf)) 313 [some (.ref 0), some (.int v1), some (.int v2), some (.int v3), none, none] [] := by
  intro a28 a29 v1 v2 v3 h
  unfold bX11_findWays_313 at h
  refine r_iinc (v := (v3 + (1 : Int32))) C dX11_findWays_313 (rfl : 313 + 3 = 316) rfl rfl (by decide) ?_
  show k_W _ _ _ _ _ _ _ _ [some (.ref 0), some (.int v1), some (.int v2), some (.int (v3 + (1 : Int32))), none, none] _
  refine r_goto (tgt := 119) C dX11_findWays_316 (by decide) ?_
  refine k_mask [true, true, true, true, false, false] ?_
  exact hk119 a28 a29 v1 v2 (v3 + (1 : Int32)) h
set_option maxHeartbeats 400000 in
set_option maxRecDepth 100000 in
theorem sX11_findWays_275 (u : Nat) {X : k_X} {ad : Nat → Nat} (C : k_C X cX11_findWays RX11 6 ad) (hr : X.meth.sig.returnType = none) (hR : X.R.frames = 3 ∧ X.R.locals = 67) {I : Nat → Nat → Int32} {L : Nat → Nat → Int64} {Rf : Nat → Nat → Option Nat} {c0_25 : Int32} (ec0_25 : I 0 25 = c0_25) {c0_26 : Int32} (ec0_26 : I 0 26 = c0_26) {c0_27 : Int32} (ec0_27 : I 0 27 = c0_27) {a7 : (Nat → Int32)} (ea7 : I 7 = a7) {a8 : (Nat → Int32)} (ea8 : I 8 = a8) {a21 : (Nat → Int32)} (ea21 : I 21 = a21) {out : (Nat → Int32) × (Nat → Int32)} {k111 : (Nat → Int32) → (Nat → Int32) → Int32 → Int32 → Option ((Nat → Int32) × (Nat → Int32))} (hk111 : ∀ (a28 : (Nat → Int32)) (a29 : (Nat → Int32)) (v1 : Int32) (v2 : Int32), k111 a28 a29 v1 v2 = some out → k_W X 6 0 0 (k_Q X ad none (k_ap [(28, .inr (.inr (.inl out.1))), (29, .inr (.inr (.inl out.2)))] (shM, I, L, Rf))) ad (k_ap [(28, .inr (.inr (.inl a28))), (29, .inr (.inr (.inl a29)))] (shM, I, L, Rf)) 111 [some (.ref 0), some (.int v1), some (.int v2), none, none, none] []) {k119 : (Nat → Int32) → (Nat → Int32) → Int32 → Int32 → Int32 → Option ((Nat → Int32) × (Nat → Int32))} (hk119 : ∀ (a28 : (Nat → Int32)) (a29 : (Nat → Int32)) (v1 : Int32) (v2 : Int32) (v3 : Int32), k119 a28 a29 v1 v2 v3 = some out → k_W X 6 0 0 (k_Q X ad none (k_ap [(28, .inr (.inr (.inl out.1))), (29, .inr (.inr (.inl out.2)))] (shM, I, L, Rf))) ad (k_ap [(28, .inr (.inr (.inl a28))), (29, .inr (.inr (.inl a29)))] (shM, I, L, Rf)) 119 [some (.ref 0), some (.int v1), some (.int v2), some (.int v3), none, none] []) : ∀ (a28 : (Nat → Int32)) (a29 : (Nat → Int32)) (v1 : Int32) (v2 : Int32) (v3 : Int32) (v5 : Int32), bX11_findWays_275 u c0_25 c0_26 c0_27 a7 a8 a21 k111 k119 a28 a29 v1 v2 v3 v5 = some out → k_W X 6 0 0 (k_Q X ad none (k_ap [(28, .inr (.inr (.inl out.1))), (29, .inr (.inr (.inl out.2)))] (shM, I, L, Rf))) ad (k_ap [(28, .inr (.inr (.inl a28))), (29, .inr (.inr (.inl a29)))] (shM, I, L, Rf)) 275 [some (.ref 0), some (.int v1), some (.int v2), some (.int v3), none, some (.int v5)] [] := by
  intro a28 a29 v1 v2 v3 v5 h
  unfold bX11_findWays_275 at h
  refine r_iload C dX11_findWays_275 (rfl : 275 + 2 = 277) rfl ?_
  refine r_iconst (v := (1 : Int32)) C dX11_findWays_277 (rfl : 277 + 1 = 278) rfl ?_
  refine r_iadd C dX11_findWays_278 (rfl : 278 + 1 = 279) ?_
  refine r_aload_n C dX11_findWays_279 (rfl : 279 + 1 = 280) rfl ?_
  refine r_getI (v := c0_26) C dX11_findWays_280 (rfl : 280 + 3 = 283) fl_X11_187 rfl rfl ec0_26 ?_
  refine r_icmp_ge (tgt := 313) C dX11_findWays_283 (by decide) (rfl : 283 + 3 = 286) (fun c283 => ?_) (fun c283 => ?_)
  · have h := k_t c283 h
    refine k_mask [true, true, true, true, false, false] ?_
    exact sX11_findWays_313 u C hr hR ec0_25 ec0_26 ec0_27 ea7 ea8 ea21 hk111 hk119 a28 a29 v1 v2 v3 h
  · have h := k_f c283 h
    refine r_aload_n C dX11_findWays_286 (rfl : 286 + 1 = 287) rfl ?_
    refine r_getR (q := 28) C dX11_findWays_287 (rfl : 287 + 3 = 290) fl_X11_99 rfl rfl ?_
    refine r_iload_n C dX11_findWays_290 (rfl : 290 + 1 = 291) rfl ?_
    refine r_bipush (v := (8 : Int32)) C dX11_findWays_291 (rfl : 291 + 2 = 293) rfl ?_
    refine r_iadd C dX11_findWays_293 (rfl : 293 + 1 = 294) ?_
    obtain ⟨hi294, h⟩ := k_i_of h
    refine a_i (j := ((v3 + (8 : Int32))).toNatClampNeg) (f := a28) C dX11_findWays_294 (rfl : 294 + 1 = 295) rfl rfl hi294 rfl ?_
    refine r_sipush (v := (1000 : Int32)) C dX11_findWays_295 (rfl : 295 + 3 = 298) rfl ?_
    refine r_icmp_ge (tgt := 313) C dX11_findWays_298 (by decide) (rfl : 298 + 3 = 301) (fun c298 => ?_) (fun c298 => ?_)
    · have h := k_t c298 h
      refine k_mask [true, true, true, true, false, false] ?_
      exact sX11_findWays_313 u C hr hR ec0_25 ec0_26 ec0_27 ea7 ea8 ea21 hk111 hk119 a28 a29 v1 v2 v3 h
    · have h := k_f c298 h
      refine r_iload_n C dX11_findWays_301 (rfl : 301 + 1 = 302) rfl ?_
      refine r_aload_n C dX11_findWays_302 (rfl : 302 + 1 = 303) rfl ?_
      refine r_iload_n C dX11_findWays_303 (rfl : 303 + 1 = 304) rfl ?_
      refine r_iload_n C dX11_findWays_304 (rfl : 304 + 1 = 305) rfl ?_
      refine r_bipush (v := (8 : Int32)) C dX11_findWays_305 (rfl : 305 + 2 = 307) rfl ?_
      refine r_iadd C dX11_findWays_307 (rfl : 307 + 1 = 308) ?_
      obtain ⟨r308, q308, h⟩ := k_b_of h
      refine d_V (As := [.int v3, .int (v3 + (8 : Int32))]) (st := [.int v2]) (st' := [.int r308.1, .int v2]) (h' := k_ap [(28, .inr (.inr (.inl r308.2.1))), (29, .inr (.inr (.inl r308.2.2)))] (shM, I, L, Rf)) C hR ⟨Nat.zero_le _, Nat.zero_le _⟩ mv_X11_comes lk_X11_440 dX11_findWays_308 (rfl : 308 + 3 = 311) rfl rfl rfl rfl (c_X11_comes X.l u (k_ap [(28, .inr (.inr (.inl a28))), (29, .inr (.inr (.inl a29)))] (shM, I, L, Rf)) rfl ea8 ea21 rfl rfl q308) rfl rfl rfl (k_jn (us' := [(28, .inr (.inr (.inl r308.2.1))), (29, .inr (.inr (.inl r308.2.2)))]) ds_X11_findWays rfl rfl rfl) rfl ?_
      refine r_ior C dX11_findWays_311 (rfl : 311 + 1 = 312) ?_
      refine r_istore_n C dX11_findWays_312 (rfl : 312 + 1 = 313) (by decide) (Nat.le_of_ble_eq_true rfl) ?_
      show k_W _ _ _ _ _ _ _ _ [some (.ref 0), some (.int v1), some (.int (v2 ||| r308.1)), some (.int v3), none, some (.int v5)] _
      refine k_mask [true, true, true, true, false, false] ?_
      exact sX11_findWays_313 u C hr hR ec0_25 ec0_26 ec0_27 ea7 ea8 ea21 hk111 hk119 r308.2.1 r308.2.2 v1 (v2 ||| r308.1) v3 h
set_option maxHeartbeats 400000 in
set_option maxRecDepth 100000 in
theorem sX11_findWays_243 (u : Nat) {X : k_X} {ad : Nat → Nat} (C : k_C X cX11_findWays RX11 6 ad) (hr : X.meth.sig.returnType = none) (hR : X.R.frames = 3 ∧ X.R.locals = 67) {I : Nat → Nat → Int32} {L : Nat → Nat → Int64} {Rf : Nat → Nat → Option Nat} {c0_25 : Int32} (ec0_25 : I 0 25 = c0_25) {c0_26 : Int32} (ec0_26 : I 0 26 = c0_26) {c0_27 : Int32} (ec0_27 : I 0 27 = c0_27) {a7 : (Nat → Int32)} (ea7 : I 7 = a7) {a8 : (Nat → Int32)} (ea8 : I 8 = a8) {a21 : (Nat → Int32)} (ea21 : I 21 = a21) {out : (Nat → Int32) × (Nat → Int32)} {k111 : (Nat → Int32) → (Nat → Int32) → Int32 → Int32 → Option ((Nat → Int32) × (Nat → Int32))} (hk111 : ∀ (a28 : (Nat → Int32)) (a29 : (Nat → Int32)) (v1 : Int32) (v2 : Int32), k111 a28 a29 v1 v2 = some out → k_W X 6 0 0 (k_Q X ad none (k_ap [(28, .inr (.inr (.inl out.1))), (29, .inr (.inr (.inl out.2)))] (shM, I, L, Rf))) ad (k_ap [(28, .inr (.inr (.inl a28))), (29, .inr (.inr (.inl a29)))] (shM, I, L, Rf)) 111 [some (.ref 0), some (.int v1), some (.int v2), none, none, none] []) {k119 : (Nat → Int32) → (Nat → Int32) → Int32 → Int32 → Int32 → Option ((Nat → Int32) × (Nat → Int32))} (hk119 : ∀ (a28 : (Nat → Int32)) (a29 : (Nat → Int32)) (v1 : Int32) (v2 : Int32) (v3 : Int32), k119 a28 a29 v1 v2 v3 = some out → k_W X 6 0 0 (k_Q X ad none (k_ap [(28, .inr (.inr (.inl out.1))), (29, .inr (.inr (.inl out.2)))] (shM, I, L, Rf))) ad (k_ap [(28, .inr (.inr (.inl a28))), (29, .inr (.inr (.inl a29)))] (shM, I, L, Rf)) 119 [some (.ref 0), some (.int v1), some (.int v2), some (.int v3), none, none] []) : ∀ (a28 : (Nat → Int32)) (a29 : (Nat → Int32)) (v1 : Int32) (v2 : Int32) (v3 : Int32) (v5 : Int32), bX11_findWays_243 u c0_25 c0_26 c0_27 a7 a8 a21 k111 k119 a28 a29 v1 v2 v3 v5 = some out → k_W X 6 0 0 (k_Q X ad none (k_ap [(28, .inr (.inr (.inl out.1))), (29, .inr (.inr (.inl out.2)))] (shM, I, L, Rf))) ad (k_ap [(28, .inr (.inr (.inl a28))), (29, .inr (.inr (.inl a29)))] (shM, I, L, Rf)) 243 [some (.ref 0), some (.int v1), some (.int v2), some (.int v3), none, some (.int v5)] [] := by
  intro a28 a29 v1 v2 v3 v5 h
  unfold bX11_findWays_243 at h
  refine r_iload C dX11_findWays_243 (rfl : 243 + 2 = 245) rfl ?_
  refine r_if_le (tgt := 275) C dX11_findWays_245 (by decide) (rfl : 245 + 3 = 248) (fun c245 => ?_) (fun c245 => ?_)
  · have h := k_t c245 h
    refine k_mask [true, true, true, true, false, true] ?_
    exact sX11_findWays_275 u C hr hR ec0_25 ec0_26 ec0_27 ea7 ea8 ea21 hk111 hk119 a28 a29 v1 v2 v3 v5 h
  · have h := k_f c245 h
    refine r_aload_n C dX11_findWays_248 (rfl : 248 + 1 = 249) rfl ?_
    refine r_getR (q := 28) C dX11_findWays_249 (rfl : 249 + 3 = 252) fl_X11_99 rfl rfl ?_
    refine r_iload_n C dX11_findWays_252 (rfl : 252 + 1 = 253) rfl ?_
    refine r_bipush (v := (8 : Int32)) C dX11_findWays_253 (rfl : 253 + 2 = 255) rfl ?_
    refine r_isub C dX11_findWays_255 (rfl : 255 + 1 = 256) ?_
    obtain ⟨hi256, h⟩ := k_i_of h
    refine a_i (j := ((v3 - (8 : Int32))).toNatClampNeg) (f := a28) C dX11_findWays_256 (rfl : 256 + 1 = 257) rfl rfl hi256 rfl ?_
    refine r_sipush (v := (1000 : Int32)) C dX11_findWays_257 (rfl : 257 + 3 = 260) rfl ?_
    refine r_icmp_ge (tgt := 275) C dX11_findWays_260 (by decide) (rfl : 260 + 3 = 263) (fun c260 => ?_) (fun c260 => ?_)
    · have h := k_t c260 h
      refine k_mask [true, true, true, true, false, true] ?_
      exact sX11_findWays_275 u C hr hR ec0_25 ec0_26 ec0_27 ea7 ea8 ea21 hk111 hk119 a28 a29 v1 v2 v3 v5 h
    · have h := k_f c260 h
      refine r_iload_n C dX11_findWays_263 (rfl : 263 + 1 = 264) rfl ?_
      refine r_aload_n C dX11_findWays_264 (rfl : 264 + 1 = 265) rfl ?_
      refine r_iload_n C dX11_findWays_265 (rfl : 265 + 1 = 266) rfl ?_
      refine r_iload_n C dX11_findWays_266 (rfl : 266 + 1 = 267) rfl ?_
      refine r_bipush (v := (8 : Int32)) C dX11_findWays_267 (rfl : 267 + 2 = 269) rfl ?_
      refine r_isub C dX11_findWays_269 (rfl : 269 + 1 = 270) ?_
      obtain ⟨r270, q270, h⟩ := k_b_of h
      refine d_V (As := [.int v3, .int (v3 - (8 : Int32))]) (st := [.int v2]) (st' := [.int r270.1, .int v2]) (h' := k_ap [(28, .inr (.inr (.inl r270.2.1))), (29, .inr (.inr (.inl r270.2.2)))] (shM, I, L, Rf)) C hR ⟨Nat.zero_le _, Nat.zero_le _⟩ mv_X11_comes lk_X11_440 dX11_findWays_270 (rfl : 270 + 3 = 273) rfl rfl rfl rfl (c_X11_comes X.l u (k_ap [(28, .inr (.inr (.inl a28))), (29, .inr (.inr (.inl a29)))] (shM, I, L, Rf)) rfl ea8 ea21 rfl rfl q270) rfl rfl rfl (k_jn (us' := [(28, .inr (.inr (.inl r270.2.1))), (29, .inr (.inr (.inl r270.2.2)))]) ds_X11_findWays rfl rfl rfl) rfl ?_
      refine r_ior C dX11_findWays_273 (rfl : 273 + 1 = 274) ?_
      refine r_istore_n C dX11_findWays_274 (rfl : 274 + 1 = 275) (by decide) (Nat.le_of_ble_eq_true rfl) ?_
      show k_W _ _ _ _ _ _ _ _ [some (.ref 0), some (.int v1), some (.int (v2 ||| r270.1)), some (.int v3), none, some (.int v5)] _
      refine k_mask [true, true, true, true, false, true] ?_
      exact sX11_findWays_275 u C hr hR ec0_25 ec0_26 ec0_27 ea7 ea8 ea21 hk111 hk119 r270.2.1 r270.2.2 v1 (v2 ||| r270.1) v3 v5 h
set_option maxHeartbeats 400000 in
set_option maxRecDepth 100000 in
theorem sX11_findWays_207 (u : Nat) {X : k_X} {ad : Nat → Nat} (C : k_C X cX11_findWays RX11 6 ad) (hr : X.meth.sig.returnType = none) (hR : X.R.frames = 3 ∧ X.R.locals = 67) {I : Nat → Nat → Int32} {L : Nat → Nat → Int64} {Rf : Nat → Nat → Option Nat} {c0_25 : Int32} (ec0_25 : I 0 25 = c0_25) {c0_26 : Int32} (ec0_26 : I 0 26 = c0_26) {c0_27 : Int32} (ec0_27 : I 0 27 = c0_27) {a7 : (Nat → Int32)} (ea7 : I 7 = a7) {a8 : (Nat → Int32)} (ea8 : I 8 = a8) {a21 : (Nat → Int32)} (ea21 : I 21 = a21) {out : (Nat → Int32) × (Nat → Int32)} {k111 : (Nat → Int32) → (Nat → Int32) → Int32 → Int32 → Option ((Nat → Int32) × (Nat → Int32))} (hk111 : ∀ (a28 : (Nat → Int32)) (a29 : (Nat → Int32)) (v1 : Int32) (v2 : Int32), k111 a28 a29 v1 v2 = some out → k_W X 6 0 0 (k_Q X ad none (k_ap [(28, .inr (.inr (.inl out.1))), (29, .inr (.inr (.inl out.2)))] (shM, I, L, Rf))) ad (k_ap [(28, .inr (.inr (.inl a28))), (29, .inr (.inr (.inl a29)))] (shM, I, L, Rf)) 111 [some (.ref 0), some (.int v1), some (.int v2), none, none, none] []) {k119 : (Nat → Int32) → (Nat → Int32) → Int32 → Int32 → Int32 → Option ((Nat → Int32) × (Nat → Int32))} (hk119 : ∀ (a28 : (Nat → Int32)) (a29 : (Nat → Int32)) (v1 : Int32) (v2 : Int32) (v3 : Int32), k119 a28 a29 v1 v2 v3 = some out → k_W X 6 0 0 (k_Q X ad none (k_ap [(28, .inr (.inr (.inl out.1))), (29, .inr (.inr (.inl out.2)))] (shM, I, L, Rf))) ad (k_ap [(28, .inr (.inr (.inl a28))), (29, .inr (.inr (.inl a29)))] (shM, I, L, Rf)) 119 [some (.ref 0), some (.int v1), some (.int v2), some (.int v3), none, none] []) : ∀ (a28 : (Nat → Int32)) (a29 : (Nat → Int32)) (v1 : Int32) (v2 : Int32) (v3 : Int32) (v4 : Int32) (v5 : Int32), bX11_findWays_207 u c0_25 c0_26 c0_27 a7 a8 a21 k111 k119 a28 a29 v1 v2 v3 v4 v5 = some out → k_W X 6 0 0 (k_Q X ad none (k_ap [(28, .inr (.inr (.inl out.1))), (29, .inr (.inr (.inl out.2)))] (shM, I, L, Rf))) ad (k_ap [(28, .inr (.inr (.inl a28))), (29, .inr (.inr (.inl a29)))] (shM, I, L, Rf)) 207 [some (.ref 0), some (.int v1), some (.int v2), some (.int v3), some (.int v4), some (.int v5)] [] := by
  intro a28 a29 v1 v2 v3 v4 v5 h
  unfold bX11_findWays_207 at h
  refine r_iload C dX11_findWays_207 (rfl : 207 + 2 = 209) rfl ?_
  refine r_iconst (v := (1 : Int32)) C dX11_findWays_209 (rfl : 209 + 1 = 210) rfl ?_
  refine r_iadd C dX11_findWays_210 (rfl : 210 + 1 = 211) ?_
  refine r_aload_n C dX11_findWays_211 (rfl : 211 + 1 = 212) rfl ?_
  refine r_getI (v := c0_25) C dX11_findWays_212 (rfl : 212 + 3 = 215) fl_X11_184 rfl rfl ec0_25 ?_
  refine r_icmp_ge (tgt := 243) C dX11_findWays_215 (by decide) (rfl : 215 + 3 = 218) (fun c215 => ?_) (fun c215 => ?_)
  · have h := k_t c215 h
    refine k_mask [true, true, true, true, false, true] ?_
    exact sX11_findWays_243 u C hr hR ec0_25 ec0_26 ec0_27 ea7 ea8 ea21 hk111 hk119 a28 a29 v1 v2 v3 v5 h
  · have h := k_f c215 h
    refine r_aload_n C dX11_findWays_218 (rfl : 218 + 1 = 219) rfl ?_
    refine r_getR (q := 28) C dX11_findWays_219 (rfl : 219 + 3 = 222) fl_X11_99 rfl rfl ?_
    refine r_iload_n C dX11_findWays_222 (rfl : 222 + 1 = 223) rfl ?_
    refine r_iconst (v := (1 : Int32)) C dX11_findWays_223 (rfl : 223 + 1 = 224) rfl ?_
    refine r_iadd C dX11_findWays_224 (rfl : 224 + 1 = 225) ?_
    obtain ⟨hi225, h⟩ := k_i_of h
    refine a_i (j := ((v3 + (1 : Int32))).toNatClampNeg) (f := a28) C dX11_findWays_225 (rfl : 225 + 1 = 226) rfl rfl hi225 rfl ?_
    refine r_sipush (v := (1000 : Int32)) C dX11_findWays_226 (rfl : 226 + 3 = 229) rfl ?_
    refine r_icmp_ge (tgt := 243) C dX11_findWays_229 (by decide) (rfl : 229 + 3 = 232) (fun c229 => ?_) (fun c229 => ?_)
    · have h := k_t c229 h
      refine k_mask [true, true, true, true, false, true] ?_
      exact sX11_findWays_243 u C hr hR ec0_25 ec0_26 ec0_27 ea7 ea8 ea21 hk111 hk119 a28 a29 v1 v2 v3 v5 h
    · have h := k_f c229 h
      refine r_iload_n C dX11_findWays_232 (rfl : 232 + 1 = 233) rfl ?_
      refine r_aload_n C dX11_findWays_233 (rfl : 233 + 1 = 234) rfl ?_
      refine r_iload_n C dX11_findWays_234 (rfl : 234 + 1 = 235) rfl ?_
      refine r_iload_n C dX11_findWays_235 (rfl : 235 + 1 = 236) rfl ?_
      refine r_iconst (v := (1 : Int32)) C dX11_findWays_236 (rfl : 236 + 1 = 237) rfl ?_
      refine r_iadd C dX11_findWays_237 (rfl : 237 + 1 = 238) ?_
      obtain ⟨r238, q238, h⟩ := k_b_of h
      refine d_V (As := [.int v3, .int (v3 + (1 : Int32))]) (st := [.int v2]) (st' := [.int r238.1, .int v2]) (h' := k_ap [(28, .inr (.inr (.inl r238.2.1))), (29, .inr (.inr (.inl r238.2.2)))] (shM, I, L, Rf)) C hR ⟨Nat.zero_le _, Nat.zero_le _⟩ mv_X11_comes lk_X11_440 dX11_findWays_238 (rfl : 238 + 3 = 241) rfl rfl rfl rfl (c_X11_comes X.l u (k_ap [(28, .inr (.inr (.inl a28))), (29, .inr (.inr (.inl a29)))] (shM, I, L, Rf)) rfl ea8 ea21 rfl rfl q238) rfl rfl rfl (k_jn (us' := [(28, .inr (.inr (.inl r238.2.1))), (29, .inr (.inr (.inl r238.2.2)))]) ds_X11_findWays rfl rfl rfl) rfl ?_
      refine r_ior C dX11_findWays_241 (rfl : 241 + 1 = 242) ?_
      refine r_istore_n C dX11_findWays_242 (rfl : 242 + 1 = 243) (by decide) (Nat.le_of_ble_eq_true rfl) ?_
      show k_W _ _ _ _ _ _ _ _ [some (.ref 0), some (.int v1), some (.int (v2 ||| r238.1)), some (.int v3), some (.int v4), some (.int v5)] _
      refine k_mask [true, true, true, true, false, true] ?_
      exact sX11_findWays_243 u C hr hR ec0_25 ec0_26 ec0_27 ea7 ea8 ea21 hk111 hk119 r238.2.1 r238.2.2 v1 (v2 ||| r238.1) v3 v5 h
set_option maxHeartbeats 400000 in
set_option maxRecDepth 100000 in
theorem sX11_findWays_177 (u : Nat) {X : k_X} {ad : Nat → Nat} (C : k_C X cX11_findWays RX11 6 ad) (hr : X.meth.sig.returnType = none) (hR : X.R.frames = 3 ∧ X.R.locals = 67) {I : Nat → Nat → Int32} {L : Nat → Nat → Int64} {Rf : Nat → Nat → Option Nat} {c0_25 : Int32} (ec0_25 : I 0 25 = c0_25) {c0_26 : Int32} (ec0_26 : I 0 26 = c0_26) {c0_27 : Int32} (ec0_27 : I 0 27 = c0_27) {a7 : (Nat → Int32)} (ea7 : I 7 = a7) {a8 : (Nat → Int32)} (ea8 : I 8 = a8) {a21 : (Nat → Int32)} (ea21 : I 21 = a21) {out : (Nat → Int32) × (Nat → Int32)} {k111 : (Nat → Int32) → (Nat → Int32) → Int32 → Int32 → Option ((Nat → Int32) × (Nat → Int32))} (hk111 : ∀ (a28 : (Nat → Int32)) (a29 : (Nat → Int32)) (v1 : Int32) (v2 : Int32), k111 a28 a29 v1 v2 = some out → k_W X 6 0 0 (k_Q X ad none (k_ap [(28, .inr (.inr (.inl out.1))), (29, .inr (.inr (.inl out.2)))] (shM, I, L, Rf))) ad (k_ap [(28, .inr (.inr (.inl a28))), (29, .inr (.inr (.inl a29)))] (shM, I, L, Rf)) 111 [some (.ref 0), some (.int v1), some (.int v2), none, none, none] []) {k119 : (Nat → Int32) → (Nat → Int32) → Int32 → Int32 → Int32 → Option ((Nat → Int32) × (Nat → Int32))} (hk119 : ∀ (a28 : (Nat → Int32)) (a29 : (Nat → Int32)) (v1 : Int32) (v2 : Int32) (v3 : Int32), k119 a28 a29 v1 v2 v3 = some out → k_W X 6 0 0 (k_Q X ad none (k_ap [(28, .inr (.inr (.inl out.1))), (29, .inr (.inr (.inl out.2)))] (shM, I, L, Rf))) ad (k_ap [(28, .inr (.inr (.inl a28))), (29, .inr (.inr (.inl a29)))] (shM, I, L, Rf)) 119 [some (.ref 0), some (.int v1), some (.int v2), some (.int v3), none, none] []) : ∀ (a28 : (Nat → Int32)) (a29 : (Nat → Int32)) (v1 : Int32) (v2 : Int32) (v3 : Int32) (v4 : Int32) (v5 : Int32), bX11_findWays_177 u c0_25 c0_26 c0_27 a7 a8 a21 k111 k119 a28 a29 v1 v2 v3 v4 v5 = some out → k_W X 6 0 0 (k_Q X ad none (k_ap [(28, .inr (.inr (.inl out.1))), (29, .inr (.inr (.inl out.2)))] (shM, I, L, Rf))) ad (k_ap [(28, .inr (.inr (.inl a28))), (29, .inr (.inr (.inl a29)))] (shM, I, L, Rf)) 177 [some (.ref 0), some (.int v1), some (.int v2), some (.int v3), some (.int v4), some (.int v5)] [] := by
  intro a28 a29 v1 v2 v3 v4 v5 h
  unfold bX11_findWays_177 at h
  refine r_iload C dX11_findWays_177 (rfl : 177 + 2 = 179) rfl ?_
  refine r_if_le (tgt := 207) C dX11_findWays_179 (by decide) (rfl : 179 + 3 = 182) (fun c179 => ?_) (fun c179 => ?_)
  · have h := k_t c179 h
    refine k_mask [true, true, true, true, true, true] ?_
    exact sX11_findWays_207 u C hr hR ec0_25 ec0_26 ec0_27 ea7 ea8 ea21 hk111 hk119 a28 a29 v1 v2 v3 v4 v5 h
  · have h := k_f c179 h
    refine r_aload_n C dX11_findWays_182 (rfl : 182 + 1 = 183) rfl ?_
    refine r_getR (q := 28) C dX11_findWays_183 (rfl : 183 + 3 = 186) fl_X11_99 rfl rfl ?_
    refine r_iload_n C dX11_findWays_186 (rfl : 186 + 1 = 187) rfl ?_
    refine r_iconst (v := (1 : Int32)) C dX11_findWays_187 (rfl : 187 + 1 = 188) rfl ?_
    refine r_isub C dX11_findWays_188 (rfl : 188 + 1 = 189) ?_
    obtain ⟨hi189, h⟩ := k_i_of h
    refine a_i (j := ((v3 - (1 : Int32))).toNatClampNeg) (f := a28) C dX11_findWays_189 (rfl : 189 + 1 = 190) rfl rfl hi189 rfl ?_
    refine r_sipush (v := (1000 : Int32)) C dX11_findWays_190 (rfl : 190 + 3 = 193) rfl ?_
    refine r_icmp_ge (tgt := 207) C dX11_findWays_193 (by decide) (rfl : 193 + 3 = 196) (fun c193 => ?_) (fun c193 => ?_)
    · have h := k_t c193 h
      refine k_mask [true, true, true, true, true, true] ?_
      exact sX11_findWays_207 u C hr hR ec0_25 ec0_26 ec0_27 ea7 ea8 ea21 hk111 hk119 a28 a29 v1 v2 v3 v4 v5 h
    · have h := k_f c193 h
      refine r_iload_n C dX11_findWays_196 (rfl : 196 + 1 = 197) rfl ?_
      refine r_aload_n C dX11_findWays_197 (rfl : 197 + 1 = 198) rfl ?_
      refine r_iload_n C dX11_findWays_198 (rfl : 198 + 1 = 199) rfl ?_
      refine r_iload_n C dX11_findWays_199 (rfl : 199 + 1 = 200) rfl ?_
      refine r_iconst (v := (1 : Int32)) C dX11_findWays_200 (rfl : 200 + 1 = 201) rfl ?_
      refine r_isub C dX11_findWays_201 (rfl : 201 + 1 = 202) ?_
      obtain ⟨r202, q202, h⟩ := k_b_of h
      refine d_V (As := [.int v3, .int (v3 - (1 : Int32))]) (st := [.int v2]) (st' := [.int r202.1, .int v2]) (h' := k_ap [(28, .inr (.inr (.inl r202.2.1))), (29, .inr (.inr (.inl r202.2.2)))] (shM, I, L, Rf)) C hR ⟨Nat.zero_le _, Nat.zero_le _⟩ mv_X11_comes lk_X11_440 dX11_findWays_202 (rfl : 202 + 3 = 205) rfl rfl rfl rfl (c_X11_comes X.l u (k_ap [(28, .inr (.inr (.inl a28))), (29, .inr (.inr (.inl a29)))] (shM, I, L, Rf)) rfl ea8 ea21 rfl rfl q202) rfl rfl rfl (k_jn (us' := [(28, .inr (.inr (.inl r202.2.1))), (29, .inr (.inr (.inl r202.2.2)))]) ds_X11_findWays rfl rfl rfl) rfl ?_
      refine r_ior C dX11_findWays_205 (rfl : 205 + 1 = 206) ?_
      refine r_istore_n C dX11_findWays_206 (rfl : 206 + 1 = 207) (by decide) (Nat.le_of_ble_eq_true rfl) ?_
      show k_W _ _ _ _ _ _ _ _ [some (.ref 0), some (.int v1), some (.int (v2 ||| r202.1)), some (.int v3), some (.int v4), some (.int v5)] _
      refine k_mask [true, true, true, true, true, true] ?_
      exact sX11_findWays_207 u C hr hR ec0_25 ec0_26 ec0_27 ea7 ea8 ea21 hk111 hk119 r202.2.1 r202.2.2 v1 (v2 ||| r202.1) v3 v4 v5 h
set_option maxHeartbeats 400000 in
set_option maxRecDepth 100000 in
theorem sX11_findWays_119 (u : Nat) {X : k_X} {ad : Nat → Nat} (C : k_C X cX11_findWays RX11 6 ad) (hr : X.meth.sig.returnType = none) (hR : X.R.frames = 3 ∧ X.R.locals = 67) {I : Nat → Nat → Int32} {L : Nat → Nat → Int64} {Rf : Nat → Nat → Option Nat} {c0_25 : Int32} (ec0_25 : I 0 25 = c0_25) {c0_26 : Int32} (ec0_26 : I 0 26 = c0_26) {c0_27 : Int32} (ec0_27 : I 0 27 = c0_27) {a7 : (Nat → Int32)} (ea7 : I 7 = a7) {a8 : (Nat → Int32)} (ea8 : I 8 = a8) {a21 : (Nat → Int32)} (ea21 : I 21 = a21) {out : (Nat → Int32) × (Nat → Int32)} {k111 : (Nat → Int32) → (Nat → Int32) → Int32 → Int32 → Option ((Nat → Int32) × (Nat → Int32))} (hk111 : ∀ (a28 : (Nat → Int32)) (a29 : (Nat → Int32)) (v1 : Int32) (v2 : Int32), k111 a28 a29 v1 v2 = some out → k_W X 6 0 0 (k_Q X ad none (k_ap [(28, .inr (.inr (.inl out.1))), (29, .inr (.inr (.inl out.2)))] (shM, I, L, Rf))) ad (k_ap [(28, .inr (.inr (.inl a28))), (29, .inr (.inr (.inl a29)))] (shM, I, L, Rf)) 111 [some (.ref 0), some (.int v1), some (.int v2), none, none, none] []) : ∀ (n : Nat) (a28 : (Nat → Int32)) (a29 : (Nat → Int32)) (v1 : Int32) (v2 : Int32) (v3 : Int32), bX11_findWays_119 u c0_25 c0_26 c0_27 a7 a8 a21 k111 n a28 a29 v1 v2 v3 = some out → k_W X 6 0 0 (k_Q X ad none (k_ap [(28, .inr (.inr (.inl out.1))), (29, .inr (.inr (.inl out.2)))] (shM, I, L, Rf))) ad (k_ap [(28, .inr (.inr (.inl a28))), (29, .inr (.inr (.inl a29)))] (shM, I, L, Rf)) 119 [some (.ref 0), some (.int v1), some (.int v2), some (.int v3), none, none] [] := by
  intro n
  induction n with
  | zero => intro a28 a29 v1 v2 v3 h; cases h
  | succ n ih =>
    intro a28 a29 v1 v2 v3 h
    refine r_iload_n C dX11_findWays_119 (rfl : 119 + 1 = 120) rfl ?_
    refine r_bipush (v := (48 : Int32)) C dX11_findWays_120 (rfl : 120 + 2 = 122) rfl ?_
    refine r_icmp_ge (tgt := 319) C dX11_findWays_122 (by decide) (rfl : 122 + 3 = 125) (fun c122 => ?_) (fun c122 => ?_)
    · have h := k_t c122 h
      refine r_goto (tgt := 111) C dX11_findWays_319 (by decide) ?_
      refine k_mask [true, true, true, false, false, false] ?_
      exact hk111 a28 a29 v1 v2 h
    · have h := k_f c122 h
      refine r_iload_n C dX11_findWays_125 (rfl : 125 + 1 = 126) rfl ?_
      refine r_bipush (v := (8 : Int32)) C dX11_findWays_126 (rfl : 126 + 2 = 128) rfl ?_
      refine r_irem C dX11_findWays_128 (rfl : 128 + 1 = 129) (by decide) ?_
      refine r_istore C dX11_findWays_129 (rfl : 129 + 2 = 131) (by decide) (Nat.le_of_ble_eq_true rfl) ?_
      show k_W _ _ _ _ _ _ _ _ [some (.ref 0), some (.int v1), some (.int v2), some (.int v3), some (.int (v3 - v3 / (8 : Int32) * (8 : Int32))), none] _
      refine r_iload_n C dX11_findWays_131 (rfl : 131 + 1 = 132) rfl ?_
      refine r_bipush (v := (8 : Int32)) C dX11_findWays_132 (rfl : 132 + 2 = 134) rfl ?_
      refine r_idiv C dX11_findWays_134 (rfl : 134 + 1 = 135) (by decide) ?_
      refine r_istore C dX11_findWays_135 (rfl : 135 + 2 = 137) (by decide) (Nat.le_of_ble_eq_true rfl) ?_
      show k_W _ _ _ _ _ _ _ _ [some (.ref 0), some (.int v1), some (.int v2), some (.int v3), some (.int (v3 - v3 / (8 : Int32) * (8 : Int32))), some (.int (v3 / (8 : Int32)))] _
      refine r_aload_n C dX11_findWays_137 (rfl : 137 + 1 = 138) rfl ?_
      refine r_iload C dX11_findWays_138 (rfl : 138 + 2 = 140) rfl ?_
      refine r_iload C dX11_findWays_140 (rfl : 140 + 2 = 142) rfl ?_
      obtain ⟨r142, q142, h⟩ := k_b_of h
      refine d_V (As := [.int (v3 - v3 / (8 : Int32) * (8 : Int32)), .int (v3 / (8 : Int32))]) (st := []) (st' := [.int r142]) (h' := k_ap [(28, .inr (.inr (.inl a28))), (29, .inr (.inr (.inl a29)))] (shM, I, L, Rf)) C hR ⟨Nat.zero_le _, Nat.zero_le _⟩ mv_X11_isIn lk_X11_363 dX11_findWays_142 (rfl : 142 + 3 = 145) rfl rfl rfl rfl (c_X11_isIn X.l u (k_ap [(28, .inr (.inr (.inl a28))), (29, .inr (.inr (.inl a29)))] (shM, I, L, Rf)) rfl ec0_25 ec0_26 q142) rfl rfl rfl rfl rfl ?_
      refine r_if_eq (tgt := 313) C dX11_findWays_145 (by decide) (rfl : 145 + 3 = 148) (fun c145 => ?_) (fun c145 => ?_)
      · have h := k_t c145 h
        refine k_mask [true, true, true, true, false, false] ?_
        exact sX11_findWays_313 u C hr hR ec0_25 ec0_26 ec0_27 ea7 ea8 ea21 hk111 ih a28 a29 v1 v2 v3 h
      · have h := k_f c145 h
        refine r_aload_n C dX11_findWays_148 (rfl : 148 + 1 = 149) rfl ?_
        refine r_iload C dX11_findWays_149 (rfl : 149 + 2 = 151) rfl ?_
        refine r_iload C dX11_findWays_151 (rfl : 151 + 2 = 153) rfl ?_
        obtain ⟨r153, q153, h⟩ := k_b_of h
        refine d_V (As := [.int (v3 - v3 / (8 : Int32) * (8 : Int32)), .int (v3 / (8 : Int32))]) (st := []) (st' := [.int r153]) (h' := k_ap [(28, .inr (.inr (.inl a28))), (29, .inr (.inr (.inl a29)))] (shM, I, L, Rf)) C hR ⟨Nat.zero_le _, Nat.zero_le _⟩ mv_X11_isOpen lk_X11_367 dX11_findWays_153 (rfl : 153 + 3 = 156) rfl rfl rfl rfl (c_X11_isOpen X.l u (k_ap [(28, .inr (.inr (.inl a28))), (29, .inr (.inr (.inl a29)))] (shM, I, L, Rf)) rfl ec0_25 ec0_26 ea21 q153) rfl rfl rfl rfl rfl ?_
        refine r_if_ne (tgt := 313) C dX11_findWays_156 (by decide) (rfl : 156 + 3 = 159) (fun c156 => ?_) (fun c156 => ?_)
        · have h := k_f c156 h
          refine k_mask [true, true, true, true, false, false] ?_
          exact sX11_findWays_313 u C hr hR ec0_25 ec0_26 ec0_27 ea7 ea8 ea21 hk111 ih a28 a29 v1 v2 v3 h
        · have h := k_t c156 h
          refine r_aload_n C dX11_findWays_159 (rfl : 159 + 1 = 160) rfl ?_
          refine r_getR (q := 7) C dX11_findWays_160 (rfl : 160 + 3 = 163) fl_X11_35 rfl rfl ?_
          refine r_iload_n C dX11_findWays_163 (rfl : 163 + 1 = 164) rfl ?_
          obtain ⟨hi164, h⟩ := k_i_of h
          refine a_i (j := (v3).toNatClampNeg) (f := a7) C dX11_findWays_164 (rfl : 164 + 1 = 165) rfl ea7 hi164 rfl ?_
          refine r_iconst (v := (5 : Int32)) C dX11_findWays_165 (rfl : 165 + 1 = 166) rfl ?_
          refine r_icmp_ne (tgt := 177) C dX11_findWays_166 (by decide) (rfl : 166 + 3 = 169) (fun c166 => ?_) (fun c166 => ?_)
          · have h := k_f c166 h
            refine k_mask [true, true, true, true, true, true] ?_
            exact sX11_findWays_177 u C hr hR ec0_25 ec0_26 ec0_27 ea7 ea8 ea21 hk111 ih a28 a29 v1 v2 v3 (v3 - v3 / (8 : Int32) * (8 : Int32)) (v3 / (8 : Int32)) h
          · have h := k_t c166 h
            refine r_iload_n C dX11_findWays_169 (rfl : 169 + 1 = 170) rfl ?_
            refine r_iload_n C dX11_findWays_170 (rfl : 170 + 1 = 171) rfl ?_
            refine r_icmp_eq (tgt := 177) C dX11_findWays_171 (by decide) (rfl : 171 + 3 = 174) (fun c171 => ?_) (fun c171 => ?_)
            · have h := k_t c171 h
              refine k_mask [true, true, true, true, true, true] ?_
              exact sX11_findWays_177 u C hr hR ec0_25 ec0_26 ec0_27 ea7 ea8 ea21 hk111 ih a28 a29 v1 v2 v3 (v3 - v3 / (8 : Int32) * (8 : Int32)) (v3 / (8 : Int32)) h
            · have h := k_f c171 h
              refine r_goto (tgt := 313) C dX11_findWays_174 (by decide) ?_
              refine k_mask [true, true, true, true, false, false] ?_
              exact sX11_findWays_313 u C hr hR ec0_25 ec0_26 ec0_27 ea7 ea8 ea21 hk111 ih a28 a29 v1 v2 v3 h
set_option maxHeartbeats 400000 in
set_option maxRecDepth 100000 in
theorem sX11_findWays_111 (u : Nat) {X : k_X} {ad : Nat → Nat} (C : k_C X cX11_findWays RX11 6 ad) (hr : X.meth.sig.returnType = none) (hR : X.R.frames = 3 ∧ X.R.locals = 67) {I : Nat → Nat → Int32} {L : Nat → Nat → Int64} {Rf : Nat → Nat → Option Nat} {c0_25 : Int32} (ec0_25 : I 0 25 = c0_25) {c0_26 : Int32} (ec0_26 : I 0 26 = c0_26) {c0_27 : Int32} (ec0_27 : I 0 27 = c0_27) {a7 : (Nat → Int32)} (ea7 : I 7 = a7) {a8 : (Nat → Int32)} (ea8 : I 8 = a8) {a21 : (Nat → Int32)} (ea21 : I 21 = a21) {out : (Nat → Int32) × (Nat → Int32)} : ∀ (n : Nat) (a28 : (Nat → Int32)) (a29 : (Nat → Int32)) (v1 : Int32) (v2 : Int32), bX11_findWays_111 u c0_25 c0_26 c0_27 a7 a8 a21 n a28 a29 v1 v2 = some out → k_W X 6 0 0 (k_Q X ad none (k_ap [(28, .inr (.inr (.inl out.1))), (29, .inr (.inr (.inl out.2)))] (shM, I, L, Rf))) ad (k_ap [(28, .inr (.inr (.inl a28))), (29, .inr (.inr (.inl a29)))] (shM, I, L, Rf)) 111 [some (.ref 0), some (.int v1), some (.int v2), none, none, none] [] := by
  intro n
  induction n with
  | zero => intro a28 a29 v1 v2 h; cases h
  | succ n ih =>
    intro a28 a29 v1 v2 h
    refine r_iload_n C dX11_findWays_111 (rfl : 111 + 1 = 112) rfl ?_
    refine r_if_eq (tgt := 322) C dX11_findWays_112 (by decide) (rfl : 112 + 3 = 115) (fun c112 => ?_) (fun c112 => ?_)
    · have h := k_t c112 h
      cases h
      exact r_vret C hr dX11_findWays_322
    · have h := k_f c112 h
      refine r_iconst (v := (0 : Int32)) C dX11_findWays_115 (rfl : 115 + 1 = 116) rfl ?_
      refine r_istore_n C dX11_findWays_116 (rfl : 116 + 1 = 117) (by decide) (Nat.le_of_ble_eq_true rfl) ?_
      show k_W _ _ _ _ _ _ _ _ [some (.ref 0), some (.int v1), some (.int (0 : Int32)), none, none, none] _
      refine r_iconst (v := (0 : Int32)) C dX11_findWays_117 (rfl : 117 + 1 = 118) rfl ?_
      refine r_istore_n C dX11_findWays_118 (rfl : 118 + 1 = 119) (by decide) (Nat.le_of_ble_eq_true rfl) ?_
      show k_W _ _ _ _ _ _ _ _ [some (.ref 0), some (.int v1), some (.int (0 : Int32)), some (.int (0 : Int32)), none, none] _
      refine k_mask [true, true, true, true, false, false] ?_
      exact sX11_findWays_119 u C hr hR ec0_25 ec0_26 ec0_27 ea7 ea8 ea21 ih u a28 a29 v1 (0 : Int32) (0 : Int32) h
set_option maxHeartbeats 400000 in
set_option maxRecDepth 100000 in
theorem sX11_findWays_2 (u : Nat) {X : k_X} {ad : Nat → Nat} (C : k_C X cX11_findWays RX11 6 ad) (hr : X.meth.sig.returnType = none) (hR : X.R.frames = 3 ∧ X.R.locals = 67) {I : Nat → Nat → Int32} {L : Nat → Nat → Int64} {Rf : Nat → Nat → Option Nat} {c0_25 : Int32} (ec0_25 : I 0 25 = c0_25) {c0_26 : Int32} (ec0_26 : I 0 26 = c0_26) {c0_27 : Int32} (ec0_27 : I 0 27 = c0_27) {a7 : (Nat → Int32)} (ea7 : I 7 = a7) {a8 : (Nat → Int32)} (ea8 : I 8 = a8) {a21 : (Nat → Int32)} (ea21 : I 21 = a21) {out : (Nat → Int32) × (Nat → Int32)} : ∀ (n : Nat) (a28 : (Nat → Int32)) (a29 : (Nat → Int32)) (v1 : Int32) (v2 : Int32), bX11_findWays_2 u c0_25 c0_26 c0_27 a7 a8 a21 n a28 a29 v1 v2 = some out → k_W X 6 0 0 (k_Q X ad none (k_ap [(28, .inr (.inr (.inl out.1))), (29, .inr (.inr (.inl out.2)))] (shM, I, L, Rf))) ad (k_ap [(28, .inr (.inr (.inl a28))), (29, .inr (.inr (.inl a29)))] (shM, I, L, Rf)) 2 [some (.ref 0), some (.int v1), some (.int v2), none, none, none] [] := by
  intro n
  induction n with
  | zero => intro a28 a29 v1 v2 h; cases h
  | succ n ih =>
    intro a28 a29 v1 v2 h
    refine r_iload_n C dX11_findWays_2 (rfl : 2 + 1 = 3) rfl ?_
    refine r_bipush (v := (48 : Int32)) C dX11_findWays_3 (rfl : 3 + 2 = 5) rfl ?_
    refine r_icmp_ge (tgt := 109) C dX11_findWays_5 (by decide) (rfl : 5 + 3 = 8) (fun c5 => ?_) (fun c5 => ?_)
    · have h := k_t c5 h
      refine r_iconst (v := (1 : Int32)) C dX11_findWays_109 (rfl : 109 + 1 = 110) rfl ?_
      refine r_istore_n C dX11_findWays_110 (rfl : 110 + 1 = 111) (by decide) (Nat.le_of_ble_eq_true rfl) ?_
      show k_W _ _ _ _ _ _ _ _ [some (.ref 0), some (.int v1), some (.int (1 : Int32)), none, none, none] _
      refine k_mask [true, true, true, false, false, false] ?_
      exact sX11_findWays_111 u C hr hR ec0_25 ec0_26 ec0_27 ea7 ea8 ea21 u a28 a29 v1 (1 : Int32) h
    · have h := k_f c5 h
      refine r_aload_n C dX11_findWays_8 (rfl : 8 + 1 = 9) rfl ?_
      refine r_iload_n C dX11_findWays_9 (rfl : 9 + 1 = 10) rfl ?_
      refine r_bipush (v := (8 : Int32)) C dX11_findWays_10 (rfl : 10 + 2 = 12) rfl ?_
      refine r_irem C dX11_findWays_12 (rfl : 12 + 1 = 13) (by decide) ?_
      refine r_iload_n C dX11_findWays_13 (rfl : 13 + 1 = 14) rfl ?_
      refine r_bipush (v := (8 : Int32)) C dX11_findWays_14 (rfl : 14 + 2 = 16) rfl ?_
      refine r_idiv C dX11_findWays_16 (rfl : 16 + 1 = 17) (by decide) ?_
      obtain ⟨r17, q17, h⟩ := k_b_of h
      refine d_V (As := [.int (v2 - v2 / (8 : Int32) * (8 : Int32)), .int (v2 / (8 : Int32))]) (st := []) (st' := [.int r17]) (h' := k_ap [(28, .inr (.inr (.inl a28))), (29, .inr (.inr (.inl a29)))] (shM, I, L, Rf)) C hR ⟨Nat.zero_le _, Nat.zero_le _⟩ mv_X11_isIn lk_X11_363 dX11_findWays_17 (rfl : 17 + 3 = 20) rfl rfl rfl rfl (c_X11_isIn X.l u (k_ap [(28, .inr (.inr (.inl a28))), (29, .inr (.inr (.inl a29)))] (shM, I, L, Rf)) rfl ec0_25 ec0_26 q17) rfl rfl rfl rfl rfl ?_
      refine r_if_eq (tgt := 65) C dX11_findWays_20 (by decide) (rfl : 20 + 3 = 23) (fun c20 => ?_) (fun c20 => ?_)
      · have h := k_t c20 h
        refine k_mask [true, true, true, false, false, false] ?_
        exact sX11_findWays_65 u C hr hR ec0_25 ec0_26 ec0_27 ea7 ea8 ea21 ih a28 a29 v1 v2 h
      · have h := k_f c20 h
        refine r_aload_n C dX11_findWays_23 (rfl : 23 + 1 = 24) rfl ?_
        refine r_iload_n C dX11_findWays_24 (rfl : 24 + 1 = 25) rfl ?_
        refine r_bipush (v := (8 : Int32)) C dX11_findWays_25 (rfl : 25 + 2 = 27) rfl ?_
        refine r_irem C dX11_findWays_27 (rfl : 27 + 1 = 28) (by decide) ?_
        refine r_iload_n C dX11_findWays_28 (rfl : 28 + 1 = 29) rfl ?_
        refine r_bipush (v := (8 : Int32)) C dX11_findWays_29 (rfl : 29 + 2 = 31) rfl ?_
        refine r_idiv C dX11_findWays_31 (rfl : 31 + 1 = 32) (by decide) ?_
        obtain ⟨r32, q32, h⟩ := k_b_of h
        refine d_V (As := [.int (v2 - v2 / (8 : Int32) * (8 : Int32)), .int (v2 / (8 : Int32))]) (st := []) (st' := [.int r32]) (h' := k_ap [(28, .inr (.inr (.inl a28))), (29, .inr (.inr (.inl a29)))] (shM, I, L, Rf)) C hR ⟨Nat.zero_le _, Nat.zero_le _⟩ mv_X11_isOpen lk_X11_367 dX11_findWays_32 (rfl : 32 + 3 = 35) rfl rfl rfl rfl (c_X11_isOpen X.l u (k_ap [(28, .inr (.inr (.inl a28))), (29, .inr (.inr (.inl a29)))] (shM, I, L, Rf)) rfl ec0_25 ec0_26 ea21 q32) rfl rfl rfl rfl rfl ?_
        refine r_if_ne (tgt := 65) C dX11_findWays_35 (by decide) (rfl : 35 + 3 = 38) (fun c35 => ?_) (fun c35 => ?_)
        · have h := k_f c35 h
          refine k_mask [true, true, true, false, false, false] ?_
          exact sX11_findWays_65 u C hr hR ec0_25 ec0_26 ec0_27 ea7 ea8 ea21 ih a28 a29 v1 v2 h
        · have h := k_t c35 h
          refine r_aload_n C dX11_findWays_38 (rfl : 38 + 1 = 39) rfl ?_
          refine r_iload_n C dX11_findWays_39 (rfl : 39 + 1 = 40) rfl ?_
          obtain ⟨r40, q40, h⟩ := k_b_of h
          refine d_V (As := [.int v2]) (st := []) (st' := [.int r40]) (h' := k_ap [(28, .inr (.inr (.inl a28))), (29, .inr (.inr (.inl a29)))] (shM, I, L, Rf)) C hR ⟨Nat.zero_le _, Nat.zero_le _⟩ mv_X11_isAtHand lk_X11_385 dX11_findWays_40 (rfl : 40 + 3 = 43) rfl rfl rfl rfl (c_X11_isAtHand X.l u (k_ap [(28, .inr (.inr (.inl a28))), (29, .inr (.inr (.inl a29)))] (shM, I, L, Rf)) rfl ec0_25 ec0_26 ec0_27 ea21 q40) rfl rfl rfl rfl rfl ?_
          refine r_if_eq (tgt := 65) C dX11_findWays_43 (by decide) (rfl : 43 + 3 = 46) (fun c43 => ?_) (fun c43 => ?_)
          · have h := k_t c43 h
            refine k_mask [true, true, true, false, false, false] ?_
            exact sX11_findWays_65 u C hr hR ec0_25 ec0_26 ec0_27 ea7 ea8 ea21 ih a28 a29 v1 v2 h
          · have h := k_f c43 h
            refine r_aload_n C dX11_findWays_46 (rfl : 46 + 1 = 47) rfl ?_
            refine r_getR (q := 7) C dX11_findWays_47 (rfl : 47 + 3 = 50) fl_X11_35 rfl rfl ?_
            refine r_iload_n C dX11_findWays_50 (rfl : 50 + 1 = 51) rfl ?_
            obtain ⟨hi51, h⟩ := k_i_of h
            refine a_i (j := (v2).toNatClampNeg) (f := a7) C dX11_findWays_51 (rfl : 51 + 1 = 52) rfl ea7 hi51 rfl ?_
            refine r_iconst (v := (5 : Int32)) C dX11_findWays_52 (rfl : 52 + 1 = 53) rfl ?_
            refine r_icmp_ne (tgt := 61) C dX11_findWays_53 (by decide) (rfl : 53 + 3 = 56) (fun c53 => ?_) (fun c53 => ?_)
            · have h := k_f c53 h
              refine k_mask [true, true, true, false, false, false] ?_
              exact sX11_findWays_61 u C hr hR ec0_25 ec0_26 ec0_27 ea7 ea8 ea21 ih a28 a29 v1 v2 h
            · have h := k_t c53 h
              refine r_iload_n C dX11_findWays_56 (rfl : 56 + 1 = 57) rfl ?_
              refine r_iload_n C dX11_findWays_57 (rfl : 57 + 1 = 58) rfl ?_
              refine r_icmp_ne (tgt := 65) C dX11_findWays_58 (by decide) (rfl : 58 + 3 = 61) (fun c58 => ?_) (fun c58 => ?_)
              · have h := k_f c58 h
                refine k_mask [true, true, true, false, false, false] ?_
                exact sX11_findWays_65 u C hr hR ec0_25 ec0_26 ec0_27 ea7 ea8 ea21 ih a28 a29 v1 v2 h
              · have h := k_t c58 h
                refine k_mask [true, true, true, false, false, false] ?_
                exact sX11_findWays_61 u C hr hR ec0_25 ec0_26 ec0_27 ea7 ea8 ea21 ih a28 a29 v1 v2 h
set_option maxHeartbeats 400000 in
set_option maxRecDepth 100000 in
theorem sX11_findWays_0 (u : Nat) {X : k_X} {ad : Nat → Nat} (C : k_C X cX11_findWays RX11 6 ad) (hr : X.meth.sig.returnType = none) (hR : X.R.frames = 3 ∧ X.R.locals = 67) {I : Nat → Nat → Int32} {L : Nat → Nat → Int64} {Rf : Nat → Nat → Option Nat} {c0_25 : Int32} (ec0_25 : I 0 25 = c0_25) {c0_26 : Int32} (ec0_26 : I 0 26 = c0_26) {c0_27 : Int32} (ec0_27 : I 0 27 = c0_27) {a7 : (Nat → Int32)} (ea7 : I 7 = a7) {a8 : (Nat → Int32)} (ea8 : I 8 = a8) {a21 : (Nat → Int32)} (ea21 : I 21 = a21) {out : (Nat → Int32) × (Nat → Int32)} : ∀ (a28 : (Nat → Int32)) (a29 : (Nat → Int32)) (v1 : Int32), bX11_findWays_0 u c0_25 c0_26 c0_27 a7 a8 a21 a28 a29 v1 = some out → k_W X 6 0 0 (k_Q X ad none (k_ap [(28, .inr (.inr (.inl out.1))), (29, .inr (.inr (.inl out.2)))] (shM, I, L, Rf))) ad (k_ap [(28, .inr (.inr (.inl a28))), (29, .inr (.inr (.inl a29)))] (shM, I, L, Rf)) 0 [some (.ref 0), some (.int v1), none, none, none, none] [] := by
  intro a28 a29 v1 h
  unfold bX11_findWays_0 at h
  refine r_iconst (v := (0 : Int32)) C dX11_findWays_0 (rfl : 0 + 1 = 1) rfl ?_
  refine r_istore_n C dX11_findWays_1 (rfl : 1 + 1 = 2) (by decide) (Nat.le_of_ble_eq_true rfl) ?_
  show k_W _ _ _ _ _ _ _ _ [some (.ref 0), some (.int v1), some (.int (0 : Int32)), none, none, none] _
  refine k_mask [true, true, true, false, false, false] ?_
  exact sX11_findWays_2 u C hr hR ec0_25 ec0_26 ec0_27 ea7 ea8 ea21 u a28 a29 v1 (0 : Int32) h
set_option maxHeartbeats 400000 in
set_option maxRecDepth 100000 in
theorem c_X11_findWays (l : Launch) (u : Nat) (h : k_H) (hsh : h.1 = shM) {c0_25 : Int32} (ec0_25 : h.2.1 0 25 = c0_25) {c0_26 : Int32} (ec0_26 : h.2.1 0 26 = c0_26) {c0_27 : Int32} (ec0_27 : h.2.1 0 27 = c0_27) {a7 : (Nat → Int32)} (ea7 : h.2.1 7 = a7) {a8 : (Nat → Int32)} (ea8 : h.2.1 8 = a8) {a21 : (Nat → Int32)} (ea21 : h.2.1 21 = a21) {a28 : (Nat → Int32)} (ea28 : h.2.1 28 = a28) {a29 : (Nat → Int32)} (ea29 : h.2.1 29 = a29) {x0 : Int32} {out : (Nat → Int32) × (Nat → Int32)} (hf : f_X11_findWays u c0_25 c0_26 c0_27 a7 a8 a21 a28 a29 x0 = some out) : k_CT l yX11_findWays cX11_findWays 6 none 3 67 [.ref 0, .int x0] h none [(28, .inr (.inr (.inl out.1))), (29, .inr (.inr (.inl out.2)))] := by
  obtain ⟨sh, I, L, Rf⟩ := h
  try dsimp only
  obtain rfl : sh = shM := hsh
  refine k_ofW (by decide) (Nat.le_of_ble_eq_true rfl) ?_
  intro X ad hl hR0 hr C
  have hR : X.R.frames = 3 ∧ X.R.locals = 67 := by rw [hR0]; exact ⟨rfl, rfl⟩
  have h := hf
  unfold f_X11_findWays at h
  refine k_start (us := [(28, .inr (.inr (.inl a28))), (29, .inr (.inr (.inl a29)))]) (k_ao_A ea28 (k_ao_A ea29 k_ap_0)) ?_
  show k_W X 6 0 0 _ ad (k_ap [(28, .inr (.inr (.inl a28))), (29, .inr (.inr (.inl a29)))] (shM, I, L, Rf)) 0 [some (.ref 0), some (.int x0), none, none, none, none] []
  refine k_mask [true, true, false, false, false, false] ?_
  exact sX11_findWays_0 u C hr hR ec0_25 ec0_26 ec0_27 ea7 ea8 ea21 a28 a29 x0 h
