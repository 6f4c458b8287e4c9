/-! LullabyPitModel.readStep()V -/
theorem ds_X11_readStep : k_ds [(0, 0, 4), (0, 0, 5), (0, 0, 6), (0, 0, 7), (0, 0, 41), (18, 2, 0)] = true := by decide +kernel
set_option maxHeartbeats 400000 in
set_option maxRecDepth 100000 in
theorem sX11_readStep_276 (u : Nat) (g : Int32 → Int32 → Int32 → Int32 → Int32 → Int32 → Int32 → Int32 → (Nat → Int32) → (Nat → Int32) → Option (Int32 × Int32 × Int32 × Int32 × Int32 × (Nat → Int32))) {fg ng : Nat} {X : k_X} {ad : Nat → Nat} (C : k_C X cX11_readStep RX11 4 ad) (hr : X.meth.sig.returnType = none) (hR : X.R.frames = (fg + 5) ∧ X.R.locals = (ng + 107)) {I : Nat → Nat → Int32} {L : Nat → Nat → Int64} {Rf : Nat → Nat → Option Nat} (hg : H_X11_readStep X.l g fg ng) {c0_3 : Int32} (ec0_3 : I 0 3 = c0_3) {c0_25 : Int32} (ec0_25 : I 0 25 = c0_25) {c0_26 : Int32} (ec0_26 : I 0 26 = c0_26) {a2 : (Nat → Int32)} (ea2 : I 2 = a2) {out : Int32 × Int32 × Int32 × Int32 × Int32 × (Nat → Int32)} : ∀ (c0_4 : Int32) (c0_5 : Int32) (c0_6 : Int32) (c0_7 : Int32) (c0_41 : Int32) (a18 : (Nat → Int32)), bX11_readStep_276 u g c0_3 c0_25 c0_26 a2 c0_4 c0_5 c0_6 c0_7 c0_41 a18 = some out → k_W X 4 0 0 (k_Q X ad none (k_ap [(0, .inl (4, out.1)), (0, .inl (5, out.2.1)), (0, .inl (6, out.2.2.1)), (0, .inl (7, out.2.2.2.1)), (0, .inl (41, out.2.2.2.2.1)), (18, .inr (.inr (.inl out.2.2.2.2.2)))] (shM, I, L, Rf))) ad (k_ap [(0, .inl (4, c0_4)), (0, .inl (5, c0_5)), (0, .inl (6, c0_6)), (0, .inl (7, c0_7)), (0, .inl (41, c0_41)), (18, .inr (.inr (.inl a18)))] (shM, I, L, Rf)) 276 [some (.ref 0), none, none, none] [] := by
  intro c0_4 c0_5 c0_6 c0_7 c0_41 a18 h
  unfold bX11_readStep_276 at h
  refine r_aload_n C dX11_readStep_276 (rfl : 276 + 1 = 277) rfl ?_
  refine r_bipush (v := (59 : Int32)) C dX11_readStep_277 (rfl : 277 + 2 = 279) rfl ?_
  obtain ⟨r279, q279, h⟩ := k_b_of h
  refine d_V (As := [.int (59 : Int32)]) (st := []) (st' := []) (h' := k_ap [(0, .inl (4, r279.1)), (0, .inl (5, r279.2.1)), (0, .inl (6, r279.2.2)), (0, .inl (7, c0_7)), (0, .inl (41, c0_41)), (18, .inr (.inr (.inl a18)))] (shM, I, L, Rf)) C hR ⟨Nat.zero_le _, Nat.zero_le _⟩ mv_X11_sign lk_X11_269 dX11_readStep_279 (rfl : 279 + 3 = 282) (k_bl (by omega)) (k_bl (by omega)) rfl rfl (c_X11_sign X.l u (k_ap [(0, .inl (4, c0_4)), (0, .inl (5, c0_5)), (0, .inl (6, c0_6)), (0, .inl (7, c0_7)), (0, .inl (41, c0_41)), (18, .inr (.inr (.inl a18)))] (shM, I, L, Rf)) rfl ec0_3 rfl rfl rfl ea2 q279) rfl rfl rfl (k_jn (us' := [(0, .inl (4, r279.1)), (0, .inl (5, r279.2.1)), (0, .inl (6, r279.2.2)), (0, .inl (7, c0_7)), (0, .inl (41, c0_41)), (18, .inr (.inr (.inl a18)))]) ds_X11_readStep rfl rfl rfl) rfl ?_
  cases h
  exact r_vret C hr dX11_readStep_282
set_option maxHeartbeats 400000 in
set_option maxRecDepth 100000 in
theorem sX11_readStep_57 (u : Nat) (g : Int32 → Int32 → Int32 → Int32 → Int32 → Int32 → Int32 → Int32 → (Nat → Int32) → (Nat → Int32) → Option (Int32 × Int32 × Int32 × Int32 × Int32 × (Nat → Int32))) {fg ng : Nat} {X : k_X} {ad : Nat → Nat} (C : k_C X cX11_readStep RX11 4 ad) (hr : X.meth.sig.returnType = none) (hR : X.R.frames = (fg + 5) ∧ X.R.locals = (ng + 107)) {I : Nat → Nat → Int32} {L : Nat → Nat → Int64} {Rf : Nat → Nat → Option Nat} (hg : H_X11_readStep X.l g fg ng) {c0_3 : Int32} (ec0_3 : I 0 3 = c0_3) {c0_25 : Int32} (ec0_25 : I 0 25 = c0_25) {c0_26 : Int32} (ec0_26 : I 0 26 = c0_26) {a2 : (Nat → Int32)} (ea2 : I 2 = a2) {out : Int32 × Int32 × Int32 × Int32 × Int32 × (Nat → Int32)} : ∀ (c0_4 : Int32) (c0_5 : Int32) (c0_6 : Int32) (c0_7 : Int32) (c0_41 : Int32) (a18 : (Nat → Int32)) (v2 : Int32) (w0 : Int32), bX11_readStep_57 u g c0_3 c0_25 c0_26 a2 c0_4 c0_5 c0_6 c0_7 c0_41 a18 v2 w0 = some out → k_W X 4 0 0 (k_Q X ad none (k_ap [(0, .inl (4, out.1)), (0, .inl (5, out.2.1)), (0, .inl (6, out.2.2.1)), (0, .inl (7, out.2.2.2.1)), (0, .inl (41, out.2.2.2.2.1)), (18, .inr (.inr (.inl out.2.2.2.2.2)))] (shM, I, L, Rf))) ad (k_ap [(0, .inl (4, c0_4)), (0, .inl (5, c0_5)), (0, .inl (6, c0_6)), (0, .inl (7, c0_7)), (0, .inl (41, c0_41)), (18, .inr (.inr (.inl a18)))] (shM, I, L, Rf)) 57 [some (.ref 0), none, some (.int v2), none] [.int w0, .ref 0] := by
  intro c0_4 c0_5 c0_6 c0_7 c0_41 a18 v2 w0 h
  unfold bX11_readStep_57 at h
  refine r_bipush (v := (8 : Int32)) C dX11_readStep_57 (rfl : 57 + 2 = 59) rfl ?_
  refine r_aload_n C dX11_readStep_59 (rfl : 59 + 1 = 60) rfl ?_
  refine r_iconst (v := (0 : Int32)) C dX11_readStep_60 (rfl : 60 + 1 = 61) rfl ?_
  refine r_aload_n C dX11_readStep_61 (rfl : 61 + 1 = 62) rfl ?_
  refine r_getI (v := c0_26) C dX11_readStep_62 (rfl : 62 + 3 = 65) fl_X11_187 rfl rfl ec0_26 ?_
  refine r_iconst (v := (1 : Int32)) C dX11_readStep_65 (rfl : 65 + 1 = 66) rfl ?_
  refine r_isub C dX11_readStep_66 (rfl : 66 + 1 = 67) ?_
  obtain ⟨r67, q67, h⟩ := k_b_of h
  refine d_V (As := [.int (0 : Int32), .int (c0_26 - (1 : Int32))]) (st := [.int (8 : Int32), .int w0, .ref 0]) (st' := [.int r67.1, .int (8 : Int32), .int w0, .ref 0]) (h' := k_ap [(0, .inl (4, r67.2.1)), (0, .inl (5, r67.2.2.1)), (0, .inl (6, r67.2.2.2)), (0, .inl (7, c0_7)), (0, .inl (41, c0_41)), (18, .inr (.inr (.inl a18)))] (shM, I, L, Rf)) C hR ⟨Nat.zero_le _, Nat.zero_le _⟩ mv_X11_readNumber lk_X11_218 dX11_readStep_67 (rfl : 67 + 3 = 70) (k_bl (by omega)) (k_bl (by omega)) rfl rfl (c_X11_readNumber X.l u (k_ap [(0, .inl (4, c0_4)), (0, .inl (5, c0_5)), (0, .inl (6, c0_6)), (0, .inl (7, c0_7)), (0, .inl (41, c0_41)), (18, .inr (.inr (.inl a18)))] (shM, I, L, Rf)) rfl ec0_3 rfl rfl rfl ea2 q67) rfl rfl rfl (k_jn (us' := [(0, .inl (4, r67.2.1)), (0, .inl (5, r67.2.2.1)), (0, .inl (6, r67.2.2.2)), (0, .inl (7, c0_7)), (0, .inl (41, c0_41)), (18, .inr (.inr (.inl a18)))]) ds_X11_readStep rfl rfl rfl) rfl ?_
  refine r_imul C dX11_readStep_70 (rfl : 70 + 1 = 71) ?_
  refine r_iload_n C dX11_readStep_71 (rfl : 71 + 1 = 72) rfl ?_
  refine r_iadd C dX11_readStep_72 (rfl : 72 + 1 = 73) ?_
  refine r_iconst (v := (0 : Int32)) C dX11_readStep_73 (rfl : 73 + 1 = 74) rfl ?_
  obtain ⟨r74, q74, h⟩ := k_b_of h
  refine d_V (As := [.int w0, .int (((8 : Int32) * r67.1) + v2), .int (0 : Int32)]) (st := []) (st' := []) (h' := k_ap [(0, .inl (4, r67.2.1)), (0, .inl (5, r67.2.2.1)), (0, .inl (6, r67.2.2.2)), (0, .inl (7, c0_7)), (0, .inl (41, r74.1)), (18, .inr (.inr (.inl r74.2)))] (shM, I, L, Rf)) C hR ⟨Nat.zero_le _, Nat.zero_le _⟩ mv_X11_tellsStep lk_X11_332 dX11_readStep_74 (rfl : 74 + 3 = 77) (k_bl (by omega)) (k_bl (by omega)) rfl rfl (c_X11_tellsStep X.l u (k_ap [(0, .inl (4, r67.2.1)), (0, .inl (5, r67.2.2.1)), (0, .inl (6, r67.2.2.2)), (0, .inl (7, c0_7)), (0, .inl (41, c0_41)), (18, .inr (.inr (.inl a18)))] (shM, I, L, Rf)) rfl rfl rfl rfl q74) rfl rfl rfl (k_jn (us' := [(0, .inl (4, r67.2.1)), (0, .inl (5, r67.2.2.1)), (0, .inl (6, r67.2.2.2)), (0, .inl (7, c0_7)), (0, .inl (41, r74.1)), (18, .inr (.inr (.inl r74.2)))]) ds_X11_readStep rfl rfl rfl) rfl ?_
  refine r_goto (tgt := 276) C dX11_readStep_77 (by decide) ?_
  refine k_mask [true, false, false, false] ?_
  exact sX11_readStep_276 u g C hr hR hg ec0_3 ec0_25 ec0_26 ea2 r67.2.1 r67.2.2.1 r67.2.2.2 c0_7 r74.1 r74.2 h
set_option maxHeartbeats 400000 in
set_option maxRecDepth 100000 in
theorem sX11_readStep_25 (u : Nat) (g : Int32 → Int32 → Int32 → Int32 → Int32 → Int32 → Int32 → Int32 → (Nat → Int32) → (Nat → Int32) → Option (Int32 × Int32 × Int32 × Int32 × Int32 × (Nat → Int32))) {fg ng : Nat} {X : k_X} {ad : Nat → Nat} (C : k_C X cX11_readStep RX11 4 ad) (hr : X.meth.sig.returnType = none) (hR : X.R.frames = (fg + 5) ∧ X.R.locals = (ng + 107)) {I : Nat → Nat → Int32} {L : Nat → Nat → Int64} {Rf : Nat → Nat → Option Nat} (hg : H_X11_readStep X.l g fg ng) {c0_3 : Int32} (ec0_3 : I 0 3 = c0_3) {c0_25 : Int32} (ec0_25 : I 0 25 = c0_25) {c0_26 : Int32} (ec0_26 : I 0 26 = c0_26) {a2 : (Nat → Int32)} (ea2 : I 2 = a2) {out : Int32 × Int32 × Int32 × Int32 × Int32 × (Nat → Int32)} : ∀ (c0_4 : Int32) (c0_5 : Int32) (c0_6 : Int32) (c0_7 : Int32) (c0_41 : Int32) (a18 : (Nat → Int32)) (v1 : Int32), bX11_readStep_25 u g c0_3 c0_25 c0_26 a2 c0_4 c0_5 c0_6 c0_7 c0_41 a18 v1 = some out → k_W X 4 0 0 (k_Q X ad none (k_ap [(0, .inl (4, out.1)), (0, .inl (5, out.2.1)), (0, .inl (6, out.2.2.1)), (0, .inl (7, out.2.2.2.1)), (0, .inl (41, out.2.2.2.2.1)), (18, .inr (.inr (.inl out.2.2.2.2.2)))] (shM, I, L, Rf))) ad (k_ap [(0, .inl (4, c0_4)), (0, .inl (5, c0_5)), (0, .inl (6, c0_6)), (0, .inl (7, c0_7)), (0, .inl (41, c0_41)), (18, .inr (.inr (.inl a18)))] (shM, I, L, Rf)) 25 [some (.ref 0), some (.int v1), none, none] [] := by
  intro c0_4 c0_5 c0_6 c0_7 c0_41 a18 v1 h
  unfold bX11_readStep_25 at h
  refine r_aload_n C dX11_readStep_25 (rfl : 25 + 1 = 26) rfl ?_
  obtain ⟨r26, q26, h⟩ := k_b_of h
  refine d_V (As := []) (st := []) (st' := []) (h' := k_ap [(0, .inl (4, r26)), (0, .inl (5, c0_5)), (0, .inl (6, c0_6)), (0, .inl (7, c0_7)), (0, .inl (41, c0_41)), (18, .inr (.inr (.inl a18)))] (shM, I, L, Rf)) C hR ⟨Nat.zero_le _, Nat.zero_le _⟩ mv_X11_pass lk_X11_231 dX11_readStep_26 (rfl : 26 + 3 = 29) (k_bl (by omega)) (k_bl (by omega)) rfl rfl (c_X11_pass X.l u (k_ap [(0, .inl (4, c0_4)), (0, .inl (5, c0_5)), (0, .inl (6, c0_6)), (0, .inl (7, c0_7)), (0, .inl (41, c0_41)), (18, .inr (.inr (.inl a18)))] (shM, I, L, Rf)) rfl ec0_3 rfl ea2 q26) rfl rfl rfl (k_jn (us' := [(0, .inl (4, r26)), (0, .inl (5, c0_5)), (0, .inl (6, c0_6)), (0, .inl (7, c0_7)), (0, .inl (41, c0_41)), (18, .inr (.inr (.inl a18)))]) ds_X11_readStep rfl rfl rfl) rfl ?_
  refine r_aload_n C dX11_readStep_29 (rfl : 29 + 1 = 30) rfl ?_
  refine r_iconst (v := (0 : Int32)) C dX11_readStep_30 (rfl : 30 + 1 = 31) rfl ?_
  refine r_aload_n C dX11_readStep_31 (rfl : 31 + 1 = 32) rfl ?_
  refine r_getI (v := c0_25) C dX11_readStep_32 (rfl : 32 + 3 = 35) fl_X11_184 rfl rfl ec0_25 ?_
  refine r_iconst (v := (1 : Int32)) C dX11_readStep_35 (rfl : 35 + 1 = 36) rfl ?_
  refine r_isub C dX11_readStep_36 (rfl : 36 + 1 = 37) ?_
  obtain ⟨r37, q37, h⟩ := k_b_of h
  refine d_V (As := [.int (0 : Int32), .int (c0_25 - (1 : Int32))]) (st := []) (st' := [.int r37.1]) (h' := k_ap [(0, .inl (4, r37.2.1)), (0, .inl (5, r37.2.2.1)), (0, .inl (6, r37.2.2.2)), (0, .inl (7, c0_7)), (0, .inl (41, c0_41)), (18, .inr (.inr (.inl a18)))] (shM, I, L, Rf)) C hR ⟨Nat.zero_le _, Nat.zero_le _⟩ mv_X11_readNumber lk_X11_218 dX11_readStep_37 (rfl : 37 + 3 = 40) (k_bl (by omega)) (k_bl (by omega)) rfl rfl (c_X11_readNumber X.l u (k_ap [(0, .inl (4, r26)), (0, .inl (5, c0_5)), (0, .inl (6, c0_6)), (0, .inl (7, c0_7)), (0, .inl (41, c0_41)), (18, .inr (.inr (.inl a18)))] (shM, I, L, Rf)) rfl ec0_3 rfl rfl rfl ea2 q37) rfl rfl rfl (k_jn (us' := [(0, .inl (4, r37.2.1)), (0, .inl (5, r37.2.2.1)), (0, .inl (6, r37.2.2.2)), (0, .inl (7, c0_7)), (0, .inl (41, c0_41)), (18, .inr (.inr (.inl a18)))]) ds_X11_readStep rfl rfl rfl) rfl ?_
  refine r_istore_n C dX11_readStep_40 (rfl : 40 + 1 = 41) (by decide) (Nat.le_of_ble_eq_true rfl) ?_
  show k_W _ _ _ _ _ _ _ _ [some (.ref 0), some (.int v1), some (.int r37.1), none] _
  refine r_aload_n C dX11_readStep_41 (rfl : 41 + 1 = 42) rfl ?_
  refine r_iload_n C dX11_readStep_42 (rfl : 42 + 1 = 43) rfl ?_
  refine r_ldcwS (i := 26) C rfl dX11_readStep_43 (rfl : 43 + 3 = 46) ?_
  obtain ⟨r46, q46, h⟩ := k_b_of h
  refine d_S (As := [.ref (1000000 + 26)]) (st := [.int v1, .ref 0]) (st' := [.int r46, .int v1, .ref 0]) (h' := k_ap [(0, .inl (4, r37.2.1)), (0, .inl (5, r37.2.2.1)), (0, .inl (6, r37.2.2.2)), (0, .inl (7, c0_7)), (0, .inl (41, c0_41)), (18, .inr (.inr (.inl a18)))] (shM, I, L, Rf)) C hR ⟨Nat.zero_le _, Nat.zero_le _⟩ ms_X11_of lk_X11_227 dX11_readStep_46 (rfl : 46 + 3 = 49) (k_bl (by omega)) (k_bl (by omega)) (c_X11_of X.l u 26 (by decide) (k_ap [(0, .inl (4, r37.2.1)), (0, .inl (5, r37.2.2.1)), (0, .inl (6, r37.2.2.2)), (0, .inl (7, c0_7)), (0, .inl (41, c0_41)), (18, .inr (.inr (.inl a18)))] (shM, I, L, Rf)) rfl  q46) rfl rfl rfl rfl rfl ?_
  refine r_icmp_ne (tgt := 56) C dX11_readStep_49 (by decide) (rfl : 49 + 3 = 52) (fun c49 => ?_) (fun c49 => ?_)
  · have h := k_f c49 h
    refine r_iconst (v := (1 : Int32)) C dX11_readStep_56 (rfl : 56 + 1 = 57) rfl ?_
    refine k_mask [true, false, true, false] ?_
    exact sX11_readStep_57 u g C hr hR hg ec0_3 ec0_25 ec0_26 ea2 r37.2.1 r37.2.2.1 r37.2.2.2 c0_7 c0_41 a18 r37.1 (1 : Int32) h
  · have h := k_t c49 h
    refine r_iconst (v := (0 : Int32)) C dX11_readStep_52 (rfl : 52 + 1 = 53) rfl ?_
    refine r_goto (tgt := 57) C dX11_readStep_53 (by decide) ?_
    refine k_mask [true, false, true, false] ?_
    exact sX11_readStep_57 u g C hr hR hg ec0_3 ec0_25 ec0_26 ea2 r37.2.1 r37.2.2.1 r37.2.2.2 c0_7 c0_41 a18 r37.1 (0 : Int32) h
set_option maxHeartbeats 400000 in
set_option maxRecDepth 100000 in
theorem sX11_readStep_120 (u : Nat) (g : Int32 → Int32 → Int32 → Int32 → Int32 → Int32 → Int32 → Int32 → (Nat → Int32) → (Nat → Int32) → Option (Int32 × Int32 × Int32 × Int32 × Int32 × (Nat → Int32))) {fg ng : Nat} {X : k_X} {ad : Nat → Nat} (C : k_C X cX11_readStep RX11 4 ad) (hr : X.meth.sig.returnType = none) (hR : X.R.frames = (fg + 5) ∧ X.R.locals = (ng + 107)) {I : Nat → Nat → Int32} {L : Nat → Nat → Int64} {Rf : Nat → Nat → Option Nat} (hg : H_X11_readStep X.l g fg ng) {c0_3 : Int32} (ec0_3 : I 0 3 = c0_3) {c0_25 : Int32} (ec0_25 : I 0 25 = c0_25) {c0_26 : Int32} (ec0_26 : I 0 26 = c0_26) {a2 : (Nat → Int32)} (ea2 : I 2 = a2) {out : Int32 × Int32 × Int32 × Int32 × Int32 × (Nat → Int32)} : ∀ (c0_4 : Int32) (c0_5 : Int32) (c0_6 : Int32) (c0_7 : Int32) (c0_41 : Int32) (a18 : (Nat → Int32)) (w0 : Int32), bX11_readStep_120 u g c0_3 c0_25 c0_26 a2 c0_4 c0_5 c0_6 c0_7 c0_41 a18 w0 = some out → k_W X 4 0 0 (k_Q X ad none (k_ap [(0, .inl (4, out.1)), (0, .inl (5, out.2.1)), (0, .inl (6, out.2.2.1)), (0, .inl (7, out.2.2.2.1)), (0, .inl (41, out.2.2.2.2.1)), (18, .inr (.inr (.inl out.2.2.2.2.2)))] (shM, I, L, Rf))) ad (k_ap [(0, .inl (4, c0_4)), (0, .inl (5, c0_5)), (0, .inl (6, c0_6)), (0, .inl (7, c0_7)), (0, .inl (41, c0_41)), (18, .inr (.inr (.inl a18)))] (shM, I, L, Rf)) 120 [some (.ref 0), none, none, none] [.int w0, .ref 0] := by
  intro c0_4 c0_5 c0_6 c0_7 c0_41 a18 w0 h
  unfold bX11_readStep_120 at h
  refine r_iconst (v := (0 : Int32)) C dX11_readStep_120 (rfl : 120 + 1 = 121) rfl ?_
  refine r_iconst (v := (0 : Int32)) C dX11_readStep_121 (rfl : 121 + 1 = 122) rfl ?_
  obtain ⟨r122, q122, h⟩ := k_b_of h
  refine d_V (As := [.int w0, .int (0 : Int32), .int (0 : Int32)]) (st := []) (st' := []) (h' := k_ap [(0, .inl (4, c0_4)), (0, .inl (5, c0_5)), (0, .inl (6, c0_6)), (0, .inl (7, c0_7)), (0, .inl (41, r122.1)), (18, .inr (.inr (.inl r122.2)))] (shM, I, L, Rf)) C hR ⟨Nat.zero_le _, Nat.zero_le _⟩ mv_X11_tellsStep lk_X11_332 dX11_readStep_122 (rfl : 122 + 3 = 125) (k_bl (by omega)) (k_bl (by omega)) rfl rfl (c_X11_tellsStep X.l u (k_ap [(0, .inl (4, c0_4)), (0, .inl (5, c0_5)), (0, .inl (6, c0_6)), (0, .inl (7, c0_7)), (0, .inl (41, c0_41)), (18, .inr (.inr (.inl a18)))] (shM, I, L, Rf)) rfl rfl rfl rfl q122) rfl rfl rfl (k_jn (us' := [(0, .inl (4, c0_4)), (0, .inl (5, c0_5)), (0, .inl (6, c0_6)), (0, .inl (7, c0_7)), (0, .inl (41, r122.1)), (18, .inr (.inr (.inl r122.2)))]) ds_X11_readStep rfl rfl rfl) rfl ?_
  refine r_goto (tgt := 276) C dX11_readStep_125 (by decide) ?_
  refine k_mask [true, false, false, false] ?_
  exact sX11_readStep_276 u g C hr hR hg ec0_3 ec0_25 ec0_26 ea2 c0_4 c0_5 c0_6 c0_7 r122.1 r122.2 h
set_option maxHeartbeats 400000 in
set_option maxRecDepth 100000 in
theorem sX11_readStep_100 (u : Nat) (g : Int32 → Int32 → Int32 → Int32 → Int32 → Int32 → Int32 → Int32 → (Nat → Int32) → (Nat → Int32) → Option (Int32 × Int32 × Int32 × Int32 × Int32 × (Nat → Int32))) {fg ng : Nat} {X : k_X} {ad : Nat → Nat} (C : k_C X cX11_readStep RX11 4 ad) (hr : X.meth.sig.returnType = none) (hR : X.R.frames = (fg + 5) ∧ X.R.locals = (ng + 107)) {I : Nat → Nat → Int32} {L : Nat → Nat → Int64} {Rf : Nat → Nat → Option Nat} (hg : H_X11_readStep X.l g fg ng) {c0_3 : Int32} (ec0_3 : I 0 3 = c0_3) {c0_25 : Int32} (ec0_25 : I 0 25 = c0_25) {c0_26 : Int32} (ec0_26 : I 0 26 = c0_26) {a2 : (Nat → Int32)} (ea2 : I 2 = a2) {out : Int32 × Int32 × Int32 × Int32 × Int32 × (Nat → Int32)} : ∀ (c0_4 : Int32) (c0_5 : Int32) (c0_6 : Int32) (c0_7 : Int32) (c0_41 : Int32) (a18 : (Nat → Int32)) (v1 : Int32), bX11_readStep_100 u g c0_3 c0_25 c0_26 a2 c0_4 c0_5 c0_6 c0_7 c0_41 a18 v1 = some out → k_W X 4 0 0 (k_Q X ad none (k_ap [(0, .inl (4, out.1)), (0, .inl (5, out.2.1)), (0, .inl (6, out.2.2.1)), (0, .inl (7, out.2.2.2.1)), (0, .inl (41, out.2.2.2.2.1)), (18, .inr (.inr (.inl out.2.2.2.2.2)))] (shM, I, L, Rf))) ad (k_ap [(0, .inl (4, c0_4)), (0, .inl (5, c0_5)), (0, .inl (6, c0_6)), (0, .inl (7, c0_7)), (0, .inl (41, c0_41)), (18, .inr (.inr (.inl a18)))] (shM, I, L, Rf)) 100 [some (.ref 0), some (.int v1), none, none] [] := by
  intro c0_4 c0_5 c0_6 c0_7 c0_41 a18 v1 h
  unfold bX11_readStep_100 at h
  refine r_aload_n C dX11_readStep_100 (rfl : 100 + 1 = 101) rfl ?_
  obtain ⟨r101, q101, h⟩ := k_b_of h
  refine d_V (As := []) (st := []) (st' := []) (h' := k_ap [(0, .inl (4, r101)), (0, .inl (5, c0_5)), (0, .inl (6, c0_6)), (0, .inl (7, c0_7)), (0, .inl (41, c0_41)), (18, .inr (.inr (.inl a18)))] (shM, I, L, Rf)) C hR ⟨Nat.zero_le _, Nat.zero_le _⟩ mv_X11_pass lk_X11_231 dX11_readStep_101 (rfl : 101 + 3 = 104) (k_bl (by omega)) (k_bl (by omega)) rfl rfl (c_X11_pass X.l u (k_ap [(0, .inl (4, c0_4)), (0, .inl (5, c0_5)), (0, .inl (6, c0_6)), (0, .inl (7, c0_7)), (0, .inl (41, c0_41)), (18, .inr (.inr (.inl a18)))] (shM, I, L, Rf)) rfl ec0_3 rfl ea2 q101) rfl rfl rfl (k_jn (us' := [(0, .inl (4, r101)), (0, .inl (5, c0_5)), (0, .inl (6, c0_6)), (0, .inl (7, c0_7)), (0, .inl (41, c0_41)), (18, .inr (.inr (.inl a18)))]) ds_X11_readStep rfl rfl rfl) rfl ?_
  refine r_aload_n C dX11_readStep_104 (rfl : 104 + 1 = 105) rfl ?_
  refine r_iload_n C dX11_readStep_105 (rfl : 105 + 1 = 106) rfl ?_
  refine r_ldcwS (i := 28) C rfl dX11_readStep_106 (rfl : 106 + 3 = 109) ?_
  obtain ⟨r109, q109, h⟩ := k_b_of h
  refine d_S (As := [.ref (1000000 + 28)]) (st := [.int v1, .ref 0]) (st' := [.int r109, .int v1, .ref 0]) (h' := k_ap [(0, .inl (4, r101)), (0, .inl (5, c0_5)), (0, .inl (6, c0_6)), (0, .inl (7, c0_7)), (0, .inl (41, c0_41)), (18, .inr (.inr (.inl a18)))] (shM, I, L, Rf)) C hR ⟨Nat.zero_le _, Nat.zero_le _⟩ ms_X11_of lk_X11_227 dX11_readStep_109 (rfl : 109 + 3 = 112) (k_bl (by omega)) (k_bl (by omega)) (c_X11_of X.l u 28 (by decide) (k_ap [(0, .inl (4, r101)), (0, .inl (5, c0_5)), (0, .inl (6, c0_6)), (0, .inl (7, c0_7)), (0, .inl (41, c0_41)), (18, .inr (.inr (.inl a18)))] (shM, I, L, Rf)) rfl  q109) rfl rfl rfl rfl rfl ?_
  refine r_icmp_ne (tgt := 119) C dX11_readStep_112 (by decide) (rfl : 112 + 3 = 115) (fun c112 => ?_) (fun c112 => ?_)
  · have h := k_f c112 h
    refine r_iconst (v := (3 : Int32)) C dX11_readStep_119 (rfl : 119 + 1 = 120) rfl ?_
    refine k_mask [true, false, false, false] ?_
    exact sX11_readStep_120 u g C hr hR hg ec0_3 ec0_25 ec0_26 ea2 r101 c0_5 c0_6 c0_7 c0_41 a18 (3 : Int32) h
  · have h := k_t c112 h
    refine r_iconst (v := (2 : Int32)) C dX11_readStep_115 (rfl : 115 + 1 = 116) rfl ?_
    refine r_goto (tgt := 120) C dX11_readStep_116 (by decide) ?_
    refine k_mask [true, false, false, false] ?_
    exact sX11_readStep_120 u g C hr hR hg ec0_3 ec0_25 ec0_26 ea2 r101 c0_5 c0_6 c0_7 c0_41 a18 (2 : Int32) h
set_option maxHeartbeats 400000 in
set_option maxRecDepth 100000 in
theorem sX11_readStep_264 (u : Nat) (g : Int32 → Int32 → Int32 → Int32 → Int32 → Int32 → Int32 → Int32 → (Nat → Int32) → (Nat → Int32) → Option (Int32 × Int32 × Int32 × Int32 × Int32 × (Nat → Int32))) {fg ng : Nat} {X : k_X} {ad : Nat → Nat} (C : k_C X cX11_readStep RX11 4 ad) (hr : X.meth.sig.returnType = none) (hR : X.R.frames = (fg + 5) ∧ X.R.locals = (ng + 107)) {I : Nat → Nat → Int32} {L : Nat → Nat → Int64} {Rf : Nat → Nat → Option Nat} (hg : H_X11_readStep X.l g fg ng) {c0_3 : Int32} (ec0_3 : I 0 3 = c0_3) {c0_25 : Int32} (ec0_25 : I 0 25 = c0_25) {c0_26 : Int32} (ec0_26 : I 0 26 = c0_26) {a2 : (Nat → Int32)} (ea2 : I 2 = a2) {out : Int32 × Int32 × Int32 × Int32 × Int32 × (Nat → Int32)} : ∀ (c0_4 : Int32) (c0_5 : Int32) (c0_6 : Int32) (c0_7 : Int32) (c0_41 : Int32) (a18 : (Nat → Int32)), bX11_readStep_264 u g c0_3 c0_25 c0_26 a2 c0_4 c0_5 c0_6 c0_7 c0_41 a18 = some out → k_W X 4 0 0 (k_Q X ad none (k_ap [(0, .inl (4, out.1)), (0, .inl (5, out.2.1)), (0, .inl (6, out.2.2.1)), (0, .inl (7, out.2.2.2.1)), (0, .inl (41, out.2.2.2.2.1)), (18, .inr (.inr (.inl out.2.2.2.2.2)))] (shM, I, L, Rf))) ad (k_ap [(0, .inl (4, c0_4)), (0, .inl (5, c0_5)), (0, .inl (6, c0_6)), (0, .inl (7, c0_7)), (0, .inl (41, c0_41)), (18, .inr (.inr (.inl a18)))] (shM, I, L, Rf)) 264 [some (.ref 0), none, none, none] [] := by
  intro c0_4 c0_5 c0_6 c0_7 c0_41 a18 h
  unfold bX11_readStep_264 at h
  refine r_goto (tgt := 276) C dX11_readStep_264 (by decide) ?_
  refine k_mask [true, false, false, false] ?_
  exact sX11_readStep_276 u g C hr hR hg ec0_3 ec0_25 ec0_26 ea2 c0_4 c0_5 c0_6 c0_7 c0_41 a18 h
set_option maxHeartbeats 400000 in
set_option maxRecDepth 100000 in
theorem sX11_readStep_229 (u : Nat) (g : Int32 → Int32 → Int32 → Int32 → Int32 → Int32 → Int32 → Int32 → (Nat → Int32) → (Nat → Int32) → Option (Int32 × Int32 × Int32 × Int32 × Int32 × (Nat → Int32))) {fg ng : Nat} {X : k_X} {ad : Nat → Nat} (C : k_C X cX11_readStep RX11 4 ad) (hr : X.meth.sig.returnType = none) (hR : X.R.frames = (fg + 5) ∧ X.R.locals = (ng + 107)) {I : Nat → Nat → Int32} {L : Nat → Nat → Int64} {Rf : Nat → Nat → Option Nat} (hg : H_X11_readStep X.l g fg ng) {c0_3 : Int32} (ec0_3 : I 0 3 = c0_3) {c0_25 : Int32} (ec0_25 : I 0 25 = c0_25) {c0_26 : Int32} (ec0_26 : I 0 26 = c0_26) {a2 : (Nat → Int32)} (ea2 : I 2 = a2) {out : Int32 × Int32 × Int32 × Int32 × Int32 × (Nat → Int32)} : ∀ (c0_4 : Int32) (c0_5 : Int32) (c0_6 : Int32) (c0_7 : Int32) (c0_41 : Int32) (a18 : (Nat → Int32)) (v3 : Int32), bX11_readStep_229 u g c0_3 c0_25 c0_26 a2 c0_4 c0_5 c0_6 c0_7 c0_41 a18 v3 = some out → k_W X 4 0 0 (k_Q X ad none (k_ap [(0, .inl (4, out.1)), (0, .inl (5, out.2.1)), (0, .inl (6, out.2.2.1)), (0, .inl (7, out.2.2.2.1)), (0, .inl (41, out.2.2.2.2.1)), (18, .inr (.inr (.inl out.2.2.2.2.2)))] (shM, I, L, Rf))) ad (k_ap [(0, .inl (4, c0_4)), (0, .inl (5, c0_5)), (0, .inl (6, c0_6)), (0, .inl (7, c0_7)), (0, .inl (41, c0_41)), (18, .inr (.inr (.inl a18)))] (shM, I, L, Rf)) 229 [some (.ref 0), none, none, some (.int v3)] [] := by
  intro c0_4 c0_5 c0_6 c0_7 c0_41 a18 v3 h
  unfold bX11_readStep_229 at h
  refine r_aload_n C dX11_readStep_229 (rfl : 229 + 1 = 230) rfl ?_
  refine r_bipush (v := (93 : Int32)) C dX11_readStep_230 (rfl : 230 + 2 = 232) rfl ?_
  obtain ⟨r232, q232, h⟩ := k_b_of h
  refine d_V (As := [.int (93 : Int32)]) (st := []) (st' := []) (h' := k_ap [(0, .inl (4, r232.1)), (0, .inl (5, r232.2.1)), (0, .inl (6, r232.2.2)), (0, .inl (7, c0_7)), (0, .inl (41, c0_41)), (18, .inr (.inr (.inl a18)))] (shM, I, L, Rf)) C hR ⟨Nat.zero_le _, Nat.zero_le _⟩ mv_X11_sign lk_X11_269 dX11_readStep_232 (rfl : 232 + 3 = 235) (k_bl (by omega)) (k_bl (by omega)) rfl rfl (c_X11_sign X.l u (k_ap [(0, .inl (4, c0_4)), (0, .inl (5, c0_5)), (0, .inl (6, c0_6)), (0, .inl (7, c0_7)), (0, .inl (41, c0_41)), (18, .inr (.inr (.inl a18)))] (shM, I, L, Rf)) rfl ec0_3 rfl rfl rfl ea2 q232) rfl rfl rfl (k_jn (us' := [(0, .inl (4, r232.1)), (0, .inl (5, r232.2.1)), (0, .inl (6, r232.2.2)), (0, .inl (7, c0_7)), (0, .inl (41, c0_41)), (18, .inr (.inr (.inl a18)))]) ds_X11_readStep rfl rfl rfl) rfl ?_
  refine r_aload_n C dX11_readStep_235 (rfl : 235 + 1 = 236) rfl ?_
  refine r_dup C dX11_readStep_236 (rfl : 236 + 1 = 237) rfl ?_
  refine r_getI (v := c0_7) C dX11_readStep_237 (rfl : 237 + 3 = 240) fl_X11_160 rfl rfl rfl ?_
  refine r_iconst (v := (1 : Int32)) C dX11_readStep_240 (rfl : 240 + 1 = 241) rfl ?_
  refine r_isub C dX11_readStep_241 (rfl : 241 + 1 = 242) ?_
  refine p_I (us' := [(0, .inl (4, r232.1)), (0, .inl (5, r232.2.1)), (0, .inl (6, r232.2.2)), (0, .inl (7, (c0_7 - (1 : Int32)))), (0, .inl (41, c0_41)), (18, .inr (.inr (.inl a18)))]) C dX11_readStep_242 (rfl : 242 + 3 = 245) fp_X11_160 rfl rfl ds_X11_readStep rfl rfl rfl ?_
  refine r_aload_n C dX11_readStep_245 (rfl : 245 + 1 = 246) rfl ?_
  obtain ⟨r246, q246, h⟩ := k_b_of h
  refine d_V (As := []) (st := []) (st' := [.int r246]) (h' := k_ap [(0, .inl (4, r232.1)), (0, .inl (5, r232.2.1)), (0, .inl (6, r232.2.2)), (0, .inl (7, (c0_7 - (1 : Int32)))), (0, .inl (41, c0_41)), (18, .inr (.inr (.inl a18)))] (shM, I, L, Rf)) C hR ⟨Nat.zero_le _, Nat.zero_le _⟩ mv_X11_fine lk_X11_149 dX11_readStep_246 (rfl : 246 + 3 = 249) (k_bl (by omega)) (k_bl (by omega)) rfl rfl (c_X11_fine X.l u (k_ap [(0, .inl (4, r232.1)), (0, .inl (5, r232.2.1)), (0, .inl (6, r232.2.2)), (0, .inl (7, (c0_7 - (1 : Int32)))), (0, .inl (41, c0_41)), (18, .inr (.inr (.inl a18)))] (shM, I, L, Rf)) rfl rfl q246) rfl rfl rfl rfl rfl ?_
  refine r_if_eq (tgt := 264) C dX11_readStep_249 (by decide) (rfl : 249 + 3 = 252) (fun c249 => ?_) (fun c249 => ?_)
  · have h := k_t c249 h
    refine k_mask [true, false, false, false] ?_
    exact sX11_readStep_264 u g C hr hR hg ec0_3 ec0_25 ec0_26 ea2 r232.1 r232.2.1 r232.2.2 (c0_7 - (1 : Int32)) c0_41 a18 h
  · have h := k_f c249 h
    refine r_aload_n C dX11_readStep_252 (rfl : 252 + 1 = 253) rfl ?_
    refine r_getR (q := 18) C dX11_readStep_253 (rfl : 253 + 3 = 256) fl_X11_68 rfl rfl ?_
    refine r_iload_n C dX11_readStep_256 (rfl : 256 + 1 = 257) rfl ?_
    refine r_iconst (v := (2 : Int32)) C dX11_readStep_257 (rfl : 257 + 1 = 258) rfl ?_
    refine r_iadd C dX11_readStep_258 (rfl : 258 + 1 = 259) ?_
    refine r_aload_n C dX11_readStep_259 (rfl : 259 + 1 = 260) rfl ?_
    refine r_getI (v := c0_41) C dX11_readStep_260 (rfl : 260 + 3 = 263) fl_X11_325 rfl rfl rfl ?_
    obtain ⟨hi263, h⟩ := k_i_of h
    refine s_i (j := ((v3 + (2 : Int32))).toNatClampNeg) (f := a18) (us' := [(0, .inl (4, r232.1)), (0, .inl (5, r232.2.1)), (0, .inl (6, r232.2.2)), (0, .inl (7, (c0_7 - (1 : Int32)))), (0, .inl (41, c0_41)), (18, .inr (.inr (.inl (upd a18 (((v3 + (2 : Int32))).toNatClampNeg) c0_41))))]) C dX11_readStep_263 (rfl : 263 + 1 = 264) rfl rfl hi263 rfl ds_X11_readStep rfl rfl rfl ?_
    refine k_mask [true, false, false, false] ?_
    exact sX11_readStep_264 u g C hr hR hg ec0_3 ec0_25 ec0_26 ea2 r232.1 r232.2.1 r232.2.2 (c0_7 - (1 : Int32)) c0_41 (upd a18 (((v3 + (2 : Int32))).toNatClampNeg) c0_41) h
set_option maxHeartbeats 400000 in
set_option maxRecDepth 100000 in
theorem sX11_readStep_206 (u : Nat) (g : Int32 → Int32 → Int32 → Int32 → Int32 → Int32 → Int32 → Int32 → (Nat → Int32) → (Nat → Int32) → Option (Int32 × Int32 × Int32 × Int32 × Int32 × (Nat → Int32))) {fg ng : Nat} {X : k_X} {ad : Nat → Nat} (C : k_C X cX11_readStep RX11 4 ad) (hr : X.meth.sig.returnType = none) (hR : X.R.frames = (fg + 5) ∧ X.R.locals = (ng + 107)) {I : Nat → Nat → Int32} {L : Nat → Nat → Int64} {Rf : Nat → Nat → Option Nat} (hg : H_X11_readStep X.l g fg ng) {c0_3 : Int32} (ec0_3 : I 0 3 = c0_3) {c0_25 : Int32} (ec0_25 : I 0 25 = c0_25) {c0_26 : Int32} (ec0_26 : I 0 26 = c0_26) {a2 : (Nat → Int32)} (ea2 : I 2 = a2) {out : Int32 × Int32 × Int32 × Int32 × Int32 × (Nat → Int32)} : ∀ (n : Nat) (c0_4 : Int32) (c0_5 : Int32) (c0_6 : Int32) (c0_7 : Int32) (c0_41 : Int32) (a18 : (Nat → Int32)) (v3 : Int32), bX11_readStep_206 u g c0_3 c0_25 c0_26 a2 n c0_4 c0_5 c0_6 c0_7 c0_41 a18 v3 = some out → k_W X 4 0 0 (k_Q X ad none (k_ap [(0, .inl (4, out.1)), (0, .inl (5, out.2.1)), (0, .inl (6, out.2.2.1)), (0, .inl (7, out.2.2.2.1)), (0, .inl (41, out.2.2.2.2.1)), (18, .inr (.inr (.inl out.2.2.2.2.2)))] (shM, I, L, Rf))) ad (k_ap [(0, .inl (4, c0_4)), (0, .inl (5, c0_5)), (0, .inl (6, c0_6)), (0, .inl (7, c0_7)), (0, .inl (41, c0_41)), (18, .inr (.inr (.inl a18)))] (shM, I, L, Rf)) 206 [some (.ref 0), none, none, some (.int v3)] [] := by
  intro n
  induction n with
  | zero => intro c0_4 c0_5 c0_6 c0_7 c0_41 a18 v3 h; cases h
  | succ n ih =>
    intro c0_4 c0_5 c0_6 c0_7 c0_41 a18 v3 h
    refine r_aload_n C dX11_readStep_206 (rfl : 206 + 1 = 207) rfl ?_
    obtain ⟨r207, q207, h⟩ := k_b_of h
    refine d_V (As := []) (st := []) (st' := [.int r207]) (h' := k_ap [(0, .inl (4, c0_4)), (0, .inl (5, c0_5)), (0, .inl (6, c0_6)), (0, .inl (7, c0_7)), (0, .inl (41, c0_41)), (18, .inr (.inr (.inl a18)))] (shM, I, L, Rf)) C hR ⟨Nat.zero_le _, Nat.zero_le _⟩ mv_X11_fine lk_X11_149 dX11_readStep_207 (rfl : 207 + 3 = 210) (k_bl (by omega)) (k_bl (by omega)) rfl rfl (c_X11_fine X.l u (k_ap [(0, .inl (4, c0_4)), (0, .inl (5, c0_5)), (0, .inl (6, c0_6)), (0, .inl (7, c0_7)), (0, .inl (41, c0_41)), (18, .inr (.inr (.inl a18)))] (shM, I, L, Rf)) rfl rfl q207) rfl rfl rfl rfl rfl ?_
    refine r_if_eq (tgt := 229) C dX11_readStep_210 (by decide) (rfl : 210 + 3 = 213) (fun c210 => ?_) (fun c210 => ?_)
    · have h := k_t c210 h
      refine k_mask [true, false, false, true] ?_
      exact sX11_readStep_229 u g C hr hR hg ec0_3 ec0_25 ec0_26 ea2 c0_4 c0_5 c0_6 c0_7 c0_41 a18 v3 h
    · have h := k_f c210 h
      refine r_aload_n C dX11_readStep_213 (rfl : 213 + 1 = 214) rfl ?_
      obtain ⟨r214, q214, h⟩ := k_b_of h
      refine d_V (As := []) (st := []) (st' := [.int r214.1]) (h' := k_ap [(0, .inl (4, r214.2)), (0, .inl (5, c0_5)), (0, .inl (6, c0_6)), (0, .inl (7, c0_7)), (0, .inl (41, c0_41)), (18, .inr (.inr (.inl a18)))] (shM, I, L, Rf)) C hR ⟨Nat.zero_le _, Nat.zero_le _⟩ mv_X11_here lk_X11_133 dX11_readStep_214 (rfl : 214 + 3 = 217) (k_bl (by omega)) (k_bl (by omega)) rfl rfl (c_X11_here X.l u (k_ap [(0, .inl (4, c0_4)), (0, .inl (5, c0_5)), (0, .inl (6, c0_6)), (0, .inl (7, c0_7)), (0, .inl (41, c0_41)), (18, .inr (.inr (.inl a18)))] (shM, I, L, Rf)) rfl ec0_3 rfl ea2 q214) rfl rfl rfl (k_jn (us' := [(0, .inl (4, r214.2)), (0, .inl (5, c0_5)), (0, .inl (6, c0_6)), (0, .inl (7, c0_7)), (0, .inl (41, c0_41)), (18, .inr (.inr (.inl a18)))]) ds_X11_readStep rfl rfl rfl) rfl ?_
      refine r_bipush (v := (93 : Int32)) C dX11_readStep_217 (rfl : 217 + 2 = 219) rfl ?_
      refine r_icmp_eq (tgt := 229) C dX11_readStep_219 (by decide) (rfl : 219 + 3 = 222) (fun c219 => ?_) (fun c219 => ?_)
      · have h := k_t c219 h
        refine k_mask [true, false, false, true] ?_
        exact sX11_readStep_229 u g C hr hR hg ec0_3 ec0_25 ec0_26 ea2 r214.2 c0_5 c0_6 c0_7 c0_41 a18 v3 h
      · have h := k_f c219 h
        refine r_aload_n C dX11_readStep_222 (rfl : 222 + 1 = 223) rfl ?_
        obtain ⟨r223, q223, h⟩ := k_b_of h
        refine d_V (As := []) (st := []) (st' := []) (h' := k_ap [(0, .inl (4, r223.1)), (0, .inl (5, r223.2.1)), (0, .inl (6, r223.2.2.1)), (0, .inl (7, r223.2.2.2.1)), (0, .inl (41, r223.2.2.2.2.1)), (18, .inr (.inr (.inl r223.2.2.2.2.2)))] (shM, I, L, Rf)) C hR ⟨Nat.zero_le _, Nat.zero_le _⟩ mv_X11_readStep lk_X11_342 dX11_readStep_223 (rfl : 223 + 3 = 226) (k_bl (by omega)) (k_bl (by omega)) rfl rfl (hg (k_ap [(0, .inl (4, r214.2)), (0, .inl (5, c0_5)), (0, .inl (6, c0_6)), (0, .inl (7, c0_7)), (0, .inl (41, c0_41)), (18, .inr (.inr (.inl a18)))] (shM, I, L, Rf)) rfl ec0_3 rfl rfl rfl rfl ec0_25 ec0_26 rfl ea2 rfl q223) rfl rfl rfl (k_jn (us' := [(0, .inl (4, r223.1)), (0, .inl (5, r223.2.1)), (0, .inl (6, r223.2.2.1)), (0, .inl (7, r223.2.2.2.1)), (0, .inl (41, r223.2.2.2.2.1)), (18, .inr (.inr (.inl r223.2.2.2.2.2)))]) ds_X11_readStep rfl rfl rfl) rfl ?_
        refine r_goto (tgt := 206) C dX11_readStep_226 (by decide) ?_
        refine k_mask [true, false, false, true] ?_
        exact ih r223.1 r223.2.1 r223.2.2.1 r223.2.2.2.1 r223.2.2.2.2.1 r223.2.2.2.2.2 v3 h
set_option maxHeartbeats 400000 in
set_option maxRecDepth 100000 in
theorem sX11_readStep_0 (u : Nat) (g : Int32 → Int32 → Int32 → Int32 → Int32 → Int32 → Int32 → Int32 → (Nat → Int32) → (Nat → Int32) → Option (Int32 × Int32 × Int32 × Int32 × Int32 × (Nat → Int32))) {fg ng : Nat} {X : k_X} {ad : Nat → Nat} (C : k_C X cX11_readStep RX11 4 ad) (hr : X.meth.sig.returnType = none) (hR : X.R.frames = (fg + 5) ∧ X.R.locals = (ng + 107)) {I : Nat → Nat → Int32} {L : Nat → Nat → Int64} {Rf : Nat → Nat → Option Nat} (hg : H_X11_readStep X.l g fg ng) {c0_3 : Int32} (ec0_3 : I 0 3 = c0_3) {c0_25 : Int32} (ec0_25 : I 0 25 = c0_25) {c0_26 : Int32} (ec0_26 : I 0 26 = c0_26) {a2 : (Nat → Int32)} (ea2 : I 2 = a2) {out : Int32 × Int32 × Int32 × Int32 × Int32 × (Nat → Int32)} : ∀ (c0_4 : Int32) (c0_5 : Int32) (c0_6 : Int32) (c0_7 : Int32) (c0_41 : Int32) (a18 : (Nat → Int32)), bX11_readStep_0 u g c0_3 c0_25 c0_26 a2 c0_4 c0_5 c0_6 c0_7 c0_41 a18 = some out → k_W X 4 0 0 (k_Q X ad none (k_ap [(0, .inl (4, out.1)), (0, .inl (5, out.2.1)), (0, .inl (6, out.2.2.1)), (0, .inl (7, out.2.2.2.1)), (0, .inl (41, out.2.2.2.2.1)), (18, .inr (.inr (.inl out.2.2.2.2.2)))] (shM, I, L, Rf))) ad (k_ap [(0, .inl (4, c0_4)), (0, .inl (5, c0_5)), (0, .inl (6, c0_6)), (0, .inl (7, c0_7)), (0, .inl (41, c0_41)), (18, .inr (.inr (.inl a18)))] (shM, I, L, Rf)) 0 [some (.ref 0), none, none, none] [] := by
  intro c0_4 c0_5 c0_6 c0_7 c0_41 a18 h
  unfold bX11_readStep_0 at h
  refine r_aload_n C dX11_readStep_0 (rfl : 0 + 1 = 1) rfl ?_
  obtain ⟨r1, q1, h⟩ := k_b_of h
  refine d_V (As := []) (st := []) (st' := [.int r1.1]) (h' := k_ap [(0, .inl (4, r1.2)), (0, .inl (5, c0_5)), (0, .inl (6, c0_6)), (0, .inl (7, c0_7)), (0, .inl (41, c0_41)), (18, .inr (.inr (.inl a18)))] (shM, I, L, Rf)) C hR ⟨Nat.zero_le _, Nat.zero_le _⟩ mv_X11_word lk_X11_222 dX11_readStep_1 (rfl : 1 + 3 = 4) (k_bl (by omega)) (k_bl (by omega)) rfl rfl (c_X11_word X.l u (k_ap [(0, .inl (4, c0_4)), (0, .inl (5, c0_5)), (0, .inl (6, c0_6)), (0, .inl (7, c0_7)), (0, .inl (41, c0_41)), (18, .inr (.inr (.inl a18)))] (shM, I, L, Rf)) rfl ec0_3 rfl ea2 q1) rfl rfl rfl (k_jn (us' := [(0, .inl (4, r1.2)), (0, .inl (5, c0_5)), (0, .inl (6, c0_6)), (0, .inl (7, c0_7)), (0, .inl (41, c0_41)), (18, .inr (.inr (.inl a18)))]) ds_X11_readStep rfl rfl rfl) rfl ?_
  refine r_istore_n C dX11_readStep_4 (rfl : 4 + 1 = 5) (by decide) (Nat.le_of_ble_eq_true rfl) ?_
  show k_W _ _ _ _ _ _ _ _ [some (.ref 0), some (.int r1.1), none, none] _
  refine r_iload_n C dX11_readStep_5 (rfl : 5 + 1 = 6) rfl ?_
  refine r_ldcwS (i := 26) C rfl dX11_readStep_6 (rfl : 6 + 3 = 9) ?_
  obtain ⟨r9, q9, h⟩ := k_b_of h
  refine d_S (As := [.ref (1000000 + 26)]) (st := [.int r1.1]) (st' := [.int r9, .int r1.1]) (h' := k_ap [(0, .inl (4, r1.2)), (0, .inl (5, c0_5)), (0, .inl (6, c0_6)), (0, .inl (7, c0_7)), (0, .inl (41, c0_41)), (18, .inr (.inr (.inl a18)))] (shM, I, L, Rf)) C hR ⟨Nat.zero_le _, Nat.zero_le _⟩ ms_X11_of lk_X11_227 dX11_readStep_9 (rfl : 9 + 3 = 12) (k_bl (by omega)) (k_bl (by omega)) (c_X11_of X.l u 26 (by decide) (k_ap [(0, .inl (4, r1.2)), (0, .inl (5, c0_5)), (0, .inl (6, c0_6)), (0, .inl (7, c0_7)), (0, .inl (41, c0_41)), (18, .inr (.inr (.inl a18)))] (shM, I, L, Rf)) rfl  q9) rfl rfl rfl rfl rfl ?_
  refine r_icmp_eq (tgt := 25) C dX11_readStep_12 (by decide) (rfl : 12 + 3 = 15) (fun c12 => ?_) (fun c12 => ?_)
  · have h := k_t c12 h
    refine k_mask [true, true, false, false] ?_
    exact sX11_readStep_25 u g C hr hR hg ec0_3 ec0_25 ec0_26 ea2 r1.2 c0_5 c0_6 c0_7 c0_41 a18 r1.1 h
  · have h := k_f c12 h
    refine r_iload_n C dX11_readStep_15 (rfl : 15 + 1 = 16) rfl ?_
    refine r_ldcwS (i := 27) C rfl dX11_readStep_16 (rfl : 16 + 3 = 19) ?_
    obtain ⟨r19, q19, h⟩ := k_b_of h
    refine d_S (As := [.ref (1000000 + 27)]) (st := [.int r1.1]) (st' := [.int r19, .int r1.1]) (h' := k_ap [(0, .inl (4, r1.2)), (0, .inl (5, c0_5)), (0, .inl (6, c0_6)), (0, .inl (7, c0_7)), (0, .inl (41, c0_41)), (18, .inr (.inr (.inl a18)))] (shM, I, L, Rf)) C hR ⟨Nat.zero_le _, Nat.zero_le _⟩ ms_X11_of lk_X11_227 dX11_readStep_19 (rfl : 19 + 3 = 22) (k_bl (by omega)) (k_bl (by omega)) (c_X11_of X.l u 27 (by decide) (k_ap [(0, .inl (4, r1.2)), (0, .inl (5, c0_5)), (0, .inl (6, c0_6)), (0, .inl (7, c0_7)), (0, .inl (41, c0_41)), (18, .inr (.inr (.inl a18)))] (shM, I, L, Rf)) rfl  q19) rfl rfl rfl rfl rfl ?_
    refine r_icmp_ne (tgt := 80) C dX11_readStep_22 (by decide) (rfl : 22 + 3 = 25) (fun c22 => ?_) (fun c22 => ?_)
    · have h := k_f c22 h
      refine r_iload_n C dX11_readStep_80 (rfl : 80 + 1 = 81) rfl ?_
      refine r_ldcwS (i := 28) C rfl dX11_readStep_81 (rfl : 81 + 3 = 84) ?_
      obtain ⟨r84, q84, h⟩ := k_b_of h
      refine d_S (As := [.ref (1000000 + 28)]) (st := [.int r1.1]) (st' := [.int r84, .int r1.1]) (h' := k_ap [(0, .inl (4, r1.2)), (0, .inl (5, c0_5)), (0, .inl (6, c0_6)), (0, .inl (7, c0_7)), (0, .inl (41, c0_41)), (18, .inr (.inr (.inl a18)))] (shM, I, L, Rf)) C hR ⟨Nat.zero_le _, Nat.zero_le _⟩ ms_X11_of lk_X11_227 dX11_readStep_84 (rfl : 84 + 3 = 87) (k_bl (by omega)) (k_bl (by omega)) (c_X11_of X.l u 28 (by decide) (k_ap [(0, .inl (4, r1.2)), (0, .inl (5, c0_5)), (0, .inl (6, c0_6)), (0, .inl (7, c0_7)), (0, .inl (41, c0_41)), (18, .inr (.inr (.inl a18)))] (shM, I, L, Rf)) rfl  q84) rfl rfl rfl rfl rfl ?_
      refine r_icmp_eq (tgt := 100) C dX11_readStep_87 (by decide) (rfl : 87 + 3 = 90) (fun c87 => ?_) (fun c87 => ?_)
      · have h := k_t c87 h
        refine k_mask [true, true, false, false] ?_
        exact sX11_readStep_100 u g C hr hR hg ec0_3 ec0_25 ec0_26 ea2 r1.2 c0_5 c0_6 c0_7 c0_41 a18 r1.1 h
      · have h := k_f c87 h
        refine r_iload_n C dX11_readStep_90 (rfl : 90 + 1 = 91) rfl ?_
        refine r_ldcwS (i := 25) C rfl dX11_readStep_91 (rfl : 91 + 3 = 94) ?_
        obtain ⟨r94, q94, h⟩ := k_b_of h
        refine d_S (As := [.ref (1000000 + 25)]) (st := [.int r1.1]) (st' := [.int r94, .int r1.1]) (h' := k_ap [(0, .inl (4, r1.2)), (0, .inl (5, c0_5)), (0, .inl (6, c0_6)), (0, .inl (7, c0_7)), (0, .inl (41, c0_41)), (18, .inr (.inr (.inl a18)))] (shM, I, L, Rf)) C hR ⟨Nat.zero_le _, Nat.zero_le _⟩ ms_X11_of lk_X11_227 dX11_readStep_94 (rfl : 94 + 3 = 97) (k_bl (by omega)) (k_bl (by omega)) (c_X11_of X.l u 25 (by decide) (k_ap [(0, .inl (4, r1.2)), (0, .inl (5, c0_5)), (0, .inl (6, c0_6)), (0, .inl (7, c0_7)), (0, .inl (41, c0_41)), (18, .inr (.inr (.inl a18)))] (shM, I, L, Rf)) rfl  q94) rfl rfl rfl rfl rfl ?_
        refine r_icmp_ne (tgt := 128) C dX11_readStep_97 (by decide) (rfl : 97 + 3 = 100) (fun c97 => ?_) (fun c97 => ?_)
        · have h := k_f c97 h
          refine r_iload_n C dX11_readStep_128 (rfl : 128 + 1 = 129) rfl ?_
          refine r_ldcwS (i := 29) C rfl dX11_readStep_129 (rfl : 129 + 3 = 132) ?_
          obtain ⟨r132, q132, h⟩ := k_b_of h
          refine d_S (As := [.ref (1000000 + 29)]) (st := [.int r1.1]) (st' := [.int r132, .int r1.1]) (h' := k_ap [(0, .inl (4, r1.2)), (0, .inl (5, c0_5)), (0, .inl (6, c0_6)), (0, .inl (7, c0_7)), (0, .inl (41, c0_41)), (18, .inr (.inr (.inl a18)))] (shM, I, L, Rf)) C hR ⟨Nat.zero_le _, Nat.zero_le _⟩ ms_X11_of lk_X11_227 dX11_readStep_132 (rfl : 132 + 3 = 135) (k_bl (by omega)) (k_bl (by omega)) (c_X11_of X.l u 29 (by decide) (k_ap [(0, .inl (4, r1.2)), (0, .inl (5, c0_5)), (0, .inl (6, c0_6)), (0, .inl (7, c0_7)), (0, .inl (41, c0_41)), (18, .inr (.inr (.inl a18)))] (shM, I, L, Rf)) rfl  q132) rfl rfl rfl rfl rfl ?_
          refine r_icmp_ne (tgt := 165) C dX11_readStep_135 (by decide) (rfl : 135 + 3 = 138) (fun c135 => ?_) (fun c135 => ?_)
          · have h := k_f c135 h
            refine r_iload_n C dX11_readStep_165 (rfl : 165 + 1 = 166) rfl ?_
            refine r_ldcwS (i := 30) C rfl dX11_readStep_166 (rfl : 166 + 3 = 169) ?_
            obtain ⟨r169, q169, h⟩ := k_b_of h
            refine d_S (As := [.ref (1000000 + 30)]) (st := [.int r1.1]) (st' := [.int r169, .int r1.1]) (h' := k_ap [(0, .inl (4, r1.2)), (0, .inl (5, c0_5)), (0, .inl (6, c0_6)), (0, .inl (7, c0_7)), (0, .inl (41, c0_41)), (18, .inr (.inr (.inl a18)))] (shM, I, L, Rf)) C hR ⟨Nat.zero_le _, Nat.zero_le _⟩ ms_X11_of lk_X11_227 dX11_readStep_169 (rfl : 169 + 3 = 172) (k_bl (by omega)) (k_bl (by omega)) (c_X11_of X.l u 30 (by decide) (k_ap [(0, .inl (4, r1.2)), (0, .inl (5, c0_5)), (0, .inl (6, c0_6)), (0, .inl (7, c0_7)), (0, .inl (41, c0_41)), (18, .inr (.inr (.inl a18)))] (shM, I, L, Rf)) rfl  q169) rfl rfl rfl rfl rfl ?_
            refine r_icmp_ne (tgt := 267) C dX11_readStep_172 (by decide) (rfl : 172 + 3 = 175) (fun c172 => ?_) (fun c172 => ?_)
            · have h := k_f c172 h
              refine r_aload_n C dX11_readStep_267 (rfl : 267 + 1 = 268) rfl ?_
              refine r_iconst (v := (1 : Int32)) C dX11_readStep_268 (rfl : 268 + 1 = 269) rfl ?_
              refine r_aload_n C dX11_readStep_269 (rfl : 269 + 1 = 270) rfl ?_
              refine r_getI (v := r1.2) C dX11_readStep_270 (rfl : 270 + 3 = 273) fl_X11_127 rfl rfl rfl ?_
              obtain ⟨r273, q273, h⟩ := k_b_of h
              refine d_V (As := [.int (1 : Int32), .int r1.2]) (st := []) (st' := []) (h' := k_ap [(0, .inl (4, r1.2)), (0, .inl (5, r273.1)), (0, .inl (6, r273.2)), (0, .inl (7, c0_7)), (0, .inl (41, c0_41)), (18, .inr (.inr (.inl a18)))] (shM, I, L, Rf)) C hR ⟨Nat.zero_le _, Nat.zero_le _⟩ mv_X11_wrong lk_X11_156 dX11_readStep_273 (rfl : 273 + 3 = 276) (k_bl (by omega)) (k_bl (by omega)) rfl rfl (c_X11_wrong X.l u (k_ap [(0, .inl (4, r1.2)), (0, .inl (5, c0_5)), (0, .inl (6, c0_6)), (0, .inl (7, c0_7)), (0, .inl (41, c0_41)), (18, .inr (.inr (.inl a18)))] (shM, I, L, Rf)) rfl rfl rfl q273) rfl rfl rfl (k_jn (us' := [(0, .inl (4, r1.2)), (0, .inl (5, r273.1)), (0, .inl (6, r273.2)), (0, .inl (7, c0_7)), (0, .inl (41, c0_41)), (18, .inr (.inr (.inl a18)))]) ds_X11_readStep rfl rfl rfl) rfl ?_
              refine k_mask [true, false, false, false] ?_
              exact sX11_readStep_276 u g C hr hR hg ec0_3 ec0_25 ec0_26 ea2 r1.2 r273.1 r273.2 c0_7 c0_41 a18 h
            · have h := k_t c172 h
              refine r_aload_n C dX11_readStep_175 (rfl : 175 + 1 = 176) rfl ?_
              refine r_iconst (v := (5 : Int32)) C dX11_readStep_176 (rfl : 176 + 1 = 177) rfl ?_
              obtain ⟨r177, q177, h⟩ := k_b_of h
              refine d_V (As := [.int (5 : Int32)]) (st := []) (st' := []) (h' := k_ap [(0, .inl (4, r177.1)), (0, .inl (5, r177.2.1)), (0, .inl (6, r177.2.2.1)), (0, .inl (7, r177.2.2.2)), (0, .inl (41, c0_41)), (18, .inr (.inr (.inl a18)))] (shM, I, L, Rf)) C hR ⟨Nat.zero_le _, Nat.zero_le _⟩ mv_X11_opensOne lk_X11_288 dX11_readStep_177 (rfl : 177 + 3 = 180) (k_bl (by omega)) (k_bl (by omega)) rfl rfl (c_X11_opensOne X.l u (k_ap [(0, .inl (4, r1.2)), (0, .inl (5, c0_5)), (0, .inl (6, c0_6)), (0, .inl (7, c0_7)), (0, .inl (41, c0_41)), (18, .inr (.inr (.inl a18)))] (shM, I, L, Rf)) rfl rfl rfl rfl rfl q177) rfl rfl rfl (k_jn (us' := [(0, .inl (4, r177.1)), (0, .inl (5, r177.2.1)), (0, .inl (6, r177.2.2.1)), (0, .inl (7, r177.2.2.2)), (0, .inl (41, c0_41)), (18, .inr (.inr (.inl a18)))]) ds_X11_readStep rfl rfl rfl) rfl ?_
              refine r_aload_n C dX11_readStep_180 (rfl : 180 + 1 = 181) rfl ?_
              refine r_iconst (v := (0 : Int32)) C dX11_readStep_181 (rfl : 181 + 1 = 182) rfl ?_
              refine r_bipush (v := (20 : Int32)) C dX11_readStep_182 (rfl : 182 + 2 = 184) rfl ?_
              obtain ⟨r184, q184, h⟩ := k_b_of h
              refine d_V (As := [.int (0 : Int32), .int (20 : Int32)]) (st := []) (st' := [.int r184.1]) (h' := k_ap [(0, .inl (4, r184.2.1)), (0, .inl (5, r184.2.2.1)), (0, .inl (6, r184.2.2.2)), (0, .inl (7, r177.2.2.2)), (0, .inl (41, c0_41)), (18, .inr (.inr (.inl a18)))] (shM, I, L, Rf)) C hR ⟨Nat.zero_le _, Nat.zero_le _⟩ mv_X11_readNumber lk_X11_218 dX11_readStep_184 (rfl : 184 + 3 = 187) (k_bl (by omega)) (k_bl (by omega)) rfl rfl (c_X11_readNumber X.l u (k_ap [(0, .inl (4, r177.1)), (0, .inl (5, r177.2.1)), (0, .inl (6, r177.2.2.1)), (0, .inl (7, r177.2.2.2)), (0, .inl (41, c0_41)), (18, .inr (.inr (.inl a18)))] (shM, I, L, Rf)) rfl ec0_3 rfl rfl rfl ea2 q184) rfl rfl rfl (k_jn (us' := [(0, .inl (4, r184.2.1)), (0, .inl (5, r184.2.2.1)), (0, .inl (6, r184.2.2.2)), (0, .inl (7, r177.2.2.2)), (0, .inl (41, c0_41)), (18, .inr (.inr (.inl a18)))]) ds_X11_readStep rfl rfl rfl) rfl ?_
              refine r_istore_n C dX11_readStep_187 (rfl : 187 + 1 = 188) (by decide) (Nat.le_of_ble_eq_true rfl) ?_
              show k_W _ _ _ _ _ _ _ _ [some (.ref 0), some (.int r1.1), some (.int r184.1), none] _
              refine r_aload_n C dX11_readStep_188 (rfl : 188 + 1 = 189) rfl ?_
              refine r_bipush (v := (91 : Int32)) C dX11_readStep_189 (rfl : 189 + 2 = 191) rfl ?_
              obtain ⟨r191, q191, h⟩ := k_b_of h
              refine d_V (As := [.int (91 : Int32)]) (st := []) (st' := []) (h' := k_ap [(0, .inl (4, r191.1)), (0, .inl (5, r191.2.1)), (0, .inl (6, r191.2.2)), (0, .inl (7, r177.2.2.2)), (0, .inl (41, c0_41)), (18, .inr (.inr (.inl a18)))] (shM, I, L, Rf)) C hR ⟨Nat.zero_le _, Nat.zero_le _⟩ mv_X11_sign lk_X11_269 dX11_readStep_191 (rfl : 191 + 3 = 194) (k_bl (by omega)) (k_bl (by omega)) rfl rfl (c_X11_sign X.l u (k_ap [(0, .inl (4, r184.2.1)), (0, .inl (5, r184.2.2.1)), (0, .inl (6, r184.2.2.2)), (0, .inl (7, r177.2.2.2)), (0, .inl (41, c0_41)), (18, .inr (.inr (.inl a18)))] (shM, I, L, Rf)) rfl ec0_3 rfl rfl rfl ea2 q191) rfl rfl rfl (k_jn (us' := [(0, .inl (4, r191.1)), (0, .inl (5, r191.2.1)), (0, .inl (6, r191.2.2)), (0, .inl (7, r177.2.2.2)), (0, .inl (41, c0_41)), (18, .inr (.inr (.inl a18)))]) ds_X11_readStep rfl rfl rfl) rfl ?_
              refine r_aload_n C dX11_readStep_194 (rfl : 194 + 1 = 195) rfl ?_
              refine r_getI (v := c0_41) C dX11_readStep_195 (rfl : 195 + 3 = 198) fl_X11_325 rfl rfl rfl ?_
              refine r_istore_n C dX11_readStep_198 (rfl : 198 + 1 = 199) (by decide) (Nat.le_of_ble_eq_true rfl) ?_
              show k_W _ _ _ _ _ _ _ _ [some (.ref 0), some (.int r1.1), some (.int r184.1), some (.int c0_41)] _
              refine r_aload_n C dX11_readStep_199 (rfl : 199 + 1 = 200) rfl ?_
              refine r_iconst (v := (5 : Int32)) C dX11_readStep_200 (rfl : 200 + 1 = 201) rfl ?_
              refine r_iload_n C dX11_readStep_201 (rfl : 201 + 1 = 202) rfl ?_
              refine r_iconst (v := (0 : Int32)) C dX11_readStep_202 (rfl : 202 + 1 = 203) rfl ?_
              obtain ⟨r203, q203, h⟩ := k_b_of h
              refine d_V (As := [.int (5 : Int32), .int r184.1, .int (0 : Int32)]) (st := []) (st' := []) (h' := k_ap [(0, .inl (4, r191.1)), (0, .inl (5, r191.2.1)), (0, .inl (6, r191.2.2)), (0, .inl (7, r177.2.2.2)), (0, .inl (41, r203.1)), (18, .inr (.inr (.inl r203.2)))] (shM, I, L, Rf)) C hR ⟨Nat.zero_le _, Nat.zero_le _⟩ mv_X11_tellsStep lk_X11_332 dX11_readStep_203 (rfl : 203 + 3 = 206) (k_bl (by omega)) (k_bl (by omega)) rfl rfl (c_X11_tellsStep X.l u (k_ap [(0, .inl (4, r191.1)), (0, .inl (5, r191.2.1)), (0, .inl (6, r191.2.2)), (0, .inl (7, r177.2.2.2)), (0, .inl (41, c0_41)), (18, .inr (.inr (.inl a18)))] (shM, I, L, Rf)) rfl rfl rfl rfl q203) rfl rfl rfl (k_jn (us' := [(0, .inl (4, r191.1)), (0, .inl (5, r191.2.1)), (0, .inl (6, r191.2.2)), (0, .inl (7, r177.2.2.2)), (0, .inl (41, r203.1)), (18, .inr (.inr (.inl r203.2)))]) ds_X11_readStep rfl rfl rfl) rfl ?_
              refine k_mask [true, false, false, true] ?_
              exact sX11_readStep_206 u g C hr hR hg ec0_3 ec0_25 ec0_26 ea2 u r191.1 r191.2.1 r191.2.2 r177.2.2.2 r203.1 r203.2 c0_41 h
          · have h := k_t c135 h
            refine r_aload_n C dX11_readStep_138 (rfl : 138 + 1 = 139) rfl ?_
            obtain ⟨r139, q139, h⟩ := k_b_of h
            refine d_V (As := []) (st := []) (st' := []) (h' := k_ap [(0, .inl (4, r139)), (0, .inl (5, c0_5)), (0, .inl (6, c0_6)), (0, .inl (7, c0_7)), (0, .inl (41, c0_41)), (18, .inr (.inr (.inl a18)))] (shM, I, L, Rf)) C hR ⟨Nat.zero_le _, Nat.zero_le _⟩ mv_X11_pass lk_X11_231 dX11_readStep_139 (rfl : 139 + 3 = 142) (k_bl (by omega)) (k_bl (by omega)) rfl rfl (c_X11_pass X.l u (k_ap [(0, .inl (4, r1.2)), (0, .inl (5, c0_5)), (0, .inl (6, c0_6)), (0, .inl (7, c0_7)), (0, .inl (41, c0_41)), (18, .inr (.inr (.inl a18)))] (shM, I, L, Rf)) rfl ec0_3 rfl ea2 q139) rfl rfl rfl (k_jn (us' := [(0, .inl (4, r139)), (0, .inl (5, c0_5)), (0, .inl (6, c0_6)), (0, .inl (7, c0_7)), (0, .inl (41, c0_41)), (18, .inr (.inr (.inl a18)))]) ds_X11_readStep rfl rfl rfl) rfl ?_
            refine r_aload_n C dX11_readStep_142 (rfl : 142 + 1 = 143) rfl ?_
            refine r_iconst (v := (1 : Int32)) C dX11_readStep_143 (rfl : 143 + 1 = 144) rfl ?_
            refine r_iconst (v := (4 : Int32)) C dX11_readStep_144 (rfl : 144 + 1 = 145) rfl ?_
            obtain ⟨r145, q145, h⟩ := k_b_of h
            refine d_V (As := [.int (1 : Int32), .int (4 : Int32)]) (st := []) (st' := [.int r145.1]) (h' := k_ap [(0, .inl (4, r145.2.1)), (0, .inl (5, r145.2.2.1)), (0, .inl (6, r145.2.2.2)), (0, .inl (7, c0_7)), (0, .inl (41, c0_41)), (18, .inr (.inr (.inl a18)))] (shM, I, L, Rf)) C hR ⟨Nat.zero_le _, Nat.zero_le _⟩ mv_X11_readNumber lk_X11_218 dX11_readStep_145 (rfl : 145 + 3 = 148) (k_bl (by omega)) (k_bl (by omega)) rfl rfl (c_X11_readNumber X.l u (k_ap [(0, .inl (4, r139)), (0, .inl (5, c0_5)), (0, .inl (6, c0_6)), (0, .inl (7, c0_7)), (0, .inl (41, c0_41)), (18, .inr (.inr (.inl a18)))] (shM, I, L, Rf)) rfl ec0_3 rfl rfl rfl ea2 q145) rfl rfl rfl (k_jn (us' := [(0, .inl (4, r145.2.1)), (0, .inl (5, r145.2.2.1)), (0, .inl (6, r145.2.2.2)), (0, .inl (7, c0_7)), (0, .inl (41, c0_41)), (18, .inr (.inr (.inl a18)))]) ds_X11_readStep rfl rfl rfl) rfl ?_
            refine r_istore_n C dX11_readStep_148 (rfl : 148 + 1 = 149) (by decide) (Nat.le_of_ble_eq_true rfl) ?_
            show k_W _ _ _ _ _ _ _ _ [some (.ref 0), some (.int r1.1), some (.int r145.1), none] _
            refine r_aload_n C dX11_readStep_149 (rfl : 149 + 1 = 150) rfl ?_
            refine r_iconst (v := (4 : Int32)) C dX11_readStep_150 (rfl : 150 + 1 = 151) rfl ?_
            refine r_iload_n C dX11_readStep_151 (rfl : 151 + 1 = 152) rfl ?_
            refine r_aload_n C dX11_readStep_152 (rfl : 152 + 1 = 153) rfl ?_
            refine r_iconst (v := (1 : Int32)) C dX11_readStep_153 (rfl : 153 + 1 = 154) rfl ?_
            refine r_bipush (v := (99 : Int32)) C dX11_readStep_154 (rfl : 154 + 2 = 156) rfl ?_
            obtain ⟨r156, q156, h⟩ := k_b_of h
            refine d_V (As := [.int (1 : Int32), .int (99 : Int32)]) (st := [.int r145.1, .int (4 : Int32), .ref 0]) (st' := [.int r156.1, .int r145.1, .int (4 : Int32), .ref 0]) (h' := k_ap [(0, .inl (4, r156.2.1)), (0, .inl (5, r156.2.2.1)), (0, .inl (6, r156.2.2.2)), (0, .inl (7, c0_7)), (0, .inl (41, c0_41)), (18, .inr (.inr (.inl a18)))] (shM, I, L, Rf)) C hR ⟨Nat.zero_le _, Nat.zero_le _⟩ mv_X11_readNumber lk_X11_218 dX11_readStep_156 (rfl : 156 + 3 = 159) (k_bl (by omega)) (k_bl (by omega)) rfl rfl (c_X11_readNumber X.l u (k_ap [(0, .inl (4, r145.2.1)), (0, .inl (5, r145.2.2.1)), (0, .inl (6, r145.2.2.2)), (0, .inl (7, c0_7)), (0, .inl (41, c0_41)), (18, .inr (.inr (.inl a18)))] (shM, I, L, Rf)) rfl ec0_3 rfl rfl rfl ea2 q156) rfl rfl rfl (k_jn (us' := [(0, .inl (4, r156.2.1)), (0, .inl (5, r156.2.2.1)), (0, .inl (6, r156.2.2.2)), (0, .inl (7, c0_7)), (0, .inl (41, c0_41)), (18, .inr (.inr (.inl a18)))]) ds_X11_readStep rfl rfl rfl) rfl ?_
            obtain ⟨r159, q159, h⟩ := k_b_of h
            refine d_V (As := [.int (4 : Int32), .int r145.1, .int r156.1]) (st := []) (st' := []) (h' := k_ap [(0, .inl (4, r156.2.1)), (0, .inl (5, r156.2.2.1)), (0, .inl (6, r156.2.2.2)), (0, .inl (7, c0_7)), (0, .inl (41, r159.1)), (18, .inr (.inr (.inl r159.2)))] (shM, I, L, Rf)) C hR ⟨Nat.zero_le _, Nat.zero_le _⟩ mv_X11_tellsStep lk_X11_332 dX11_readStep_159 (rfl : 159 + 3 = 162) (k_bl (by omega)) (k_bl (by omega)) rfl rfl (c_X11_tellsStep X.l u (k_ap [(0, .inl (4, r156.2.1)), (0, .inl (5, r156.2.2.1)), (0, .inl (6, r156.2.2.2)), (0, .inl (7, c0_7)), (0, .inl (41, c0_41)), (18, .inr (.inr (.inl a18)))] (shM, I, L, Rf)) rfl rfl rfl rfl q159) rfl rfl rfl (k_jn (us' := [(0, .inl (4, r156.2.1)), (0, .inl (5, r156.2.2.1)), (0, .inl (6, r156.2.2.2)), (0, .inl (7, c0_7)), (0, .inl (41, r159.1)), (18, .inr (.inr (.inl r159.2)))]) ds_X11_readStep rfl rfl rfl) rfl ?_
            refine r_goto (tgt := 276) C dX11_readStep_162 (by decide) ?_
            refine k_mask [true, false, false, false] ?_
            exact sX11_readStep_276 u g C hr hR hg ec0_3 ec0_25 ec0_26 ea2 r156.2.1 r156.2.2.1 r156.2.2.2 c0_7 r159.1 r159.2 h
        · have h := k_t c97 h
          refine k_mask [true, true, false, false] ?_
          exact sX11_readStep_100 u g C hr hR hg ec0_3 ec0_25 ec0_26 ea2 r1.2 c0_5 c0_6 c0_7 c0_41 a18 r1.1 h
    · have h := k_t c22 h
      refine k_mask [true, true, false, false] ?_
      exact sX11_readStep_25 u g C hr hR hg ec0_3 ec0_25 ec0_26 ea2 r1.2 c0_5 c0_6 c0_7 c0_41 a18 r1.1 h
set_option maxHeartbeats 400000 in
set_option maxRecDepth 100000 in
theorem c_X11_readStep (l : Launch) (u : Nat) (g : Int32 → Int32 → Int32 → Int32 → Int32 → Int32 → Int32 → Int32 → (Nat → Int32) → (Nat → Int32) → Option (Int32 × Int32 × Int32 × Int32 × Int32 × (Nat → Int32))) {fg ng : Nat} (hg : H_X11_readStep l g fg ng) (h : k_H) (hsh : h.1 = shM) {c0_3 : Int32} (ec0_3 : h.2.1 0 3 = c0_3) {c0_4 : Int32} (ec0_4 : h.2.1 0 4 = c0_4) {c0_5 : Int32} (ec0_5 : h.2.1 0 5 = c0_5) {c0_6 : Int32} (ec0_6 : h.2.1 0 6 = c0_6) {c0_7 : Int32} (ec0_7 : h.2.1 0 7 = c0_7) {c0_25 : Int32} (ec0_25 : h.2.1 0 25 = c0_25) {c0_26 : Int32} (ec0_26 : h.2.1 0 26 = c0_26) {c0_41 : Int32} (ec0_41 : h.2.1 0 41 = c0_41) {a2 : (Nat → Int32)} (ea2 : h.2.1 2 = a2) {a18 : (Nat → Int32)} (ea18 : h.2.1 18 = a18) {out : Int32 × Int32 × Int32 × Int32 × Int32 × (Nat → Int32)} (hf : f_X11_readStep u g c0_3 c0_4 c0_5 c0_6 c0_7 c0_25 c0_26 c0_41 a2 a18 = some out) : k_CT l yX11_readStep cX11_readStep 4 none (fg + 5) (ng + 107) [.ref 0] h none [(0, .inl (4, out.1)), (0, .inl (5, out.2.1)), (0, .inl (6, out.2.2.1)), (0, .inl (7, out.2.2.2.1)), (0, .inl (41, out.2.2.2.2.1)), (18, .inr (.inr (.inl out.2.2.2.2.2)))] := by
  obtain ⟨sh, I, L, Rf⟩ := h
  try dsimp only
  obtain rfl : sh = shM := hsh
  refine k_ofW (by decide) (Nat.le_of_ble_eq_true rfl) ?_
  intro X ad hl hR0 hr C
  have hg : H_X11_readStep X.l g fg ng := by rw [hl]; exact hg
  have hR : X.R.frames = (fg + 5) ∧ X.R.locals = (ng + 107) := by rw [hR0]; exact ⟨rfl, rfl⟩
  have h := hf
  unfold f_X11_readStep at h
  refine k_start (us := [(0, .inl (4, c0_4)), (0, .inl (5, c0_5)), (0, .inl (6, c0_6)), (0, .inl (7, c0_7)), (0, .inl (41, c0_41)), (18, .inr (.inr (.inl a18)))]) (k_ao_I ec0_4 (k_ao_I ec0_5 (k_ao_I ec0_6 (k_ao_I ec0_7 (k_ao_I ec0_41 (k_ao_A ea18 k_ap_0)))))) ?_
  show k_W X 4 0 0 _ ad (k_ap [(0, .inl (4, c0_4)), (0, .inl (5, c0_5)), (0, .inl (6, c0_6)), (0, .inl (7, c0_7)), (0, .inl (41, c0_41)), (18, .inr (.inr (.inl a18)))] (shM, I, L, Rf)) 0 [some (.ref 0), none, none, none] []
  refine k_mask [true, false, false, false] ?_
  exact sX11_readStep_0 u g C hr hR hg ec0_3 ec0_25 ec0_26 ea2 c0_4 c0_5 c0_6 c0_7 c0_41 a18 h
theorem c_X11_readStep_r (l : Launch) (u : Nat) : ∀ d : Nat, H_X11_readStep l (f_X11_readStep_r u d) (5 * d) (107 * d)
  | 0 => by
    intro h hsh
    intros
    rename_i hf
    cases hf
  | d + 1 => by
    intro h hsh
    intros
    rename_i hf
    exact c_X11_readStep l u (f_X11_readStep_r u d) (c_X11_readStep_r l u d) h hsh (by assumption) (by assumption) (by assumption) (by assumption) (by assumption) (by assumption) (by assumption) (by assumption) (by assumption) (by assumption) hf
def H_X11_goesSteps (l : Launch) (g : Int32 → Int32 → Int32 → Int32 → Int32 → Int32 → Int32 → Int32 → (Nat → Int32) → (Nat → Int32) → (Nat → Int32) → (Nat → Int32) → (Nat → Int32) → (Nat → Int32) → (Nat → Int32) → (Nat → Int32) → (Nat → Int32) → (Nat → Int32) → (Nat → Int32) → (Nat → Int32) → (Nat → Int32) → Int32 → Int32 → Option (Int32 × Int32 × Int32 × (Nat → Int32) × (Nat → Int32) × (Nat → Int32) × (Nat → Int32) × (Nat → Int32))) (fg ng : Nat) : Prop := ∀ (h : k_H) (hsh : h.1 = shM) {c0_25 : Int32} (ec0_25 : h.2.1 0 25 = c0_25) {c0_26 : Int32} (ec0_26 : h.2.1 0 26 = c0_26) {c0_27 : Int32} (ec0_27 : h.2.1 0 27 = c0_27) {c0_28 : Int32} (ec0_28 : h.2.1 0 28 = c0_28) {c0_30 : Int32} (ec0_30 : h.2.1 0 30 = c0_30) {c0_44 : Int32} (ec0_44 : h.2.1 0 44 = c0_44) {c0_45 : Int32} (ec0_45 : h.2.1 0 45 = c0_45) {c0_46 : Int32} (ec0_46 : h.2.1 0 46 = c0_46) {a7 : (Nat → Int32)} (ea7 : h.2.1 7 = a7) {a8 : (Nat → Int32)} (ea8 : h.2.1 8 = a8) {a9 : (Nat → Int32)} (ea9 : h.2.1 9 = a9) {a10 : (Nat → Int32)} (ea10 : h.2.1 10 = a10) {a13 : (Nat → Int32)} (ea13 : h.2.1 13 = a13) {a14 : (Nat → Int32)} (ea14 : h.2.1 14 = a14) {a15 : (Nat → Int32)} (ea15 : h.2.1 15 = a15) {a16 : (Nat → Int32)} (ea16 : h.2.1 16 = a16) {a17 : (Nat → Int32)} (ea17 : h.2.1 17 = a17) {a19 : (Nat → Int32)} (ea19 : h.2.1 19 = a19) {a21 : (Nat → Int32)} (ea21 : h.2.1 21 = a21) {a23 : (Nat → Int32)} (ea23 : h.2.1 23 = a23) {a24 : (Nat → Int32)} (ea24 : h.2.1 24 = a24) {x0 : Int32} {x1 : Int32} {out : Int32 × Int32 × Int32 × (Nat → Int32) × (Nat → Int32) × (Nat → Int32) × (Nat → Int32) × (Nat → Int32)} (hf : g c0_25 c0_26 c0_27 c0_28 c0_30 c0_44 c0_45 c0_46 a7 a8 a9 a10 a13 a14 a15 a16 a17 a19 a21 a23 a24 x0 x1 = some out), k_CT l yX11_goesSteps cX11_goesSteps 6 none fg ng [.ref 0, .int x0, .int x1] h none [(0, .inl (44, out.1)), (0, .inl (45, out.2.1)), (0, .inl (46, out.2.2.1)), (16, .inr (.inr (.inl out.2.2.2.1))), (17, .inr (.inr (.inl out.2.2.2.2.1))), (21, .inr (.inr (.inl out.2.2.2.2.2.1))), (23, .inr (.inr (.inl out.2.2.2.2.2.2.1))), (24, .inr (.inr (.inl out.2.2.2.2.2.2.2)))]
