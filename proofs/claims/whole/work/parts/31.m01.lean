/-! LullabyPitModel.thrown()I -/
theorem ds_X11_thrown : k_ds [] = true := by decide +kernel
set_option maxHeartbeats 400000 in
set_option maxRecDepth 100000 in
theorem sX11_thrown_0 (u : Nat) {X : k_X} {ad : Nat → Nat} (C : k_C X cX11_thrown RX11 1 ad) (hr : X.meth.sig.returnType = (some .int)) (hR : X.R.frames = 0 ∧ X.R.locals = 0) {I : Nat → Nat → Int32} {L : Nat → Nat → Int64} {Rf : Nat → Nat → Option Nat} {c0_0 : Int32} (ec0_0 : I 0 0 = c0_0) {out : Int32} : bX11_thrown_0 u c0_0 = some out → k_W X 1 0 0 (k_Q X ad (some (.int out)) (k_ap [] (shM, I, L, Rf))) ad (k_ap [] (shM, I, L, Rf)) 0 [some (.ref 0)] [] := by
  intro h
  unfold bX11_thrown_0 at h
  refine r_aload_n C dX11_thrown_0 (rfl : 0 + 1 = 1) rfl ?_
  refine r_getI (v := c0_0) C dX11_thrown_1 (rfl : 1 + 3 = 4) fl_X11_3 rfl rfl ec0_0 ?_
  cases h
  exact r_iret C hr dX11_thrown_4
set_option maxHeartbeats 400000 in
set_option maxRecDepth 100000 in
theorem c_X11_thrown (l : Launch) (u : Nat) (h : k_H) (hsh : h.1 = shM) {c0_0 : Int32} (ec0_0 : h.2.1 0 0 = c0_0) {out : Int32} (hf : f_X11_thrown u c0_0 = some out) : k_CT l yX11_thrown cX11_thrown 1 (some .int) 0 0 [.ref 0] h (some (.int out)) [] := by
  obtain ⟨sh, I, L, Rf⟩ := h
  try dsimp only
  obtain rfl : sh = shM := hsh
  refine k_ofW (by decide) (Nat.le_of_ble_eq_true rfl) ?_
  intro X ad hl hR0 hr C
  have hR : X.R.frames = 0 ∧ X.R.locals = 0 := by rw [hR0]; exact ⟨rfl, rfl⟩
  have h := hf
  unfold f_X11_thrown at h
  refine k_start (us := []) k_ap_0 ?_
  show k_W X 1 0 0 _ ad (k_ap [] (shM, I, L, Rf)) 0 [some (.ref 0)] []
  refine k_mask [true] ?_
  exact sX11_thrown_0 u C hr hR ec0_0 h
/-! LullabyPitModel.may(ZII)Z -/
theorem ds_X11_may : k_ds [(0, 0, 0), (1, 2, 0)] = true := by decide +kernel
set_option maxHeartbeats 400000 in
set_option maxRecDepth 100000 in
theorem sX11_may_26 (u : Nat) {X : k_X} {ad : Nat → Nat} (C : k_C X cX11_may RX11 4 ad) (hr : X.meth.sig.returnType = (some .boolean)) (hR : X.R.frames = 0 ∧ X.R.locals = 0) {I : Nat → Nat → Int32} {L : Nat → Nat → Int64} {Rf : Nat → Nat → Option Nat} {out : Int32 × Int32 × (Nat → Int32)} : ∀ (c0_0 : Int32) (a1 : (Nat → Int32)), bX11_may_26 u c0_0 a1 = some out → k_W X 4 0 0 (k_Q X ad (some (.int out.1)) (k_ap [(0, .inl (0, out.2.1)), (1, .inr (.inr (.inl out.2.2)))] (shM, I, L, Rf))) ad (k_ap [(0, .inl (0, c0_0)), (1, .inr (.inr (.inl a1)))] (shM, I, L, Rf)) 26 [some (.ref 0), none, none, none] [] := by
  intro c0_0 a1 h
  unfold bX11_may_26 at h
  refine r_aload_n C dX11_may_26 (rfl : 26 + 1 = 27) rfl ?_
  refine r_getI (v := c0_0) C dX11_may_27 (rfl : 27 + 3 = 30) fl_X11_3 rfl rfl rfl ?_
  refine r_if_ne (tgt := 37) C dX11_may_30 (by decide) (rfl : 30 + 3 = 33) (fun c30 => ?_) (fun c30 => ?_)
  · have h := k_f c30 h
    refine r_iconst (v := (0 : Int32)) C dX11_may_37 (rfl : 37 + 1 = 38) rfl ?_
    cases h
    exact r_zret C hr (Or.inl rfl) dX11_may_38
  · have h := k_t c30 h
    refine r_iconst (v := (1 : Int32)) C dX11_may_33 (rfl : 33 + 1 = 34) rfl ?_
    refine r_goto (tgt := 38) C dX11_may_34 (by decide) ?_
    cases h
    exact r_zret C hr (Or.inr rfl) dX11_may_38
set_option maxHeartbeats 400000 in
set_option maxRecDepth 100000 in
theorem sX11_may_0 (u : Nat) {X : k_X} {ad : Nat → Nat} (C : k_C X cX11_may RX11 4 ad) (hr : X.meth.sig.returnType = (some .boolean)) (hR : X.R.frames = 0 ∧ X.R.locals = 0) {I : Nat → Nat → Int32} {L : Nat → Nat → Int64} {Rf : Nat → Nat → Option Nat} {out : Int32 × Int32 × (Nat → Int32)} : ∀ (c0_0 : Int32) (a1 : (Nat → Int32)) (v1 : Int32) (v2 : Int32) (v3 : Int32), bX11_may_0 u c0_0 a1 v1 v2 v3 = some out → k_W X 4 0 0 (k_Q X ad (some (.int out.1)) (k_ap [(0, .inl (0, out.2.1)), (1, .inr (.inr (.inl out.2.2)))] (shM, I, L, Rf))) ad (k_ap [(0, .inl (0, c0_0)), (1, .inr (.inr (.inl a1)))] (shM, I, L, Rf)) 0 [some (.ref 0), some (.int v1), some (.int v2), some (.int v3)] [] := by
  intro c0_0 a1 v1 v2 v3 h
  unfold bX11_may_0 at h
  refine r_iload_n C dX11_may_0 (rfl : 0 + 1 = 1) rfl ?_
  refine r_if_ne (tgt := 26) C dX11_may_1 (by decide) (rfl : 1 + 3 = 4) (fun c1 => ?_) (fun c1 => ?_)
  · have h := k_f c1 h
    refine k_mask [true, false, false, false] ?_
    exact sX11_may_26 u C hr hR c0_0 a1 h
  · have h := k_t c1 h
    refine r_aload_n C dX11_may_4 (rfl : 4 + 1 = 5) rfl ?_
    refine r_getI (v := c0_0) C dX11_may_5 (rfl : 5 + 3 = 8) fl_X11_3 rfl rfl rfl ?_
    refine r_if_ne (tgt := 26) C dX11_may_8 (by decide) (rfl : 8 + 3 = 11) (fun c8 => ?_) (fun c8 => ?_)
    · have h := k_f c8 h
      refine k_mask [true, false, false, false] ?_
      exact sX11_may_26 u C hr hR c0_0 a1 h
    · have h := k_t c8 h
      refine r_aload_n C dX11_may_11 (rfl : 11 + 1 = 12) rfl ?_
      refine r_iload_n C dX11_may_12 (rfl : 12 + 1 = 13) rfl ?_
      refine p_I (us' := [(0, .inl (0, v2)), (1, .inr (.inr (.inl a1)))]) C dX11_may_13 (rfl : 13 + 3 = 16) fp_X11_3 rfl rfl ds_X11_may rfl rfl rfl ?_
      refine r_aload_n C dX11_may_16 (rfl : 16 + 1 = 17) rfl ?_
      refine r_getR (q := 1) C dX11_may_17 (rfl : 17 + 3 = 20) fl_X11_7 rfl rfl ?_
      refine r_iload_n C dX11_may_20 (rfl : 20 + 1 = 21) rfl ?_
      refine r_dup2 C dX11_may_21 (rfl : 21 + 1 = 22) rfl rfl ?_
      obtain ⟨hi22, h⟩ := k_i_of h
      refine a_i (j := (v3).toNatClampNeg) (f := a1) C dX11_may_22 (rfl : 22 + 1 = 23) rfl rfl hi22 rfl ?_
      refine r_iconst (v := (1 : Int32)) C dX11_may_23 (rfl : 23 + 1 = 24) rfl ?_
      refine r_iadd C dX11_may_24 (rfl : 24 + 1 = 25) ?_
      obtain ⟨hi25, h⟩ := k_i_of h
      refine s_i (j := (v3).toNatClampNeg) (f := a1) (us' := [(0, .inl (0, v2)), (1, .inr (.inr (.inl (upd a1 ((v3).toNatClampNeg) ((a1 ((v3).toNatClampNeg)) + (1 : Int32))))))]) C dX11_may_25 (rfl : 25 + 1 = 26) rfl rfl hi25 rfl ds_X11_may rfl rfl rfl ?_
      refine k_mask [true, false, false, false] ?_
      exact sX11_may_26 u C hr hR v2 (upd a1 ((v3).toNatClampNeg) ((a1 ((v3).toNatClampNeg)) + (1 : Int32))) h
set_option maxHeartbeats 400000 in
set_option maxRecDepth 100000 in
theorem c_X11_may (l : Launch) (u : Nat) (h : k_H) (hsh : h.1 = shM) {c0_0 : Int32} (ec0_0 : h.2.1 0 0 = c0_0) {a1 : (Nat → Int32)} (ea1 : h.2.1 1 = a1) {x0 : Int32} {x1 : Int32} {x2 : Int32} {out : Int32 × Int32 × (Nat → Int32)} (hf : f_X11_may u c0_0 a1 x0 x1 x2 = some out) : k_CT l yX11_may cX11_may 4 (some .boolean) 0 0 [.ref 0, .int x0, .int x1, .int x2] h (some (.int out.1)) [(0, .inl (0, out.2.1)), (1, .inr (.inr (.inl out.2.2)))] := by
  obtain ⟨sh, I, L, Rf⟩ := h
  try dsimp only
  obtain rfl : sh = shM := hsh
  refine k_ofW (by decide) (Nat.le_of_ble_eq_true rfl) ?_
  intro X ad hl hR0 hr C
  have hR : X.R.frames = 0 ∧ X.R.locals = 0 := by rw [hR0]; exact ⟨rfl, rfl⟩
  have h := hf
  unfold f_X11_may at h
  refine k_start (us := [(0, .inl (0, c0_0)), (1, .inr (.inr (.inl a1)))]) (k_ao_I ec0_0 (k_ao_A ea1 k_ap_0)) ?_
  show k_W X 4 0 0 _ ad (k_ap [(0, .inl (0, c0_0)), (1, .inr (.inr (.inl a1)))] (shM, I, L, Rf)) 0 [some (.ref 0), some (.int x0), some (.int x1), some (.int x2)] []
  refine k_mask [true, true, true, true] ?_
  exact sX11_may_0 u C hr hR c0_0 a1 x0 x1 x2 h
/-! LullabyPitModel.within(III)Z -/
theorem ds_X11_within : k_ds [] = true := by decide +kernel
set_option maxHeartbeats 400000 in
set_option maxRecDepth 100000 in
theorem sX11_within_0 (u : Nat) {X : k_X} {ad : Nat → Nat} (C : k_C X cX11_within RX11 3 ad) (hr : X.meth.sig.returnType = (some .boolean)) (hR : X.R.frames = 0 ∧ X.R.locals = 0) {I : Nat → Nat → Int32} {L : Nat → Nat → Int64} {Rf : Nat → Nat → Option Nat} {out : Int32} : ∀ (v0 : Int32) (v1 : Int32) (v2 : Int32), bX11_within_0 u v0 v1 v2 = some out → k_W X 3 0 0 (k_Q X ad (some (.int out)) (k_ap [] (shM, I, L, Rf))) ad (k_ap [] (shM, I, L, Rf)) 0 [some (.int v0), some (.int v1), some (.int v2)] [] := by
  intro v0 v1 v2 h
  unfold bX11_within_0 at h
  refine r_iload_n C dX11_within_0 (rfl : 0 + 1 = 1) rfl ?_
  refine r_iload_n C dX11_within_1 (rfl : 1 + 1 = 2) rfl ?_
  refine r_icmp_lt (tgt := 14) C dX11_within_2 (by decide) (rfl : 2 + 3 = 5) (fun c2 => ?_) (fun c2 => ?_)
  · have h := k_t c2 h
    refine r_iconst (v := (0 : Int32)) C dX11_within_14 (rfl : 14 + 1 = 15) rfl ?_
    cases h
    exact r_zret C hr (Or.inl rfl) dX11_within_15
  · have h := k_f c2 h
    refine r_iload_n C dX11_within_5 (rfl : 5 + 1 = 6) rfl ?_
    refine r_iload_n C dX11_within_6 (rfl : 6 + 1 = 7) rfl ?_
    refine r_icmp_gt (tgt := 14) C dX11_within_7 (by decide) (rfl : 7 + 3 = 10) (fun c7 => ?_) (fun c7 => ?_)
    · have h := k_t c7 h
      refine r_iconst (v := (0 : Int32)) C dX11_within_14 (rfl : 14 + 1 = 15) rfl ?_
      cases h
      exact r_zret C hr (Or.inl rfl) dX11_within_15
    · have h := k_f c7 h
      refine r_iconst (v := (1 : Int32)) C dX11_within_10 (rfl : 10 + 1 = 11) rfl ?_
      refine r_goto (tgt := 15) C dX11_within_11 (by decide) ?_
      cases h
      exact r_zret C hr (Or.inr rfl) dX11_within_15
set_option maxHeartbeats 400000 in
set_option maxRecDepth 100000 in
theorem c_X11_within (l : Launch) (u : Nat) (h : k_H) (hsh : h.1 = shM) {x0 : Int32} {x1 : Int32} {x2 : Int32} {out : Int32} (hf : f_X11_within u x0 x1 x2 = some out) : k_CT l yX11_within cX11_within 3 (some .boolean) 0 0 [.int x0, .int x1, .int x2] h (some (.int out)) [] := by
  obtain ⟨sh, I, L, Rf⟩ := h
  try dsimp only
  obtain rfl : sh = shM := hsh
  refine k_ofW (by decide) (Nat.le_of_ble_eq_true rfl) ?_
  intro X ad hl hR0 hr C
  have hR : X.R.frames = 0 ∧ X.R.locals = 0 := by rw [hR0]; exact ⟨rfl, rfl⟩
  have h := hf
  unfold f_X11_within at h
  refine k_start (us := []) k_ap_0 ?_
  show k_W X 3 0 0 _ ad (k_ap [] (shM, I, L, Rf)) 0 [some (.int x0), some (.int x1), some (.int x2)] []
  refine k_mask [true, true, true] ?_
  exact sX11_within_0 u C hr hR x0 x1 x2 h
/-! LullabyPitModel.feed(IIIII)I -/
theorem ds_X11_feed : k_ds [(0, 0, 0), (0, 0, 2), (2, 2, 0)] = true := by decide +kernel
set_option maxHeartbeats 400000 in
set_option maxRecDepth 100000 in
theorem sX11_feed_76 (u : Nat) {X : k_X} {ad : Nat → Nat} (C : k_C X cX11_feed RX11 8 ad) (hr : X.meth.sig.returnType = (some .int)) (hR : X.R.frames = 0 ∧ X.R.locals = 0) {I : Nat → Nat → Int32} {L : Nat → Nat → Int64} {Rf : Nat → Nat → Option Nat} {out : Int32 × Int32 × Int32 × (Nat → Int32)} {k23 : Int32 → Int32 → (Nat → Int32) → Int32 → Int32 → Int32 → Int32 → Int32 → Int32 → Option (Int32 × Int32 × Int32 × (Nat → Int32))} (hk23 : ∀ (c0_0 : Int32) (c0_2 : Int32) (a2 : (Nat → Int32)) (v1 : Int32) (v2 : Int32) (v3 : Int32) (v4 : Int32) (v5 : Int32) (v6 : Int32), k23 c0_0 c0_2 a2 v1 v2 v3 v4 v5 v6 = some out → k_W X 8 0 0 (k_Q X ad (some (.int out.1)) (k_ap [(0, .inl (0, out.2.1)), (0, .inl (2, out.2.2.1)), (2, .inr (.inr (.inl out.2.2.2)))] (shM, I, L, Rf))) ad (k_ap [(0, .inl (0, c0_0)), (0, .inl (2, c0_2)), (2, .inr (.inr (.inl a2)))] (shM, I, L, Rf)) 23 [some (.ref 0), some (.int v1), some (.int v2), some (.int v3), some (.int v4), some (.int v5), some (.int v6), none] []) : ∀ (c0_0 : Int32) (c0_2 : Int32) (a2 : (Nat → Int32)) (v1 : Int32) (v2 : Int32) (v3 : Int32) (v4 : Int32) (v5 : Int32) (v6 : Int32) (w0 : Int32), bX11_feed_76 u k23 c0_0 c0_2 a2 v1 v2 v3 v4 v5 v6 w0 = some out → k_W X 8 0 0 (k_Q X ad (some (.int out.1)) (k_ap [(0, .inl (0, out.2.1)), (0, .inl (2, out.2.2.1)), (2, .inr (.inr (.inl out.2.2.2)))] (shM, I, L, Rf))) ad (k_ap [(0, .inl (0, c0_0)), (0, .inl (2, c0_2)), (2, .inr (.inr (.inl a2)))] (shM, I, L, Rf)) 76 [some (.ref 0), some (.int v1), some (.int v2), some (.int v3), some (.int v4), some (.int v5), some (.int v6), none] [.int w0] := by
  intro c0_0 c0_2 a2 v1 v2 v3 v4 v5 v6 w0 h
  unfold bX11_feed_76 at h
  refine r_istore C dX11_feed_76 (rfl : 76 + 2 = 78) (by decide) (Nat.le_of_ble_eq_true rfl) ?_
  show k_W _ _ _ _ _ _ _ _ [some (.ref 0), some (.int v1), some (.int v2), some (.int v3), some (.int v4), some (.int v5), some (.int v6), some (.int w0)] _
  refine r_aload_n C dX11_feed_78 (rfl : 78 + 1 = 79) rfl ?_
  refine r_getR (q := 2) C dX11_feed_79 (rfl : 79 + 3 = 82) fl_X11_20 rfl rfl ?_
  refine r_aload_n C dX11_feed_82 (rfl : 82 + 1 = 83) rfl ?_
  refine r_getI (v := c0_2) C dX11_feed_83 (rfl : 83 + 3 = 86) fl_X11_118 rfl rfl rfl ?_
  refine r_iload C dX11_feed_86 (rfl : 86 + 2 = 88) rfl ?_
  refine r_bipush (v := (24 : Int32)) C dX11_feed_88 (rfl : 88 + 2 = 90) rfl ?_
  refine r_bipush (v := (8 : Int32)) C dX11_feed_90 (rfl : 90 + 2 = 92) rfl ?_
  refine r_iload C dX11_feed_92 (rfl : 92 + 2 = 94) rfl ?_
  refine r_iconst (v := (4 : Int32)) C dX11_feed_94 (rfl : 94 + 1 = 95) rfl ?_
  refine r_irem C dX11_feed_95 (rfl : 95 + 1 = 96) (by decide) ?_
  refine r_imul C dX11_feed_96 (rfl : 96 + 1 = 97) ?_
  refine r_isub C dX11_feed_97 (rfl : 97 + 1 = 98) ?_
  refine r_ishr C dX11_feed_98 (rfl : 98 + 1 = 99) ?_
  refine r_sipush (v := (255 : Int32)) C dX11_feed_99 (rfl : 99 + 3 = 102) rfl ?_
  refine r_iand C dX11_feed_102 (rfl : 102 + 1 = 103) ?_
  obtain ⟨hi103, h⟩ := k_i_of h
  refine s_i (j := (c0_2).toNatClampNeg) (f := a2) (us' := [(0, .inl (0, c0_0)), (0, .inl (2, c0_2)), (2, .inr (.inr (.inl (upd a2 ((c0_2).toNatClampNeg) ((w0 >>> (((24 : Int32) - ((8 : Int32) * (v6 - v6 / (4 : Int32) * (4 : Int32)))) &&& 31)) &&& (255 : Int32))))))]) C dX11_feed_103 (rfl : 103 + 1 = 104) rfl rfl hi103 rfl ds_X11_feed rfl rfl rfl ?_
  refine r_aload_n C dX11_feed_104 (rfl : 104 + 1 = 105) rfl ?_
  refine r_dup C dX11_feed_105 (rfl : 105 + 1 = 106) rfl ?_
  refine r_getI (v := c0_2) C dX11_feed_106 (rfl : 106 + 3 = 109) fl_X11_118 rfl rfl rfl ?_
  refine r_iconst (v := (1 : Int32)) C dX11_feed_109 (rfl : 109 + 1 = 110) rfl ?_
  refine r_iadd C dX11_feed_110 (rfl : 110 + 1 = 111) ?_
  refine p_I (us' := [(0, .inl (0, c0_0)), (0, .inl (2, (c0_2 + (1 : Int32)))), (2, .inr (.inr (.inl (upd a2 ((c0_2).toNatClampNeg) ((w0 >>> (((24 : Int32) - ((8 : Int32) * (v6 - v6 / (4 : Int32) * (4 : Int32)))) &&& 31)) &&& (255 : Int32))))))]) C dX11_feed_111 (rfl : 111 + 3 = 114) fp_X11_118 rfl rfl ds_X11_feed rfl rfl rfl ?_
  refine r_iinc (v := (v6 + (1 : Int32))) C dX11_feed_114 (rfl : 114 + 3 = 117) rfl rfl (by decide) ?_
  show k_W _ _ _ _ _ _ _ _ [some (.ref 0), some (.int v1), some (.int v2), some (.int v3), some (.int v4), some (.int v5), some (.int (v6 + (1 : Int32))), some (.int w0)] _
  refine r_goto (tgt := 23) C dX11_feed_117 (by decide) ?_
  refine k_mask [true, true, true, true, true, true, true, false] ?_
  exact hk23 c0_0 (c0_2 + (1 : Int32)) (upd a2 ((c0_2).toNatClampNeg) ((w0 >>> (((24 : Int32) - ((8 : Int32) * (v6 - v6 / (4 : Int32) * (4 : Int32)))) &&& 31)) &&& (255 : Int32))) v1 v2 v3 v4 v5 (v6 + (1 : Int32)) h
set_option maxHeartbeats 400000 in
set_option maxRecDepth 100000 in
theorem sX11_feed_23 (u : Nat) {X : k_X} {ad : Nat → Nat} (C : k_C X cX11_feed RX11 8 ad) (hr : X.meth.sig.returnType = (some .int)) (hR : X.R.frames = 0 ∧ X.R.locals = 0) {I : Nat → Nat → Int32} {L : Nat → Nat → Int64} {Rf : Nat → Nat → Option Nat} {out : Int32 × Int32 × Int32 × (Nat → Int32)} : ∀ (n : Nat) (c0_0 : Int32) (c0_2 : Int32) (a2 : (Nat → Int32)) (v1 : Int32) (v2 : Int32) (v3 : Int32) (v4 : Int32) (v5 : Int32) (v6 : Int32), bX11_feed_23 u n c0_0 c0_2 a2 v1 v2 v3 v4 v5 v6 = some out → k_W X 8 0 0 (k_Q X ad (some (.int out.1)) (k_ap [(0, .inl (0, out.2.1)), (0, .inl (2, out.2.2.1)), (2, .inr (.inr (.inl out.2.2.2)))] (shM, I, L, Rf))) ad (k_ap [(0, .inl (0, c0_0)), (0, .inl (2, c0_2)), (2, .inr (.inr (.inl a2)))] (shM, I, L, Rf)) 23 [some (.ref 0), some (.int v1), some (.int v2), some (.int v3), some (.int v4), some (.int v5), some (.int v6), none] [] := by
  intro n
  induction n with
  | zero => intro c0_0 c0_2 a2 v1 v2 v3 v4 v5 v6 h; cases h
  | succ n ih =>
    intro c0_0 c0_2 a2 v1 v2 v3 v4 v5 v6 h
    refine r_iload C dX11_feed_23 (rfl : 23 + 2 = 25) rfl ?_
    refine r_bipush (v := (20 : Int32)) C dX11_feed_25 (rfl : 25 + 2 = 27) rfl ?_
    refine r_icmp_ge (tgt := 120) C dX11_feed_27 (by decide) (rfl : 27 + 3 = 30) (fun c27 => ?_) (fun c27 => ?_)
    · have h := k_t c27 h
      refine r_aload_n C dX11_feed_120 (rfl : 120 + 1 = 121) rfl ?_
      refine r_getI (v := c0_2) C dX11_feed_121 (rfl : 121 + 3 = 124) fl_X11_118 rfl rfl rfl ?_
      cases h
      exact r_iret C hr dX11_feed_124
    · have h := k_f c27 h
      refine r_iload C dX11_feed_30 (rfl : 30 + 2 = 32) rfl ?_
      refine r_iconst (v := (4 : Int32)) C dX11_feed_32 (rfl : 32 + 1 = 33) rfl ?_
      refine r_icmp_ge (tgt := 40) C dX11_feed_33 (by decide) (rfl : 33 + 3 = 36) (fun c33 => ?_) (fun c33 => ?_)
      · have h := k_t c33 h
        refine r_iload C dX11_feed_40 (rfl : 40 + 2 = 42) rfl ?_
        refine r_bipush (v := (8 : Int32)) C dX11_feed_42 (rfl : 42 + 2 = 44) rfl ?_
        refine r_icmp_ge (tgt := 51) C dX11_feed_44 (by decide) (rfl : 44 + 3 = 47) (fun c44 => ?_) (fun c44 => ?_)
        · have h := k_t c44 h
          refine r_iload C dX11_feed_51 (rfl : 51 + 2 = 53) rfl ?_
          refine r_bipush (v := (12 : Int32)) C dX11_feed_53 (rfl : 53 + 2 = 55) rfl ?_
          refine r_icmp_ge (tgt := 62) C dX11_feed_55 (by decide) (rfl : 55 + 3 = 58) (fun c55 => ?_) (fun c55 => ?_)
          · have h := k_t c55 h
            refine r_iload C dX11_feed_62 (rfl : 62 + 2 = 64) rfl ?_
            refine r_bipush (v := (16 : Int32)) C dX11_feed_64 (rfl : 64 + 2 = 66) rfl ?_
            refine r_icmp_ge (tgt := 74) C dX11_feed_66 (by decide) (rfl : 66 + 3 = 69) (fun c66 => ?_) (fun c66 => ?_)
            · have h := k_t c66 h
              refine r_iload C dX11_feed_74 (rfl : 74 + 2 = 76) rfl ?_
              refine k_mask [true, true, true, true, true, true, true, false] ?_
              exact sX11_feed_76 u C hr hR ih c0_0 c0_2 a2 v1 v2 v3 v4 v5 v6 v5 h
            · have h := k_f c66 h
              refine r_iload C dX11_feed_69 (rfl : 69 + 2 = 71) rfl ?_
              refine r_goto (tgt := 76) C dX11_feed_71 (by decide) ?_
              refine k_mask [true, true, true, true, true, true, true, false] ?_
              exact sX11_feed_76 u C hr hR ih c0_0 c0_2 a2 v1 v2 v3 v4 v5 v6 v4 h
          · have h := k_f c55 h
            refine r_iload_n C dX11_feed_58 (rfl : 58 + 1 = 59) rfl ?_
            refine r_goto (tgt := 76) C dX11_feed_59 (by decide) ?_
            refine k_mask [true, true, true, true, true, true, true, false] ?_
            exact sX11_feed_76 u C hr hR ih c0_0 c0_2 a2 v1 v2 v3 v4 v5 v6 v3 h
        · have h := k_f c44 h
          refine r_iload_n C dX11_feed_47 (rfl : 47 + 1 = 48) rfl ?_
          refine r_goto (tgt := 76) C dX11_feed_48 (by decide) ?_
          refine k_mask [true, true, true, true, true, true, true, false] ?_
          exact sX11_feed_76 u C hr hR ih c0_0 c0_2 a2 v1 v2 v3 v4 v5 v6 v2 h
      · have h := k_f c33 h
        refine r_iload_n C dX11_feed_36 (rfl : 36 + 1 = 37) rfl ?_
        refine r_goto (tgt := 76) C dX11_feed_37 (by decide) ?_
        refine k_mask [true, true, true, true, true, true, true, false] ?_
        exact sX11_feed_76 u C hr hR ih c0_0 c0_2 a2 v1 v2 v3 v4 v5 v6 v1 h
set_option maxHeartbeats 400000 in
set_option maxRecDepth 100000 in
theorem sX11_feed_0 (u : Nat) {X : k_X} {ad : Nat → Nat} (C : k_C X cX11_feed RX11 8 ad) (hr : X.meth.sig.returnType = (some .int)) (hR : X.R.frames = 0 ∧ X.R.locals = 0) {I : Nat → Nat → Int32} {L : Nat → Nat → Int64} {Rf : Nat → Nat → Option Nat} {out : Int32 × Int32 × Int32 × (Nat → Int32)} : ∀ (c0_0 : Int32) (c0_2 : Int32) (a2 : (Nat → Int32)) (v1 : Int32) (v2 : Int32) (v3 : Int32) (v4 : Int32) (v5 : Int32), bX11_feed_0 u c0_0 c0_2 a2 v1 v2 v3 v4 v5 = some out → k_W X 8 0 0 (k_Q X ad (some (.int out.1)) (k_ap [(0, .inl (0, out.2.1)), (0, .inl (2, out.2.2.1)), (2, .inr (.inr (.inl out.2.2.2)))] (shM, I, L, Rf))) ad (k_ap [(0, .inl (0, c0_0)), (0, .inl (2, c0_2)), (2, .inr (.inr (.inl a2)))] (shM, I, L, Rf)) 0 [some (.ref 0), some (.int v1), some (.int v2), some (.int v3), some (.int v4), some (.int v5), none, none] [] := by
  intro c0_0 c0_2 a2 v1 v2 v3 v4 v5 h
  unfold bX11_feed_0 at h
  refine r_aload_n C dX11_feed_0 (rfl : 0 + 1 = 1) rfl ?_
  refine r_iconst (v := (0 : Int32)) C dX11_feed_1 (rfl : 1 + 1 = 2) rfl ?_
  refine p_I (us' := [(0, .inl (0, (0 : Int32))), (0, .inl (2, c0_2)), (2, .inr (.inr (.inl a2)))]) C dX11_feed_2 (rfl : 2 + 3 = 5) fp_X11_3 rfl rfl ds_X11_feed rfl rfl rfl ?_
  refine r_aload_n C dX11_feed_5 (rfl : 5 + 1 = 6) rfl ?_
  refine r_getI (v := c0_2) C dX11_feed_6 (rfl : 6 + 3 = 9) fl_X11_118 rfl rfl rfl ?_
  refine r_bipush (v := (20 : Int32)) C dX11_feed_9 (rfl : 9 + 2 = 11) rfl ?_
  refine r_iadd C dX11_feed_11 (rfl : 11 + 1 = 12) ?_
  refine r_sipush (v := (600 : Int32)) C dX11_feed_12 (rfl : 12 + 3 = 15) rfl ?_
  refine r_icmp_le (tgt := 20) C dX11_feed_15 (by decide) (rfl : 15 + 3 = 18) (fun c15 => ?_) (fun c15 => ?_)
  · have h := k_t c15 h
    refine r_iconst (v := (0 : Int32)) C dX11_feed_20 (rfl : 20 + 1 = 21) rfl ?_
    refine r_istore C dX11_feed_21 (rfl : 21 + 2 = 23) (by decide) (Nat.le_of_ble_eq_true rfl) ?_
    show k_W _ _ _ _ _ _ _ _ [some (.ref 0), some (.int v1), some (.int v2), some (.int v3), some (.int v4), some (.int v5), some (.int (0 : Int32)), none] _
    refine k_mask [true, true, true, true, true, true, true, false] ?_
    exact sX11_feed_23 u C hr hR u (0 : Int32) c0_2 a2 v1 v2 v3 v4 v5 (0 : Int32) h
  · have h := k_f c15 h
    refine r_iconst (v := (-1 : Int32)) C dX11_feed_18 (rfl : 18 + 1 = 19) rfl ?_
    cases h
    exact r_iret C hr dX11_feed_19
set_option maxHeartbeats 400000 in
set_option maxRecDepth 100000 in
theorem c_X11_feed (l : Launch) (u : Nat) (h : k_H) (hsh : h.1 = shM) {c0_0 : Int32} (ec0_0 : h.2.1 0 0 = c0_0) {c0_2 : Int32} (ec0_2 : h.2.1 0 2 = c0_2) {a2 : (Nat → Int32)} (ea2 : h.2.1 2 = a2) {x0 : Int32} {x1 : Int32} {x2 : Int32} {x3 : Int32} {x4 : Int32} {out : Int32 × Int32 × Int32 × (Nat → Int32)} (hf : f_X11_feed u c0_0 c0_2 a2 x0 x1 x2 x3 x4 = some out) : k_CT l yX11_feed cX11_feed 8 (some .int) 0 0 [.ref 0, .int x0, .int x1, .int x2, .int x3, .int x4] h (some (.int out.1)) [(0, .inl (0, out.2.1)), (0, .inl (2, out.2.2.1)), (2, .inr (.inr (.inl out.2.2.2)))] := by
  obtain ⟨sh, I, L, Rf⟩ := h
  try dsimp only
  obtain rfl : sh = shM := hsh
  refine k_ofW (by decide) (Nat.le_of_ble_eq_true rfl) ?_
  intro X ad hl hR0 hr C
  have hR : X.R.frames = 0 ∧ X.R.locals = 0 := by rw [hR0]; exact ⟨rfl, rfl⟩
  have h := hf
  unfold f_X11_feed at h
  refine k_start (us := [(0, .inl (0, c0_0)), (0, .inl (2, c0_2)), (2, .inr (.inr (.inl a2)))]) (k_ao_I ec0_0 (k_ao_I ec0_2 (k_ao_A ea2 k_ap_0))) ?_
  show k_W X 8 0 0 _ ad (k_ap [(0, .inl (0, c0_0)), (0, .inl (2, c0_2)), (2, .inr (.inr (.inl a2)))] (shM, I, L, Rf)) 0 [some (.ref 0), some (.int x0), some (.int x1), some (.int x2), some (.int x3), some (.int x4), none, none] []
  refine k_mask [true, true, true, true, true, true, false, false] ?_
  exact sX11_feed_0 u C hr hR c0_0 c0_2 a2 x0 x1 x2 x3 x4 h
/-! LullabyPitModel.fine()Z -/
theorem ds_X11_fine : k_ds [] = true := by decide +kernel
set_option maxHeartbeats 400000 in
set_option maxRecDepth 100000 in
theorem sX11_fine_0 (u : Nat) {X : k_X} {ad : Nat → Nat} (C : k_C X cX11_fine RX11 1 ad) (hr : X.meth.sig.returnType = (some .boolean)) (hR : X.R.frames = 0 ∧ X.R.locals = 0) {I : Nat → Nat → Int32} {L : Nat → Nat → Int64} {Rf : Nat → Nat → Option Nat} {c0_5 : Int32} (ec0_5 : I 0 5 = c0_5) {out : Int32} : bX11_fine_0 u c0_5 = some out → k_W X 1 0 0 (k_Q X ad (some (.int out)) (k_ap [] (shM, I, L, Rf))) ad (k_ap [] (shM, I, L, Rf)) 0 [some (.ref 0)] [] := by
  intro h
  unfold bX11_fine_0 at h
  refine r_aload_n C dX11_fine_0 (rfl : 0 + 1 = 1) rfl ?_
  refine r_getI (v := c0_5) C dX11_fine_1 (rfl : 1 + 3 = 4) fl_X11_121 rfl rfl ec0_5 ?_
  refine r_iconst (v := (-1 : Int32)) C dX11_fine_4 (rfl : 4 + 1 = 5) rfl ?_
  refine r_icmp_ne (tgt := 12) C dX11_fine_5 (by decide) (rfl : 5 + 3 = 8) (fun c5 => ?_) (fun c5 => ?_)
  · have h := k_f c5 h
    refine r_iconst (v := (0 : Int32)) C dX11_fine_12 (rfl : 12 + 1 = 13) rfl ?_
    cases h
    exact r_zret C hr (Or.inl rfl) dX11_fine_13
  · have h := k_t c5 h
    refine r_iconst (v := (1 : Int32)) C dX11_fine_8 (rfl : 8 + 1 = 9) rfl ?_
    refine r_goto (tgt := 13) C dX11_fine_9 (by decide) ?_
    cases h
    exact r_zret C hr (Or.inr rfl) dX11_fine_13
set_option maxHeartbeats 400000 in
set_option maxRecDepth 100000 in
theorem c_X11_fine (l : Launch) (u : Nat) (h : k_H) (hsh : h.1 = shM) {c0_5 : Int32} (ec0_5 : h.2.1 0 5 = c0_5) {out : Int32} (hf : f_X11_fine u c0_5 = some out) : k_CT l yX11_fine cX11_fine 1 (some .boolean) 0 0 [.ref 0] h (some (.int out)) [] := by
  obtain ⟨sh, I, L, Rf⟩ := h
  try dsimp only
  obtain rfl : sh = shM := hsh
  refine k_ofW (by decide) (Nat.le_of_ble_eq_true rfl) ?_
  intro X ad hl hR0 hr C
  have hR : X.R.frames = 0 ∧ X.R.locals = 0 := by rw [hR0]; exact ⟨rfl, rfl⟩
  have h := hf
  unfold f_X11_fine at h
  refine k_start (us := []) k_ap_0 ?_
  show k_W X 1 0 0 _ ad (k_ap [] (shM, I, L, Rf)) 0 [some (.ref 0)] []
  refine k_mask [true] ?_
  exact sX11_fine_0 u C hr hR ec0_5 h
/-! LullabyPitModel.wrong(II)V -/
theorem ds_X11_wrong : k_ds [(0, 0, 5), (0, 0, 6)] = true := by decide +kernel
set_option maxHeartbeats 400000 in
set_option maxRecDepth 100000 in
theorem sX11_wrong_0 (u : Nat) {X : k_X} {ad : Nat → Nat} (C : k_C X cX11_wrong RX11 3 ad) (hr : X.meth.sig.returnType = none) (hR : X.R.frames = 0 ∧ X.R.locals = 0) {I : Nat → Nat → Int32} {L : Nat → Nat → Int64} {Rf : Nat → Nat → Option Nat} {out : Int32 × Int32} : ∀ (c0_5 : Int32) (c0_6 : Int32) (v1 : Int32) (v2 : Int32), bX11_wrong_0 u c0_5 c0_6 v1 v2 = some out → k_W X 3 0 0 (k_Q X ad none (k_ap [(0, .inl (5, out.1)), (0, .inl (6, out.2))] (shM, I, L, Rf))) ad (k_ap [(0, .inl (5, c0_5)), (0, .inl (6, c0_6))] (shM, I, L, Rf)) 0 [some (.ref 0), some (.int v1), some (.int v2)] [] := by
  intro c0_5 c0_6 v1 v2 h
  unfold bX11_wrong_0 at h
  refine r_aload_n C dX11_wrong_0 (rfl : 0 + 1 = 1) rfl ?_
  refine r_getI (v := c0_5) C dX11_wrong_1 (rfl : 1 + 3 = 4) fl_X11_121 rfl rfl rfl ?_
  refine r_iconst (v := (-1 : Int32)) C dX11_wrong_4 (rfl : 4 + 1 = 5) rfl ?_
  refine r_icmp_eq (tgt := 9) C dX11_wrong_5 (by decide) (rfl : 5 + 3 = 8) (fun c5 => ?_) (fun c5 => ?_)
  · have h := k_t c5 h
    refine r_aload_n C dX11_wrong_9 (rfl : 9 + 1 = 10) rfl ?_
    refine r_iload_n C dX11_wrong_10 (rfl : 10 + 1 = 11) rfl ?_
    refine p_I (us' := [(0, .inl (5, v2)), (0, .inl (6, c0_6))]) C dX11_wrong_11 (rfl : 11 + 3 = 14) fp_X11_121 rfl rfl ds_X11_wrong rfl rfl rfl ?_
    refine r_aload_n C dX11_wrong_14 (rfl : 14 + 1 = 15) rfl ?_
    refine r_iload_n C dX11_wrong_15 (rfl : 15 + 1 = 16) rfl ?_
    refine p_I (us' := [(0, .inl (5, v2)), (0, .inl (6, v1))]) C dX11_wrong_16 (rfl : 16 + 3 = 19) fp_X11_124 rfl rfl ds_X11_wrong rfl rfl rfl ?_
    cases h
    exact r_vret C hr dX11_wrong_19
  · have h := k_f c5 h
    cases h
    exact r_vret C hr dX11_wrong_8
set_option maxHeartbeats 400000 in
set_option maxRecDepth 100000 in
theorem c_X11_wrong (l : Launch) (u : Nat) (h : k_H) (hsh : h.1 = shM) {c0_5 : Int32} (ec0_5 : h.2.1 0 5 = c0_5) {c0_6 : Int32} (ec0_6 : h.2.1 0 6 = c0_6) {x0 : Int32} {x1 : Int32} {out : Int32 × Int32} (hf : f_X11_wrong u c0_5 c0_6 x0 x1 = some out) : k_CT l yX11_wrong cX11_wrong 3 none 0 0 [.ref 0, .int x0, .int x1] h none [(0, .inl (5, out.1)), (0, .inl (6, out.2))] := by
  obtain ⟨sh, I, L, Rf⟩ := h
  try dsimp only
  obtain rfl : sh = shM := hsh
  refine k_ofW (by decide) (Nat.le_of_ble_eq_true rfl) ?_
  intro X ad hl hR0 hr C
  have hR : X.R.frames = 0 ∧ X.R.locals = 0 := by rw [hR0]; exact ⟨rfl, rfl⟩
  have h := hf
  unfold f_X11_wrong at h
  refine k_start (us := [(0, .inl (5, c0_5)), (0, .inl (6, c0_6))]) (k_ao_I ec0_5 (k_ao_I ec0_6 k_ap_0)) ?_
  show k_W X 3 0 0 _ ad (k_ap [(0, .inl (5, c0_5)), (0, .inl (6, c0_6))] (shM, I, L, Rf)) 0 [some (.ref 0), some (.int x0), some (.int x1)] []
  refine k_mask [true, true, true] ?_
  exact sX11_wrong_0 u C hr hR c0_5 c0_6 x0 x1 h
/-! LullabyPitModel.here()I -/
theorem ds_X11_here : k_ds [(0, 0, 4)] = true := by decide +kernel
set_option maxHeartbeats 400000 in
set_option maxRecDepth 100000 in
theorem sX11_here_38 (u : Nat) {X : k_X} {ad : Nat → Nat} (C : k_C X cX11_here RX11 1 ad) (hr : X.meth.sig.returnType = (some .int)) (hR : X.R.frames = 0 ∧ X.R.locals = 0) {I : Nat → Nat → Int32} {L : Nat → Nat → Int64} {Rf : Nat → Nat → Option Nat} {c0_3 : Int32} (ec0_3 : I 0 3 = c0_3) {a2 : (Nat → Int32)} (ea2 : I 2 = a2) {out : Int32 × Int32} : ∀ (c0_4 : Int32), bX11_here_38 u c0_3 a2 c0_4 = some out → k_W X 1 0 0 (k_Q X ad (some (.int out.1)) (k_ap [(0, .inl (4, out.2))] (shM, I, L, Rf))) ad (k_ap [(0, .inl (4, c0_4))] (shM, I, L, Rf)) 38 [some (.ref 0)] [] := by
  intro c0_4 h
  unfold bX11_here_38 at h
  refine r_aload_n C dX11_here_38 (rfl : 38 + 1 = 39) rfl ?_
  refine r_getI (v := c0_4) C dX11_here_39 (rfl : 39 + 3 = 42) fl_X11_127 rfl rfl rfl ?_
  refine r_aload_n C dX11_here_42 (rfl : 42 + 1 = 43) rfl ?_
  refine r_getI (v := c0_3) C dX11_here_43 (rfl : 43 + 3 = 46) fl_X11_130 rfl rfl ec0_3 ?_
  refine r_icmp_ge (tgt := 61) C dX11_here_46 (by decide) (rfl : 46 + 3 = 49) (fun c46 => ?_) (fun c46 => ?_)
  · have h := k_t c46 h
    refine r_iconst (v := (0 : Int32)) C dX11_here_61 (rfl : 61 + 1 = 62) rfl ?_
    cases h
    exact r_iret C hr dX11_here_62
  · have h := k_f c46 h
    refine r_aload_n C dX11_here_49 (rfl : 49 + 1 = 50) rfl ?_
    refine r_getR (q := 2) C dX11_here_50 (rfl : 50 + 3 = 53) fl_X11_20 rfl rfl ?_
    refine r_aload_n C dX11_here_53 (rfl : 53 + 1 = 54) rfl ?_
    refine r_getI (v := c0_4) C dX11_here_54 (rfl : 54 + 3 = 57) fl_X11_127 rfl rfl rfl ?_
    obtain ⟨hi57, h⟩ := k_i_of h
    refine a_i (j := (c0_4).toNatClampNeg) (f := a2) C dX11_here_57 (rfl : 57 + 1 = 58) rfl ea2 hi57 rfl ?_
    refine r_goto (tgt := 62) C dX11_here_58 (by decide) ?_
    cases h
    exact r_iret C hr dX11_here_62
set_option maxHeartbeats 400000 in
set_option maxRecDepth 100000 in
theorem sX11_here_0 (u : Nat) {X : k_X} {ad : Nat → Nat} (C : k_C X cX11_here RX11 1 ad) (hr : X.meth.sig.returnType = (some .int)) (hR : X.R.frames = 0 ∧ X.R.locals = 0) {I : Nat → Nat → Int32} {L : Nat → Nat → Int64} {Rf : Nat → Nat → Option Nat} {c0_3 : Int32} (ec0_3 : I 0 3 = c0_3) {a2 : (Nat → Int32)} (ea2 : I 2 = a2) {out : Int32 × Int32} : ∀ (n : Nat) (c0_4 : Int32), bX11_here_0 u c0_3 a2 n c0_4 = some out → k_W X 1 0 0 (k_Q X ad (some (.int out.1)) (k_ap [(0, .inl (4, out.2))] (shM, I, L, Rf))) ad (k_ap [(0, .inl (4, c0_4))] (shM, I, L, Rf)) 0 [some (.ref 0)] [] := by
  intro n
  induction n with
  | zero => intro c0_4 h; cases h
  | succ n ih =>
    intro c0_4 h
    refine r_aload_n C dX11_here_0 (rfl : 0 + 1 = 1) rfl ?_
    refine r_getI (v := c0_4) C dX11_here_1 (rfl : 1 + 3 = 4) fl_X11_127 rfl rfl rfl ?_
    refine r_aload_n C dX11_here_4 (rfl : 4 + 1 = 5) rfl ?_
    refine r_getI (v := c0_3) C dX11_here_5 (rfl : 5 + 3 = 8) fl_X11_130 rfl rfl ec0_3 ?_
    refine r_icmp_ge (tgt := 38) C dX11_here_8 (by decide) (rfl : 8 + 3 = 11) (fun c8 => ?_) (fun c8 => ?_)
    · have h := k_t c8 h
      refine k_mask [true] ?_
      exact sX11_here_38 u C hr hR ec0_3 ea2 c0_4 h
    · have h := k_f c8 h
      refine r_aload_n C dX11_here_11 (rfl : 11 + 1 = 12) rfl ?_
      refine r_getR (q := 2) C dX11_here_12 (rfl : 12 + 3 = 15) fl_X11_20 rfl rfl ?_
      refine r_aload_n C dX11_here_15 (rfl : 15 + 1 = 16) rfl ?_
      refine r_getI (v := c0_4) C dX11_here_16 (rfl : 16 + 3 = 19) fl_X11_127 rfl rfl rfl ?_
      obtain ⟨hi19, h⟩ := k_i_of h
      refine a_i (j := (c0_4).toNatClampNeg) (f := a2) C dX11_here_19 (rfl : 19 + 1 = 20) rfl ea2 hi19 rfl ?_
      refine r_bipush (v := (32 : Int32)) C dX11_here_20 (rfl : 20 + 2 = 22) rfl ?_
      refine r_icmp_ne (tgt := 38) C dX11_here_22 (by decide) (rfl : 22 + 3 = 25) (fun c22 => ?_) (fun c22 => ?_)
      · have h := k_f c22 h
        refine k_mask [true] ?_
        exact sX11_here_38 u C hr hR ec0_3 ea2 c0_4 h
      · have h := k_t c22 h
        refine r_aload_n C dX11_here_25 (rfl : 25 + 1 = 26) rfl ?_
        refine r_dup C dX11_here_26 (rfl : 26 + 1 = 27) rfl ?_
        refine r_getI (v := c0_4) C dX11_here_27 (rfl : 27 + 3 = 30) fl_X11_127 rfl rfl rfl ?_
        refine r_iconst (v := (1 : Int32)) C dX11_here_30 (rfl : 30 + 1 = 31) rfl ?_
        refine r_iadd C dX11_here_31 (rfl : 31 + 1 = 32) ?_
        refine p_I (us' := [(0, .inl (4, (c0_4 + (1 : Int32))))]) C dX11_here_32 (rfl : 32 + 3 = 35) fp_X11_127 rfl rfl ds_X11_here rfl rfl rfl ?_
        refine r_goto (tgt := 0) C dX11_here_35 (by decide) ?_
        refine k_mask [true] ?_
        exact ih (c0_4 + (1 : Int32)) h
set_option maxHeartbeats 400000 in
set_option maxRecDepth 100000 in
theorem c_X11_here (l : Launch) (u : Nat) (h : k_H) (hsh : h.1 = shM) {c0_3 : Int32} (ec0_3 : h.2.1 0 3 = c0_3) {c0_4 : Int32} (ec0_4 : h.2.1 0 4 = c0_4) {a2 : (Nat → Int32)} (ea2 : h.2.1 2 = a2) {out : Int32 × Int32} (hf : f_X11_here u c0_3 c0_4 a2 = some out) : k_CT l yX11_here cX11_here 1 (some .int) 0 0 [.ref 0] h (some (.int out.1)) [(0, .inl (4, out.2))] := by
  obtain ⟨sh, I, L, Rf⟩ := h
  try dsimp only
  obtain rfl : sh = shM := hsh
  refine k_ofW (by decide) (Nat.le_of_ble_eq_true rfl) ?_
  intro X ad hl hR0 hr C
  have hR : X.R.frames = 0 ∧ X.R.locals = 0 := by rw [hR0]; exact ⟨rfl, rfl⟩
  have h := hf
  unfold f_X11_here at h
  refine k_start (us := [(0, .inl (4, c0_4))]) (k_ao_I ec0_4 k_ap_0) ?_
  show k_W X 1 0 0 _ ad (k_ap [(0, .inl (4, c0_4))] (shM, I, L, Rf)) 0 [some (.ref 0)] []
  refine k_mask [true] ?_
  exact sX11_here_0 u C hr hR ec0_3 ea2 u c0_4 h
/-! LullabyPitModel.isSmall(I)Z -/
theorem ds_X11_isSmall : k_ds [] = true := by decide +kernel
set_option maxHeartbeats 400000 in
set_option maxRecDepth 100000 in
theorem sX11_isSmall_0 (u : Nat) {X : k_X} {ad : Nat → Nat} (C : k_C X cX11_isSmall RX11 1 ad) (hr : X.meth.sig.returnType = (some .boolean)) (hR : X.R.frames = 0 ∧ X.R.locals = 0) {I : Nat → Nat → Int32} {L : Nat → Nat → Int64} {Rf : Nat → Nat → Option Nat} {out : Int32} : ∀ (v0 : Int32), bX11_isSmall_0 u v0 = some out → k_W X 1 0 0 (k_Q X ad (some (.int out)) (k_ap [] (shM, I, L, Rf))) ad (k_ap [] (shM, I, L, Rf)) 0 [some (.int v0)] [] := by
  intro v0 h
  unfold bX11_isSmall_0 at h
  refine r_iload_n C dX11_isSmall_0 (rfl : 0 + 1 = 1) rfl ?_
  refine r_bipush (v := (97 : Int32)) C dX11_isSmall_1 (rfl : 1 + 2 = 3) rfl ?_
  refine r_icmp_lt (tgt := 16) C dX11_isSmall_3 (by decide) (rfl : 3 + 3 = 6) (fun c3 => ?_) (fun c3 => ?_)
  · have h := k_t c3 h
    refine r_iconst (v := (0 : Int32)) C dX11_isSmall_16 (rfl : 16 + 1 = 17) rfl ?_
    cases h
    exact r_zret C hr (Or.inl rfl) dX11_isSmall_17
  · have h := k_f c3 h
    refine r_iload_n C dX11_isSmall_6 (rfl : 6 + 1 = 7) rfl ?_
    refine r_bipush (v := (122 : Int32)) C dX11_isSmall_7 (rfl : 7 + 2 = 9) rfl ?_
    refine r_icmp_gt (tgt := 16) C dX11_isSmall_9 (by decide) (rfl : 9 + 3 = 12) (fun c9 => ?_) (fun c9 => ?_)
    · have h := k_t c9 h
      refine r_iconst (v := (0 : Int32)) C dX11_isSmall_16 (rfl : 16 + 1 = 17) rfl ?_
      cases h
      exact r_zret C hr (Or.inl rfl) dX11_isSmall_17
    · have h := k_f c9 h
      refine r_iconst (v := (1 : Int32)) C dX11_isSmall_12 (rfl : 12 + 1 = 13) rfl ?_
      refine r_goto (tgt := 17) C dX11_isSmall_13 (by decide) ?_
      cases h
      exact r_zret C hr (Or.inr rfl) dX11_isSmall_17
set_option maxHeartbeats 400000 in
set_option maxRecDepth 100000 in
theorem c_X11_isSmall (l : Launch) (u : Nat) (h : k_H) (hsh : h.1 = shM) {x0 : Int32} {out : Int32} (hf : f_X11_isSmall u x0 = some out) : k_CT l yX11_isSmall cX11_isSmall 1 (some .boolean) 0 0 [.int x0] h (some (.int out)) [] := by
  obtain ⟨sh, I, L, Rf⟩ := h
  try dsimp only
  obtain rfl : sh = shM := hsh
  refine k_ofW (by decide) (Nat.le_of_ble_eq_true rfl) ?_
  intro X ad hl hR0 hr C
  have hR : X.R.frames = 0 ∧ X.R.locals = 0 := by rw [hR0]; exact ⟨rfl, rfl⟩
  have h := hf
  unfold f_X11_isSmall at h
  refine k_start (us := []) k_ap_0 ?_
  show k_W X 1 0 0 _ ad (k_ap [] (shM, I, L, Rf)) 0 [some (.int x0)] []
  refine k_mask [true] ?_
  exact sX11_isSmall_0 u C hr hR x0 h
/-! LullabyPitModel.isDigit(I)Z -/
theorem ds_X11_isDigit : k_ds [] = true := by decide +kernel
set_option maxHeartbeats 400000 in
set_option maxRecDepth 100000 in
theorem sX11_isDigit_0 (u : Nat) {X : k_X} {ad : Nat → Nat} (C : k_C X cX11_isDigit RX11 1 ad) (hr : X.meth.sig.returnType = (some .boolean)) (hR : X.R.frames = 0 ∧ X.R.locals = 0) {I : Nat → Nat → Int32} {L : Nat → Nat → Int64} {Rf : Nat → Nat → Option Nat} {out : Int32} : ∀ (v0 : Int32), bX11_isDigit_0 u v0 = some out → k_W X 1 0 0 (k_Q X ad (some (.int out)) (k_ap [] (shM, I, L, Rf))) ad (k_ap [] (shM, I, L, Rf)) 0 [some (.int v0)] [] := by
  intro v0 h
  unfold bX11_isDigit_0 at h
  refine r_iload_n C dX11_isDigit_0 (rfl : 0 + 1 = 1) rfl ?_
  refine r_bipush (v := (48 : Int32)) C dX11_isDigit_1 (rfl : 1 + 2 = 3) rfl ?_
  refine r_icmp_lt (tgt := 16) C dX11_isDigit_3 (by decide) (rfl : 3 + 3 = 6) (fun c3 => ?_) (fun c3 => ?_)
  · have h := k_t c3 h
    refine r_iconst (v := (0 : Int32)) C dX11_isDigit_16 (rfl : 16 + 1 = 17) rfl ?_
    cases h
    exact r_zret C hr (Or.inl rfl) dX11_isDigit_17
  · have h := k_f c3 h
    refine r_iload_n C dX11_isDigit_6 (rfl : 6 + 1 = 7) rfl ?_
    refine r_bipush (v := (57 : Int32)) C dX11_isDigit_7 (rfl : 7 + 2 = 9) rfl ?_
    refine r_icmp_gt (tgt := 16) C dX11_isDigit_9 (by decide) (rfl : 9 + 3 = 12) (fun c9 => ?_) (fun c9 => ?_)
    · have h := k_t c9 h
      refine r_iconst (v := (0 : Int32)) C dX11_isDigit_16 (rfl : 16 + 1 = 17) rfl ?_
      cases h
      exact r_zret C hr (Or.inl rfl) dX11_isDigit_17
    · have h := k_f c9 h
      refine r_iconst (v := (1 : Int32)) C dX11_isDigit_12 (rfl : 12 + 1 = 13) rfl ?_
      refine r_goto (tgt := 17) C dX11_isDigit_13 (by decide) ?_
      cases h
      exact r_zret C hr (Or.inr rfl) dX11_isDigit_17
set_option maxHeartbeats 400000 in
set_option maxRecDepth 100000 in
theorem c_X11_isDigit (l : Launch) (u : Nat) (h : k_H) (hsh : h.1 = shM) {x0 : Int32} {out : Int32} (hf : f_X11_isDigit u x0 = some out) : k_CT l yX11_isDigit cX11_isDigit 1 (some .boolean) 0 0 [.int x0] h (some (.int out)) [] := by
  obtain ⟨sh, I, L, Rf⟩ := h
  try dsimp only
  obtain rfl : sh = shM := hsh
  refine k_ofW (by decide) (Nat.le_of_ble_eq_true rfl) ?_
  intro X ad hl hR0 hr C
  have hR : X.R.frames = 0 ∧ X.R.locals = 0 := by rw [hR0]; exact ⟨rfl, rfl⟩
  have h := hf
  unfold f_X11_isDigit at h
  refine k_start (us := []) k_ap_0 ?_
  show k_W X 1 0 0 _ ad (k_ap [] (shM, I, L, Rf)) 0 [some (.int x0)] []
  refine k_mask [true] ?_
  exact sX11_isDigit_0 u C hr hR x0 h
/-! LullabyPitModel.word()I -/
theorem ds_X11_word : k_ds [(0, 0, 4)] = true := by decide +kernel
set_option maxHeartbeats 400000 in
set_option maxRecDepth 100000 in
theorem sX11_word_57 (u : Nat) {X : k_X} {ad : Nat → Nat} (C : k_C X cX11_word RX11 4 ad) (hr : X.meth.sig.returnType = (some .int)) (hR : X.R.frames = 1 ∧ X.R.locals = 20) {I : Nat → Nat → Int32} {L : Nat → Nat → Int64} {Rf : Nat → Nat → Option Nat} {c0_3 : Int32} (ec0_3 : I 0 3 = c0_3) {a2 : (Nat → Int32)} (ea2 : I 2 = a2) {out : Int32 × Int32} {k14 : Int32 → Int32 → Int32 → Int32 → Option (Int32 × Int32)} (hk14 : ∀ (c0_4 : Int32) (v1 : Int32) (v2 : Int32) (v3 : Int32), k14 c0_4 v1 v2 v3 = some out → k_W X 4 0 0 (k_Q X ad (some (.int out.1)) (k_ap [(0, .inl (4, out.2))] (shM, I, L, Rf))) ad (k_ap [(0, .inl (4, c0_4))] (shM, I, L, Rf)) 14 [some (.ref 0), some (.int v1), some (.int v2), some (.int v3)] []) : ∀ (c0_4 : Int32) (v2 : Int32) (v3 : Int32) (w0 : Int32), bX11_word_57 u c0_3 a2 k14 c0_4 v2 v3 w0 = some out → k_W X 4 0 0 (k_Q X ad (some (.int out.1)) (k_ap [(0, .inl (4, out.2))] (shM, I, L, Rf))) ad (k_ap [(0, .inl (4, c0_4))] (shM, I, L, Rf)) 57 [some (.ref 0), none, some (.int v2), some (.int v3)] [.int w0] := by
  intro c0_4 v2 v3 w0 h
  unfold bX11_word_57 at h
  refine r_istore_n C dX11_word_57 (rfl : 57 + 1 = 58) (by decide) (Nat.le_of_ble_eq_true rfl) ?_
  show k_W _ _ _ _ _ _ _ _ [some (.ref 0), some (.int w0), some (.int v2), some (.int v3)] _
  refine r_iinc (v := (v2 + (1 : Int32))) C dX11_word_58 (rfl : 58 + 3 = 61) rfl rfl (by decide) ?_
  show k_W _ _ _ _ _ _ _ _ [some (.ref 0), some (.int w0), some (.int (v2 + (1 : Int32))), some (.int v3)] _
  refine r_iinc (v := (v3 + (1 : Int32))) C dX11_word_61 (rfl : 61 + 3 = 64) rfl rfl (by decide) ?_
  show k_W _ _ _ _ _ _ _ _ [some (.ref 0), some (.int w0), some (.int (v2 + (1 : Int32))), some (.int (v3 + (1 : Int32)))] _
  refine r_goto (tgt := 14) C dX11_word_64 (by decide) ?_
  refine k_mask [true, true, true, true] ?_
  exact hk14 c0_4 w0 (v2 + (1 : Int32)) (v3 + (1 : Int32)) h
set_option maxHeartbeats 400000 in
set_option maxRecDepth 100000 in
theorem sX11_word_67 (u : Nat) {X : k_X} {ad : Nat → Nat} (C : k_C X cX11_word RX11 4 ad) (hr : X.meth.sig.returnType = (some .int)) (hR : X.R.frames = 1 ∧ X.R.locals = 20) {I : Nat → Nat → Int32} {L : Nat → Nat → Int64} {Rf : Nat → Nat → Option Nat} {c0_3 : Int32} (ec0_3 : I 0 3 = c0_3) {a2 : (Nat → Int32)} (ea2 : I 2 = a2) {out : Int32 × Int32} : ∀ (c0_4 : Int32) (v1 : Int32) (v2 : Int32), bX11_word_67 u c0_3 a2 c0_4 v1 v2 = some out → k_W X 4 0 0 (k_Q X ad (some (.int out.1)) (k_ap [(0, .inl (4, out.2))] (shM, I, L, Rf))) ad (k_ap [(0, .inl (4, c0_4))] (shM, I, L, Rf)) 67 [none, some (.int v1), some (.int v2), none] [] := by
  intro c0_4 v1 v2 h
  unfold bX11_word_67 at h
  refine r_iload_n C dX11_word_67 (rfl : 67 + 1 = 68) rfl ?_
  refine r_bipush (v := (6 : Int32)) C dX11_word_68 (rfl : 68 + 2 = 70) rfl ?_
  refine r_icmp_le (tgt := 77) C dX11_word_70 (by decide) (rfl : 70 + 3 = 73) (fun c70 => ?_) (fun c70 => ?_)
  · have h := k_t c70 h
    refine r_iload_n C dX11_word_77 (rfl : 77 + 1 = 78) rfl ?_
    cases h
    exact r_iret C hr dX11_word_78
  · have h := k_f c70 h
    refine r_iconst (v := (0 : Int32)) C dX11_word_73 (rfl : 73 + 1 = 74) rfl ?_
    refine r_goto (tgt := 78) C dX11_word_74 (by decide) ?_
    cases h
    exact r_iret C hr dX11_word_78
set_option maxHeartbeats 400000 in
set_option maxRecDepth 100000 in
theorem sX11_word_14 (u : Nat) {X : k_X} {ad : Nat → Nat} (C : k_C X cX11_word RX11 4 ad) (hr : X.meth.sig.returnType = (some .int)) (hR : X.R.frames = 1 ∧ X.R.locals = 20) {I : Nat → Nat → Int32} {L : Nat → Nat → Int64} {Rf : Nat → Nat → Option Nat} {c0_3 : Int32} (ec0_3 : I 0 3 = c0_3) {a2 : (Nat → Int32)} (ea2 : I 2 = a2) {out : Int32 × Int32} : ∀ (n : Nat) (c0_4 : Int32) (v1 : Int32) (v2 : Int32) (v3 : Int32), bX11_word_14 u c0_3 a2 n c0_4 v1 v2 v3 = some out → k_W X 4 0 0 (k_Q X ad (some (.int out.1)) (k_ap [(0, .inl (4, out.2))] (shM, I, L, Rf))) ad (k_ap [(0, .inl (4, c0_4))] (shM, I, L, Rf)) 14 [some (.ref 0), some (.int v1), some (.int v2), some (.int v3)] [] := by
  intro n
  induction n with
  | zero => intro c0_4 v1 v2 v3 h; cases h
  | succ n ih =>
    intro c0_4 v1 v2 v3 h
    refine r_iload_n C dX11_word_14 (rfl : 14 + 1 = 15) rfl ?_
    refine r_aload_n C dX11_word_15 (rfl : 15 + 1 = 16) rfl ?_
    refine r_getI (v := c0_3) C dX11_word_16 (rfl : 16 + 3 = 19) fl_X11_130 rfl rfl ec0_3 ?_
    refine r_icmp_ge (tgt := 67) C dX11_word_19 (by decide) (rfl : 19 + 3 = 22) (fun c19 => ?_) (fun c19 => ?_)
    · have h := k_t c19 h
      refine k_mask [false, true, true, false] ?_
      exact sX11_word_67 u C hr hR ec0_3 ea2 c0_4 v1 v2 h
    · have h := k_f c19 h
      refine r_aload_n C dX11_word_22 (rfl : 22 + 1 = 23) rfl ?_
      refine r_getR (q := 2) C dX11_word_23 (rfl : 23 + 3 = 26) fl_X11_20 rfl rfl ?_
      refine r_iload_n C dX11_word_26 (rfl : 26 + 1 = 27) rfl ?_
      obtain ⟨hi27, h⟩ := k_i_of h
      refine a_i (j := (v3).toNatClampNeg) (f := a2) C dX11_word_27 (rfl : 27 + 1 = 28) rfl ea2 hi27 rfl ?_
      obtain ⟨r28, q28, h⟩ := k_b_of h
      refine d_S (As := [.int (a2 ((v3).toNatClampNeg))]) (st := []) (st' := [.int r28]) (h' := k_ap [(0, .inl (4, c0_4))] (shM, I, L, Rf)) C hR ⟨Nat.zero_le _, Nat.zero_le _⟩ ms_X11_isSmall lk_X11_136 dX11_word_28 (rfl : 28 + 3 = 31) rfl rfl (c_X11_isSmall X.l u (k_ap [(0, .inl (4, c0_4))] (shM, I, L, Rf)) rfl  q28) rfl rfl rfl rfl rfl ?_
      refine r_if_eq (tgt := 67) C dX11_word_31 (by decide) (rfl : 31 + 3 = 34) (fun c31 => ?_) (fun c31 => ?_)
      · have h := k_t c31 h
        refine k_mask [false, true, true, false] ?_
        exact sX11_word_67 u C hr hR ec0_3 ea2 c0_4 v1 v2 h
      · have h := k_f c31 h
        refine r_iload_n C dX11_word_34 (rfl : 34 + 1 = 35) rfl ?_
        refine r_bipush (v := (6 : Int32)) C dX11_word_35 (rfl : 35 + 2 = 37) rfl ?_
        refine r_icmp_ge (tgt := 56) C dX11_word_37 (by decide) (rfl : 37 + 3 = 40) (fun c37 => ?_) (fun c37 => ?_)
        · have h := k_t c37 h
          refine r_iconst (v := (0 : Int32)) C dX11_word_56 (rfl : 56 + 1 = 57) rfl ?_
          refine k_mask [true, false, true, true] ?_
          exact sX11_word_57 u C hr hR ec0_3 ea2 ih c0_4 v2 v3 (0 : Int32) h
        · have h := k_f c37 h
          refine r_iload_n C dX11_word_40 (rfl : 40 + 1 = 41) rfl ?_
          refine r_iconst (v := (5 : Int32)) C dX11_word_41 (rfl : 41 + 1 = 42) rfl ?_
          refine r_ishl C dX11_word_42 (rfl : 42 + 1 = 43) ?_
          refine r_aload_n C dX11_word_43 (rfl : 43 + 1 = 44) rfl ?_
          refine r_getR (q := 2) C dX11_word_44 (rfl : 44 + 3 = 47) fl_X11_20 rfl rfl ?_
          refine r_iload_n C dX11_word_47 (rfl : 47 + 1 = 48) rfl ?_
          obtain ⟨hi48, h⟩ := k_i_of h
          refine a_i (j := (v3).toNatClampNeg) (f := a2) C dX11_word_48 (rfl : 48 + 1 = 49) rfl ea2 hi48 rfl ?_
          refine r_bipush (v := (96 : Int32)) C dX11_word_49 (rfl : 49 + 2 = 51) rfl ?_
          refine r_isub C dX11_word_51 (rfl : 51 + 1 = 52) ?_
          refine r_ior C dX11_word_52 (rfl : 52 + 1 = 53) ?_
          refine r_goto (tgt := 57) C dX11_word_53 (by decide) ?_
          refine k_mask [true, false, true, true] ?_
          exact sX11_word_57 u C hr hR ec0_3 ea2 ih c0_4 v2 v3 ((v1 <<< ((5 : Int32) &&& 31)) ||| ((a2 ((v3).toNatClampNeg)) - (96 : Int32))) h
set_option maxHeartbeats 400000 in
set_option maxRecDepth 100000 in
theorem sX11_word_0 (u : Nat) {X : k_X} {ad : Nat → Nat} (C : k_C X cX11_word RX11 4 ad) (hr : X.meth.sig.returnType = (some .int)) (hR : X.R.frames = 1 ∧ X.R.locals = 20) {I : Nat → Nat → Int32} {L : Nat → Nat → Int64} {Rf : Nat → Nat → Option Nat} {c0_3 : Int32} (ec0_3 : I 0 3 = c0_3) {a2 : (Nat → Int32)} (ea2 : I 2 = a2) {out : Int32 × Int32} : ∀ (c0_4 : Int32), bX11_word_0 u c0_3 a2 c0_4 = some out → k_W X 4 0 0 (k_Q X ad (some (.int out.1)) (k_ap [(0, .inl (4, out.2))] (shM, I, L, Rf))) ad (k_ap [(0, .inl (4, c0_4))] (shM, I, L, Rf)) 0 [some (.ref 0), none, none, none] [] := by
  intro c0_4 h
  unfold bX11_word_0 at h
  refine r_aload_n C dX11_word_0 (rfl : 0 + 1 = 1) rfl ?_
  obtain ⟨r1, q1, h⟩ := k_b_of h
  refine d_V (As := []) (st := []) (st' := [.int r1.1]) (h' := k_ap [(0, .inl (4, r1.2))] (shM, I, L, Rf)) C hR ⟨Nat.zero_le _, Nat.zero_le _⟩ mv_X11_here lk_X11_133 dX11_word_1 (rfl : 1 + 3 = 4) rfl rfl rfl rfl (c_X11_here X.l u (k_ap [(0, .inl (4, c0_4))] (shM, I, L, Rf)) rfl ec0_3 rfl ea2 q1) rfl rfl rfl (k_jn (us' := [(0, .inl (4, r1.2))]) ds_X11_word rfl rfl rfl) rfl ?_
  refine r_pop C dX11_word_4 (rfl : 4 + 1 = 5) rfl ?_
  refine r_iconst (v := (0 : Int32)) C dX11_word_5 (rfl : 5 + 1 = 6) rfl ?_
  refine r_istore_n C dX11_word_6 (rfl : 6 + 1 = 7) (by decide) (Nat.le_of_ble_eq_true rfl) ?_
  show k_W _ _ _ _ _ _ _ _ [some (.ref 0), some (.int (0 : Int32)), none, none] _
  refine r_iconst (v := (0 : Int32)) C dX11_word_7 (rfl : 7 + 1 = 8) rfl ?_
  refine r_istore_n C dX11_word_8 (rfl : 8 + 1 = 9) (by decide) (Nat.le_of_ble_eq_true rfl) ?_
  show k_W _ _ _ _ _ _ _ _ [some (.ref 0), some (.int (0 : Int32)), some (.int (0 : Int32)), none] _
  refine r_aload_n C dX11_word_9 (rfl : 9 + 1 = 10) rfl ?_
  refine r_getI (v := r1.2) C dX11_word_10 (rfl : 10 + 3 = 13) fl_X11_127 rfl rfl rfl ?_
  refine r_istore_n C dX11_word_13 (rfl : 13 + 1 = 14) (by decide) (Nat.le_of_ble_eq_true rfl) ?_
  show k_W _ _ _ _ _ _ _ _ [some (.ref 0), some (.int (0 : Int32)), some (.int (0 : Int32)), some (.int r1.2)] _
  refine k_mask [true, true, true, true] ?_
  exact sX11_word_14 u C hr hR ec0_3 ea2 u r1.2 (0 : Int32) (0 : Int32) r1.2 h
set_option maxHeartbeats 400000 in
set_option maxRecDepth 100000 in
theorem c_X11_word (l : Launch) (u : Nat) (h : k_H) (hsh : h.1 = shM) {c0_3 : Int32} (ec0_3 : h.2.1 0 3 = c0_3) {c0_4 : Int32} (ec0_4 : h.2.1 0 4 = c0_4) {a2 : (Nat → Int32)} (ea2 : h.2.1 2 = a2) {out : Int32 × Int32} (hf : f_X11_word u c0_3 c0_4 a2 = some out) : k_CT l yX11_word cX11_word 4 (some .int) 1 20 [.ref 0] h (some (.int out.1)) [(0, .inl (4, out.2))] := by
  obtain ⟨sh, I, L, Rf⟩ := h
  try dsimp only
  obtain rfl : sh = shM := hsh
  refine k_ofW (by decide) (Nat.le_of_ble_eq_true rfl) ?_
  intro X ad hl hR0 hr C
  have hR : X.R.frames = 1 ∧ X.R.locals = 20 := by rw [hR0]; exact ⟨rfl, rfl⟩
  have h := hf
  unfold f_X11_word at h
  refine k_start (us := [(0, .inl (4, c0_4))]) (k_ao_I ec0_4 k_ap_0) ?_
  show k_W X 4 0 0 _ ad (k_ap [(0, .inl (4, c0_4))] (shM, I, L, Rf)) 0 [some (.ref 0), none, none, none] []
  refine k_mask [true, false, false, false] ?_
  exact sX11_word_0 u C hr hR ec0_3 ea2 c0_4 h
/-! LullabyPitModel.of(Ljava/lang/String;)I -/
theorem ds_X11_of : k_ds [] = true := by decide +kernel
set_option maxHeartbeats 400000 in
set_option maxRecDepth 100000 in
theorem sX11_of_4 (u : Nat) (si : Nat) {X : k_X} {ad : Nat → Nat} (C : k_C X cX11_of RX11 3 ad) (hr : X.meth.sig.returnType = (some .int)) (hR : X.R.frames = 4 ∧ X.R.locals = 85) {I : Nat → Nat → Int32} {L : Nat → Nat → Int64} {Rf : Nat → Nat → Option Nat} (hsi : si < 31) {out : Int32} : ∀ (n : Nat) (v1 : Int32) (v2 : Int32), bX11_of_4 u si n v1 v2 = some out → k_W X 3 0 0 (k_Q X ad (some (.int out)) (k_ap [] (shM, I, L, Rf))) ad (k_ap [] (shM, I, L, Rf)) 4 [some (.ref (1000000 + si)), some (.int v1), some (.int v2)] [] := by
  intro n
  induction n with
  | zero => intro v1 v2 h; cases h
  | succ n ih =>
    intro v1 v2 h
    refine r_iload_n C dX11_of_4 (rfl : 4 + 1 = 5) rfl ?_
    refine r_aload_n C dX11_of_5 (rfl : 5 + 1 = 6) rfl ?_
    refine d_Vs (i := si) (As := []) (st := [.int v2]) (st' := [.int (nI (k_bs si).length), .int v2]) (h' := k_ap [] (shM, I, L, Rf)) C hR ⟨Nat.zero_le _, Nat.zero_le _⟩ mv_J0_length_8abf5 lk_X11_140 dX11_of_6 (rfl : 6 + 3 = 9) rfl rfl hsi rfl (c_length X.l (k_ap [] (shM, I, L, Rf)) hsi) rfl rfl rfl rfl rfl ?_
    refine r_icmp_ge (tgt := 31) C dX11_of_9 (by decide) (rfl : 9 + 3 = 12) (fun c9 => ?_) (fun c9 => ?_)
    · have h := k_t c9 h
      refine r_iload_n C dX11_of_31 (rfl : 31 + 1 = 32) rfl ?_
      cases h
      exact r_iret C hr dX11_of_32
    · have h := k_f c9 h
      refine r_iload_n C dX11_of_12 (rfl : 12 + 1 = 13) rfl ?_
      refine r_iconst (v := (5 : Int32)) C dX11_of_13 (rfl : 13 + 1 = 14) rfl ?_
      refine r_ishl C dX11_of_14 (rfl : 14 + 1 = 15) ?_
      refine r_aload_n C dX11_of_15 (rfl : 15 + 1 = 16) rfl ?_
      refine r_iload_n C dX11_of_16 (rfl : 16 + 1 = 17) rfl ?_
      obtain ⟨hi17, h⟩ := k_i_of h
      refine d_Vs (i := si) (As := [.int v2]) (st := [.int (v1 <<< ((5 : Int32) &&& 31))]) (st' := [.int (k_ch si (v2).toNatClampNeg), .int (v1 <<< ((5 : Int32) &&& 31))]) (h' := k_ap [] (shM, I, L, Rf)) C hR ⟨Nat.zero_le _, Nat.zero_le _⟩ mv_J0_charAt_5068e lk_X11_145 dX11_of_17 (rfl : 17 + 3 = 20) rfl rfl hsi rfl (c_charAt X.l (k_ap [] (shM, I, L, Rf)) hsi hi17) rfl rfl rfl rfl rfl ?_
      refine r_bipush (v := (96 : Int32)) C dX11_of_20 (rfl : 20 + 2 = 22) rfl ?_
      refine r_isub C dX11_of_22 (rfl : 22 + 1 = 23) ?_
      refine r_ior C dX11_of_23 (rfl : 23 + 1 = 24) ?_
      refine r_istore_n C dX11_of_24 (rfl : 24 + 1 = 25) (by decide) (Nat.le_of_ble_eq_true rfl) ?_
      show k_W _ _ _ _ _ _ _ _ [some (.ref (1000000 + si)), some (.int ((v1 <<< ((5 : Int32) &&& 31)) ||| ((k_ch si (v2).toNatClampNeg) - (96 : Int32)))), some (.int v2)] _
      refine r_iinc (v := (v2 + (1 : Int32))) C dX11_of_25 (rfl : 25 + 3 = 28) rfl rfl (by decide) ?_
      show k_W _ _ _ _ _ _ _ _ [some (.ref (1000000 + si)), some (.int ((v1 <<< ((5 : Int32) &&& 31)) ||| ((k_ch si (v2).toNatClampNeg) - (96 : Int32)))), some (.int (v2 + (1 : Int32)))] _
      refine r_goto (tgt := 4) C dX11_of_28 (by decide) ?_
      refine k_mask [true, true, true] ?_
      exact ih ((v1 <<< ((5 : Int32) &&& 31)) ||| ((k_ch si (v2).toNatClampNeg) - (96 : Int32))) (v2 + (1 : Int32)) h
set_option maxHeartbeats 400000 in
set_option maxRecDepth 100000 in
theorem sX11_of_0 (u : Nat) (si : Nat) {X : k_X} {ad : Nat → Nat} (C : k_C X cX11_of RX11 3 ad) (hr : X.meth.sig.returnType = (some .int)) (hR : X.R.frames = 4 ∧ X.R.locals = 85) {I : Nat → Nat → Int32} {L : Nat → Nat → Int64} {Rf : Nat → Nat → Option Nat} (hsi : si < 31) {out : Int32} : bX11_of_0 u si = some out → k_W X 3 0 0 (k_Q X ad (some (.int out)) (k_ap [] (shM, I, L, Rf))) ad (k_ap [] (shM, I, L, Rf)) 0 [some (.ref (1000000 + si)), none, none] [] := by
  intro h
  unfold bX11_of_0 at h
  refine r_iconst (v := (0 : Int32)) C dX11_of_0 (rfl : 0 + 1 = 1) rfl ?_
  refine r_istore_n C dX11_of_1 (rfl : 1 + 1 = 2) (by decide) (Nat.le_of_ble_eq_true rfl) ?_
  show k_W _ _ _ _ _ _ _ _ [some (.ref (1000000 + si)), some (.int (0 : Int32)), none] _
  refine r_iconst (v := (0 : Int32)) C dX11_of_2 (rfl : 2 + 1 = 3) rfl ?_
  refine r_istore_n C dX11_of_3 (rfl : 3 + 1 = 4) (by decide) (Nat.le_of_ble_eq_true rfl) ?_
  show k_W _ _ _ _ _ _ _ _ [some (.ref (1000000 + si)), some (.int (0 : Int32)), some (.int (0 : Int32))] _
  refine k_mask [true, true, true] ?_
  exact sX11_of_4 u si C hr hR hsi u (0 : Int32) (0 : Int32) h
set_option maxHeartbeats 400000 in
set_option maxRecDepth 100000 in
theorem c_X11_of (l : Launch) (u : Nat) (si : Nat) (hsi : si < 31) (h : k_H) (hsh : h.1 = shM) {out : Int32} (hf : f_X11_of u si = some out) : k_CT l yX11_of cX11_of 3 (some .int) 4 85 [.ref (1000000 + si)] h (some (.int out)) [] := by
  obtain ⟨sh, I, L, Rf⟩ := h
  try dsimp only
  obtain rfl : sh = shM := hsh
  refine k_ofW (by decide) (Nat.le_of_ble_eq_true rfl) ?_
  intro X ad hl hR0 hr C
  have hR : X.R.frames = 4 ∧ X.R.locals = 85 := by rw [hR0]; exact ⟨rfl, rfl⟩
  have h := hf
  unfold f_X11_of at h
  refine k_start (us := []) k_ap_0 ?_
  show k_W X 3 0 0 _ ad (k_ap [] (shM, I, L, Rf)) 0 [some (.ref (1000000 + si)), none, none] []
  refine k_mask [true, false, false] ?_
  exact sX11_of_0 u si C hr hR hsi h
/-! LullabyPitModel.pass()V -/
theorem ds_X11_pass : k_ds [(0, 0, 4)] = true := by decide +kernel
set_option maxHeartbeats 400000 in
set_option maxRecDepth 100000 in
theorem sX11_pass_0 (u : Nat) {X : k_X} {ad : Nat → Nat} (C : k_C X cX11_pass RX11 1 ad) (hr : X.meth.sig.returnType = none) (hR : X.R.frames = 1 ∧ X.R.locals = 20) {I : Nat → Nat → Int32} {L : Nat → Nat → Int64} {Rf : Nat → Nat → Option Nat} {c0_3 : Int32} (ec0_3 : I 0 3 = c0_3) {a2 : (Nat → Int32)} (ea2 : I 2 = a2) {out : Int32} : ∀ (n : Nat) (c0_4 : Int32), bX11_pass_0 u c0_3 a2 n c0_4 = some out → k_W X 1 0 0 (k_Q X ad none (k_ap [(0, .inl (4, out))] (shM, I, L, Rf))) ad (k_ap [(0, .inl (4, c0_4))] (shM, I, L, Rf)) 0 [some (.ref 0)] [] := by
  intro n
  induction n with
  | zero => intro c0_4 h; cases h
  | succ n ih =>
    intro c0_4 h
    refine r_aload_n C dX11_pass_0 (rfl : 0 + 1 = 1) rfl ?_
    refine r_getI (v := c0_4) C dX11_pass_1 (rfl : 1 + 3 = 4) fl_X11_127 rfl rfl rfl ?_
    refine r_aload_n C dX11_pass_4 (rfl : 4 + 1 = 5) rfl ?_
    refine r_getI (v := c0_3) C dX11_pass_5 (rfl : 5 + 3 = 8) fl_X11_130 rfl rfl ec0_3 ?_
    refine r_icmp_ge (tgt := 39) C dX11_pass_8 (by decide) (rfl : 8 + 3 = 11) (fun c8 => ?_) (fun c8 => ?_)
    · have h := k_t c8 h
      cases h
      exact r_vret C hr dX11_pass_39
    · have h := k_f c8 h
      refine r_aload_n C dX11_pass_11 (rfl : 11 + 1 = 12) rfl ?_
      refine r_getR (q := 2) C dX11_pass_12 (rfl : 12 + 3 = 15) fl_X11_20 rfl rfl ?_
      refine r_aload_n C dX11_pass_15 (rfl : 15 + 1 = 16) rfl ?_
      refine r_getI (v := c0_4) C dX11_pass_16 (rfl : 16 + 3 = 19) fl_X11_127 rfl rfl rfl ?_
      obtain ⟨hi19, h⟩ := k_i_of h
      refine a_i (j := (c0_4).toNatClampNeg) (f := a2) C dX11_pass_19 (rfl : 19 + 1 = 20) rfl ea2 hi19 rfl ?_
      obtain ⟨r20, q20, h⟩ := k_b_of h
      refine d_S (As := [.int (a2 ((c0_4).toNatClampNeg))]) (st := []) (st' := [.int r20]) (h' := k_ap [(0, .inl (4, c0_4))] (shM, I, L, Rf)) C hR ⟨Nat.zero_le _, Nat.zero_le _⟩ ms_X11_isSmall lk_X11_136 dX11_pass_20 (rfl : 20 + 3 = 23) rfl rfl (c_X11_isSmall X.l u (k_ap [(0, .inl (4, c0_4))] (shM, I, L, Rf)) rfl  q20) rfl rfl rfl rfl rfl ?_
      refine r_if_eq (tgt := 39) C dX11_pass_23 (by decide) (rfl : 23 + 3 = 26) (fun c23 => ?_) (fun c23 => ?_)
      · have h := k_t c23 h
        cases h
        exact r_vret C hr dX11_pass_39
      · have h := k_f c23 h
        refine r_aload_n C dX11_pass_26 (rfl : 26 + 1 = 27) rfl ?_
        refine r_dup C dX11_pass_27 (rfl : 27 + 1 = 28) rfl ?_
        refine r_getI (v := c0_4) C dX11_pass_28 (rfl : 28 + 3 = 31) fl_X11_127 rfl rfl rfl ?_
        refine r_iconst (v := (1 : Int32)) C dX11_pass_31 (rfl : 31 + 1 = 32) rfl ?_
        refine r_iadd C dX11_pass_32 (rfl : 32 + 1 = 33) ?_
        refine p_I (us' := [(0, .inl (4, (c0_4 + (1 : Int32))))]) C dX11_pass_33 (rfl : 33 + 3 = 36) fp_X11_127 rfl rfl ds_X11_pass rfl rfl rfl ?_
        refine r_goto (tgt := 0) C dX11_pass_36 (by decide) ?_
        refine k_mask [true] ?_
        exact ih (c0_4 + (1 : Int32)) h
set_option maxHeartbeats 400000 in
set_option maxRecDepth 100000 in
theorem c_X11_pass (l : Launch) (u : Nat) (h : k_H) (hsh : h.1 = shM) {c0_3 : Int32} (ec0_3 : h.2.1 0 3 = c0_3) {c0_4 : Int32} (ec0_4 : h.2.1 0 4 = c0_4) {a2 : (Nat → Int32)} (ea2 : h.2.1 2 = a2) {out : Int32} (hf : f_X11_pass u c0_3 c0_4 a2 = some out) : k_CT l yX11_pass cX11_pass 1 none 1 20 [.ref 0] h none [(0, .inl (4, out))] := by
  obtain ⟨sh, I, L, Rf⟩ := h
  try dsimp only
  obtain rfl : sh = shM := hsh
  refine k_ofW (by decide) (Nat.le_of_ble_eq_true rfl) ?_
  intro X ad hl hR0 hr C
  have hR : X.R.frames = 1 ∧ X.R.locals = 20 := by rw [hR0]; exact ⟨rfl, rfl⟩
  have h := hf
  unfold f_X11_pass at h
  refine k_start (us := [(0, .inl (4, c0_4))]) (k_ao_I ec0_4 k_ap_0) ?_
  show k_W X 1 0 0 _ ad (k_ap [(0, .inl (4, c0_4))] (shM, I, L, Rf)) 0 [some (.ref 0)] []
  refine k_mask [true] ?_
  exact sX11_pass_0 u C hr hR ec0_3 ea2 u c0_4 h
