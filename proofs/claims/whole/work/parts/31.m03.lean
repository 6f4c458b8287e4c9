/-! LullabyPitModel.copies([I[II)V -/
theorem ds_X11_copies_4_8 : k_ds [(8, 2, 0)] = true := by decide +kernel
set_option maxHeartbeats 400000 in
set_option maxRecDepth 100000 in
theorem sX11_copies_4_8_3 (u : Nat) {X : k_X} {ad : Nat → Nat} (C : k_C X cX11_copies RX11 5 ad) (hr : X.meth.sig.returnType = none) (hR : X.R.frames = 0 ∧ X.R.locals = 0) {I : Nat → Nat → Int32} {L : Nat → Nat → Int64} {Rf : Nat → Nat → Option Nat} {a4 : (Nat → Int32)} (ea4 : I 4 = a4) {out : (Nat → Int32)} : ∀ (n : Nat) (a8 : (Nat → Int32)) (v3 : Int32) (v4 : Int32), bX11_copies_4_8_3 u a4 n a8 v3 v4 = some out → k_W X 5 0 0 (k_Q X ad none (k_ap [(8, .inr (.inr (.inl out)))] (shM, I, L, Rf))) ad (k_ap [(8, .inr (.inr (.inl a8)))] (shM, I, L, Rf)) 3 [none, some (.ref 4), some (.ref 8), some (.int v3), some (.int v4)] [] := by
  intro n
  induction n with
  | zero => intro a8 v3 v4 h; cases h
  | succ n ih =>
    intro a8 v3 v4 h
    refine r_iload C dX11_copies_3 (rfl : 3 + 2 = 5) rfl ?_
    refine r_iload_n C dX11_copies_5 (rfl : 5 + 1 = 6) rfl ?_
    refine r_icmp_ge (tgt := 23) C dX11_copies_6 (by decide) (rfl : 6 + 3 = 9) (fun c6 => ?_) (fun c6 => ?_)
    · have h := k_t c6 h
      cases h
      exact r_vret C hr dX11_copies_23
    · have h := k_f c6 h
      refine r_aload_n C dX11_copies_9 (rfl : 9 + 1 = 10) rfl ?_
      refine r_iload C dX11_copies_10 (rfl : 10 + 2 = 12) rfl ?_
      refine r_aload_n C dX11_copies_12 (rfl : 12 + 1 = 13) rfl ?_
      refine r_iload C dX11_copies_13 (rfl : 13 + 2 = 15) rfl ?_
      obtain ⟨hi15, h⟩ := k_i_of h
      refine a_i (j := (v4).toNatClampNeg) (f := a4) C dX11_copies_15 (rfl : 15 + 1 = 16) rfl ea4 hi15 rfl ?_
      obtain ⟨hi16, h⟩ := k_i_of h
      refine s_i (j := (v4).toNatClampNeg) (f := a8) (us' := [(8, .inr (.inr (.inl (upd a8 ((v4).toNatClampNeg) (a4 ((v4).toNatClampNeg))))))]) C dX11_copies_16 (rfl : 16 + 1 = 17) rfl rfl hi16 rfl ds_X11_copies_4_8 rfl rfl rfl ?_
      refine r_iinc (v := (v4 + (1 : Int32))) C dX11_copies_17 (rfl : 17 + 3 = 20) rfl rfl (by decide) ?_
      show k_W _ _ _ _ _ _ _ _ [none, some (.ref 4), some (.ref 8), some (.int v3), some (.int (v4 + (1 : Int32)))] _
      refine r_goto (tgt := 3) C dX11_copies_20 (by decide) ?_
      refine k_mask [false, true, true, true, true] ?_
      exact ih (upd a8 ((v4).toNatClampNeg) (a4 ((v4).toNatClampNeg))) v3 (v4 + (1 : Int32)) h
set_option maxHeartbeats 400000 in
set_option maxRecDepth 100000 in
theorem sX11_copies_4_8_0 (u : Nat) {X : k_X} {ad : Nat → Nat} (C : k_C X cX11_copies RX11 5 ad) (hr : X.meth.sig.returnType = none) (hR : X.R.frames = 0 ∧ X.R.locals = 0) {I : Nat → Nat → Int32} {L : Nat → Nat → Int64} {Rf : Nat → Nat → Option Nat} {a4 : (Nat → Int32)} (ea4 : I 4 = a4) {out : (Nat → Int32)} : ∀ (a8 : (Nat → Int32)) (v3 : Int32), bX11_copies_4_8_0 u a4 a8 v3 = some out → k_W X 5 0 0 (k_Q X ad none (k_ap [(8, .inr (.inr (.inl out)))] (shM, I, L, Rf))) ad (k_ap [(8, .inr (.inr (.inl a8)))] (shM, I, L, Rf)) 0 [none, some (.ref 4), some (.ref 8), some (.int v3), none] [] := by
  intro a8 v3 h
  unfold bX11_copies_4_8_0 at h
  refine r_iconst (v := (0 : Int32)) C dX11_copies_0 (rfl : 0 + 1 = 1) rfl ?_
  refine r_istore C dX11_copies_1 (rfl : 1 + 2 = 3) (by decide) (Nat.le_of_ble_eq_true rfl) ?_
  show k_W _ _ _ _ _ _ _ _ [none, some (.ref 4), some (.ref 8), some (.int v3), some (.int (0 : Int32))] _
  refine k_mask [false, true, true, true, true] ?_
  exact sX11_copies_4_8_3 u C hr hR ea4 u a8 v3 (0 : Int32) h
set_option maxHeartbeats 400000 in
set_option maxRecDepth 100000 in
theorem c_X11_copies_4_8 (l : Launch) (u : Nat) (h : k_H) (hsh : h.1 = shM) {a4 : (Nat → Int32)} (ea4 : h.2.1 4 = a4) {a8 : (Nat → Int32)} (ea8 : h.2.1 8 = a8) {x2 : Int32} {out : (Nat → Int32)} (hf : f_X11_copies_4_8 u a4 a8 x2 = some out) : k_CT l yX11_copies cX11_copies 5 none 0 0 [.ref 0, .ref 4, .ref 8, .int x2] h none [(8, .inr (.inr (.inl out)))] := by
  obtain ⟨sh, I, L, Rf⟩ := h
  try dsimp only
  obtain rfl : sh = shM := hsh
  refine k_ofW (by decide) (Nat.le_of_ble_eq_true rfl) ?_
  intro X ad hl hR0 hr C
  have hR : X.R.frames = 0 ∧ X.R.locals = 0 := by rw [hR0]; exact ⟨rfl, rfl⟩
  have h := hf
  unfold f_X11_copies_4_8 at h
  refine k_start (us := [(8, .inr (.inr (.inl a8)))]) (k_ao_A ea8 k_ap_0) ?_
  show k_W X 5 0 0 _ ad (k_ap [(8, .inr (.inr (.inl a8)))] (shM, I, L, Rf)) 0 [some (.ref 0), some (.ref 4), some (.ref 8), some (.int x2), none] []
  refine k_mask [false, true, true, true, false] ?_
  exact sX11_copies_4_8_0 u C hr hR ea4 a8 x2 h
/-! LullabyPitModel.copies([I[II)V -/
theorem ds_X11_copies_5_9 : k_ds [(9, 2, 0)] = true := by decide +kernel
set_option maxHeartbeats 400000 in
set_option maxRecDepth 100000 in
theorem sX11_copies_5_9_3 (u : Nat) {X : k_X} {ad : Nat → Nat} (C : k_C X cX11_copies RX11 5 ad) (hr : X.meth.sig.returnType = none) (hR : X.R.frames = 0 ∧ X.R.locals = 0) {I : Nat → Nat → Int32} {L : Nat → Nat → Int64} {Rf : Nat → Nat → Option Nat} {a5 : (Nat → Int32)} (ea5 : I 5 = a5) {out : (Nat → Int32)} : ∀ (n : Nat) (a9 : (Nat → Int32)) (v3 : Int32) (v4 : Int32), bX11_copies_5_9_3 u a5 n a9 v3 v4 = some out → k_W X 5 0 0 (k_Q X ad none (k_ap [(9, .inr (.inr (.inl out)))] (shM, I, L, Rf))) ad (k_ap [(9, .inr (.inr (.inl a9)))] (shM, I, L, Rf)) 3 [none, some (.ref 5), some (.ref 9), some (.int v3), some (.int v4)] [] := by
  intro n
  induction n with
  | zero => intro a9 v3 v4 h; cases h
  | succ n ih =>
    intro a9 v3 v4 h
    refine r_iload C dX11_copies_3 (rfl : 3 + 2 = 5) rfl ?_
    refine r_iload_n C dX11_copies_5 (rfl : 5 + 1 = 6) rfl ?_
    refine r_icmp_ge (tgt := 23) C dX11_copies_6 (by decide) (rfl : 6 + 3 = 9) (fun c6 => ?_) (fun c6 => ?_)
    · have h := k_t c6 h
      cases h
      exact r_vret C hr dX11_copies_23
    · have h := k_f c6 h
      refine r_aload_n C dX11_copies_9 (rfl : 9 + 1 = 10) rfl ?_
      refine r_iload C dX11_copies_10 (rfl : 10 + 2 = 12) rfl ?_
      refine r_aload_n C dX11_copies_12 (rfl : 12 + 1 = 13) rfl ?_
      refine r_iload C dX11_copies_13 (rfl : 13 + 2 = 15) rfl ?_
      obtain ⟨hi15, h⟩ := k_i_of h
      refine a_i (j := (v4).toNatClampNeg) (f := a5) C dX11_copies_15 (rfl : 15 + 1 = 16) rfl ea5 hi15 rfl ?_
      obtain ⟨hi16, h⟩ := k_i_of h
      refine s_i (j := (v4).toNatClampNeg) (f := a9) (us' := [(9, .inr (.inr (.inl (upd a9 ((v4).toNatClampNeg) (a5 ((v4).toNatClampNeg))))))]) C dX11_copies_16 (rfl : 16 + 1 = 17) rfl rfl hi16 rfl ds_X11_copies_5_9 rfl rfl rfl ?_
      refine r_iinc (v := (v4 + (1 : Int32))) C dX11_copies_17 (rfl : 17 + 3 = 20) rfl rfl (by decide) ?_
      show k_W _ _ _ _ _ _ _ _ [none, some (.ref 5), some (.ref 9), some (.int v3), some (.int (v4 + (1 : Int32)))] _
      refine r_goto (tgt := 3) C dX11_copies_20 (by decide) ?_
      refine k_mask [false, true, true, true, true] ?_
      exact ih (upd a9 ((v4).toNatClampNeg) (a5 ((v4).toNatClampNeg))) v3 (v4 + (1 : Int32)) h
set_option maxHeartbeats 400000 in
set_option maxRecDepth 100000 in
theorem sX11_copies_5_9_0 (u : Nat) {X : k_X} {ad : Nat → Nat} (C : k_C X cX11_copies RX11 5 ad) (hr : X.meth.sig.returnType = none) (hR : X.R.frames = 0 ∧ X.R.locals = 0) {I : Nat → Nat → Int32} {L : Nat → Nat → Int64} {Rf : Nat → Nat → Option Nat} {a5 : (Nat → Int32)} (ea5 : I 5 = a5) {out : (Nat → Int32)} : ∀ (a9 : (Nat → Int32)) (v3 : Int32), bX11_copies_5_9_0 u a5 a9 v3 = some out → k_W X 5 0 0 (k_Q X ad none (k_ap [(9, .inr (.inr (.inl out)))] (shM, I, L, Rf))) ad (k_ap [(9, .inr (.inr (.inl a9)))] (shM, I, L, Rf)) 0 [none, some (.ref 5), some (.ref 9), some (.int v3), none] [] := by
  intro a9 v3 h
  unfold bX11_copies_5_9_0 at h
  refine r_iconst (v := (0 : Int32)) C dX11_copies_0 (rfl : 0 + 1 = 1) rfl ?_
  refine r_istore C dX11_copies_1 (rfl : 1 + 2 = 3) (by decide) (Nat.le_of_ble_eq_true rfl) ?_
  show k_W _ _ _ _ _ _ _ _ [none, some (.ref 5), some (.ref 9), some (.int v3), some (.int (0 : Int32))] _
  refine k_mask [false, true, true, true, true] ?_
  exact sX11_copies_5_9_3 u C hr hR ea5 u a9 v3 (0 : Int32) h
set_option maxHeartbeats 400000 in
set_option maxRecDepth 100000 in
theorem c_X11_copies_5_9 (l : Launch) (u : Nat) (h : k_H) (hsh : h.1 = shM) {a5 : (Nat → Int32)} (ea5 : h.2.1 5 = a5) {a9 : (Nat → Int32)} (ea9 : h.2.1 9 = a9) {x2 : Int32} {out : (Nat → Int32)} (hf : f_X11_copies_5_9 u a5 a9 x2 = some out) : k_CT l yX11_copies cX11_copies 5 none 0 0 [.ref 0, .ref 5, .ref 9, .int x2] h none [(9, .inr (.inr (.inl out)))] := by
  obtain ⟨sh, I, L, Rf⟩ := h
  try dsimp only
  obtain rfl : sh = shM := hsh
  refine k_ofW (by decide) (Nat.le_of_ble_eq_true rfl) ?_
  intro X ad hl hR0 hr C
  have hR : X.R.frames = 0 ∧ X.R.locals = 0 := by rw [hR0]; exact ⟨rfl, rfl⟩
  have h := hf
  unfold f_X11_copies_5_9 at h
  refine k_start (us := [(9, .inr (.inr (.inl a9)))]) (k_ao_A ea9 k_ap_0) ?_
  show k_W X 5 0 0 _ ad (k_ap [(9, .inr (.inr (.inl a9)))] (shM, I, L, Rf)) 0 [some (.ref 0), some (.ref 5), some (.ref 9), some (.int x2), none] []
  refine k_mask [false, true, true, true, false] ?_
  exact sX11_copies_5_9_0 u C hr hR ea5 a9 x2 h
/-! LullabyPitModel.copies([I[II)V -/
theorem ds_X11_copies_6_10 : k_ds [(10, 2, 0)] = true := by decide +kernel
set_option maxHeartbeats 400000 in
set_option maxRecDepth 100000 in
theorem sX11_copies_6_10_3 (u : Nat) {X : k_X} {ad : Nat → Nat} (C : k_C X cX11_copies RX11 5 ad) (hr : X.meth.sig.returnType = none) (hR : X.R.frames = 0 ∧ X.R.locals = 0) {I : Nat → Nat → Int32} {L : Nat → Nat → Int64} {Rf : Nat → Nat → Option Nat} {a6 : (Nat → Int32)} (ea6 : I 6 = a6) {out : (Nat → Int32)} : ∀ (n : Nat) (a10 : (Nat → Int32)) (v3 : Int32) (v4 : Int32), bX11_copies_6_10_3 u a6 n a10 v3 v4 = some out → k_W X 5 0 0 (k_Q X ad none (k_ap [(10, .inr (.inr (.inl out)))] (shM, I, L, Rf))) ad (k_ap [(10, .inr (.inr (.inl a10)))] (shM, I, L, Rf)) 3 [none, some (.ref 6), some (.ref 10), some (.int v3), some (.int v4)] [] := by
  intro n
  induction n with
  | zero => intro a10 v3 v4 h; cases h
  | succ n ih =>
    intro a10 v3 v4 h
    refine r_iload C dX11_copies_3 (rfl : 3 + 2 = 5) rfl ?_
    refine r_iload_n C dX11_copies_5 (rfl : 5 + 1 = 6) rfl ?_
    refine r_icmp_ge (tgt := 23) C dX11_copies_6 (by decide) (rfl : 6 + 3 = 9) (fun c6 => ?_) (fun c6 => ?_)
    · have h := k_t c6 h
      cases h
      exact r_vret C hr dX11_copies_23
    · have h := k_f c6 h
      refine r_aload_n C dX11_copies_9 (rfl : 9 + 1 = 10) rfl ?_
      refine r_iload C dX11_copies_10 (rfl : 10 + 2 = 12) rfl ?_
      refine r_aload_n C dX11_copies_12 (rfl : 12 + 1 = 13) rfl ?_
      refine r_iload C dX11_copies_13 (rfl : 13 + 2 = 15) rfl ?_
      obtain ⟨hi15, h⟩ := k_i_of h
      refine a_i (j := (v4).toNatClampNeg) (f := a6) C dX11_copies_15 (rfl : 15 + 1 = 16) rfl ea6 hi15 rfl ?_
      obtain ⟨hi16, h⟩ := k_i_of h
      refine s_i (j := (v4).toNatClampNeg) (f := a10) (us' := [(10, .inr (.inr (.inl (upd a10 ((v4).toNatClampNeg) (a6 ((v4).toNatClampNeg))))))]) C dX11_copies_16 (rfl : 16 + 1 = 17) rfl rfl hi16 rfl ds_X11_copies_6_10 rfl rfl rfl ?_
      refine r_iinc (v := (v4 + (1 : Int32))) C dX11_copies_17 (rfl : 17 + 3 = 20) rfl rfl (by decide) ?_
      show k_W _ _ _ _ _ _ _ _ [none, some (.ref 6), some (.ref 10), some (.int v3), some (.int (v4 + (1 : Int32)))] _
      refine r_goto (tgt := 3) C dX11_copies_20 (by decide) ?_
      refine k_mask [false, true, true, true, true] ?_
      exact ih (upd a10 ((v4).toNatClampNeg) (a6 ((v4).toNatClampNeg))) v3 (v4 + (1 : Int32)) h
set_option maxHeartbeats 400000 in
set_option maxRecDepth 100000 in
theorem sX11_copies_6_10_0 (u : Nat) {X : k_X} {ad : Nat → Nat} (C : k_C X cX11_copies RX11 5 ad) (hr : X.meth.sig.returnType = none) (hR : X.R.frames = 0 ∧ X.R.locals = 0) {I : Nat → Nat → Int32} {L : Nat → Nat → Int64} {Rf : Nat → Nat → Option Nat} {a6 : (Nat → Int32)} (ea6 : I 6 = a6) {out : (Nat → Int32)} : ∀ (a10 : (Nat → Int32)) (v3 : Int32), bX11_copies_6_10_0 u a6 a10 v3 = some out → k_W X 5 0 0 (k_Q X ad none (k_ap [(10, .inr (.inr (.inl out)))] (shM, I, L, Rf))) ad (k_ap [(10, .inr (.inr (.inl a10)))] (shM, I, L, Rf)) 0 [none, some (.ref 6), some (.ref 10), some (.int v3), none] [] := by
  intro a10 v3 h
  unfold bX11_copies_6_10_0 at h
  refine r_iconst (v := (0 : Int32)) C dX11_copies_0 (rfl : 0 + 1 = 1) rfl ?_
  refine r_istore C dX11_copies_1 (rfl : 1 + 2 = 3) (by decide) (Nat.le_of_ble_eq_true rfl) ?_
  show k_W _ _ _ _ _ _ _ _ [none, some (.ref 6), some (.ref 10), some (.int v3), some (.int (0 : Int32))] _
  refine k_mask [false, true, true, true, true] ?_
  exact sX11_copies_6_10_3 u C hr hR ea6 u a10 v3 (0 : Int32) h
set_option maxHeartbeats 400000 in
set_option maxRecDepth 100000 in
theorem c_X11_copies_6_10 (l : Launch) (u : Nat) (h : k_H) (hsh : h.1 = shM) {a6 : (Nat → Int32)} (ea6 : h.2.1 6 = a6) {a10 : (Nat → Int32)} (ea10 : h.2.1 10 = a10) {x2 : Int32} {out : (Nat → Int32)} (hf : f_X11_copies_6_10 u a6 a10 x2 = some out) : k_CT l yX11_copies cX11_copies 5 none 0 0 [.ref 0, .ref 6, .ref 10, .int x2] h none [(10, .inr (.inr (.inl out)))] := by
  obtain ⟨sh, I, L, Rf⟩ := h
  try dsimp only
  obtain rfl : sh = shM := hsh
  refine k_ofW (by decide) (Nat.le_of_ble_eq_true rfl) ?_
  intro X ad hl hR0 hr C
  have hR : X.R.frames = 0 ∧ X.R.locals = 0 := by rw [hR0]; exact ⟨rfl, rfl⟩
  have h := hf
  unfold f_X11_copies_6_10 at h
  refine k_start (us := [(10, .inr (.inr (.inl a10)))]) (k_ao_A ea10 k_ap_0) ?_
  show k_W X 5 0 0 _ ad (k_ap [(10, .inr (.inr (.inl a10)))] (shM, I, L, Rf)) 0 [some (.ref 0), some (.ref 6), some (.ref 10), some (.int x2), none] []
  refine k_mask [false, true, true, true, false] ?_
  exact sX11_copies_6_10_0 u C hr hR ea6 a10 x2 h
/-! LullabyPitModel.sets()I -/
theorem ds_X11_sets : k_ds [(0, 0, 25), (0, 0, 26), (0, 0, 27), (0, 0, 28), (0, 0, 29), (0, 0, 30), (0, 0, 42), (0, 0, 43), (0, 0, 54), (0, 0, 65), (7, 2, 0), (8, 2, 0), (9, 2, 0), (10, 2, 0), (15, 2, 0), (20, 2, 0)] = true := by decide +kernel
set_option maxHeartbeats 1000000 in
set_option maxRecDepth 100000 in
theorem sX11_sets_192 (u : Nat) {X : k_X} {ad : Nat → Nat} (C : k_C X cX11_sets RX11 3 ad) (hr : X.meth.sig.returnType = (some .int)) (hR : X.R.frames = 1 ∧ X.R.locals = 24) {I : Nat → Nat → Int32} {L : Nat → Nat → Int64} {Rf : Nat → Nat → Option Nat} {c0_18 : Int32} (ec0_18 : I 0 18 = c0_18) {c0_19 : Int32} (ec0_19 : I 0 19 = c0_19) {c0_20 : Int32} (ec0_20 : I 0 20 = c0_20) {c0_22 : Int32} (ec0_22 : I 0 22 = c0_22) {c0_23 : Int32} (ec0_23 : I 0 23 = c0_23) {c0_24 : Int32} (ec0_24 : I 0 24 = c0_24) {a3 : (Nat → Int32)} (ea3 : I 3 = a3) {a4 : (Nat → Int32)} (ea4 : I 4 = a4) {a5 : (Nat → Int32)} (ea5 : I 5 = a5) {a6 : (Nat → Int32)} (ea6 : I 6 = a6) {out : Int32 × Int32 × Int32 × Int32 × Int32 × Int32 × Int32 × Int32 × Int32 × Int32 × Int32 × (Nat → Int32) × (Nat → Int32) × (Nat → Int32) × (Nat → Int32) × (Nat → Int32) × (Nat → Int32)} : ∀ (n : Nat) (c0_25 : Int32) (c0_26 : Int32) (c0_27 : Int32) (c0_28 : Int32) (c0_29 : Int32) (c0_30 : Int32) (c0_42 : Int32) (c0_43 : Int32) (c0_54 : Int32) (c0_65 : Int32) (a7 : (Nat → Int32)) (a8 : (Nat → Int32)) (a9 : (Nat → Int32)) (a10 : (Nat → Int32)) (a15 : (Nat → Int32)) (a20 : (Nat → Int32)) (v1 : Int32) (v2 : Int32), bX11_sets_192 u c0_18 c0_19 c0_20 c0_22 c0_23 c0_24 a3 a4 a5 a6 n c0_25 c0_26 c0_27 c0_28 c0_29 c0_30 c0_42 c0_43 c0_54 c0_65 a7 a8 a9 a10 a15 a20 v1 v2 = some out → k_W X 3 0 0 (k_Q X ad (some (.int out.1)) (k_ap [(0, .inl (25, out.2.1)), (0, .inl (26, out.2.2.1)), (0, .inl (27, out.2.2.2.1)), (0, .inl (28, out.2.2.2.2.1)), (0, .inl (29, out.2.2.2.2.2.1)), (0, .inl (30, out.2.2.2.2.2.2.1)), (0, .inl (42, out.2.2.2.2.2.2.2.1)), (0, .inl (43, out.2.2.2.2.2.2.2.2.1)), (0, .inl (54, out.2.2.2.2.2.2.2.2.2.1)), (0, .inl (65, out.2.2.2.2.2.2.2.2.2.2.1)), (7, .inr (.inr (.inl out.2.2.2.2.2.2.2.2.2.2.2.1))), (8, .inr (.inr (.inl out.2.2.2.2.2.2.2.2.2.2.2.2.1))), (9, .inr (.inr (.inl out.2.2.2.2.2.2.2.2.2.2.2.2.2.1))), (10, .inr (.inr (.inl out.2.2.2.2.2.2.2.2.2.2.2.2.2.2.1))), (15, .inr (.inr (.inl out.2.2.2.2.2.2.2.2.2.2.2.2.2.2.2.1))), (20, .inr (.inr (.inl out.2.2.2.2.2.2.2.2.2.2.2.2.2.2.2.2)))] (shM, I, L, Rf))) ad (k_ap [(0, .inl (25, c0_25)), (0, .inl (26, c0_26)), (0, .inl (27, c0_27)), (0, .inl (28, c0_28)), (0, .inl (29, c0_29)), (0, .inl (30, c0_30)), (0, .inl (42, c0_42)), (0, .inl (43, c0_43)), (0, .inl (54, c0_54)), (0, .inl (65, c0_65)), (7, .inr (.inr (.inl a7))), (8, .inr (.inr (.inl a8))), (9, .inr (.inr (.inl a9))), (10, .inr (.inr (.inl a10))), (15, .inr (.inr (.inl a15))), (20, .inr (.inr (.inl a20)))] (shM, I, L, Rf)) 192 [some (.ref 0), some (.int v1), some (.int v2)] [] := by
  intro n
  induction n with
  | zero => intro c0_25 c0_26 c0_27 c0_28 c0_29 c0_30 c0_42 c0_43 c0_54 c0_65 a7 a8 a9 a10 a15 a20 v1 v2 h; cases h
  | succ n ih =>
    intro c0_25 c0_26 c0_27 c0_28 c0_29 c0_30 c0_42 c0_43 c0_54 c0_65 a7 a8 a9 a10 a15 a20 v1 v2 h
    refine r_iload_n C dX11_sets_192 (rfl : 192 + 1 = 193) rfl ?_
    refine r_bipush (v := (48 : Int32)) C dX11_sets_193 (rfl : 193 + 2 = 195) rfl ?_
    refine r_icmp_ge (tgt := 213) C dX11_sets_195 (by decide) (rfl : 195 + 3 = 198) (fun c195 => ?_) (fun c195 => ?_)
    · have h := k_t c195 h
      refine r_iload_n C dX11_sets_213 (rfl : 213 + 1 = 214) rfl ?_
      cases h
      exact r_iret C hr dX11_sets_214
    · have h := k_f c195 h
      refine r_iload_n C dX11_sets_198 (rfl : 198 + 1 = 199) rfl ?_
      refine r_aload_n C dX11_sets_199 (rfl : 199 + 1 = 200) rfl ?_
      refine r_getR (q := 8) C dX11_sets_200 (rfl : 200 + 3 = 203) fl_X11_38 (k_gS rfl) rfl ?_
      refine r_iload_n C dX11_sets_203 (rfl : 203 + 1 = 204) rfl ?_
      obtain ⟨hi204, h⟩ := k_i_of h
      refine a_i (j := (v2).toNatClampNeg) (f := a8) C dX11_sets_204 (rfl : 204 + 1 = 205) (k_gS rfl) (k_gA ds_X11_sets rfl 11 rfl) hi204 rfl ?_
      refine r_iadd C dX11_sets_205 (rfl : 205 + 1 = 206) ?_
      refine r_istore_n C dX11_sets_206 (rfl : 206 + 1 = 207) (by decide) (Nat.le_of_ble_eq_true rfl) ?_
      show k_W _ _ _ _ _ _ _ _ [some (.ref 0), some (.int (v1 + (a8 ((v2).toNatClampNeg)))), some (.int v2)] _
      refine r_iinc (v := (v2 + (1 : Int32))) C dX11_sets_207 (rfl : 207 + 3 = 210) rfl rfl (by decide) ?_
      show k_W _ _ _ _ _ _ _ _ [some (.ref 0), some (.int (v1 + (a8 ((v2).toNatClampNeg)))), some (.int (v2 + (1 : Int32)))] _
      refine r_goto (tgt := 192) C dX11_sets_210 (by decide) ?_
      refine k_mask [true, true, true] ?_
      exact ih c0_25 c0_26 c0_27 c0_28 c0_29 c0_30 c0_42 c0_43 c0_54 c0_65 a7 a8 a9 a10 a15 a20 (v1 + (a8 ((v2).toNatClampNeg))) (v2 + (1 : Int32)) h
set_option maxHeartbeats 1000000 in
set_option maxRecDepth 100000 in
theorem sX11_sets_139 (u : Nat) {X : k_X} {ad : Nat → Nat} (C : k_C X cX11_sets RX11 3 ad) (hr : X.meth.sig.returnType = (some .int)) (hR : X.R.frames = 1 ∧ X.R.locals = 24) {I : Nat → Nat → Int32} {L : Nat → Nat → Int64} {Rf : Nat → Nat → Option Nat} {c0_18 : Int32} (ec0_18 : I 0 18 = c0_18) {c0_19 : Int32} (ec0_19 : I 0 19 = c0_19) {c0_20 : Int32} (ec0_20 : I 0 20 = c0_20) {c0_22 : Int32} (ec0_22 : I 0 22 = c0_22) {c0_23 : Int32} (ec0_23 : I 0 23 = c0_23) {c0_24 : Int32} (ec0_24 : I 0 24 = c0_24) {a3 : (Nat → Int32)} (ea3 : I 3 = a3) {a4 : (Nat → Int32)} (ea4 : I 4 = a4) {a5 : (Nat → Int32)} (ea5 : I 5 = a5) {a6 : (Nat → Int32)} (ea6 : I 6 = a6) {out : Int32 × Int32 × Int32 × Int32 × Int32 × Int32 × Int32 × Int32 × Int32 × Int32 × Int32 × (Nat → Int32) × (Nat → Int32) × (Nat → Int32) × (Nat → Int32) × (Nat → Int32) × (Nat → Int32)} : ∀ (n : Nat) (c0_25 : Int32) (c0_26 : Int32) (c0_27 : Int32) (c0_28 : Int32) (c0_29 : Int32) (c0_30 : Int32) (c0_42 : Int32) (c0_43 : Int32) (c0_54 : Int32) (c0_65 : Int32) (a7 : (Nat → Int32)) (a8 : (Nat → Int32)) (a9 : (Nat → Int32)) (a10 : (Nat → Int32)) (a15 : (Nat → Int32)) (a20 : (Nat → Int32)) (v1 : Int32), bX11_sets_139 u c0_18 c0_19 c0_20 c0_22 c0_23 c0_24 a3 a4 a5 a6 n c0_25 c0_26 c0_27 c0_28 c0_29 c0_30 c0_42 c0_43 c0_54 c0_65 a7 a8 a9 a10 a15 a20 v1 = some out → k_W X 3 0 0 (k_Q X ad (some (.int out.1)) (k_ap [(0, .inl (25, out.2.1)), (0, .inl (26, out.2.2.1)), (0, .inl (27, out.2.2.2.1)), (0, .inl (28, out.2.2.2.2.1)), (0, .inl (29, out.2.2.2.2.2.1)), (0, .inl (30, out.2.2.2.2.2.2.1)), (0, .inl (42, out.2.2.2.2.2.2.2.1)), (0, .inl (43, out.2.2.2.2.2.2.2.2.1)), (0, .inl (54, out.2.2.2.2.2.2.2.2.2.1)), (0, .inl (65, out.2.2.2.2.2.2.2.2.2.2.1)), (7, .inr (.inr (.inl out.2.2.2.2.2.2.2.2.2.2.2.1))), (8, .inr (.inr (.inl out.2.2.2.2.2.2.2.2.2.2.2.2.1))), (9, .inr (.inr (.inl out.2.2.2.2.2.2.2.2.2.2.2.2.2.1))), (10, .inr (.inr (.inl out.2.2.2.2.2.2.2.2.2.2.2.2.2.2.1))), (15, .inr (.inr (.inl out.2.2.2.2.2.2.2.2.2.2.2.2.2.2.2.1))), (20, .inr (.inr (.inl out.2.2.2.2.2.2.2.2.2.2.2.2.2.2.2.2)))] (shM, I, L, Rf))) ad (k_ap [(0, .inl (25, c0_25)), (0, .inl (26, c0_26)), (0, .inl (27, c0_27)), (0, .inl (28, c0_28)), (0, .inl (29, c0_29)), (0, .inl (30, c0_30)), (0, .inl (42, c0_42)), (0, .inl (43, c0_43)), (0, .inl (54, c0_54)), (0, .inl (65, c0_65)), (7, .inr (.inr (.inl a7))), (8, .inr (.inr (.inl a8))), (9, .inr (.inr (.inl a9))), (10, .inr (.inr (.inl a10))), (15, .inr (.inr (.inl a15))), (20, .inr (.inr (.inl a20)))] (shM, I, L, Rf)) 139 [some (.ref 0), some (.int v1), none] [] := by
  intro n
  induction n with
  | zero => intro c0_25 c0_26 c0_27 c0_28 c0_29 c0_30 c0_42 c0_43 c0_54 c0_65 a7 a8 a9 a10 a15 a20 v1 h; cases h
  | succ n ih =>
    intro c0_25 c0_26 c0_27 c0_28 c0_29 c0_30 c0_42 c0_43 c0_54 c0_65 a7 a8 a9 a10 a15 a20 v1 h
    refine r_iload_n C dX11_sets_139 (rfl : 139 + 1 = 140) rfl ?_
    refine r_bipush (v := (77 : Int32)) C dX11_sets_140 (rfl : 140 + 2 = 142) rfl ?_
    refine r_icmp_ge (tgt := 158) C dX11_sets_142 (by decide) (rfl : 142 + 3 = 145) (fun c142 => ?_) (fun c142 => ?_)
    · have h := k_t c142 h
      refine r_aload_n C dX11_sets_158 (rfl : 158 + 1 = 159) rfl ?_
      refine r_getR (q := 20) C dX11_sets_159 (rfl : 159 + 3 = 162) fl_X11_74 (k_gS rfl) rfl ?_
      refine r_bipush (v := (69 : Int32)) C dX11_sets_162 (rfl : 162 + 2 = 164) rfl ?_
      refine r_iconst (v := (1 : Int32)) C dX11_sets_164 (rfl : 164 + 1 = 165) rfl ?_
      refine s_i (j := 69) (f := a20) (us' := [(0, .inl (25, c0_25)), (0, .inl (26, c0_26)), (0, .inl (27, c0_27)), (0, .inl (28, c0_28)), (0, .inl (29, c0_29)), (0, .inl (30, c0_30)), (0, .inl (42, c0_42)), (0, .inl (43, c0_43)), (0, .inl (54, c0_54)), (0, .inl (65, c0_65)), (7, .inr (.inr (.inl a7))), (8, .inr (.inr (.inl a8))), (9, .inr (.inr (.inl a9))), (10, .inr (.inr (.inl a10))), (15, .inr (.inr (.inl a15))), (20, .inr (.inr (.inl (upd a20 69 (1 : Int32)))))]) C dX11_sets_165 (rfl : 165 + 1 = 166) rfl (k_gA ds_X11_sets rfl 15 rfl) (show ¬ ((69 : Int32) < 0 ∨ 77 ≤ ((69 : Int32)).toNatClampNeg) by decide) rfl ds_X11_sets rfl rfl rfl ?_
      refine r_aload_n C dX11_sets_166 (rfl : 166 + 1 = 167) rfl ?_
      refine r_getR (q := 20) C dX11_sets_167 (rfl : 167 + 3 = 170) fl_X11_74 (k_gS rfl) rfl ?_
      refine r_bipush (v := (71 : Int32)) C dX11_sets_170 (rfl : 170 + 2 = 172) rfl ?_
      refine r_aload_n C dX11_sets_172 (rfl : 172 + 1 = 173) rfl ?_
      refine r_getI (v := c0_29) C dX11_sets_173 (rfl : 173 + 3 = 176) fl_X11_196 (k_gS rfl) rfl (k_gI ds_X11_sets rfl 4 rfl) ?_
      refine s_i (j := 71) (f := (upd a20 69 (1 : Int32))) (us' := [(0, .inl (25, c0_25)), (0, .inl (26, c0_26)), (0, .inl (27, c0_27)), (0, .inl (28, c0_28)), (0, .inl (29, c0_29)), (0, .inl (30, c0_30)), (0, .inl (42, c0_42)), (0, .inl (43, c0_43)), (0, .inl (54, c0_54)), (0, .inl (65, c0_65)), (7, .inr (.inr (.inl a7))), (8, .inr (.inr (.inl a8))), (9, .inr (.inr (.inl a9))), (10, .inr (.inr (.inl a10))), (15, .inr (.inr (.inl a15))), (20, .inr (.inr (.inl (upd (upd a20 69 (1 : Int32)) 71 c0_29))))]) C dX11_sets_176 (rfl : 176 + 1 = 177) rfl (k_gA ds_X11_sets rfl 15 rfl) (show ¬ ((71 : Int32) < 0 ∨ 77 ≤ ((71 : Int32)).toNatClampNeg) by decide) rfl ds_X11_sets rfl rfl rfl ?_
      refine r_aload_n C dX11_sets_177 (rfl : 177 + 1 = 178) rfl ?_
      refine r_getR (q := 20) C dX11_sets_178 (rfl : 178 + 3 = 181) fl_X11_74 (k_gS rfl) rfl ?_
      refine r_bipush (v := (74 : Int32)) C dX11_sets_181 (rfl : 181 + 2 = 183) rfl ?_
      refine r_aload_n C dX11_sets_183 (rfl : 183 + 1 = 184) rfl ?_
      refine r_getI (v := c0_26) C dX11_sets_184 (rfl : 184 + 3 = 187) fl_X11_187 (k_gS rfl) rfl (k_gI ds_X11_sets rfl 1 rfl) ?_
      refine s_i (j := 74) (f := (upd (upd a20 69 (1 : Int32)) 71 c0_29)) (us' := [(0, .inl (25, c0_25)), (0, .inl (26, c0_26)), (0, .inl (27, c0_27)), (0, .inl (28, c0_28)), (0, .inl (29, c0_29)), (0, .inl (30, c0_30)), (0, .inl (42, c0_42)), (0, .inl (43, c0_43)), (0, .inl (54, c0_54)), (0, .inl (65, c0_65)), (7, .inr (.inr (.inl a7))), (8, .inr (.inr (.inl a8))), (9, .inr (.inr (.inl a9))), (10, .inr (.inr (.inl a10))), (15, .inr (.inr (.inl a15))), (20, .inr (.inr (.inl (upd (upd (upd a20 69 (1 : Int32)) 71 c0_29) 74 c0_26))))]) C dX11_sets_187 (rfl : 187 + 1 = 188) rfl (k_gA ds_X11_sets rfl 15 rfl) (show ¬ ((74 : Int32) < 0 ∨ 77 ≤ ((74 : Int32)).toNatClampNeg) by decide) rfl ds_X11_sets rfl rfl rfl ?_
      refine r_iconst (v := (0 : Int32)) C dX11_sets_188 (rfl : 188 + 1 = 189) rfl ?_
      refine r_istore_n C dX11_sets_189 (rfl : 189 + 1 = 190) (by decide) (Nat.le_of_ble_eq_true rfl) ?_
      show k_W _ _ _ _ _ _ _ _ [some (.ref 0), some (.int (0 : Int32)), none] _
      refine r_iconst (v := (0 : Int32)) C dX11_sets_190 (rfl : 190 + 1 = 191) rfl ?_
      refine r_istore_n C dX11_sets_191 (rfl : 191 + 1 = 192) (by decide) (Nat.le_of_ble_eq_true rfl) ?_
      show k_W _ _ _ _ _ _ _ _ [some (.ref 0), some (.int (0 : Int32)), some (.int (0 : Int32))] _
      refine k_mask [true, true, true] ?_
      exact sX11_sets_192 u C hr hR ec0_18 ec0_19 ec0_20 ec0_22 ec0_23 ec0_24 ea3 ea4 ea5 ea6 u c0_25 c0_26 c0_27 c0_28 c0_29 c0_30 c0_42 c0_43 c0_54 c0_65 a7 a8 a9 a10 a15 (upd (upd (upd a20 69 (1 : Int32)) 71 c0_29) 74 c0_26) (0 : Int32) (0 : Int32) h
    · have h := k_f c142 h
      refine r_aload_n C dX11_sets_145 (rfl : 145 + 1 = 146) rfl ?_
      refine r_getR (q := 20) C dX11_sets_146 (rfl : 146 + 3 = 149) fl_X11_74 (k_gS rfl) rfl ?_
      refine r_iload_n C dX11_sets_149 (rfl : 149 + 1 = 150) rfl ?_
      refine r_iconst (v := (0 : Int32)) C dX11_sets_150 (rfl : 150 + 1 = 151) rfl ?_
      obtain ⟨hi151, h⟩ := k_i_of h
      refine s_i (j := (v1).toNatClampNeg) (f := a20) (us' := [(0, .inl (25, c0_25)), (0, .inl (26, c0_26)), (0, .inl (27, c0_27)), (0, .inl (28, c0_28)), (0, .inl (29, c0_29)), (0, .inl (30, c0_30)), (0, .inl (42, c0_42)), (0, .inl (43, c0_43)), (0, .inl (54, c0_54)), (0, .inl (65, c0_65)), (7, .inr (.inr (.inl a7))), (8, .inr (.inr (.inl a8))), (9, .inr (.inr (.inl a9))), (10, .inr (.inr (.inl a10))), (15, .inr (.inr (.inl a15))), (20, .inr (.inr (.inl (upd a20 ((v1).toNatClampNeg) (0 : Int32)))))]) C dX11_sets_151 (rfl : 151 + 1 = 152) rfl (k_gA ds_X11_sets rfl 15 rfl) hi151 rfl ds_X11_sets rfl rfl rfl ?_
      refine r_iinc (v := (v1 + (1 : Int32))) C dX11_sets_152 (rfl : 152 + 3 = 155) rfl rfl (by decide) ?_
      show k_W _ _ _ _ _ _ _ _ [some (.ref 0), some (.int (v1 + (1 : Int32))), none] _
      refine r_goto (tgt := 139) C dX11_sets_155 (by decide) ?_
      refine k_mask [true, true, false] ?_
      exact ih c0_25 c0_26 c0_27 c0_28 c0_29 c0_30 c0_42 c0_43 c0_54 c0_65 a7 a8 a9 a10 a15 (upd a20 ((v1).toNatClampNeg) (0 : Int32)) (v1 + (1 : Int32)) h
set_option maxHeartbeats 1000000 in
set_option maxRecDepth 100000 in
theorem sX11_sets_0 (u : Nat) {X : k_X} {ad : Nat → Nat} (C : k_C X cX11_sets RX11 3 ad) (hr : X.meth.sig.returnType = (some .int)) (hR : X.R.frames = 1 ∧ X.R.locals = 24) {I : Nat → Nat → Int32} {L : Nat → Nat → Int64} {Rf : Nat → Nat → Option Nat} {c0_18 : Int32} (ec0_18 : I 0 18 = c0_18) {c0_19 : Int32} (ec0_19 : I 0 19 = c0_19) {c0_20 : Int32} (ec0_20 : I 0 20 = c0_20) {c0_22 : Int32} (ec0_22 : I 0 22 = c0_22) {c0_23 : Int32} (ec0_23 : I 0 23 = c0_23) {c0_24 : Int32} (ec0_24 : I 0 24 = c0_24) {a3 : (Nat → Int32)} (ea3 : I 3 = a3) {a4 : (Nat → Int32)} (ea4 : I 4 = a4) {a5 : (Nat → Int32)} (ea5 : I 5 = a5) {a6 : (Nat → Int32)} (ea6 : I 6 = a6) {out : Int32 × Int32 × Int32 × Int32 × Int32 × Int32 × Int32 × Int32 × Int32 × Int32 × Int32 × (Nat → Int32) × (Nat → Int32) × (Nat → Int32) × (Nat → Int32) × (Nat → Int32) × (Nat → Int32)} : ∀ (c0_25 : Int32) (c0_26 : Int32) (c0_27 : Int32) (c0_28 : Int32) (c0_29 : Int32) (c0_30 : Int32) (c0_42 : Int32) (c0_43 : Int32) (c0_54 : Int32) (c0_65 : Int32) (a7 : (Nat → Int32)) (a8 : (Nat → Int32)) (a9 : (Nat → Int32)) (a10 : (Nat → Int32)) (a15 : (Nat → Int32)) (a20 : (Nat → Int32)), bX11_sets_0 u c0_18 c0_19 c0_20 c0_22 c0_23 c0_24 a3 a4 a5 a6 c0_25 c0_26 c0_27 c0_28 c0_29 c0_30 c0_42 c0_43 c0_54 c0_65 a7 a8 a9 a10 a15 a20 = some out → k_W X 3 0 0 (k_Q X ad (some (.int out.1)) (k_ap [(0, .inl (25, out.2.1)), (0, .inl (26, out.2.2.1)), (0, .inl (27, out.2.2.2.1)), (0, .inl (28, out.2.2.2.2.1)), (0, .inl (29, out.2.2.2.2.2.1)), (0, .inl (30, out.2.2.2.2.2.2.1)), (0, .inl (42, out.2.2.2.2.2.2.2.1)), (0, .inl (43, out.2.2.2.2.2.2.2.2.1)), (0, .inl (54, out.2.2.2.2.2.2.2.2.2.1)), (0, .inl (65, out.2.2.2.2.2.2.2.2.2.2.1)), (7, .inr (.inr (.inl out.2.2.2.2.2.2.2.2.2.2.2.1))), (8, .inr (.inr (.inl out.2.2.2.2.2.2.2.2.2.2.2.2.1))), (9, .inr (.inr (.inl out.2.2.2.2.2.2.2.2.2.2.2.2.2.1))), (10, .inr (.inr (.inl out.2.2.2.2.2.2.2.2.2.2.2.2.2.2.1))), (15, .inr (.inr (.inl out.2.2.2.2.2.2.2.2.2.2.2.2.2.2.2.1))), (20, .inr (.inr (.inl out.2.2.2.2.2.2.2.2.2.2.2.2.2.2.2.2)))] (shM, I, L, Rf))) ad (k_ap [(0, .inl (25, c0_25)), (0, .inl (26, c0_26)), (0, .inl (27, c0_27)), (0, .inl (28, c0_28)), (0, .inl (29, c0_29)), (0, .inl (30, c0_30)), (0, .inl (42, c0_42)), (0, .inl (43, c0_43)), (0, .inl (54, c0_54)), (0, .inl (65, c0_65)), (7, .inr (.inr (.inl a7))), (8, .inr (.inr (.inl a8))), (9, .inr (.inr (.inl a9))), (10, .inr (.inr (.inl a10))), (15, .inr (.inr (.inl a15))), (20, .inr (.inr (.inl a20)))] (shM, I, L, Rf)) 0 [some (.ref 0), none, none] [] := by
  intro c0_25 c0_26 c0_27 c0_28 c0_29 c0_30 c0_42 c0_43 c0_54 c0_65 a7 a8 a9 a10 a15 a20 h
  unfold bX11_sets_0 at h
  refine r_aload_n C dX11_sets_0 (rfl : 0 + 1 = 1) rfl ?_
  refine r_aload_n C dX11_sets_1 (rfl : 1 + 1 = 2) rfl ?_
  refine r_getI (v := c0_18) C dX11_sets_2 (rfl : 2 + 3 = 5) fl_X11_163 (k_gS rfl) rfl (k_gOI (ks := [(0, 0, 25), (0, 0, 26), (0, 0, 27), (0, 0, 28), (0, 0, 29), (0, 0, 30), (0, 0, 42), (0, 0, 43), (0, 0, 54), (0, 0, 65), (7, 2, 0), (8, 2, 0), (9, 2, 0), (10, 2, 0), (15, 2, 0), (20, 2, 0)]) rfl (by decide +kernel) ec0_18) ?_
  refine p_I (us' := [(0, .inl (25, c0_18)), (0, .inl (26, c0_26)), (0, .inl (27, c0_27)), (0, .inl (28, c0_28)), (0, .inl (29, c0_29)), (0, .inl (30, c0_30)), (0, .inl (42, c0_42)), (0, .inl (43, c0_43)), (0, .inl (54, c0_54)), (0, .inl (65, c0_65)), (7, .inr (.inr (.inl a7))), (8, .inr (.inr (.inl a8))), (9, .inr (.inr (.inl a9))), (10, .inr (.inr (.inl a10))), (15, .inr (.inr (.inl a15))), (20, .inr (.inr (.inl a20)))]) C dX11_sets_5 (rfl : 5 + 3 = 8) fp_X11_184 rfl rfl ds_X11_sets rfl rfl rfl ?_
  refine r_aload_n C dX11_sets_8 (rfl : 8 + 1 = 9) rfl ?_
  refine r_aload_n C dX11_sets_9 (rfl : 9 + 1 = 10) rfl ?_
  refine r_getI (v := c0_19) C dX11_sets_10 (rfl : 10 + 3 = 13) fl_X11_166 (k_gS rfl) rfl (k_gOI (ks := [(0, 0, 25), (0, 0, 26), (0, 0, 27), (0, 0, 28), (0, 0, 29), (0, 0, 30), (0, 0, 42), (0, 0, 43), (0, 0, 54), (0, 0, 65), (7, 2, 0), (8, 2, 0), (9, 2, 0), (10, 2, 0), (15, 2, 0), (20, 2, 0)]) rfl (by decide +kernel) ec0_19) ?_
  refine p_I (us' := [(0, .inl (25, c0_18)), (0, .inl (26, c0_19)), (0, .inl (27, c0_27)), (0, .inl (28, c0_28)), (0, .inl (29, c0_29)), (0, .inl (30, c0_30)), (0, .inl (42, c0_42)), (0, .inl (43, c0_43)), (0, .inl (54, c0_54)), (0, .inl (65, c0_65)), (7, .inr (.inr (.inl a7))), (8, .inr (.inr (.inl a8))), (9, .inr (.inr (.inl a9))), (10, .inr (.inr (.inl a10))), (15, .inr (.inr (.inl a15))), (20, .inr (.inr (.inl a20)))]) C dX11_sets_13 (rfl : 13 + 3 = 16) fp_X11_187 rfl rfl ds_X11_sets rfl rfl rfl ?_
  refine r_aload_n C dX11_sets_16 (rfl : 16 + 1 = 17) rfl ?_
  refine r_aload_n C dX11_sets_17 (rfl : 17 + 1 = 18) rfl ?_
  refine r_getI (v := c0_20) C dX11_sets_18 (rfl : 18 + 3 = 21) fl_X11_169 (k_gS rfl) rfl (k_gOI (ks := [(0, 0, 25), (0, 0, 26), (0, 0, 27), (0, 0, 28), (0, 0, 29), (0, 0, 30), (0, 0, 42), (0, 0, 43), (0, 0, 54), (0, 0, 65), (7, 2, 0), (8, 2, 0), (9, 2, 0), (10, 2, 0), (15, 2, 0), (20, 2, 0)]) rfl (by decide +kernel) ec0_20) ?_
  refine p_I (us' := [(0, .inl (25, c0_18)), (0, .inl (26, c0_19)), (0, .inl (27, c0_20)), (0, .inl (28, c0_28)), (0, .inl (29, c0_29)), (0, .inl (30, c0_30)), (0, .inl (42, c0_42)), (0, .inl (43, c0_43)), (0, .inl (54, c0_54)), (0, .inl (65, c0_65)), (7, .inr (.inr (.inl a7))), (8, .inr (.inr (.inl a8))), (9, .inr (.inr (.inl a9))), (10, .inr (.inr (.inl a10))), (15, .inr (.inr (.inl a15))), (20, .inr (.inr (.inl a20)))]) C dX11_sets_21 (rfl : 21 + 3 = 24) fp_X11_190 rfl rfl ds_X11_sets rfl rfl rfl ?_
  refine r_aload_n C dX11_sets_24 (rfl : 24 + 1 = 25) rfl ?_
  refine r_aload_n C dX11_sets_25 (rfl : 25 + 1 = 26) rfl ?_
  refine r_getI (v := c0_22) C dX11_sets_26 (rfl : 26 + 3 = 29) fl_X11_175 (k_gS rfl) rfl (k_gOI (ks := [(0, 0, 25), (0, 0, 26), (0, 0, 27), (0, 0, 28), (0, 0, 29), (0, 0, 30), (0, 0, 42), (0, 0, 43), (0, 0, 54), (0, 0, 65), (7, 2, 0), (8, 2, 0), (9, 2, 0), (10, 2, 0), (15, 2, 0), (20, 2, 0)]) rfl (by decide +kernel) ec0_22) ?_
  refine p_I (us' := [(0, .inl (25, c0_18)), (0, .inl (26, c0_19)), (0, .inl (27, c0_20)), (0, .inl (28, c0_22)), (0, .inl (29, c0_29)), (0, .inl (30, c0_30)), (0, .inl (42, c0_42)), (0, .inl (43, c0_43)), (0, .inl (54, c0_54)), (0, .inl (65, c0_65)), (7, .inr (.inr (.inl a7))), (8, .inr (.inr (.inl a8))), (9, .inr (.inr (.inl a9))), (10, .inr (.inr (.inl a10))), (15, .inr (.inr (.inl a15))), (20, .inr (.inr (.inl a20)))]) C dX11_sets_29 (rfl : 29 + 3 = 32) fp_X11_193 rfl rfl ds_X11_sets rfl rfl rfl ?_
  refine r_aload_n C dX11_sets_32 (rfl : 32 + 1 = 33) rfl ?_
  refine r_aload_n C dX11_sets_33 (rfl : 33 + 1 = 34) rfl ?_
  refine r_getI (v := c0_23) C dX11_sets_34 (rfl : 34 + 3 = 37) fl_X11_178 (k_gS rfl) rfl (k_gOI (ks := [(0, 0, 25), (0, 0, 26), (0, 0, 27), (0, 0, 28), (0, 0, 29), (0, 0, 30), (0, 0, 42), (0, 0, 43), (0, 0, 54), (0, 0, 65), (7, 2, 0), (8, 2, 0), (9, 2, 0), (10, 2, 0), (15, 2, 0), (20, 2, 0)]) rfl (by decide +kernel) ec0_23) ?_
  refine p_I (us' := [(0, .inl (25, c0_18)), (0, .inl (26, c0_19)), (0, .inl (27, c0_20)), (0, .inl (28, c0_22)), (0, .inl (29, c0_23)), (0, .inl (30, c0_30)), (0, .inl (42, c0_42)), (0, .inl (43, c0_43)), (0, .inl (54, c0_54)), (0, .inl (65, c0_65)), (7, .inr (.inr (.inl a7))), (8, .inr (.inr (.inl a8))), (9, .inr (.inr (.inl a9))), (10, .inr (.inr (.inl a10))), (15, .inr (.inr (.inl a15))), (20, .inr (.inr (.inl a20)))]) C dX11_sets_37 (rfl : 37 + 3 = 40) fp_X11_196 rfl rfl ds_X11_sets rfl rfl rfl ?_
  refine r_aload_n C dX11_sets_40 (rfl : 40 + 1 = 41) rfl ?_
  refine r_aload_n C dX11_sets_41 (rfl : 41 + 1 = 42) rfl ?_
  refine r_getI (v := c0_24) C dX11_sets_42 (rfl : 42 + 3 = 45) fl_X11_181 (k_gS rfl) rfl (k_gOI (ks := [(0, 0, 25), (0, 0, 26), (0, 0, 27), (0, 0, 28), (0, 0, 29), (0, 0, 30), (0, 0, 42), (0, 0, 43), (0, 0, 54), (0, 0, 65), (7, 2, 0), (8, 2, 0), (9, 2, 0), (10, 2, 0), (15, 2, 0), (20, 2, 0)]) rfl (by decide +kernel) ec0_24) ?_
  refine p_I (us' := [(0, .inl (25, c0_18)), (0, .inl (26, c0_19)), (0, .inl (27, c0_20)), (0, .inl (28, c0_22)), (0, .inl (29, c0_23)), (0, .inl (30, c0_24)), (0, .inl (42, c0_42)), (0, .inl (43, c0_43)), (0, .inl (54, c0_54)), (0, .inl (65, c0_65)), (7, .inr (.inr (.inl a7))), (8, .inr (.inr (.inl a8))), (9, .inr (.inr (.inl a9))), (10, .inr (.inr (.inl a10))), (15, .inr (.inr (.inl a15))), (20, .inr (.inr (.inl a20)))]) C dX11_sets_45 (rfl : 45 + 3 = 48) fp_X11_199 rfl rfl ds_X11_sets rfl rfl rfl ?_
  refine r_aload_n C dX11_sets_48 (rfl : 48 + 1 = 49) rfl ?_
  refine r_aload_n C dX11_sets_49 (rfl : 49 + 1 = 50) rfl ?_
  refine r_getR (q := 3) C dX11_sets_50 (rfl : 50 + 3 = 53) fl_X11_23 (k_gS rfl) rfl ?_
  refine r_aload_n C dX11_sets_53 (rfl : 53 + 1 = 54) rfl ?_
  refine r_getR (q := 7) C dX11_sets_54 (rfl : 54 + 3 = 57) fl_X11_35 (k_gS rfl) rfl ?_
  refine r_bipush (v := (48 : Int32)) C dX11_sets_57 (rfl : 57 + 2 = 59) rfl ?_
  obtain ⟨r59, q59, h⟩ := k_b_of h
  refine d_V (As := [.ref 3, .ref 7, .int (48 : Int32)]) (st := []) (st' := []) (h' := k_ap [(0, .inl (25, c0_18)), (0, .inl (26, c0_19)), (0, .inl (27, c0_20)), (0, .inl (28, c0_22)), (0, .inl (29, c0_23)), (0, .inl (30, c0_24)), (0, .inl (42, c0_42)), (0, .inl (43, c0_43)), (0, .inl (54, c0_54)), (0, .inl (65, c0_65)), (7, .inr (.inr (.inl r59))), (8, .inr (.inr (.inl a8))), (9, .inr (.inr (.inl a9))), (10, .inr (.inr (.inl a10))), (15, .inr (.inr (.inl a15))), (20, .inr (.inr (.inl a20)))] (shM, I, L, Rf)) C hR ⟨Nat.zero_le _, Nat.zero_le _⟩ mv_X11_copies lk_X11_202 dX11_sets_59 (rfl : 59 + 3 = 62) rfl rfl (k_gS rfl) rfl (c_X11_copies_3_7 X.l u (k_ap [(0, .inl (25, c0_18)), (0, .inl (26, c0_19)), (0, .inl (27, c0_20)), (0, .inl (28, c0_22)), (0, .inl (29, c0_23)), (0, .inl (30, c0_24)), (0, .inl (42, c0_42)), (0, .inl (43, c0_43)), (0, .inl (54, c0_54)), (0, .inl (65, c0_65)), (7, .inr (.inr (.inl a7))), (8, .inr (.inr (.inl a8))), (9, .inr (.inr (.inl a9))), (10, .inr (.inr (.inl a10))), (15, .inr (.inr (.inl a15))), (20, .inr (.inr (.inl a20)))] (shM, I, L, Rf)) (k_gH rfl) (k_gOA (ks := [(0, 0, 25), (0, 0, 26), (0, 0, 27), (0, 0, 28), (0, 0, 29), (0, 0, 30), (0, 0, 42), (0, 0, 43), (0, 0, 54), (0, 0, 65), (7, 2, 0), (8, 2, 0), (9, 2, 0), (10, 2, 0), (15, 2, 0), (20, 2, 0)]) rfl (by decide +kernel) ea3) (k_gA ds_X11_sets rfl 10 rfl) q59) rfl rfl rfl (k_jn2 (us' := [(0, .inl (25, c0_18)), (0, .inl (26, c0_19)), (0, .inl (27, c0_20)), (0, .inl (28, c0_22)), (0, .inl (29, c0_23)), (0, .inl (30, c0_24)), (0, .inl (42, c0_42)), (0, .inl (43, c0_43)), (0, .inl (54, c0_54)), (0, .inl (65, c0_65)), (7, .inr (.inr (.inl r59))), (8, .inr (.inr (.inl a8))), (9, .inr (.inr (.inl a9))), (10, .inr (.inr (.inl a10))), (15, .inr (.inr (.inl a15))), (20, .inr (.inr (.inl a20)))]) (vks := [(7, 2, 0)]) (js := [10]) ds_X11_sets rfl rfl (by decide +kernel) rfl) rfl ?_
  refine r_aload_n C dX11_sets_62 (rfl : 62 + 1 = 63) rfl ?_
  refine r_aload_n C dX11_sets_63 (rfl : 63 + 1 = 64) rfl ?_
  refine r_getR (q := 4) C dX11_sets_64 (rfl : 64 + 3 = 67) fl_X11_26 (k_gS rfl) rfl ?_
  refine r_aload_n C dX11_sets_67 (rfl : 67 + 1 = 68) rfl ?_
  refine r_getR (q := 8) C dX11_sets_68 (rfl : 68 + 3 = 71) fl_X11_38 (k_gS rfl) rfl ?_
  refine r_bipush (v := (48 : Int32)) C dX11_sets_71 (rfl : 71 + 2 = 73) rfl ?_
  obtain ⟨r73, q73, h⟩ := k_b_of h
  refine d_V (As := [.ref 4, .ref 8, .int (48 : Int32)]) (st := []) (st' := []) (h' := k_ap [(0, .inl (25, c0_18)), (0, .inl (26, c0_19)), (0, .inl (27, c0_20)), (0, .inl (28, c0_22)), (0, .inl (29, c0_23)), (0, .inl (30, c0_24)), (0, .inl (42, c0_42)), (0, .inl (43, c0_43)), (0, .inl (54, c0_54)), (0, .inl (65, c0_65)), (7, .inr (.inr (.inl r59))), (8, .inr (.inr (.inl r73))), (9, .inr (.inr (.inl a9))), (10, .inr (.inr (.inl a10))), (15, .inr (.inr (.inl a15))), (20, .inr (.inr (.inl a20)))] (shM, I, L, Rf)) C hR ⟨Nat.zero_le _, Nat.zero_le _⟩ mv_X11_copies lk_X11_202 dX11_sets_73 (rfl : 73 + 3 = 76) rfl rfl (k_gS rfl) rfl (c_X11_copies_4_8 X.l u (k_ap [(0, .inl (25, c0_18)), (0, .inl (26, c0_19)), (0, .inl (27, c0_20)), (0, .inl (28, c0_22)), (0, .inl (29, c0_23)), (0, .inl (30, c0_24)), (0, .inl (42, c0_42)), (0, .inl (43, c0_43)), (0, .inl (54, c0_54)), (0, .inl (65, c0_65)), (7, .inr (.inr (.inl r59))), (8, .inr (.inr (.inl a8))), (9, .inr (.inr (.inl a9))), (10, .inr (.inr (.inl a10))), (15, .inr (.inr (.inl a15))), (20, .inr (.inr (.inl a20)))] (shM, I, L, Rf)) (k_gH rfl) (k_gOA (ks := [(0, 0, 25), (0, 0, 26), (0, 0, 27), (0, 0, 28), (0, 0, 29), (0, 0, 30), (0, 0, 42), (0, 0, 43), (0, 0, 54), (0, 0, 65), (7, 2, 0), (8, 2, 0), (9, 2, 0), (10, 2, 0), (15, 2, 0), (20, 2, 0)]) rfl (by decide +kernel) ea4) (k_gA ds_X11_sets rfl 11 rfl) q73) rfl rfl rfl (k_jn2 (us' := [(0, .inl (25, c0_18)), (0, .inl (26, c0_19)), (0, .inl (27, c0_20)), (0, .inl (28, c0_22)), (0, .inl (29, c0_23)), (0, .inl (30, c0_24)), (0, .inl (42, c0_42)), (0, .inl (43, c0_43)), (0, .inl (54, c0_54)), (0, .inl (65, c0_65)), (7, .inr (.inr (.inl r59))), (8, .inr (.inr (.inl r73))), (9, .inr (.inr (.inl a9))), (10, .inr (.inr (.inl a10))), (15, .inr (.inr (.inl a15))), (20, .inr (.inr (.inl a20)))]) (vks := [(8, 2, 0)]) (js := [11]) ds_X11_sets rfl rfl (by decide +kernel) rfl) rfl ?_
  refine r_aload_n C dX11_sets_76 (rfl : 76 + 1 = 77) rfl ?_
  refine r_aload_n C dX11_sets_77 (rfl : 77 + 1 = 78) rfl ?_
  refine r_getR (q := 5) C dX11_sets_78 (rfl : 78 + 3 = 81) fl_X11_29 (k_gS rfl) rfl ?_
  refine r_aload_n C dX11_sets_81 (rfl : 81 + 1 = 82) rfl ?_
  refine r_getR (q := 9) C dX11_sets_82 (rfl : 82 + 3 = 85) fl_X11_41 (k_gS rfl) rfl ?_
  refine r_iconst (v := (5 : Int32)) C dX11_sets_85 (rfl : 85 + 1 = 86) rfl ?_
  obtain ⟨r86, q86, h⟩ := k_b_of h
  refine d_V (As := [.ref 5, .ref 9, .int (5 : Int32)]) (st := []) (st' := []) (h' := k_ap [(0, .inl (25, c0_18)), (0, .inl (26, c0_19)), (0, .inl (27, c0_20)), (0, .inl (28, c0_22)), (0, .inl (29, c0_23)), (0, .inl (30, c0_24)), (0, .inl (42, c0_42)), (0, .inl (43, c0_43)), (0, .inl (54, c0_54)), (0, .inl (65, c0_65)), (7, .inr (.inr (.inl r59))), (8, .inr (.inr (.inl r73))), (9, .inr (.inr (.inl r86))), (10, .inr (.inr (.inl a10))), (15, .inr (.inr (.inl a15))), (20, .inr (.inr (.inl a20)))] (shM, I, L, Rf)) C hR ⟨Nat.zero_le _, Nat.zero_le _⟩ mv_X11_copies lk_X11_202 dX11_sets_86 (rfl : 86 + 3 = 89) rfl rfl (k_gS rfl) rfl (c_X11_copies_5_9 X.l u (k_ap [(0, .inl (25, c0_18)), (0, .inl (26, c0_19)), (0, .inl (27, c0_20)), (0, .inl (28, c0_22)), (0, .inl (29, c0_23)), (0, .inl (30, c0_24)), (0, .inl (42, c0_42)), (0, .inl (43, c0_43)), (0, .inl (54, c0_54)), (0, .inl (65, c0_65)), (7, .inr (.inr (.inl r59))), (8, .inr (.inr (.inl r73))), (9, .inr (.inr (.inl a9))), (10, .inr (.inr (.inl a10))), (15, .inr (.inr (.inl a15))), (20, .inr (.inr (.inl a20)))] (shM, I, L, Rf)) (k_gH rfl) (k_gOA (ks := [(0, 0, 25), (0, 0, 26), (0, 0, 27), (0, 0, 28), (0, 0, 29), (0, 0, 30), (0, 0, 42), (0, 0, 43), (0, 0, 54), (0, 0, 65), (7, 2, 0), (8, 2, 0), (9, 2, 0), (10, 2, 0), (15, 2, 0), (20, 2, 0)]) rfl (by decide +kernel) ea5) (k_gA ds_X11_sets rfl 12 rfl) q86) rfl rfl rfl (k_jn2 (us' := [(0, .inl (25, c0_18)), (0, .inl (26, c0_19)), (0, .inl (27, c0_20)), (0, .inl (28, c0_22)), (0, .inl (29, c0_23)), (0, .inl (30, c0_24)), (0, .inl (42, c0_42)), (0, .inl (43, c0_43)), (0, .inl (54, c0_54)), (0, .inl (65, c0_65)), (7, .inr (.inr (.inl r59))), (8, .inr (.inr (.inl r73))), (9, .inr (.inr (.inl r86))), (10, .inr (.inr (.inl a10))), (15, .inr (.inr (.inl a15))), (20, .inr (.inr (.inl a20)))]) (vks := [(9, 2, 0)]) (js := [12]) ds_X11_sets rfl rfl (by decide +kernel) rfl) rfl ?_
  refine r_aload_n C dX11_sets_89 (rfl : 89 + 1 = 90) rfl ?_
  refine r_aload_n C dX11_sets_90 (rfl : 90 + 1 = 91) rfl ?_
  refine r_getR (q := 6) C dX11_sets_91 (rfl : 91 + 3 = 94) fl_X11_32 (k_gS rfl) rfl ?_
  refine r_aload_n C dX11_sets_94 (rfl : 94 + 1 = 95) rfl ?_
  refine r_getR (q := 10) C dX11_sets_95 (rfl : 95 + 3 = 98) fl_X11_44 (k_gS rfl) rfl ?_
  refine r_bipush (v := (60 : Int32)) C dX11_sets_98 (rfl : 98 + 2 = 100) rfl ?_
  obtain ⟨r100, q100, h⟩ := k_b_of h
  refine d_V (As := [.ref 6, .ref 10, .int (60 : Int32)]) (st := []) (st' := []) (h' := k_ap [(0, .inl (25, c0_18)), (0, .inl (26, c0_19)), (0, .inl (27, c0_20)), (0, .inl (28, c0_22)), (0, .inl (29, c0_23)), (0, .inl (30, c0_24)), (0, .inl (42, c0_42)), (0, .inl (43, c0_43)), (0, .inl (54, c0_54)), (0, .inl (65, c0_65)), (7, .inr (.inr (.inl r59))), (8, .inr (.inr (.inl r73))), (9, .inr (.inr (.inl r86))), (10, .inr (.inr (.inl r100))), (15, .inr (.inr (.inl a15))), (20, .inr (.inr (.inl a20)))] (shM, I, L, Rf)) C hR ⟨Nat.zero_le _, Nat.zero_le _⟩ mv_X11_copies lk_X11_202 dX11_sets_100 (rfl : 100 + 3 = 103) rfl rfl (k_gS rfl) rfl (c_X11_copies_6_10 X.l u (k_ap [(0, .inl (25, c0_18)), (0, .inl (26, c0_19)), (0, .inl (27, c0_20)), (0, .inl (28, c0_22)), (0, .inl (29, c0_23)), (0, .inl (30, c0_24)), (0, .inl (42, c0_42)), (0, .inl (43, c0_43)), (0, .inl (54, c0_54)), (0, .inl (65, c0_65)), (7, .inr (.inr (.inl r59))), (8, .inr (.inr (.inl r73))), (9, .inr (.inr (.inl r86))), (10, .inr (.inr (.inl a10))), (15, .inr (.inr (.inl a15))), (20, .inr (.inr (.inl a20)))] (shM, I, L, Rf)) (k_gH rfl) (k_gOA (ks := [(0, 0, 25), (0, 0, 26), (0, 0, 27), (0, 0, 28), (0, 0, 29), (0, 0, 30), (0, 0, 42), (0, 0, 43), (0, 0, 54), (0, 0, 65), (7, 2, 0), (8, 2, 0), (9, 2, 0), (10, 2, 0), (15, 2, 0), (20, 2, 0)]) rfl (by decide +kernel) ea6) (k_gA ds_X11_sets rfl 13 rfl) q100) rfl rfl rfl (k_jn2 (us' := [(0, .inl (25, c0_18)), (0, .inl (26, c0_19)), (0, .inl (27, c0_20)), (0, .inl (28, c0_22)), (0, .inl (29, c0_23)), (0, .inl (30, c0_24)), (0, .inl (42, c0_42)), (0, .inl (43, c0_43)), (0, .inl (54, c0_54)), (0, .inl (65, c0_65)), (7, .inr (.inr (.inl r59))), (8, .inr (.inr (.inl r73))), (9, .inr (.inr (.inl r86))), (10, .inr (.inr (.inl r100))), (15, .inr (.inr (.inl a15))), (20, .inr (.inr (.inl a20)))]) (vks := [(10, 2, 0)]) (js := [13]) ds_X11_sets rfl rfl (by decide +kernel) rfl) rfl ?_
  refine r_aload_n C dX11_sets_103 (rfl : 103 + 1 = 104) rfl ?_
  refine r_getR (q := 15) C dX11_sets_104 (rfl : 104 + 3 = 107) fl_X11_59 (k_gS rfl) rfl ?_
  refine r_iconst (v := (0 : Int32)) C dX11_sets_107 (rfl : 107 + 1 = 108) rfl ?_
  refine r_iconst (v := (0 : Int32)) C dX11_sets_108 (rfl : 108 + 1 = 109) rfl ?_
  refine s_i (j := 0) (f := a15) (us' := [(0, .inl (25, c0_18)), (0, .inl (26, c0_19)), (0, .inl (27, c0_20)), (0, .inl (28, c0_22)), (0, .inl (29, c0_23)), (0, .inl (30, c0_24)), (0, .inl (42, c0_42)), (0, .inl (43, c0_43)), (0, .inl (54, c0_54)), (0, .inl (65, c0_65)), (7, .inr (.inr (.inl r59))), (8, .inr (.inr (.inl r73))), (9, .inr (.inr (.inl r86))), (10, .inr (.inr (.inl r100))), (15, .inr (.inr (.inl (upd a15 0 (0 : Int32))))), (20, .inr (.inr (.inl a20)))]) C dX11_sets_109 (rfl : 109 + 1 = 110) rfl (k_gA ds_X11_sets rfl 14 rfl) (show ¬ ((0 : Int32) < 0 ∨ 2 ≤ ((0 : Int32)).toNatClampNeg) by decide) rfl ds_X11_sets rfl rfl rfl ?_
  refine r_aload_n C dX11_sets_110 (rfl : 110 + 1 = 111) rfl ?_
  refine r_getR (q := 15) C dX11_sets_111 (rfl : 111 + 3 = 114) fl_X11_59 (k_gS rfl) rfl ?_
  refine r_iconst (v := (1 : Int32)) C dX11_sets_114 (rfl : 114 + 1 = 115) rfl ?_
  refine r_iconst (v := (0 : Int32)) C dX11_sets_115 (rfl : 115 + 1 = 116) rfl ?_
  refine s_i (j := 1) (f := (upd a15 0 (0 : Int32))) (us' := [(0, .inl (25, c0_18)), (0, .inl (26, c0_19)), (0, .inl (27, c0_20)), (0, .inl (28, c0_22)), (0, .inl (29, c0_23)), (0, .inl (30, c0_24)), (0, .inl (42, c0_42)), (0, .inl (43, c0_43)), (0, .inl (54, c0_54)), (0, .inl (65, c0_65)), (7, .inr (.inr (.inl r59))), (8, .inr (.inr (.inl r73))), (9, .inr (.inr (.inl r86))), (10, .inr (.inr (.inl r100))), (15, .inr (.inr (.inl (upd (upd a15 0 (0 : Int32)) 1 (0 : Int32))))), (20, .inr (.inr (.inl a20)))]) C dX11_sets_116 (rfl : 116 + 1 = 117) rfl (k_gA ds_X11_sets rfl 14 rfl) (show ¬ ((1 : Int32) < 0 ∨ 2 ≤ ((1 : Int32)).toNatClampNeg) by decide) rfl ds_X11_sets rfl rfl rfl ?_
  refine r_aload_n C dX11_sets_117 (rfl : 117 + 1 = 118) rfl ?_
  refine r_iconst (v := (0 : Int32)) C dX11_sets_118 (rfl : 118 + 1 = 119) rfl ?_
  refine p_I (us' := [(0, .inl (25, c0_18)), (0, .inl (26, c0_19)), (0, .inl (27, c0_20)), (0, .inl (28, c0_22)), (0, .inl (29, c0_23)), (0, .inl (30, c0_24)), (0, .inl (42, c0_42)), (0, .inl (43, c0_43)), (0, .inl (54, (0 : Int32))), (0, .inl (65, c0_65)), (7, .inr (.inr (.inl r59))), (8, .inr (.inr (.inl r73))), (9, .inr (.inr (.inl r86))), (10, .inr (.inr (.inl r100))), (15, .inr (.inr (.inl (upd (upd a15 0 (0 : Int32)) 1 (0 : Int32))))), (20, .inr (.inr (.inl a20)))]) C dX11_sets_119 (rfl : 119 + 3 = 122) fp_X11_206 rfl rfl ds_X11_sets rfl rfl rfl ?_
  refine r_aload_n C dX11_sets_122 (rfl : 122 + 1 = 123) rfl ?_
  refine r_iconst (v := (0 : Int32)) C dX11_sets_123 (rfl : 123 + 1 = 124) rfl ?_
  refine p_I (us' := [(0, .inl (25, c0_18)), (0, .inl (26, c0_19)), (0, .inl (27, c0_20)), (0, .inl (28, c0_22)), (0, .inl (29, c0_23)), (0, .inl (30, c0_24)), (0, .inl (42, (0 : Int32))), (0, .inl (43, c0_43)), (0, .inl (54, (0 : Int32))), (0, .inl (65, c0_65)), (7, .inr (.inr (.inl r59))), (8, .inr (.inr (.inl r73))), (9, .inr (.inr (.inl r86))), (10, .inr (.inr (.inl r100))), (15, .inr (.inr (.inl (upd (upd a15 0 (0 : Int32)) 1 (0 : Int32))))), (20, .inr (.inr (.inl a20)))]) C dX11_sets_124 (rfl : 124 + 3 = 127) fp_X11_209 rfl rfl ds_X11_sets rfl rfl rfl ?_
  refine r_aload_n C dX11_sets_127 (rfl : 127 + 1 = 128) rfl ?_
  refine r_iconst (v := (0 : Int32)) C dX11_sets_128 (rfl : 128 + 1 = 129) rfl ?_
  refine p_I (us' := [(0, .inl (25, c0_18)), (0, .inl (26, c0_19)), (0, .inl (27, c0_20)), (0, .inl (28, c0_22)), (0, .inl (29, c0_23)), (0, .inl (30, c0_24)), (0, .inl (42, (0 : Int32))), (0, .inl (43, c0_43)), (0, .inl (54, (0 : Int32))), (0, .inl (65, (0 : Int32))), (7, .inr (.inr (.inl r59))), (8, .inr (.inr (.inl r73))), (9, .inr (.inr (.inl r86))), (10, .inr (.inr (.inl r100))), (15, .inr (.inr (.inl (upd (upd a15 0 (0 : Int32)) 1 (0 : Int32))))), (20, .inr (.inr (.inl a20)))]) C dX11_sets_129 (rfl : 129 + 3 = 132) fp_X11_212 rfl rfl ds_X11_sets rfl rfl rfl ?_
  refine r_aload_n C dX11_sets_132 (rfl : 132 + 1 = 133) rfl ?_
  refine r_iconst (v := (0 : Int32)) C dX11_sets_133 (rfl : 133 + 1 = 134) rfl ?_
  refine p_I (us' := [(0, .inl (25, c0_18)), (0, .inl (26, c0_19)), (0, .inl (27, c0_20)), (0, .inl (28, c0_22)), (0, .inl (29, c0_23)), (0, .inl (30, c0_24)), (0, .inl (42, (0 : Int32))), (0, .inl (43, (0 : Int32))), (0, .inl (54, (0 : Int32))), (0, .inl (65, (0 : Int32))), (7, .inr (.inr (.inl r59))), (8, .inr (.inr (.inl r73))), (9, .inr (.inr (.inl r86))), (10, .inr (.inr (.inl r100))), (15, .inr (.inr (.inl (upd (upd a15 0 (0 : Int32)) 1 (0 : Int32))))), (20, .inr (.inr (.inl a20)))]) C dX11_sets_134 (rfl : 134 + 3 = 137) fp_X11_215 rfl rfl ds_X11_sets rfl rfl rfl ?_
  refine r_iconst (v := (0 : Int32)) C dX11_sets_137 (rfl : 137 + 1 = 138) rfl ?_
  refine r_istore_n C dX11_sets_138 (rfl : 138 + 1 = 139) (by decide) (Nat.le_of_ble_eq_true rfl) ?_
  show k_W _ _ _ _ _ _ _ _ [some (.ref 0), some (.int (0 : Int32)), none] _
  refine k_mask [true, true, false] ?_
  exact sX11_sets_139 u C hr hR ec0_18 ec0_19 ec0_20 ec0_22 ec0_23 ec0_24 ea3 ea4 ea5 ea6 u c0_18 c0_19 c0_20 c0_22 c0_23 c0_24 (0 : Int32) (0 : Int32) (0 : Int32) (0 : Int32) r59 r73 r86 r100 (upd (upd a15 0 (0 : Int32)) 1 (0 : Int32)) a20 (0 : Int32) h
set_option maxHeartbeats 1000000 in
set_option maxRecDepth 100000 in
theorem c_X11_sets (l : Launch) (u : Nat) (h : k_H) (hsh : h.1 = shM) {c0_18 : Int32} (ec0_18 : h.2.1 0 18 = c0_18) {c0_19 : Int32} (ec0_19 : h.2.1 0 19 = c0_19) {c0_20 : Int32} (ec0_20 : h.2.1 0 20 = c0_20) {c0_22 : Int32} (ec0_22 : h.2.1 0 22 = c0_22) {c0_23 : Int32} (ec0_23 : h.2.1 0 23 = c0_23) {c0_24 : Int32} (ec0_24 : h.2.1 0 24 = c0_24) {c0_25 : Int32} (ec0_25 : h.2.1 0 25 = c0_25) {c0_26 : Int32} (ec0_26 : h.2.1 0 26 = c0_26) {c0_27 : Int32} (ec0_27 : h.2.1 0 27 = c0_27) {c0_28 : Int32} (ec0_28 : h.2.1 0 28 = c0_28) {c0_29 : Int32} (ec0_29 : h.2.1 0 29 = c0_29) {c0_30 : Int32} (ec0_30 : h.2.1 0 30 = c0_30) {c0_42 : Int32} (ec0_42 : h.2.1 0 42 = c0_42) {c0_43 : Int32} (ec0_43 : h.2.1 0 43 = c0_43) {c0_54 : Int32} (ec0_54 : h.2.1 0 54 = c0_54) {c0_65 : Int32} (ec0_65 : h.2.1 0 65 = c0_65) {a3 : (Nat → Int32)} (ea3 : h.2.1 3 = a3) {a4 : (Nat → Int32)} (ea4 : h.2.1 4 = a4) {a5 : (Nat → Int32)} (ea5 : h.2.1 5 = a5) {a6 : (Nat → Int32)} (ea6 : h.2.1 6 = a6) {a7 : (Nat → Int32)} (ea7 : h.2.1 7 = a7) {a8 : (Nat → Int32)} (ea8 : h.2.1 8 = a8) {a9 : (Nat → Int32)} (ea9 : h.2.1 9 = a9) {a10 : (Nat → Int32)} (ea10 : h.2.1 10 = a10) {a15 : (Nat → Int32)} (ea15 : h.2.1 15 = a15) {a20 : (Nat → Int32)} (ea20 : h.2.1 20 = a20) {out : Int32 × Int32 × Int32 × Int32 × Int32 × Int32 × Int32 × Int32 × Int32 × Int32 × Int32 × (Nat → Int32) × (Nat → Int32) × (Nat → Int32) × (Nat → Int32) × (Nat → Int32) × (Nat → Int32)} (hf : f_X11_sets u c0_18 c0_19 c0_20 c0_22 c0_23 c0_24 c0_25 c0_26 c0_27 c0_28 c0_29 c0_30 c0_42 c0_43 c0_54 c0_65 a3 a4 a5 a6 a7 a8 a9 a10 a15 a20 = some out) : k_CT l yX11_sets cX11_sets 3 (some .int) 1 24 [.ref 0] h (some (.int out.1)) [(0, .inl (25, out.2.1)), (0, .inl (26, out.2.2.1)), (0, .inl (27, out.2.2.2.1)), (0, .inl (28, out.2.2.2.2.1)), (0, .inl (29, out.2.2.2.2.2.1)), (0, .inl (30, out.2.2.2.2.2.2.1)), (0, .inl (42, out.2.2.2.2.2.2.2.1)), (0, .inl (43, out.2.2.2.2.2.2.2.2.1)), (0, .inl (54, out.2.2.2.2.2.2.2.2.2.1)), (0, .inl (65, out.2.2.2.2.2.2.2.2.2.2.1)), (7, .inr (.inr (.inl out.2.2.2.2.2.2.2.2.2.2.2.1))), (8, .inr (.inr (.inl out.2.2.2.2.2.2.2.2.2.2.2.2.1))), (9, .inr (.inr (.inl out.2.2.2.2.2.2.2.2.2.2.2.2.2.1))), (10, .inr (.inr (.inl out.2.2.2.2.2.2.2.2.2.2.2.2.2.2.1))), (15, .inr (.inr (.inl out.2.2.2.2.2.2.2.2.2.2.2.2.2.2.2.1))), (20, .inr (.inr (.inl out.2.2.2.2.2.2.2.2.2.2.2.2.2.2.2.2)))] := by
  obtain ⟨sh, I, L, Rf⟩ := h
  try dsimp only
  obtain rfl : sh = shM := hsh
  refine k_ofW (by decide) (Nat.le_of_ble_eq_true rfl) ?_
  intro X ad hl hR0 hr C
  have hR : X.R.frames = 1 ∧ X.R.locals = 24 := by rw [hR0]; exact ⟨rfl, rfl⟩
  have h := hf
  unfold f_X11_sets at h
  refine k_start (us := [(0, .inl (25, c0_25)), (0, .inl (26, c0_26)), (0, .inl (27, c0_27)), (0, .inl (28, c0_28)), (0, .inl (29, c0_29)), (0, .inl (30, c0_30)), (0, .inl (42, c0_42)), (0, .inl (43, c0_43)), (0, .inl (54, c0_54)), (0, .inl (65, c0_65)), (7, .inr (.inr (.inl a7))), (8, .inr (.inr (.inl a8))), (9, .inr (.inr (.inl a9))), (10, .inr (.inr (.inl a10))), (15, .inr (.inr (.inl a15))), (20, .inr (.inr (.inl a20)))]) (k_ao_I ec0_25 (k_ao_I ec0_26 (k_ao_I ec0_27 (k_ao_I ec0_28 (k_ao_I ec0_29 (k_ao_I ec0_30 (k_ao_I ec0_42 (k_ao_I ec0_43 (k_ao_I ec0_54 (k_ao_I ec0_65 (k_ao_A ea7 (k_ao_A ea8 (k_ao_A ea9 (k_ao_A ea10 (k_ao_A ea15 (k_ao_A ea20 k_ap_0)))))))))))))))) ?_
  show k_W X 3 0 0 _ ad (k_ap [(0, .inl (25, c0_25)), (0, .inl (26, c0_26)), (0, .inl (27, c0_27)), (0, .inl (28, c0_28)), (0, .inl (29, c0_29)), (0, .inl (30, c0_30)), (0, .inl (42, c0_42)), (0, .inl (43, c0_43)), (0, .inl (54, c0_54)), (0, .inl (65, c0_65)), (7, .inr (.inr (.inl a7))), (8, .inr (.inr (.inl a8))), (9, .inr (.inr (.inl a9))), (10, .inr (.inr (.inl a10))), (15, .inr (.inr (.inl a15))), (20, .inr (.inr (.inl a20)))] (shM, I, L, Rf)) 0 [some (.ref 0), none, none] []
  refine k_mask [true, false, false] ?_
  exact sX11_sets_0 u C hr hR ec0_18 ec0_19 ec0_20 ec0_22 ec0_23 ec0_24 ea3 ea4 ea5 ea6 c0_25 c0_26 c0_27 c0_28 c0_29 c0_30 c0_42 c0_43 c0_54 c0_65 a7 a8 a9 a10 a15 a20 h
