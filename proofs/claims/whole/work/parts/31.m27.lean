/-! LullabyPitModel.image()I -/
theorem ds_X11_image : k_ds [(0, 0, 0), (0, 0, 42), (0, 0, 65), (20, 2, 0), (22, 2, 0), (31, 2, 0)] = true := by decide +kernel
set_option maxHeartbeats 400000 in
set_option maxRecDepth 100000 in
theorem sX11_image_0 (u : Nat) {X : k_X} {ad : Nat → Nat} (C : k_C X cX11_image RX11 1 ad) (hr : X.meth.sig.returnType = (some .int)) (hR : X.R.frames = 2 ∧ X.R.locals = 48) {I : Nat → Nat → Int32} {L : Nat → Nat → Int64} {Rf : Nat → Nat → Option Nat} {out : Int32 × Int32 × Int32 × Int32 × (Nat → Int32) × (Nat → Int32) × (Nat → Int32)} : ∀ (c0_0 : Int32) (c0_42 : Int32) (c0_65 : Int32) (a20 : (Nat → Int32)) (a22 : (Nat → Int32)) (a31 : (Nat → Int32)), bX11_image_0 u c0_0 c0_42 c0_65 a20 a22 a31 = some out → k_W X 1 0 0 (k_Q X ad (some (.int out.1)) (k_ap [(0, .inl (0, out.2.1)), (0, .inl (42, out.2.2.1)), (0, .inl (65, out.2.2.2.1)), (20, .inr (.inr (.inl out.2.2.2.2.1))), (22, .inr (.inr (.inl out.2.2.2.2.2.1))), (31, .inr (.inr (.inl out.2.2.2.2.2.2)))] (shM, I, L, Rf))) ad (k_ap [(0, .inl (0, c0_0)), (0, .inl (42, c0_42)), (0, .inl (65, c0_65)), (20, .inr (.inr (.inl a20))), (22, .inr (.inr (.inl a22))), (31, .inr (.inr (.inl a31)))] (shM, I, L, Rf)) 0 [some (.ref 0)] [] := by
  intro c0_0 c0_42 c0_65 a20 a22 a31 h
  unfold bX11_image_0 at h
  refine r_aload_n C dX11_image_0 (rfl : 0 + 1 = 1) rfl ?_
  refine r_iconst (v := (0 : Int32)) C dX11_image_1 (rfl : 1 + 1 = 2) rfl ?_
  refine p_I (us' := [(0, .inl (0, (0 : Int32))), (0, .inl (42, c0_42)), (0, .inl (65, c0_65)), (20, .inr (.inr (.inl a20))), (22, .inr (.inr (.inl a22))), (31, .inr (.inr (.inl a31)))]) C dX11_image_2 (rfl : 2 + 3 = 5) fp_X11_3 rfl rfl ds_X11_image rfl rfl rfl ?_
  refine r_aload_n C dX11_image_5 (rfl : 5 + 1 = 6) rfl ?_
  refine r_getI (v := c0_65) C dX11_image_6 (rfl : 6 + 3 = 9) fl_X11_212 rfl rfl rfl ?_
  refine r_iconst (v := (3 : Int32)) C dX11_image_9 (rfl : 9 + 1 = 10) rfl ?_
  refine r_icmp_ne (tgt := 15) C dX11_image_10 (by decide) (rfl : 10 + 3 = 13) (fun c10 => ?_) (fun c10 => ?_)
  · have h := k_f c10 h
    refine r_aload_n C dX11_image_15 (rfl : 15 + 1 = 16) rfl ?_
    refine r_aload_n C dX11_image_16 (rfl : 16 + 1 = 17) rfl ?_
    refine r_getI (v := c0_65) C dX11_image_17 (rfl : 17 + 3 = 20) fl_X11_212 rfl rfl rfl ?_
    refine r_iconst (v := (1 : Int32)) C dX11_image_20 (rfl : 20 + 1 = 21) rfl ?_
    obtain ⟨r21, q21, h⟩ := k_b_of h
    refine d_V (As := [.int c0_65, .int (1 : Int32)]) (st := []) (st' := []) (h' := k_ap [(0, .inl (0, (0 : Int32))), (0, .inl (42, r21.1)), (0, .inl (65, c0_65)), (20, .inr (.inr (.inl r21.2.1))), (22, .inr (.inr (.inl r21.2.2.1))), (31, .inr (.inr (.inl r21.2.2.2)))] (shM, I, L, Rf)) C hR ⟨Nat.zero_le _, Nat.zero_le _⟩ mv_X11_keepsAll lk_X11_497 dX11_image_21 (rfl : 21 + 3 = 24) rfl rfl rfl rfl (c_X11_keepsAll X.l u (k_ap [(0, .inl (0, (0 : Int32))), (0, .inl (42, c0_42)), (0, .inl (65, c0_65)), (20, .inr (.inr (.inl a20))), (22, .inr (.inr (.inl a22))), (31, .inr (.inr (.inl a31)))] (shM, I, L, Rf)) rfl rfl rfl rfl rfl q21) rfl rfl rfl (k_jn (us' := [(0, .inl (0, (0 : Int32))), (0, .inl (42, r21.1)), (0, .inl (65, c0_65)), (20, .inr (.inr (.inl r21.2.1))), (22, .inr (.inr (.inl r21.2.2.1))), (31, .inr (.inr (.inl r21.2.2.2)))]) ds_X11_image rfl rfl rfl) rfl ?_
    refine r_aload_n C dX11_image_24 (rfl : 24 + 1 = 25) rfl ?_
    refine r_dup C dX11_image_25 (rfl : 25 + 1 = 26) rfl ?_
    refine r_getI (v := c0_65) C dX11_image_26 (rfl : 26 + 3 = 29) fl_X11_212 rfl rfl rfl ?_
    refine r_iconst (v := (1 : Int32)) C dX11_image_29 (rfl : 29 + 1 = 30) rfl ?_
    refine r_iadd C dX11_image_30 (rfl : 30 + 1 = 31) ?_
    refine p_I (us' := [(0, .inl (0, (0 : Int32))), (0, .inl (42, r21.1)), (0, .inl (65, (c0_65 + (1 : Int32)))), (20, .inr (.inr (.inl r21.2.1))), (22, .inr (.inr (.inl r21.2.2.1))), (31, .inr (.inr (.inl r21.2.2.2)))]) C dX11_image_31 (rfl : 31 + 3 = 34) fp_X11_212 rfl rfl ds_X11_image rfl rfl rfl ?_
    refine r_aload_n C dX11_image_34 (rfl : 34 + 1 = 35) rfl ?_
    refine r_getI (v := (c0_65 + (1 : Int32))) C dX11_image_35 (rfl : 35 + 3 = 38) fl_X11_212 rfl rfl rfl ?_
    cases h
    exact r_iret C hr dX11_image_38
  · have h := k_t c10 h
    refine r_iconst (v := (-1 : Int32)) C dX11_image_13 (rfl : 13 + 1 = 14) rfl ?_
    cases h
    exact r_iret C hr dX11_image_14
set_option maxHeartbeats 400000 in
set_option maxRecDepth 100000 in
theorem c_X11_image (l : Launch) (u : Nat) (h : k_H) (hsh : h.1 = shM) {c0_0 : Int32} (ec0_0 : h.2.1 0 0 = c0_0) {c0_42 : Int32} (ec0_42 : h.2.1 0 42 = c0_42) {c0_65 : Int32} (ec0_65 : h.2.1 0 65 = c0_65) {a20 : (Nat → Int32)} (ea20 : h.2.1 20 = a20) {a22 : (Nat → Int32)} (ea22 : h.2.1 22 = a22) {a31 : (Nat → Int32)} (ea31 : h.2.1 31 = a31) {out : Int32 × Int32 × Int32 × Int32 × (Nat → Int32) × (Nat → Int32) × (Nat → Int32)} (hf : f_X11_image u c0_0 c0_42 c0_65 a20 a22 a31 = some out) : k_CT l yX11_image cX11_image 1 (some .int) 2 48 [.ref 0] h (some (.int out.1)) [(0, .inl (0, out.2.1)), (0, .inl (42, out.2.2.1)), (0, .inl (65, out.2.2.2.1)), (20, .inr (.inr (.inl out.2.2.2.2.1))), (22, .inr (.inr (.inl out.2.2.2.2.2.1))), (31, .inr (.inr (.inl out.2.2.2.2.2.2)))] := by
  obtain ⟨sh, I, L, Rf⟩ := h
  try dsimp only
  obtain rfl : sh = shM := hsh
  refine k_ofW (by decide) (Nat.le_of_ble_eq_true rfl) ?_
  intro X ad hl hR0 hr C
  have hR : X.R.frames = 2 ∧ X.R.locals = 48 := by rw [hR0]; exact ⟨rfl, rfl⟩
  have h := hf
  unfold f_X11_image at h
  refine k_start (us := [(0, .inl (0, c0_0)), (0, .inl (42, c0_42)), (0, .inl (65, c0_65)), (20, .inr (.inr (.inl a20))), (22, .inr (.inr (.inl a22))), (31, .inr (.inr (.inl a31)))]) (k_ao_I ec0_0 (k_ao_I ec0_42 (k_ao_I ec0_65 (k_ao_A ea20 (k_ao_A ea22 (k_ao_A ea31 k_ap_0)))))) ?_
  show k_W X 1 0 0 _ ad (k_ap [(0, .inl (0, c0_0)), (0, .inl (42, c0_42)), (0, .inl (65, c0_65)), (20, .inr (.inr (.inl a20))), (22, .inr (.inr (.inl a22))), (31, .inr (.inr (.inl a31)))] (shM, I, L, Rf)) 0 [some (.ref 0)] []
  refine k_mask [true] ?_
  exact sX11_image_0 u C hr hR c0_0 c0_42 c0_65 a20 a22 a31 h
/-! LullabyPitModel.restore()I -/
theorem ds_X11_restore : k_ds [(0, 0, 0), (0, 0, 42), (0, 0, 43), (0, 0, 65), (20, 2, 0), (22, 2, 0), (31, 2, 0)] = true := by decide +kernel
set_option maxHeartbeats 400000 in
set_option maxRecDepth 100000 in
theorem sX11_restore_0 (u : Nat) {X : k_X} {ad : Nat → Nat} (C : k_C X cX11_restore RX11 1 ad) (hr : X.meth.sig.returnType = (some .int)) (hR : X.R.frames = 2 ∧ X.R.locals = 48) {I : Nat → Nat → Int32} {L : Nat → Nat → Int64} {Rf : Nat → Nat → Option Nat} {out : Int32 × Int32 × Int32 × Int32 × Int32 × (Nat → Int32) × (Nat → Int32) × (Nat → Int32)} : ∀ (c0_0 : Int32) (c0_42 : Int32) (c0_43 : Int32) (c0_65 : Int32) (a20 : (Nat → Int32)) (a22 : (Nat → Int32)) (a31 : (Nat → Int32)), bX11_restore_0 u c0_0 c0_42 c0_43 c0_65 a20 a22 a31 = some out → k_W X 1 0 0 (k_Q X ad (some (.int out.1)) (k_ap [(0, .inl (0, out.2.1)), (0, .inl (42, out.2.2.1)), (0, .inl (43, out.2.2.2.1)), (0, .inl (65, out.2.2.2.2.1)), (20, .inr (.inr (.inl out.2.2.2.2.2.1))), (22, .inr (.inr (.inl out.2.2.2.2.2.2.1))), (31, .inr (.inr (.inl out.2.2.2.2.2.2.2)))] (shM, I, L, Rf))) ad (k_ap [(0, .inl (0, c0_0)), (0, .inl (42, c0_42)), (0, .inl (43, c0_43)), (0, .inl (65, c0_65)), (20, .inr (.inr (.inl a20))), (22, .inr (.inr (.inl a22))), (31, .inr (.inr (.inl a31)))] (shM, I, L, Rf)) 0 [some (.ref 0)] [] := by
  intro c0_0 c0_42 c0_43 c0_65 a20 a22 a31 h
  unfold bX11_restore_0 at h
  refine r_aload_n C dX11_restore_0 (rfl : 0 + 1 = 1) rfl ?_
  refine r_iconst (v := (0 : Int32)) C dX11_restore_1 (rfl : 1 + 1 = 2) rfl ?_
  refine p_I (us' := [(0, .inl (0, (0 : Int32))), (0, .inl (42, c0_42)), (0, .inl (43, c0_43)), (0, .inl (65, c0_65)), (20, .inr (.inr (.inl a20))), (22, .inr (.inr (.inl a22))), (31, .inr (.inr (.inl a31)))]) C dX11_restore_2 (rfl : 2 + 3 = 5) fp_X11_3 rfl rfl ds_X11_restore rfl rfl rfl ?_
  refine r_aload_n C dX11_restore_5 (rfl : 5 + 1 = 6) rfl ?_
  refine r_getI (v := c0_65) C dX11_restore_6 (rfl : 6 + 3 = 9) fl_X11_212 rfl rfl rfl ?_
  refine r_if_ne (tgt := 14) C dX11_restore_9 (by decide) (rfl : 9 + 3 = 12) (fun c9 => ?_) (fun c9 => ?_)
  · have h := k_f c9 h
    refine r_aload_n C dX11_restore_14 (rfl : 14 + 1 = 15) rfl ?_
    refine r_dup C dX11_restore_15 (rfl : 15 + 1 = 16) rfl ?_
    refine r_getI (v := c0_65) C dX11_restore_16 (rfl : 16 + 3 = 19) fl_X11_212 rfl rfl rfl ?_
    refine r_iconst (v := (1 : Int32)) C dX11_restore_19 (rfl : 19 + 1 = 20) rfl ?_
    refine r_isub C dX11_restore_20 (rfl : 20 + 1 = 21) ?_
    refine p_I (us' := [(0, .inl (0, (0 : Int32))), (0, .inl (42, c0_42)), (0, .inl (43, c0_43)), (0, .inl (65, (c0_65 - (1 : Int32)))), (20, .inr (.inr (.inl a20))), (22, .inr (.inr (.inl a22))), (31, .inr (.inr (.inl a31)))]) C dX11_restore_21 (rfl : 21 + 3 = 24) fp_X11_212 rfl rfl ds_X11_restore rfl rfl rfl ?_
    refine r_aload_n C dX11_restore_24 (rfl : 24 + 1 = 25) rfl ?_
    refine r_aload_n C dX11_restore_25 (rfl : 25 + 1 = 26) rfl ?_
    refine r_getI (v := (c0_65 - (1 : Int32))) C dX11_restore_26 (rfl : 26 + 3 = 29) fl_X11_212 rfl rfl rfl ?_
    refine r_iconst (v := (0 : Int32)) C dX11_restore_29 (rfl : 29 + 1 = 30) rfl ?_
    obtain ⟨r30, q30, h⟩ := k_b_of h
    refine d_V (As := [.int (c0_65 - (1 : Int32)), .int (0 : Int32)]) (st := []) (st' := []) (h' := k_ap [(0, .inl (0, (0 : Int32))), (0, .inl (42, r30.1)), (0, .inl (43, c0_43)), (0, .inl (65, (c0_65 - (1 : Int32)))), (20, .inr (.inr (.inl r30.2.1))), (22, .inr (.inr (.inl r30.2.2.1))), (31, .inr (.inr (.inl r30.2.2.2)))] (shM, I, L, Rf)) C hR ⟨Nat.zero_le _, Nat.zero_le _⟩ mv_X11_keepsAll lk_X11_497 dX11_restore_30 (rfl : 30 + 3 = 33) rfl rfl rfl rfl (c_X11_keepsAll X.l u (k_ap [(0, .inl (0, (0 : Int32))), (0, .inl (42, c0_42)), (0, .inl (43, c0_43)), (0, .inl (65, (c0_65 - (1 : Int32)))), (20, .inr (.inr (.inl a20))), (22, .inr (.inr (.inl a22))), (31, .inr (.inr (.inl a31)))] (shM, I, L, Rf)) rfl rfl rfl rfl rfl q30) rfl rfl rfl (k_jn (us' := [(0, .inl (0, (0 : Int32))), (0, .inl (42, r30.1)), (0, .inl (43, c0_43)), (0, .inl (65, (c0_65 - (1 : Int32)))), (20, .inr (.inr (.inl r30.2.1))), (22, .inr (.inr (.inl r30.2.2.1))), (31, .inr (.inr (.inl r30.2.2.2)))]) ds_X11_restore rfl rfl rfl) rfl ?_
    refine r_aload_n C dX11_restore_33 (rfl : 33 + 1 = 34) rfl ?_
    refine r_iconst (v := (0 : Int32)) C dX11_restore_34 (rfl : 34 + 1 = 35) rfl ?_
    refine p_I (us' := [(0, .inl (0, (0 : Int32))), (0, .inl (42, r30.1)), (0, .inl (43, (0 : Int32))), (0, .inl (65, (c0_65 - (1 : Int32)))), (20, .inr (.inr (.inl r30.2.1))), (22, .inr (.inr (.inl r30.2.2.1))), (31, .inr (.inr (.inl r30.2.2.2)))]) C dX11_restore_35 (rfl : 35 + 3 = 38) fp_X11_215 rfl rfl ds_X11_restore rfl rfl rfl ?_
    refine r_aload_n C dX11_restore_38 (rfl : 38 + 1 = 39) rfl ?_
    refine r_getI (v := (c0_65 - (1 : Int32))) C dX11_restore_39 (rfl : 39 + 3 = 42) fl_X11_212 rfl rfl rfl ?_
    cases h
    exact r_iret C hr dX11_restore_42
  · have h := k_t c9 h
    refine r_iconst (v := (-1 : Int32)) C dX11_restore_12 (rfl : 12 + 1 = 13) rfl ?_
    cases h
    exact r_iret C hr dX11_restore_13
set_option maxHeartbeats 400000 in
set_option maxRecDepth 100000 in
theorem c_X11_restore (l : Launch) (u : Nat) (h : k_H) (hsh : h.1 = shM) {c0_0 : Int32} (ec0_0 : h.2.1 0 0 = c0_0) {c0_42 : Int32} (ec0_42 : h.2.1 0 42 = c0_42) {c0_43 : Int32} (ec0_43 : h.2.1 0 43 = c0_43) {c0_65 : Int32} (ec0_65 : h.2.1 0 65 = c0_65) {a20 : (Nat → Int32)} (ea20 : h.2.1 20 = a20) {a22 : (Nat → Int32)} (ea22 : h.2.1 22 = a22) {a31 : (Nat → Int32)} (ea31 : h.2.1 31 = a31) {out : Int32 × Int32 × Int32 × Int32 × Int32 × (Nat → Int32) × (Nat → Int32) × (Nat → Int32)} (hf : f_X11_restore u c0_0 c0_42 c0_43 c0_65 a20 a22 a31 = some out) : k_CT l yX11_restore cX11_restore 1 (some .int) 2 48 [.ref 0] h (some (.int out.1)) [(0, .inl (0, out.2.1)), (0, .inl (42, out.2.2.1)), (0, .inl (43, out.2.2.2.1)), (0, .inl (65, out.2.2.2.2.1)), (20, .inr (.inr (.inl out.2.2.2.2.2.1))), (22, .inr (.inr (.inl out.2.2.2.2.2.2.1))), (31, .inr (.inr (.inl out.2.2.2.2.2.2.2)))] := by
  obtain ⟨sh, I, L, Rf⟩ := h
  try dsimp only
  obtain rfl : sh = shM := hsh
  refine k_ofW (by decide) (Nat.le_of_ble_eq_true rfl) ?_
  intro X ad hl hR0 hr C
  have hR : X.R.frames = 2 ∧ X.R.locals = 48 := by rw [hR0]; exact ⟨rfl, rfl⟩
  have h := hf
  unfold f_X11_restore at h
  refine k_start (us := [(0, .inl (0, c0_0)), (0, .inl (42, c0_42)), (0, .inl (43, c0_43)), (0, .inl (65, c0_65)), (20, .inr (.inr (.inl a20))), (22, .inr (.inr (.inl a22))), (31, .inr (.inr (.inl a31)))]) (k_ao_I ec0_0 (k_ao_I ec0_42 (k_ao_I ec0_43 (k_ao_I ec0_65 (k_ao_A ea20 (k_ao_A ea22 (k_ao_A ea31 k_ap_0))))))) ?_
  show k_W X 1 0 0 _ ad (k_ap [(0, .inl (0, c0_0)), (0, .inl (42, c0_42)), (0, .inl (43, c0_43)), (0, .inl (65, c0_65)), (20, .inr (.inr (.inl a20))), (22, .inr (.inr (.inl a22))), (31, .inr (.inr (.inl a31)))] (shM, I, L, Rf)) 0 [some (.ref 0)] []
  refine k_mask [true] ?_
  exact sX11_restore_0 u C hr hR c0_0 c0_42 c0_43 c0_65 a20 a22 a31 h
/-! LullabyPitModel.status(I)I -/
theorem ds_X11_status : k_ds [(0, 0, 0)] = true := by decide +kernel
set_option maxHeartbeats 400000 in
set_option maxRecDepth 100000 in
theorem sX11_status_0 (u : Nat) {X : k_X} {ad : Nat → Nat} (C : k_C X cX11_status RX11 2 ad) (hr : X.meth.sig.returnType = (some .int)) (hR : X.R.frames = 1 ∧ X.R.locals = 22) {I : Nat → Nat → Int32} {L : Nat → Nat → Int64} {Rf : Nat → Nat → Option Nat} {a1 : (Nat → Int32)} (ea1 : I 1 = a1) {out : Int32 × Int32} : ∀ (c0_0 : Int32) (v1 : Int32), bX11_status_0 u a1 c0_0 v1 = some out → k_W X 2 0 0 (k_Q X ad (some (.int out.1)) (k_ap [(0, .inl (0, out.2))] (shM, I, L, Rf))) ad (k_ap [(0, .inl (0, c0_0))] (shM, I, L, Rf)) 0 [some (.ref 0), some (.int v1)] [] := by
  intro c0_0 v1 h
  unfold bX11_status_0 at h
  refine r_aload_n C dX11_status_0 (rfl : 0 + 1 = 1) rfl ?_
  refine r_iconst (v := (0 : Int32)) C dX11_status_1 (rfl : 1 + 1 = 2) rfl ?_
  refine p_I (us' := [(0, .inl (0, (0 : Int32)))]) C dX11_status_2 (rfl : 2 + 3 = 5) fp_X11_3 rfl rfl ds_X11_status rfl rfl rfl ?_
  refine r_iload_n C dX11_status_5 (rfl : 5 + 1 = 6) rfl ?_
  refine r_iconst (v := (0 : Int32)) C dX11_status_6 (rfl : 6 + 1 = 7) rfl ?_
  refine r_iconst (v := (2 : Int32)) C dX11_status_7 (rfl : 7 + 1 = 8) rfl ?_
  obtain ⟨r8, q8, h⟩ := k_b_of h
  refine d_S (As := [.int v1, .int (0 : Int32), .int (2 : Int32)]) (st := []) (st' := [.int r8]) (h' := k_ap [(0, .inl (0, (0 : Int32)))] (shM, I, L, Rf)) C hR ⟨Nat.zero_le _, Nat.zero_le _⟩ ms_X11_within lk_X11_317 dX11_status_8 (rfl : 8 + 3 = 11) rfl rfl (c_X11_within X.l u (k_ap [(0, .inl (0, (0 : Int32)))] (shM, I, L, Rf)) rfl  q8) rfl rfl rfl rfl rfl ?_
  refine r_if_eq (tgt := 23) C dX11_status_11 (by decide) (rfl : 11 + 3 = 14) (fun c11 => ?_) (fun c11 => ?_)
  · have h := k_t c11 h
    refine r_iconst (v := (-1 : Int32)) C dX11_status_23 (rfl : 23 + 1 = 24) rfl ?_
    cases h
    exact r_iret C hr dX11_status_24
  · have h := k_f c11 h
    refine r_aload_n C dX11_status_14 (rfl : 14 + 1 = 15) rfl ?_
    refine r_getR (q := 1) C dX11_status_15 (rfl : 15 + 3 = 18) fl_X11_7 rfl rfl ?_
    refine r_iload_n C dX11_status_18 (rfl : 18 + 1 = 19) rfl ?_
    obtain ⟨hi19, h⟩ := k_i_of h
    refine a_i (j := (v1).toNatClampNeg) (f := a1) C dX11_status_19 (rfl : 19 + 1 = 20) rfl ea1 hi19 rfl ?_
    refine r_goto (tgt := 24) C dX11_status_20 (by decide) ?_
    cases h
    exact r_iret C hr dX11_status_24
set_option maxHeartbeats 400000 in
set_option maxRecDepth 100000 in
theorem c_X11_status (l : Launch) (u : Nat) (h : k_H) (hsh : h.1 = shM) {c0_0 : Int32} (ec0_0 : h.2.1 0 0 = c0_0) {a1 : (Nat → Int32)} (ea1 : h.2.1 1 = a1) {x0 : Int32} {out : Int32 × Int32} (hf : f_X11_status u c0_0 a1 x0 = some out) : k_CT l yX11_status cX11_status 2 (some .int) 1 22 [.ref 0, .int x0] h (some (.int out.1)) [(0, .inl (0, out.2))] := by
  obtain ⟨sh, I, L, Rf⟩ := h
  try dsimp only
  obtain rfl : sh = shM := hsh
  refine k_ofW (by decide) (Nat.le_of_ble_eq_true rfl) ?_
  intro X ad hl hR0 hr C
  have hR : X.R.frames = 1 ∧ X.R.locals = 22 := by rw [hR0]; exact ⟨rfl, rfl⟩
  have h := hf
  unfold f_X11_status at h
  refine k_start (us := [(0, .inl (0, c0_0))]) (k_ao_I ec0_0 k_ap_0) ?_
  show k_W X 2 0 0 _ ad (k_ap [(0, .inl (0, c0_0))] (shM, I, L, Rf)) 0 [some (.ref 0), some (.int x0)] []
  refine k_mask [true, true] ?_
  exact sX11_status_0 u C hr hR ea1 c0_0 x0 h
/-! LullabyPitModel.count(I)I -/
theorem ds_X11_count : k_ds [(0, 0, 0)] = true := by decide +kernel
set_option maxHeartbeats 400000 in
set_option maxRecDepth 100000 in
theorem sX11_count_0 (u : Nat) {X : k_X} {ad : Nat → Nat} (C : k_C X cX11_count RX11 2 ad) (hr : X.meth.sig.returnType = (some .int)) (hR : X.R.frames = 0 ∧ X.R.locals = 0) {I : Nat → Nat → Int32} {L : Nat → Nat → Int64} {Rf : Nat → Nat → Option Nat} {c0_2 : Int32} (ec0_2 : I 0 2 = c0_2) {c0_42 : Int32} (ec0_42 : I 0 42 = c0_42) {c0_65 : Int32} (ec0_65 : I 0 65 = c0_65) {out : Int32 × Int32} : ∀ (c0_0 : Int32) (v1 : Int32), bX11_count_0 u c0_2 c0_42 c0_65 c0_0 v1 = some out → k_W X 2 0 0 (k_Q X ad (some (.int out.1)) (k_ap [(0, .inl (0, out.2))] (shM, I, L, Rf))) ad (k_ap [(0, .inl (0, c0_0))] (shM, I, L, Rf)) 0 [some (.ref 0), some (.int v1)] [] := by
  intro c0_0 v1 h
  unfold bX11_count_0 at h
  refine r_aload_n C dX11_count_0 (rfl : 0 + 1 = 1) rfl ?_
  refine r_iconst (v := (0 : Int32)) C dX11_count_1 (rfl : 1 + 1 = 2) rfl ?_
  refine p_I (us' := [(0, .inl (0, (0 : Int32)))]) C dX11_count_2 (rfl : 2 + 3 = 5) fp_X11_3 rfl rfl ds_X11_count rfl rfl rfl ?_
  refine r_iload_n C dX11_count_5 (rfl : 5 + 1 = 6) rfl ?_
  refine r_if_ne (tgt := 16) C dX11_count_6 (by decide) (rfl : 6 + 3 = 9) (fun c6 => ?_) (fun c6 => ?_)
  · have h := k_f c6 h
    refine r_iload_n C dX11_count_16 (rfl : 16 + 1 = 17) rfl ?_
    refine r_iconst (v := (1 : Int32)) C dX11_count_17 (rfl : 17 + 1 = 18) rfl ?_
    refine r_icmp_ne (tgt := 28) C dX11_count_18 (by decide) (rfl : 18 + 3 = 21) (fun c18 => ?_) (fun c18 => ?_)
    · have h := k_f c18 h
      refine r_iload_n C dX11_count_28 (rfl : 28 + 1 = 29) rfl ?_
      refine r_iconst (v := (2 : Int32)) C dX11_count_29 (rfl : 29 + 1 = 30) rfl ?_
      refine r_icmp_ne (tgt := 40) C dX11_count_30 (by decide) (rfl : 30 + 3 = 33) (fun c30 => ?_) (fun c30 => ?_)
      · have h := k_f c30 h
        refine r_iconst (v := (-1 : Int32)) C dX11_count_40 (rfl : 40 + 1 = 41) rfl ?_
        cases h
        exact r_iret C hr dX11_count_41
      · have h := k_t c30 h
        refine r_aload_n C dX11_count_33 (rfl : 33 + 1 = 34) rfl ?_
        refine r_getI (v := c0_42) C dX11_count_34 (rfl : 34 + 3 = 37) fl_X11_209 rfl rfl ec0_42 ?_
        refine r_goto (tgt := 41) C dX11_count_37 (by decide) ?_
        cases h
        exact r_iret C hr dX11_count_41
    · have h := k_t c18 h
      refine r_aload_n C dX11_count_21 (rfl : 21 + 1 = 22) rfl ?_
      refine r_getI (v := c0_2) C dX11_count_22 (rfl : 22 + 3 = 25) fl_X11_118 rfl rfl ec0_2 ?_
      refine r_goto (tgt := 41) C dX11_count_25 (by decide) ?_
      cases h
      exact r_iret C hr dX11_count_41
  · have h := k_t c6 h
    refine r_aload_n C dX11_count_9 (rfl : 9 + 1 = 10) rfl ?_
    refine r_getI (v := c0_65) C dX11_count_10 (rfl : 10 + 3 = 13) fl_X11_212 rfl rfl ec0_65 ?_
    refine r_goto (tgt := 41) C dX11_count_13 (by decide) ?_
    cases h
    exact r_iret C hr dX11_count_41
set_option maxHeartbeats 400000 in
set_option maxRecDepth 100000 in
theorem c_X11_count (l : Launch) (u : Nat) (h : k_H) (hsh : h.1 = shM) {c0_0 : Int32} (ec0_0 : h.2.1 0 0 = c0_0) {c0_2 : Int32} (ec0_2 : h.2.1 0 2 = c0_2) {c0_42 : Int32} (ec0_42 : h.2.1 0 42 = c0_42) {c0_65 : Int32} (ec0_65 : h.2.1 0 65 = c0_65) {x0 : Int32} {out : Int32 × Int32} (hf : f_X11_count u c0_0 c0_2 c0_42 c0_65 x0 = some out) : k_CT l yX11_count cX11_count 2 (some .int) 0 0 [.ref 0, .int x0] h (some (.int out.1)) [(0, .inl (0, out.2))] := by
  obtain ⟨sh, I, L, Rf⟩ := h
  try dsimp only
  obtain rfl : sh = shM := hsh
  refine k_ofW (by decide) (Nat.le_of_ble_eq_true rfl) ?_
  intro X ad hl hR0 hr C
  have hR : X.R.frames = 0 ∧ X.R.locals = 0 := by rw [hR0]; exact ⟨rfl, rfl⟩
  have h := hf
  unfold f_X11_count at h
  refine k_start (us := [(0, .inl (0, c0_0))]) (k_ao_I ec0_0 k_ap_0) ?_
  show k_W X 2 0 0 _ ad (k_ap [(0, .inl (0, c0_0))] (shM, I, L, Rf)) 0 [some (.ref 0), some (.int x0)] []
  refine k_mask [true, true] ?_
  exact sX11_count_0 u C hr hR ec0_2 ec0_42 ec0_65 c0_0 x0 h
