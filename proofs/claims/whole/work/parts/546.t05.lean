/-! LullabyPit.sums(I)I -/
theorem ds_X10_sums : k_ds [(69, 2, 0)] = true := by decide +kernel
set_option maxHeartbeats 1000000 in
set_option maxRecDepth 100000 in
theorem sX10_sums_15 (u : Nat) {X : k_X} {ad0 ad : Nat → Nat} {rest : List k_Sh} (C : k_C X cX10_sums RX10 2 ad) (hr : X.meth.sig.returnType = (some .int)) (hR : X.R.frames = 7 ∧ X.R.locals = 111) (hx : ∀ x ∈ X.c.exceptionTable.toList, False) (hRc : X.R.cells = 1) (hRs : X.R.slots = 6) (hT : X.l.stackTraces = false) (hsm : k_sm (shX ++ rest).length ad0 ad) {I : Nat → Nat → Int32} {L : Nat → Nat → Int64} {Rf : Nat → Nat → Option Nat} {c3_5 : Int64} (ec3_5 : L 3 5 = c3_5) {c3_6 : Int64} (ec3_6 : L 3 6 = c3_6) {c26_16 : Int32} (ec26_16 : I 26 16 = c26_16) {c26_17 : Int32} (ec26_17 : I 26 17 = c26_17) {c26_3 : Int64} (ec26_3 : L 26 3 = c26_3) {c26_4 : Int64} (ec26_4 : L 26 4 = c26_4) {out : Int32 × Int32 × (Nat → Int32)} : ∀ (a69 : (Nat → Int32)) (v1 : Int32) (w0 : Int32), bX10_sums_15 u c3_5 c3_6 c26_16 c26_17 c26_3 c26_4 a69 v1 w0 = some out → k_W X 2 0 0 (k_QX X ad0 (shX ++ rest).length (k_R1 out.1 (some (.int out.2.1)) (k_ap [(69, .inr (.inr (.inl out.2.2)))] ((shX ++ rest), I, L, Rf))) (k_R2 out.1 (k_ap [(69, .inr (.inr (.inl out.2.2)))] ((shX ++ rest), I, L, Rf))) 1 6) ad (k_ap [(69, .inr (.inr (.inl a69)))] ((shX ++ rest), I, L, Rf)) 15 [some (.ref 0), some (.int v1)] [.int w0, .ref 0] := by
  intro a69 v1 w0 h
  unfold bX10_sums_15 at h
  obtain ⟨r15, q15, h⟩ := k_b_of h
  refine c_VX (As := [.int w0]) (st := []) C hR (k_csl hRc hRs rfl rfl) mv_X10_need (k_me (tm3 (List.mem_of_getElem? (i := 141) rfl)) rfl) dX10_sums_15 (rfl : 15 + 3 = 18) rfl rfl (k_gS rfl) rfl (c_X10_need X.l u hT (k_ap [(69, .inr (.inr (.inl a69)))] ((shX ++ rest), I, L, Rf)) (k_gH rfl) rfl q15) rfl rfl rfl ⟨(k_ox 0 rfl), True.intro, True.intro⟩ True.intro ?_ ?_
  · rintro E ad1 h1 ⟨hk0, rfl, rfl⟩ hsm1 C1
    have h := k_f hk0 h
    cases h
    exact x_out C1 hx (Nat.le_of_ble_eq_true rfl) (Nat.le_of_ble_eq_true rfl) ⟨hk0, rfl, (k_jn (us' := [(69, .inr (.inr (.inl r15.2)))]) ds_X10_sums rfl rfl rfl)⟩ (k_sm_tr hsm hsm1 (Nat.le_of_eq (by rw [k_ap_sh])))
  rintro v ad15 h1 ⟨hk0, rfl, rfl⟩ hsm1 C
  have h := k_t hk0 h
  have hsm := k_sm_tr hsm hsm1 (Nat.le_of_eq (by rw [k_ap_sh]))
  refine k_eqh (k_jn (us' := [(69, .inr (.inr (.inl r15.2)))]) ds_X10_sums rfl rfl rfl) ?_
  show k_W _ _ _ _ _ _ _ _ _ []
  refine r_iload_n C dX10_sums_18 (rfl : 18 + 1 = 19) rfl ?_
  by_cases c19_0 : v1 = (0 : Int32)
  · have h := k_t c19_0 h
    refine r_tabIn (off := 25) (tgt := 44) C dX10_sums_19 (by rw [c19_0]; decide) (by rw [c19_0]; decide) (by rw [c19_0]; rfl) (by decide) ?_
    refine r_aload_n C dX10_sums_44 (rfl : 44 + 1 = 45) rfl ?_
    refine r_getR (q := 26) C dX10_sums_45 (rfl : 45 + 3 = 48) fl_X10_50 rfl rfl ?_
    refine r_getI (v := c26_16) C dX10_sums_48 (rfl : 48 + 3 = 51) fl_X10_379 rfl rfl ec26_16 ?_
    cases h
    exact x_of_g (g_iret C hr (Nat.le_of_ble_eq_true rfl) (Nat.le_of_ble_eq_true rfl) ⟨rfl, rfl, rfl⟩ hsm dX10_sums_51)
  · have h := k_f c19_0 h
    by_cases c19_1 : v1 = (1 : Int32)
    · have h := k_t c19_1 h
      refine r_tabIn (off := 33) (tgt := 52) C dX10_sums_19 (by rw [c19_1]; decide) (by rw [c19_1]; decide) (by rw [c19_1]; rfl) (by decide) ?_
      refine r_aload_n C dX10_sums_52 (rfl : 52 + 1 = 53) rfl ?_
      refine r_getR (q := 26) C dX10_sums_53 (rfl : 53 + 3 = 56) fl_X10_50 rfl rfl ?_
      refine r_getI (v := c26_17) C dX10_sums_56 (rfl : 56 + 3 = 59) fl_X10_382 rfl rfl ec26_17 ?_
      cases h
      exact x_of_g (g_iret C hr (Nat.le_of_ble_eq_true rfl) (Nat.le_of_ble_eq_true rfl) ⟨rfl, rfl, rfl⟩ hsm dX10_sums_59)
    · have h := k_f c19_1 h
      by_cases c19_2 : v1 = (2 : Int32)
      · have h := k_t c19_2 h
        refine r_tabIn (off := 41) (tgt := 60) C dX10_sums_19 (by rw [c19_2]; decide) (by rw [c19_2]; decide) (by rw [c19_2]; rfl) (by decide) ?_
        refine r_aload_n C dX10_sums_60 (rfl : 60 + 1 = 61) rfl ?_
        refine r_getR (q := 26) C dX10_sums_61 (rfl : 61 + 3 = 64) fl_X10_50 rfl rfl ?_
        obtain ⟨r64, q64, h⟩ := k_b_of h
        refine d_Vp (pi := [26, 27, 28, 29, 30, 3, 4, 5, 6, 7, 8, 9, 17, 18, 19, 20, 21, 22]) (shl := shMine) (bl := 0) (As := []) (Al := []) (st := []) (st' := [.long r64]) (h' := k_ap [(69, .inr (.inr (.inl r15.2)))] ((shX ++ rest), I, L, Rf)) C hR (k_csl hRc hRs rfl rfl) mv_X3_openCells lk_X10_383 dX10_sums_64 (rfl : 64 + 3 = 67) rfl rfl ck_shX_shMine_26_3 rfl rfl (c_X3_openCells X.l u (k_pl [26, 27, 28, 29, 30, 3, 4, 5, 6, 7, 8, 9, 17, 18, 19, 20, 21, 22] shMine (k_ap [(69, .inr (.inr (.inl r15.2)))] ((shX ++ rest), I, L, Rf))) rfl ec26_3 ec26_4 q64) rfl (fun _ => rfl) rfl (fun _ => rfl) rfl rfl rfl rfl rfl ?_
        obtain ⟨r67, q67, h⟩ := k_b_of h
        refine d_S (As := [.long r64]) (st := []) (st' := [.int r67]) (h' := k_ap [(69, .inr (.inr (.inl r15.2)))] ((shX ++ rest), I, L, Rf)) C hR (k_csl hRc hRs rfl rfl) ms_J13_bitCount_95d88 lk_X10_387 dX10_sums_67 (rfl : 67 + 3 = 70) rfl rfl (c_J13_bitCount_95d88 X.l u (k_ap [(69, .inr (.inr (.inl r15.2)))] ((shX ++ rest), I, L, Rf))  q67) rfl rfl rfl rfl rfl ?_
        cases h
        exact x_of_g (g_iret C hr (Nat.le_of_ble_eq_true rfl) (Nat.le_of_ble_eq_true rfl) ⟨rfl, rfl, rfl⟩ hsm dX10_sums_70)
      · have h := k_f c19_2 h
        have hsw : (v1 : Int32).toInt < 0 ∨ 2 < (v1 : Int32).toInt := k_sw [(0 : Int32), (1 : Int32), (2 : Int32)] (by decide) (by intro v hv; simp only [List.mem_cons, List.not_mem_nil, or_false] at hv; rcases hv with rfl | rfl | rfl <;> assumption)
        refine r_tabOut (tgt := 71) C dX10_sums_19 hsw (by decide) ?_
        refine r_aload_n C dX10_sums_71 (rfl : 71 + 1 = 72) rfl ?_
        refine r_getR (q := 26) C dX10_sums_72 (rfl : 72 + 3 = 75) fl_X10_50 rfl rfl ?_
        obtain ⟨r75, q75, h⟩ := k_b_of h
        refine d_Vp (pi := [26, 27, 28, 29, 30, 3, 4, 5, 6, 7, 8, 9, 17, 18, 19, 20, 21, 22]) (shl := shMine) (bl := 0) (As := []) (Al := []) (st := []) (st' := [.long r75]) (h' := k_ap [(69, .inr (.inr (.inl r15.2)))] ((shX ++ rest), I, L, Rf)) C hR (k_csl hRc hRs rfl rfl) mv_X3_handCells lk_X10_393 dX10_sums_75 (rfl : 75 + 3 = 78) rfl rfl ck_shX_shMine_26_3 rfl rfl (c_X3_handCells X.l u (k_pl [26, 27, 28, 29, 30, 3, 4, 5, 6, 7, 8, 9, 17, 18, 19, 20, 21, 22] shMine (k_ap [(69, .inr (.inr (.inl r15.2)))] ((shX ++ rest), I, L, Rf))) rfl ec26_3 ec26_4 ec3_5 ec3_6 q75) rfl (fun _ => rfl) rfl (fun _ => rfl) rfl rfl rfl rfl rfl ?_
        refine r_aload_n C dX10_sums_78 (rfl : 78 + 1 = 79) rfl ?_
        refine r_getR (q := 26) C dX10_sums_79 (rfl : 79 + 3 = 82) fl_X10_50 rfl rfl ?_
        obtain ⟨r82, q82, h⟩ := k_b_of h
        refine d_Vp (pi := [26, 27, 28, 29, 30, 3, 4, 5, 6, 7, 8, 9, 17, 18, 19, 20, 21, 22]) (shl := shMine) (bl := 0) (As := []) (Al := []) (st := [.long r75]) (st' := [.long r82, .long r75]) (h' := k_ap [(69, .inr (.inr (.inl r15.2)))] ((shX ++ rest), I, L, Rf)) C hR (k_csl hRc hRs rfl rfl) mv_X3_openCells lk_X10_383 dX10_sums_82 (rfl : 82 + 3 = 85) rfl rfl ck_shX_shMine_26_3 rfl rfl (c_X3_openCells X.l u (k_pl [26, 27, 28, 29, 30, 3, 4, 5, 6, 7, 8, 9, 17, 18, 19, 20, 21, 22] shMine (k_ap [(69, .inr (.inr (.inl r15.2)))] ((shX ++ rest), I, L, Rf))) rfl ec26_3 ec26_4 q82) rfl (fun _ => rfl) rfl (fun _ => rfl) rfl rfl rfl rfl rfl ?_
        refine r_ldc2 C dX10_sums_85 (rfl : 85 + 3 = 88) ct_X10_396 ?_
        refine r_lxor C dX10_sums_88 (rfl : 88 + 1 = 89) ?_
        refine r_land C dX10_sums_89 (rfl : 89 + 1 = 90) ?_
        obtain ⟨r90, q90, h⟩ := k_b_of h
        refine d_S (As := [.long (r75 &&& (r82 ^^^ (-1 : Int64)))]) (st := []) (st' := [.int r90]) (h' := k_ap [(69, .inr (.inr (.inl r15.2)))] ((shX ++ rest), I, L, Rf)) C hR (k_csl hRc hRs rfl rfl) ms_J13_bitCount_95d88 lk_X10_387 dX10_sums_90 (rfl : 90 + 3 = 93) rfl rfl (c_J13_bitCount_95d88 X.l u (k_ap [(69, .inr (.inr (.inl r15.2)))] ((shX ++ rest), I, L, Rf))  q90) rfl rfl rfl rfl rfl ?_
        cases h
        exact x_of_g (g_iret C hr (Nat.le_of_ble_eq_true rfl) (Nat.le_of_ble_eq_true rfl) ⟨rfl, rfl, rfl⟩ hsm dX10_sums_93)
set_option maxHeartbeats 1000000 in
set_option maxRecDepth 100000 in
theorem sX10_sums_14 (u : Nat) {X : k_X} {ad0 ad : Nat → Nat} {rest : List k_Sh} (C : k_C X cX10_sums RX10 2 ad) (hr : X.meth.sig.returnType = (some .int)) (hR : X.R.frames = 7 ∧ X.R.locals = 111) (hx : ∀ x ∈ X.c.exceptionTable.toList, False) (hRc : X.R.cells = 1) (hRs : X.R.slots = 6) (hT : X.l.stackTraces = false) (hsm : k_sm (shX ++ rest).length ad0 ad) {I : Nat → Nat → Int32} {L : Nat → Nat → Int64} {Rf : Nat → Nat → Option Nat} {c3_5 : Int64} (ec3_5 : L 3 5 = c3_5) {c3_6 : Int64} (ec3_6 : L 3 6 = c3_6) {c26_16 : Int32} (ec26_16 : I 26 16 = c26_16) {c26_17 : Int32} (ec26_17 : I 26 17 = c26_17) {c26_3 : Int64} (ec26_3 : L 26 3 = c26_3) {c26_4 : Int64} (ec26_4 : L 26 4 = c26_4) {out : Int32 × Int32 × (Nat → Int32)} : ∀ (a69 : (Nat → Int32)) (v1 : Int32), bX10_sums_14 u c3_5 c3_6 c26_16 c26_17 c26_3 c26_4 a69 v1 = some out → k_W X 2 0 0 (k_QX X ad0 (shX ++ rest).length (k_R1 out.1 (some (.int out.2.1)) (k_ap [(69, .inr (.inr (.inl out.2.2)))] ((shX ++ rest), I, L, Rf))) (k_R2 out.1 (k_ap [(69, .inr (.inr (.inl out.2.2)))] ((shX ++ rest), I, L, Rf))) 1 6) ad (k_ap [(69, .inr (.inr (.inl a69)))] ((shX ++ rest), I, L, Rf)) 14 [some (.ref 0), some (.int v1)] [.ref 0] := by
  intro a69 v1 h
  unfold bX10_sums_14 at h
  refine r_iconst (v := (0 : Int32)) C dX10_sums_14 (rfl : 14 + 1 = 15) rfl ?_
  refine k_mask [true, true] ?_
  exact sX10_sums_15 u C hr hR hx hRc hRs hT hsm ec3_5 ec3_6 ec26_16 ec26_17 ec26_3 ec26_4 a69 v1 (0 : Int32) h
set_option maxHeartbeats 1000000 in
set_option maxRecDepth 100000 in
theorem sX10_sums_0 (u : Nat) {X : k_X} {ad0 ad : Nat → Nat} {rest : List k_Sh} (C : k_C X cX10_sums RX10 2 ad) (hr : X.meth.sig.returnType = (some .int)) (hR : X.R.frames = 7 ∧ X.R.locals = 111) (hx : ∀ x ∈ X.c.exceptionTable.toList, False) (hRc : X.R.cells = 1) (hRs : X.R.slots = 6) (hT : X.l.stackTraces = false) (hsm : k_sm (shX ++ rest).length ad0 ad) {I : Nat → Nat → Int32} {L : Nat → Nat → Int64} {Rf : Nat → Nat → Option Nat} {c3_5 : Int64} (ec3_5 : L 3 5 = c3_5) {c3_6 : Int64} (ec3_6 : L 3 6 = c3_6) {c26_16 : Int32} (ec26_16 : I 26 16 = c26_16) {c26_17 : Int32} (ec26_17 : I 26 17 = c26_17) {c26_3 : Int64} (ec26_3 : L 26 3 = c26_3) {c26_4 : Int64} (ec26_4 : L 26 4 = c26_4) {out : Int32 × Int32 × (Nat → Int32)} : ∀ (a69 : (Nat → Int32)) (v1 : Int32), bX10_sums_0 u c3_5 c3_6 c26_16 c26_17 c26_3 c26_4 a69 v1 = some out → k_W X 2 0 0 (k_QX X ad0 (shX ++ rest).length (k_R1 out.1 (some (.int out.2.1)) (k_ap [(69, .inr (.inr (.inl out.2.2)))] ((shX ++ rest), I, L, Rf))) (k_R2 out.1 (k_ap [(69, .inr (.inr (.inl out.2.2)))] ((shX ++ rest), I, L, Rf))) 1 6) ad (k_ap [(69, .inr (.inr (.inl a69)))] ((shX ++ rest), I, L, Rf)) 0 [some (.ref 0), some (.int v1)] [] := by
  intro a69 v1 h
  unfold bX10_sums_0 at h
  refine r_aload_n C dX10_sums_0 (rfl : 0 + 1 = 1) rfl ?_
  refine r_iload_n C dX10_sums_1 (rfl : 1 + 1 = 2) rfl ?_
  refine r_if_lt (tgt := 14) C dX10_sums_2 (by decide) (rfl : 2 + 3 = 5) (fun c2 => ?_) (fun c2 => ?_)
  · have h := k_t c2 h
    refine k_mask [true, true] ?_
    exact sX10_sums_14 u C hr hR hx hRc hRs hT hsm ec3_5 ec3_6 ec26_16 ec26_17 ec26_3 ec26_4 a69 v1 h
  · have h := k_f c2 h
    refine r_iload_n C dX10_sums_5 (rfl : 5 + 1 = 6) rfl ?_
    refine r_iconst (v := (3 : Int32)) C dX10_sums_6 (rfl : 6 + 1 = 7) rfl ?_
    refine r_icmp_gt (tgt := 14) C dX10_sums_7 (by decide) (rfl : 7 + 3 = 10) (fun c7 => ?_) (fun c7 => ?_)
    · have h := k_t c7 h
      refine k_mask [true, true] ?_
      exact sX10_sums_14 u C hr hR hx hRc hRs hT hsm ec3_5 ec3_6 ec26_16 ec26_17 ec26_3 ec26_4 a69 v1 h
    · have h := k_f c7 h
      refine r_iconst (v := (1 : Int32)) C dX10_sums_10 (rfl : 10 + 1 = 11) rfl ?_
      refine r_goto (tgt := 15) C dX10_sums_11 (by decide) ?_
      refine k_mask [true, true] ?_
      exact sX10_sums_15 u C hr hR hx hRc hRs hT hsm ec3_5 ec3_6 ec26_16 ec26_17 ec26_3 ec26_4 a69 v1 (1 : Int32) h
set_option maxHeartbeats 1000000 in
set_option maxRecDepth 100000 in
theorem c_X10_sums (l : Launch) (u : Nat) (hT : l.stackTraces = false) (h : k_H) {rest : List k_Sh} (hsh : h.1 = shX ++ rest) {c3_5 : Int64} (ec3_5 : h.2.2.1 3 5 = c3_5) {c3_6 : Int64} (ec3_6 : h.2.2.1 3 6 = c3_6) {c26_16 : Int32} (ec26_16 : h.2.1 26 16 = c26_16) {c26_17 : Int32} (ec26_17 : h.2.1 26 17 = c26_17) {c26_3 : Int64} (ec26_3 : h.2.2.1 26 3 = c26_3) {c26_4 : Int64} (ec26_4 : h.2.2.1 26 4 = c26_4) {a69 : (Nat → Int32)} (ea69 : h.2.1 69 = a69) {x0 : Int32} {out : Int32 × Int32 × (Nat → Int32)} (hf : f_X10_sums u c3_5 c3_6 c26_16 c26_17 c26_3 c26_4 a69 x0 = some out) : k_CX l yX10_sums cX10_sums 2 (some .int) 7 111 1 6 [.ref 0, .int x0] h (k_R1 out.1 (some (.int out.2.1)) (k_ap [(69, .inr (.inr (.inl out.2.2)))] h)) (k_R2 out.1 (k_ap [(69, .inr (.inr (.inl out.2.2)))] h)) := by
  obtain ⟨sh, I, L, Rf⟩ := h
  try dsimp only
  obtain rfl : sh = shX ++ rest := hsh
  refine k_ofWX (by decide) (Nat.le_of_ble_eq_true rfl) ?_
  intro X ad hl hR0 hr C hx
  have hR : X.R.frames = 7 ∧ X.R.locals = 111 := by rw [hR0]; exact ⟨rfl, rfl⟩
  have hRc : X.R.cells = 1 := by rw [hR0]
  have hRs : X.R.slots = 6 := by rw [hR0]
  have hT : X.l.stackTraces = false := by rw [hl]; exact hT
  have hsm := k_sm_rf (shX ++ rest).length ad
  have h := hf
  unfold f_X10_sums at h
  refine k_start (us := [(69, .inr (.inr (.inl a69)))]) (k_ao_A ea69 k_ap_0) ?_
  show k_W X 2 0 0 (k_QX X ad (shX ++ rest).length (k_R1 out.1 (some (.int out.2.1)) (k_ap [(69, .inr (.inr (.inl out.2.2)))] ((shX ++ rest), I, L, Rf))) (k_R2 out.1 (k_ap [(69, .inr (.inr (.inl out.2.2)))] ((shX ++ rest), I, L, Rf))) 1 6) ad (k_ap [(69, .inr (.inr (.inl a69)))] ((shX ++ rest), I, L, Rf)) 0 [some (.ref 0), some (.int x0)] []
  refine k_mask [true, true] ?_
  exact sX10_sums_0 u C hr hR hx hRc hRs hT hsm ec3_5 ec3_6 ec26_16 ec26_17 ec26_3 ec26_4 a69 x0 h
/-! LullabyPit.open(I)I -/
theorem ds_X10_open : k_ds [(69, 2, 0)] = true := by decide +kernel
set_option maxHeartbeats 1000000 in
set_option maxRecDepth 100000 in
theorem sX10_open_21 (u : Nat) {X : k_X} {ad0 ad : Nat → Nat} {rest : List k_Sh} (C : k_C X cX10_open RX10 2 ad) (hr : X.meth.sig.returnType = (some .int)) (hR : X.R.frames = 7 ∧ X.R.locals = 111) (hx : ∀ x ∈ X.c.exceptionTable.toList, False) (hRc : X.R.cells = 1) (hRs : X.R.slots = 6) (hT : X.l.stackTraces = false) (hsm : k_sm (shX ++ rest).length ad0 ad) {I : Nat → Nat → Int32} {L : Nat → Nat → Int64} {Rf : Nat → Nat → Option Nat} {c3_1 : Int32} (ec3_1 : I 3 1 = c3_1) {c26_3 : Int64} (ec26_3 : L 26 3 = c26_3) {c26_4 : Int64} (ec26_4 : L 26 4 = c26_4) {out : Int32 × Int32 × (Nat → Int32)} : ∀ (a69 : (Nat → Int32)) (v1 : Int32) (w0 : Int32), bX10_open_21 u c3_1 c26_3 c26_4 a69 v1 w0 = some out → k_W X 2 0 0 (k_QX X ad0 (shX ++ rest).length (k_R1 out.1 (some (.int out.2.1)) (k_ap [(69, .inr (.inr (.inl out.2.2)))] ((shX ++ rest), I, L, Rf))) (k_R2 out.1 (k_ap [(69, .inr (.inr (.inl out.2.2)))] ((shX ++ rest), I, L, Rf))) 1 6) ad (k_ap [(69, .inr (.inr (.inl a69)))] ((shX ++ rest), I, L, Rf)) 21 [some (.ref 0), some (.int v1)] [.int w0, .ref 0] := by
  intro a69 v1 w0 h
  unfold bX10_open_21 at h
  obtain ⟨r21, q21, h⟩ := k_b_of h
  refine c_VX (As := [.int w0]) (st := []) C hR (k_csl hRc hRs rfl rfl) mv_X10_need (k_me (tm3 (List.mem_of_getElem? (i := 141) rfl)) rfl) dX10_open_21 (rfl : 21 + 3 = 24) rfl rfl (k_gS rfl) rfl (c_X10_need X.l u hT (k_ap [(69, .inr (.inr (.inl a69)))] ((shX ++ rest), I, L, Rf)) (k_gH rfl) rfl q21) rfl rfl rfl ⟨(k_ox 0 rfl), True.intro, True.intro⟩ True.intro ?_ ?_
  · rintro E ad1 h1 ⟨hk0, rfl, rfl⟩ hsm1 C1
    have h := k_f hk0 h
    cases h
    exact x_out C1 hx (Nat.le_of_ble_eq_true rfl) (Nat.le_of_ble_eq_true rfl) ⟨hk0, rfl, (k_jn (us' := [(69, .inr (.inr (.inl r21.2)))]) ds_X10_open rfl rfl rfl)⟩ (k_sm_tr hsm hsm1 (Nat.le_of_eq (by rw [k_ap_sh])))
  rintro v ad21 h1 ⟨hk0, rfl, rfl⟩ hsm1 C
  have h := k_t hk0 h
  have hsm := k_sm_tr hsm hsm1 (Nat.le_of_eq (by rw [k_ap_sh]))
  refine k_eqh (k_jn (us' := [(69, .inr (.inr (.inl r21.2)))]) ds_X10_open rfl rfl rfl) ?_
  show k_W _ _ _ _ _ _ _ _ _ []
  refine r_aload_n C dX10_open_24 (rfl : 24 + 1 = 25) rfl ?_
  refine r_getR (q := 26) C dX10_open_25 (rfl : 25 + 3 = 28) fl_X10_50 rfl rfl ?_
  obtain ⟨r28, q28, h⟩ := k_b_of h
  refine d_Vp (pi := [26, 27, 28, 29, 30, 3, 4, 5, 6, 7, 8, 9, 17, 18, 19, 20, 21, 22]) (shl := shMine) (bl := 0) (As := []) (Al := []) (st := []) (st' := [.long r28]) (h' := k_ap [(69, .inr (.inr (.inl r21.2)))] ((shX ++ rest), I, L, Rf)) C hR (k_csl hRc hRs rfl rfl) mv_X3_openCells lk_X10_383 dX10_open_28 (rfl : 28 + 3 = 31) rfl rfl ck_shX_shMine_26_3 rfl rfl (c_X3_openCells X.l u (k_pl [26, 27, 28, 29, 30, 3, 4, 5, 6, 7, 8, 9, 17, 18, 19, 20, 21, 22] shMine (k_ap [(69, .inr (.inr (.inl r21.2)))] ((shX ++ rest), I, L, Rf))) rfl ec26_3 ec26_4 q28) rfl (fun _ => rfl) rfl (fun _ => rfl) rfl rfl rfl rfl rfl ?_
  refine r_iload_n C dX10_open_31 (rfl : 31 + 1 = 32) rfl ?_
  obtain ⟨r32, q32, h⟩ := k_b_of h
  refine d_S (As := [.long r28, .int v1]) (st := []) (st' := [.int r32]) (h' := k_ap [(69, .inr (.inr (.inl r21.2)))] ((shX ++ rest), I, L, Rf)) C hR (k_csl hRc hRs rfl rfl) ms_X10_rowOf lk_X10_398 dX10_open_32 (rfl : 32 + 3 = 35) rfl rfl (c_X10_rowOf X.l u (k_ap [(69, .inr (.inr (.inl r21.2)))] ((shX ++ rest), I, L, Rf))  q32) rfl rfl rfl rfl rfl ?_
  cases h
  exact x_of_g (g_iret C hr (Nat.le_of_ble_eq_true rfl) (Nat.le_of_ble_eq_true rfl) ⟨rfl, rfl, rfl⟩ hsm dX10_open_35)
set_option maxHeartbeats 1000000 in
set_option maxRecDepth 100000 in
theorem sX10_open_20 (u : Nat) {X : k_X} {ad0 ad : Nat → Nat} {rest : List k_Sh} (C : k_C X cX10_open RX10 2 ad) (hr : X.meth.sig.returnType = (some .int)) (hR : X.R.frames = 7 ∧ X.R.locals = 111) (hx : ∀ x ∈ X.c.exceptionTable.toList, False) (hRc : X.R.cells = 1) (hRs : X.R.slots = 6) (hT : X.l.stackTraces = false) (hsm : k_sm (shX ++ rest).length ad0 ad) {I : Nat → Nat → Int32} {L : Nat → Nat → Int64} {Rf : Nat → Nat → Option Nat} {c3_1 : Int32} (ec3_1 : I 3 1 = c3_1) {c26_3 : Int64} (ec26_3 : L 26 3 = c26_3) {c26_4 : Int64} (ec26_4 : L 26 4 = c26_4) {out : Int32 × Int32 × (Nat → Int32)} : ∀ (a69 : (Nat → Int32)) (v1 : Int32), bX10_open_20 u c3_1 c26_3 c26_4 a69 v1 = some out → k_W X 2 0 0 (k_QX X ad0 (shX ++ rest).length (k_R1 out.1 (some (.int out.2.1)) (k_ap [(69, .inr (.inr (.inl out.2.2)))] ((shX ++ rest), I, L, Rf))) (k_R2 out.1 (k_ap [(69, .inr (.inr (.inl out.2.2)))] ((shX ++ rest), I, L, Rf))) 1 6) ad (k_ap [(69, .inr (.inr (.inl a69)))] ((shX ++ rest), I, L, Rf)) 20 [some (.ref 0), some (.int v1)] [.ref 0] := by
  intro a69 v1 h
  unfold bX10_open_20 at h
  refine r_iconst (v := (0 : Int32)) C dX10_open_20 (rfl : 20 + 1 = 21) rfl ?_
  refine k_mask [true, true] ?_
  exact sX10_open_21 u C hr hR hx hRc hRs hT hsm ec3_1 ec26_3 ec26_4 a69 v1 (0 : Int32) h
set_option maxHeartbeats 1000000 in
set_option maxRecDepth 100000 in
theorem sX10_open_0 (u : Nat) {X : k_X} {ad0 ad : Nat → Nat} {rest : List k_Sh} (C : k_C X cX10_open RX10 2 ad) (hr : X.meth.sig.returnType = (some .int)) (hR : X.R.frames = 7 ∧ X.R.locals = 111) (hx : ∀ x ∈ X.c.exceptionTable.toList, False) (hRc : X.R.cells = 1) (hRs : X.R.slots = 6) (hT : X.l.stackTraces = false) (hsm : k_sm (shX ++ rest).length ad0 ad) {I : Nat → Nat → Int32} {L : Nat → Nat → Int64} {Rf : Nat → Nat → Option Nat} {c3_1 : Int32} (ec3_1 : I 3 1 = c3_1) {c26_3 : Int64} (ec26_3 : L 26 3 = c26_3) {c26_4 : Int64} (ec26_4 : L 26 4 = c26_4) {out : Int32 × Int32 × (Nat → Int32)} : ∀ (a69 : (Nat → Int32)) (v1 : Int32), bX10_open_0 u c3_1 c26_3 c26_4 a69 v1 = some out → k_W X 2 0 0 (k_QX X ad0 (shX ++ rest).length (k_R1 out.1 (some (.int out.2.1)) (k_ap [(69, .inr (.inr (.inl out.2.2)))] ((shX ++ rest), I, L, Rf))) (k_R2 out.1 (k_ap [(69, .inr (.inr (.inl out.2.2)))] ((shX ++ rest), I, L, Rf))) 1 6) ad (k_ap [(69, .inr (.inr (.inl a69)))] ((shX ++ rest), I, L, Rf)) 0 [some (.ref 0), some (.int v1)] [] := by
  intro a69 v1 h
  unfold bX10_open_0 at h
  refine r_aload_n C dX10_open_0 (rfl : 0 + 1 = 1) rfl ?_
  refine r_iload_n C dX10_open_1 (rfl : 1 + 1 = 2) rfl ?_
  refine r_if_lt (tgt := 20) C dX10_open_2 (by decide) (rfl : 2 + 3 = 5) (fun c2 => ?_) (fun c2 => ?_)
  · have h := k_t c2 h
    refine k_mask [true, true] ?_
    exact sX10_open_20 u C hr hR hx hRc hRs hT hsm ec3_1 ec26_3 ec26_4 a69 v1 h
  · have h := k_f c2 h
    refine r_iload_n C dX10_open_5 (rfl : 5 + 1 = 6) rfl ?_
    refine r_aload_n C dX10_open_6 (rfl : 6 + 1 = 7) rfl ?_
    refine r_getR (q := 3) C dX10_open_7 (rfl : 7 + 3 = 10) fl_X10_19 rfl rfl ?_
    refine r_getI (v := c3_1) C dX10_open_10 (rfl : 10 + 3 = 13) fl_X10_192 rfl rfl ec3_1 ?_
    refine r_icmp_ge (tgt := 20) C dX10_open_13 (by decide) (rfl : 13 + 3 = 16) (fun c13 => ?_) (fun c13 => ?_)
    · have h := k_t c13 h
      refine k_mask [true, true] ?_
      exact sX10_open_20 u C hr hR hx hRc hRs hT hsm ec3_1 ec26_3 ec26_4 a69 v1 h
    · have h := k_f c13 h
      refine r_iconst (v := (1 : Int32)) C dX10_open_16 (rfl : 16 + 1 = 17) rfl ?_
      refine r_goto (tgt := 21) C dX10_open_17 (by decide) ?_
      refine k_mask [true, true] ?_
      exact sX10_open_21 u C hr hR hx hRc hRs hT hsm ec3_1 ec26_3 ec26_4 a69 v1 (1 : Int32) h
set_option maxHeartbeats 1000000 in
set_option maxRecDepth 100000 in
theorem c_X10_open (l : Launch) (u : Nat) (hT : l.stackTraces = false) (h : k_H) {rest : List k_Sh} (hsh : h.1 = shX ++ rest) {c3_1 : Int32} (ec3_1 : h.2.1 3 1 = c3_1) {c26_3 : Int64} (ec26_3 : h.2.2.1 26 3 = c26_3) {c26_4 : Int64} (ec26_4 : h.2.2.1 26 4 = c26_4) {a69 : (Nat → Int32)} (ea69 : h.2.1 69 = a69) {x0 : Int32} {out : Int32 × Int32 × (Nat → Int32)} (hf : f_X10_open u c3_1 c26_3 c26_4 a69 x0 = some out) : k_CX l yX10_open cX10_open 2 (some .int) 7 111 1 6 [.ref 0, .int x0] h (k_R1 out.1 (some (.int out.2.1)) (k_ap [(69, .inr (.inr (.inl out.2.2)))] h)) (k_R2 out.1 (k_ap [(69, .inr (.inr (.inl out.2.2)))] h)) := by
  obtain ⟨sh, I, L, Rf⟩ := h
  try dsimp only
  obtain rfl : sh = shX ++ rest := hsh
  refine k_ofWX (by decide) (Nat.le_of_ble_eq_true rfl) ?_
  intro X ad hl hR0 hr C hx
  have hR : X.R.frames = 7 ∧ X.R.locals = 111 := by rw [hR0]; exact ⟨rfl, rfl⟩
  have hRc : X.R.cells = 1 := by rw [hR0]
  have hRs : X.R.slots = 6 := by rw [hR0]
  have hT : X.l.stackTraces = false := by rw [hl]; exact hT
  have hsm := k_sm_rf (shX ++ rest).length ad
  have h := hf
  unfold f_X10_open at h
  refine k_start (us := [(69, .inr (.inr (.inl a69)))]) (k_ao_A ea69 k_ap_0) ?_
  show k_W X 2 0 0 (k_QX X ad (shX ++ rest).length (k_R1 out.1 (some (.int out.2.1)) (k_ap [(69, .inr (.inr (.inl out.2.2)))] ((shX ++ rest), I, L, Rf))) (k_R2 out.1 (k_ap [(69, .inr (.inr (.inl out.2.2)))] ((shX ++ rest), I, L, Rf))) 1 6) ad (k_ap [(69, .inr (.inr (.inl a69)))] ((shX ++ rest), I, L, Rf)) 0 [some (.ref 0), some (.int x0)] []
  refine k_mask [true, true] ?_
  exact sX10_open_0 u C hr hR hx hRc hRs hT hsm ec3_1 ec26_3 ec26_4 a69 x0 h
/-! LullabyPit$Past.forget()V -/
theorem ds_X4_forget : k_ds [(35, 0, 1), (35, 0, 5)] = true := by decide +kernel
set_option maxHeartbeats 400000 in
set_option maxRecDepth 100000 in
theorem sX4_forget_0 (u : Nat) {X : k_X} {ad : Nat → Nat} {rest : List k_Sh} (C : k_C X cX4_forget RX4 1 ad) (hr : X.meth.sig.returnType = none) (hR : X.R.frames = 0 ∧ X.R.locals = 0) {I : Nat → Nat → Int32} {L : Nat → Nat → Int64} {Rf : Nat → Nat → Option Nat} {out : Int32 × Int32} : ∀ (c35_1 : Int32) (c35_5 : Int32), bX4_forget_0 u c35_1 c35_5 = some out → k_W X 1 0 0 (k_Q X ad none (k_ap [(35, .inl (1, out.1)), (35, .inl (5, out.2))] ((shX ++ rest), I, L, Rf))) ad (k_ap [(35, .inl (1, c35_1)), (35, .inl (5, c35_5))] ((shX ++ rest), I, L, Rf)) 0 [some (.ref 35)] [] := by
  intro c35_1 c35_5 h
  unfold bX4_forget_0 at h
  refine r_aload_n C dX4_forget_0 (rfl : 0 + 1 = 1) rfl ?_
  refine r_iconst (v := (0 : Int32)) C dX4_forget_1 (rfl : 1 + 1 = 2) rfl ?_
  refine p_I (us' := [(35, .inl (1, (0 : Int32))), (35, .inl (5, c35_5))]) C dX4_forget_2 (rfl : 2 + 3 = 5) fp_X4_25 rfl rfl ds_X4_forget rfl rfl rfl ?_
  refine r_aload_n C dX4_forget_5 (rfl : 5 + 1 = 6) rfl ?_
  refine r_iconst (v := (0 : Int32)) C dX4_forget_6 (rfl : 6 + 1 = 7) rfl ?_
  refine p_I (us' := [(35, .inl (1, (0 : Int32))), (35, .inl (5, (0 : Int32)))]) C dX4_forget_7 (rfl : 7 + 3 = 10) fp_X4_29 rfl rfl ds_X4_forget rfl rfl rfl ?_
  cases h
  exact r_vret C hr dX4_forget_10
set_option maxHeartbeats 400000 in
set_option maxRecDepth 100000 in
theorem c_X4_forget (l : Launch) (u : Nat) (h : k_H) {rest : List k_Sh} (hsh : h.1 = (shX ++ rest)) {c35_1 : Int32} (ec35_1 : h.2.1 35 1 = c35_1) {c35_5 : Int32} (ec35_5 : h.2.1 35 5 = c35_5) {out : Int32 × Int32} (hf : f_X4_forget u c35_1 c35_5 = some out) : k_CT l yX4_forget cX4_forget 1 none 0 0 [.ref 35] h none [(35, .inl (1, out.1)), (35, .inl (5, out.2))] := by
  obtain ⟨sh, I, L, Rf⟩ := h
  try dsimp only
  obtain rfl : sh = (shX ++ rest) := hsh
  refine k_ofW (by decide) (Nat.le_of_ble_eq_true rfl) ?_
  intro X ad hl hR0 hr C
  have hR : X.R.frames = 0 ∧ X.R.locals = 0 := by rw [hR0]; exact ⟨rfl, rfl⟩
  have h := hf
  unfold f_X4_forget at h
  refine k_start (us := [(35, .inl (1, c35_1)), (35, .inl (5, c35_5))]) (k_ao_I ec35_1 (k_ao_I ec35_5 k_ap_0)) ?_
  show k_W X 1 0 0 _ ad (k_ap [(35, .inl (1, c35_1)), (35, .inl (5, c35_5))] ((shX ++ rest), I, L, Rf)) 0 [some (.ref 35)] []
  refine k_mask [true] ?_
  exact sX4_forget_0 u C hr hR c35_1 c35_5 h
