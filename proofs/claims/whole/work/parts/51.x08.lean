/-! LullabyPit$Law.copyFrom(LLullabyPit$Law;)V -/
theorem ds_X1_copyFrom : k_ds [(0, 0, 2), (1, 2, 0)] = true := by decide +kernel
set_option maxHeartbeats 400000 in
set_option maxRecDepth 100000 in
theorem sX1_copyFrom_0 (u : Nat) {X : k_X} {ad : Nat → Nat} (C : k_C X cX1_copyFrom RX1 2 ad) (hr : X.meth.sig.returnType = none) (hR : X.R.frames = 1 ∧ X.R.locals = 40) {I : Nat → Nat → Int32} {L : Nat → Nat → Int64} {Rf : Nat → Nat → Option Nat} {c3_2 : Int32} (ec3_2 : I 3 2 = c3_2) {a4 : (Nat → Int32)} (ea4 : I 4 = a4) {out : Int32 × (Nat → Int32)} : ∀ (c0_2 : Int32) (a1 : (Nat → Int32)), bX1_copyFrom_0 u c3_2 a4 c0_2 a1 = some out → k_W X 2 0 0 (k_Q X ad none (k_ap [(0, .inl (2, out.1)), (1, .inr (.inr (.inl out.2)))] (shLaw2, I, L, Rf))) ad (k_ap [(0, .inl (2, c0_2)), (1, .inr (.inr (.inl a1)))] (shLaw2, I, L, Rf)) 0 [some (.ref 0), some (.ref 3)] [] := by
  intro c0_2 a1 h
  unfold bX1_copyFrom_0 at h
  refine r_aload_n C dX1_copyFrom_0 (rfl : 0 + 1 = 1) rfl ?_
  refine r_getR (q := 4) C dX1_copyFrom_1 (rfl : 1 + 3 = 4) fl_X1_9 rfl rfl ?_
  refine r_iconst (v := (0 : Int32)) C dX1_copyFrom_4 (rfl : 4 + 1 = 5) rfl ?_
  refine r_aload_n C dX1_copyFrom_5 (rfl : 5 + 1 = 6) rfl ?_
  refine r_getR (q := 1) C dX1_copyFrom_6 (rfl : 6 + 3 = 9) fl_X1_9 rfl rfl ?_
  refine r_iconst (v := (0 : Int32)) C dX1_copyFrom_9 (rfl : 9 + 1 = 10) rfl ?_
  refine r_sipush (v := (150 : Int32)) C dX1_copyFrom_10 (rfl : 10 + 3 = 13) rfl ?_
  refine r_acopy (f := a4) (g := a1) (us' := [(0, .inl (2, c0_2)), (1, .inr (.inr (.inl (va_cpy a4 a1 0 0 150))))]) C hR dX1_copyFrom_13 (rfl : 13 + 3 = 16) lm_X1_26 rfl rfl ea4 rfl (by decide) (by decide) (by decide) (by decide) (by decide) ds_X1_copyFrom rfl rfl rfl rfl rfl ?_
  refine r_aload_n C dX1_copyFrom_16 (rfl : 16 + 1 = 17) rfl ?_
  refine r_aload_n C dX1_copyFrom_17 (rfl : 17 + 1 = 18) rfl ?_
  refine r_getI (v := c3_2) C dX1_copyFrom_18 (rfl : 18 + 3 = 21) fl_X1_18 rfl rfl ec3_2 ?_
  refine p_I (us' := [(0, .inl (2, c3_2)), (1, .inr (.inr (.inl (va_cpy a4 a1 0 0 150))))]) C dX1_copyFrom_21 (rfl : 21 + 3 = 24) fp_X1_18 rfl rfl ds_X1_copyFrom rfl rfl rfl ?_
  cases h
  exact r_vret C hr dX1_copyFrom_24
set_option maxHeartbeats 400000 in
set_option maxRecDepth 100000 in
theorem c_X1_copyFrom (l : Launch) (u : Nat) (h : k_H) (hsh : h.1 = shLaw2) {c0_2 : Int32} (ec0_2 : h.2.1 0 2 = c0_2) {a1 : (Nat → Int32)} (ea1 : h.2.1 1 = a1) {c3_2 : Int32} (ec3_2 : h.2.1 3 2 = c3_2) {a4 : (Nat → Int32)} (ea4 : h.2.1 4 = a4) {out : Int32 × (Nat → Int32)} (hf : f_X1_copyFrom u c0_2 a1 c3_2 a4 = some out) : k_CT l yX1_copyFrom cX1_copyFrom 2 none 1 40 [.ref 0, .ref 3] h none [(0, .inl (2, out.1)), (1, .inr (.inr (.inl out.2)))] := by
  obtain ⟨sh, I, L, Rf⟩ := h
  try dsimp only
  obtain rfl : sh = shLaw2 := hsh
  refine k_ofW (by decide) (Nat.le_of_ble_eq_true rfl) ?_
  intro X ad hl hR0 hr C
  have hR : X.R.frames = 1 ∧ X.R.locals = 40 := by rw [hR0]; exact ⟨rfl, rfl⟩
  have h := hf
  unfold f_X1_copyFrom at h
  refine k_start (us := [(0, .inl (2, c0_2)), (1, .inr (.inr (.inl a1)))]) (k_ao_I ec0_2 (k_ao_A ea1 k_ap_0)) ?_
  show k_W X 2 0 0 _ ad (k_ap [(0, .inl (2, c0_2)), (1, .inr (.inr (.inl a1)))] (shLaw2, I, L, Rf)) 0 [some (.ref 0), some (.ref 3)] []
  refine k_mask [true, true] ?_
  exact sX1_copyFrom_0 u C hr hR ec3_2 ea4 c0_2 a1 h
/-! LullabyPit$Law.joined(III)I -/
theorem ds_X1_joined : k_ds [] = true := by decide +kernel
set_option maxHeartbeats 400000 in
set_option maxRecDepth 100000 in
theorem sX1_joined_0 (u : Nat) {X : k_X} {ad : Nat → Nat} {sh : List k_Sh} (C : k_C X cX1_joined RX1 3 ad) (hr : X.meth.sig.returnType = (some .int)) (hR : X.R.frames = 0 ∧ X.R.locals = 0) {I : Nat → Nat → Int32} {L : Nat → Nat → Int64} {Rf : Nat → Nat → Option Nat} {out : Int32} : ∀ (v0 : Int32) (v1 : Int32) (v2 : Int32), bX1_joined_0 u v0 v1 v2 = some out → k_W X 3 0 0 (k_Q X ad (some (.int out)) (k_ap [] (sh, I, L, Rf))) ad (k_ap [] (sh, I, L, Rf)) 0 [some (.int v0), some (.int v1), some (.int v2)] [] := by
  intro v0 v1 v2 h
  unfold bX1_joined_0 at h
  refine r_iload_n C dX1_joined_0 (rfl : 0 + 1 = 1) rfl ?_
  by_cases c1_0 : v0 = (-13 : Int32)
  · have h := k_t c1_0 h
    refine r_tabIn (off := 65) (tgt := 66) C dX1_joined_1 (by rw [c1_0]; decide) (by rw [c1_0]; decide) (by rw [c1_0]; rfl) (by decide) ?_
    refine r_iload_n C dX1_joined_66 (rfl : 66 + 1 = 67) rfl ?_
    refine r_iload_n C dX1_joined_67 (rfl : 67 + 1 = 68) rfl ?_
    refine r_imul C dX1_joined_68 (rfl : 68 + 1 = 69) ?_
    cases h
    exact r_iret C hr dX1_joined_69
  · have h := k_f c1_0 h
    by_cases c1_1 : v0 = (-12 : Int32)
    · have h := k_t c1_1 h
      refine r_tabIn (off := 61) (tgt := 62) C dX1_joined_1 (by rw [c1_1]; decide) (by rw [c1_1]; decide) (by rw [c1_1]; rfl) (by decide) ?_
      refine r_iload_n C dX1_joined_62 (rfl : 62 + 1 = 63) rfl ?_
      refine r_iload_n C dX1_joined_63 (rfl : 63 + 1 = 64) rfl ?_
      refine r_isub C dX1_joined_64 (rfl : 64 + 1 = 65) ?_
      cases h
      exact r_iret C hr dX1_joined_65
    · have h := k_f c1_1 h
      by_cases c1_2 : v0 = (-11 : Int32)
      · have h := k_t c1_2 h
        refine r_tabIn (off := 57) (tgt := 58) C dX1_joined_1 (by rw [c1_2]; decide) (by rw [c1_2]; decide) (by rw [c1_2]; rfl) (by decide) ?_
        refine r_iload_n C dX1_joined_58 (rfl : 58 + 1 = 59) rfl ?_
        refine r_iload_n C dX1_joined_59 (rfl : 59 + 1 = 60) rfl ?_
        refine r_iadd C dX1_joined_60 (rfl : 60 + 1 = 61) ?_
        cases h
        exact r_iret C hr dX1_joined_61
      · have h := k_f c1_2 h
        by_cases c1_3 : v0 = (-10 : Int32)
        · have h := k_t c1_3 h
          refine r_tabIn (off := 46) (tgt := 47) C dX1_joined_1 (by rw [c1_3]; decide) (by rw [c1_3]; decide) (by rw [c1_3]; rfl) (by decide) ?_
          refine r_iload_n C dX1_joined_47 (rfl : 47 + 1 = 48) rfl ?_
          refine r_iload_n C dX1_joined_48 (rfl : 48 + 1 = 49) rfl ?_
          refine r_icmp_le (tgt := 56) C dX1_joined_49 (by decide) (rfl : 49 + 3 = 52) (fun c49 => ?_) (fun c49 => ?_)
          · have h := k_t c49 h
            refine r_iload_n C dX1_joined_56 (rfl : 56 + 1 = 57) rfl ?_
            cases h
            exact r_iret C hr dX1_joined_57
          · have h := k_f c49 h
            refine r_iload_n C dX1_joined_52 (rfl : 52 + 1 = 53) rfl ?_
            refine r_goto (tgt := 57) C dX1_joined_53 (by decide) ?_
            cases h
            exact r_iret C hr dX1_joined_57
        · have h := k_f c1_3 h
          by_cases c1_4 : v0 = (-9 : Int32)
          · have h := k_t c1_4 h
            refine r_tabIn (off := 35) (tgt := 36) C dX1_joined_1 (by rw [c1_4]; decide) (by rw [c1_4]; decide) (by rw [c1_4]; rfl) (by decide) ?_
            refine r_iload_n C dX1_joined_36 (rfl : 36 + 1 = 37) rfl ?_
            refine r_iload_n C dX1_joined_37 (rfl : 37 + 1 = 38) rfl ?_
            refine r_icmp_ge (tgt := 45) C dX1_joined_38 (by decide) (rfl : 38 + 3 = 41) (fun c38 => ?_) (fun c38 => ?_)
            · have h := k_t c38 h
              refine r_iload_n C dX1_joined_45 (rfl : 45 + 1 = 46) rfl ?_
              cases h
              exact r_iret C hr dX1_joined_46
            · have h := k_f c38 h
              refine r_iload_n C dX1_joined_41 (rfl : 41 + 1 = 42) rfl ?_
              refine r_goto (tgt := 46) C dX1_joined_42 (by decide) ?_
              cases h
              exact r_iret C hr dX1_joined_46
          · have h := k_f c1_4 h
            have hsw : (v0 : Int32).toInt < -13 ∨ -9 < (v0 : Int32).toInt := k_sw [(-13 : Int32), (-12 : Int32), (-11 : Int32), (-10 : Int32), (-9 : Int32)] (by decide) (by intro v hv; simp only [List.mem_cons, List.not_mem_nil, or_false] at hv; rcases hv with rfl | rfl | rfl | rfl | rfl <;> assumption)
            refine r_tabOut (tgt := 70) C dX1_joined_1 hsw (by decide) ?_
            refine r_iload_n C dX1_joined_70 (rfl : 70 + 1 = 71) rfl ?_
            refine r_if_ne (tgt := 78) C dX1_joined_71 (by decide) (rfl : 71 + 3 = 74) (fun c71 => ?_) (fun c71 => ?_)
            · have h := k_f c71 h
              refine r_iload_n C dX1_joined_78 (rfl : 78 + 1 = 79) rfl ?_
              refine r_iload_n C dX1_joined_79 (rfl : 79 + 1 = 80) rfl ?_
              obtain ⟨hz80, h⟩ := k_d_of h
              refine r_idiv C dX1_joined_80 (rfl : 80 + 1 = 81) hz80 ?_
              cases h
              exact r_iret C hr dX1_joined_81
            · have h := k_t c71 h
              refine r_iconst (v := (0 : Int32)) C dX1_joined_74 (rfl : 74 + 1 = 75) rfl ?_
              refine r_goto (tgt := 81) C dX1_joined_75 (by decide) ?_
              cases h
              exact r_iret C hr dX1_joined_81
set_option maxHeartbeats 400000 in
set_option maxRecDepth 100000 in
theorem c_X1_joined (l : Launch) (u : Nat) (h : k_H)  {x0 : Int32} {x1 : Int32} {x2 : Int32} {out : Int32} (hf : f_X1_joined u x0 x1 x2 = some out) : k_CT l yX1_joined cX1_joined 3 (some .int) 0 0 [.int x0, .int x1, .int x2] h (some (.int out)) [] := by
  obtain ⟨sh, I, L, Rf⟩ := h
  try dsimp only
  refine k_ofW (by decide) (Nat.le_of_ble_eq_true rfl) ?_
  intro X ad hl hR0 hr C
  have hR : X.R.frames = 0 ∧ X.R.locals = 0 := by rw [hR0]; exact ⟨rfl, rfl⟩
  have h := hf
  unfold f_X1_joined at h
  refine k_start (us := []) k_ap_0 ?_
  show k_W X 3 0 0 _ ad (k_ap [] (sh, I, L, Rf)) 0 [some (.int x0), some (.int x1), some (.int x2)] []
  refine k_mask [true, true, true] ?_
  exact sX1_joined_0 u C hr hR x0 x1 x2 h
/-! LullabyPit$Mine.propsBeside(I)I -/
theorem ds_X3_propsBeside : k_ds [] = true := by decide +kernel
set_option maxHeartbeats 400000 in
set_option maxRecDepth 100000 in
theorem sX3_propsBeside_24 (u : Nat) {X : k_X} {ad : Nat → Nat} (C : k_C X cX3_propsBeside RX3 5 ad) (hr : X.meth.sig.returnType = (some .int)) (hR : X.R.frames = 0 ∧ X.R.locals = 0) {I : Nat → Nat → Int32} {L : Nat → Nat → Int64} {Rf : Nat → Nat → Option Nat} {c0_4 : Int64} (ec0_4 : L 0 4 = c0_4) {out : Int32} : ∀ (v1 : Int32) (v2 : Int32) (w0 : Int32), bX3_propsBeside_24 u c0_4 v1 v2 w0 = some out → k_W X 5 0 0 (k_Q X ad (some (.int out)) (k_ap [] (shMine, I, L, Rf))) ad (k_ap [] (shMine, I, L, Rf)) 24 [some (.ref 0), some (.int v1), some (.int v2), none, none] [.int w0] := by
  intro v1 v2 w0 h
  unfold bX3_propsBeside_24 at h
  refine r_istore_n C dX3_propsBeside_24 (rfl : 24 + 1 = 25) (by decide) (Nat.le_of_ble_eq_true rfl) ?_
  show k_W _ _ _ _ _ _ _ _ [some (.ref 0), some (.int v1), some (.int v2), some (.int w0), none] _
  refine r_iload_n C dX3_propsBeside_25 (rfl : 25 + 1 = 26) rfl ?_
  refine r_bipush (v := (7 : Int32)) C dX3_propsBeside_26 (rfl : 26 + 2 = 28) rfl ?_
  refine r_icmp_ge (tgt := 45) C dX3_propsBeside_28 (by decide) (rfl : 28 + 3 = 31) (fun c28 => ?_) (fun c28 => ?_)
  · have h := k_t c28 h
    refine r_iconst (v := (0 : Int32)) C dX3_propsBeside_45 (rfl : 45 + 1 = 46) rfl ?_
    refine r_istore C dX3_propsBeside_46 (rfl : 46 + 2 = 48) (by decide) (Nat.le_of_ble_eq_true rfl) ?_
    show k_W _ _ _ _ _ _ _ _ [some (.ref 0), some (.int v1), some (.int v2), some (.int w0), some (.int (0 : Int32))] _
    refine r_iload_n C dX3_propsBeside_48 (rfl : 48 + 1 = 49) rfl ?_
    refine r_iload C dX3_propsBeside_49 (rfl : 49 + 2 = 51) rfl ?_
    refine r_iadd C dX3_propsBeside_51 (rfl : 51 + 1 = 52) ?_
    cases h
    exact r_iret C hr dX3_propsBeside_52
  · have h := k_f c28 h
    refine r_aload_n C dX3_propsBeside_31 (rfl : 31 + 1 = 32) rfl ?_
    refine r_getL (v := c0_4) C dX3_propsBeside_32 (rfl : 32 + 3 = 35) fl_X3_39 rfl rfl ec0_4 ?_
    refine r_iload_n C dX3_propsBeside_35 (rfl : 35 + 1 = 36) rfl ?_
    refine r_iconst (v := (1 : Int32)) C dX3_propsBeside_36 (rfl : 36 + 1 = 37) rfl ?_
    refine r_iadd C dX3_propsBeside_37 (rfl : 37 + 1 = 38) ?_
    refine r_lushr C dX3_propsBeside_38 (rfl : 38 + 1 = 39) ?_
    refine r_lconst (v := (1 : Int64)) C dX3_propsBeside_39 (rfl : 39 + 1 = 40) rfl ?_
    refine r_land C dX3_propsBeside_40 (rfl : 40 + 1 = 41) ?_
    refine r_l2i C dX3_propsBeside_41 (rfl : 41 + 1 = 42) ?_
    refine r_goto (tgt := 46) C dX3_propsBeside_42 (by decide) ?_
    refine r_istore C dX3_propsBeside_46 (rfl : 46 + 2 = 48) (by decide) (Nat.le_of_ble_eq_true rfl) ?_
    show k_W _ _ _ _ _ _ _ _ [some (.ref 0), some (.int v1), some (.int v2), some (.int w0), some (.int ((((c0_4).toUInt64 >>> (((v1 + (1 : Int32))).toInt64.toUInt64 &&& Int64.toUInt64 63)).toInt64 &&& (1 : Int64))).toInt32)] _
    refine r_iload_n C dX3_propsBeside_48 (rfl : 48 + 1 = 49) rfl ?_
    refine r_iload C dX3_propsBeside_49 (rfl : 49 + 2 = 51) rfl ?_
    refine r_iadd C dX3_propsBeside_51 (rfl : 51 + 1 = 52) ?_
    cases h
    exact r_iret C hr dX3_propsBeside_52
set_option maxHeartbeats 400000 in
set_option maxRecDepth 100000 in
theorem sX3_propsBeside_0 (u : Nat) {X : k_X} {ad : Nat → Nat} (C : k_C X cX3_propsBeside RX3 5 ad) (hr : X.meth.sig.returnType = (some .int)) (hR : X.R.frames = 0 ∧ X.R.locals = 0) {I : Nat → Nat → Int32} {L : Nat → Nat → Int64} {Rf : Nat → Nat → Option Nat} {c0_4 : Int64} (ec0_4 : L 0 4 = c0_4) {out : Int32} : ∀ (v1 : Int32), bX3_propsBeside_0 u c0_4 v1 = some out → k_W X 5 0 0 (k_Q X ad (some (.int out)) (k_ap [] (shMine, I, L, Rf))) ad (k_ap [] (shMine, I, L, Rf)) 0 [some (.ref 0), some (.int v1), none, none, none] [] := by
  intro v1 h
  unfold bX3_propsBeside_0 at h
  refine r_iload_n C dX3_propsBeside_0 (rfl : 0 + 1 = 1) rfl ?_
  refine r_bipush (v := (8 : Int32)) C dX3_propsBeside_1 (rfl : 1 + 2 = 3) rfl ?_
  refine r_irem C dX3_propsBeside_3 (rfl : 3 + 1 = 4) (by decide) ?_
  refine r_istore_n C dX3_propsBeside_4 (rfl : 4 + 1 = 5) (by decide) (Nat.le_of_ble_eq_true rfl) ?_
  show k_W _ _ _ _ _ _ _ _ [some (.ref 0), some (.int v1), some (.int (v1 - v1 / (8 : Int32) * (8 : Int32))), none, none] _
  refine r_iload_n C dX3_propsBeside_5 (rfl : 5 + 1 = 6) rfl ?_
  refine r_if_le (tgt := 23) C dX3_propsBeside_6 (by decide) (rfl : 6 + 3 = 9) (fun c6 => ?_) (fun c6 => ?_)
  · have h := k_t c6 h
    refine r_iconst (v := (0 : Int32)) C dX3_propsBeside_23 (rfl : 23 + 1 = 24) rfl ?_
    refine k_mask [true, true, true, false, false] ?_
    exact sX3_propsBeside_24 u C hr hR ec0_4 v1 (v1 - v1 / (8 : Int32) * (8 : Int32)) (0 : Int32) h
  · have h := k_f c6 h
    refine r_aload_n C dX3_propsBeside_9 (rfl : 9 + 1 = 10) rfl ?_
    refine r_getL (v := c0_4) C dX3_propsBeside_10 (rfl : 10 + 3 = 13) fl_X3_39 rfl rfl ec0_4 ?_
    refine r_iload_n C dX3_propsBeside_13 (rfl : 13 + 1 = 14) rfl ?_
    refine r_iconst (v := (1 : Int32)) C dX3_propsBeside_14 (rfl : 14 + 1 = 15) rfl ?_
    refine r_isub C dX3_propsBeside_15 (rfl : 15 + 1 = 16) ?_
    refine r_lushr C dX3_propsBeside_16 (rfl : 16 + 1 = 17) ?_
    refine r_lconst (v := (1 : Int64)) C dX3_propsBeside_17 (rfl : 17 + 1 = 18) rfl ?_
    refine r_land C dX3_propsBeside_18 (rfl : 18 + 1 = 19) ?_
    refine r_l2i C dX3_propsBeside_19 (rfl : 19 + 1 = 20) ?_
    refine r_goto (tgt := 24) C dX3_propsBeside_20 (by decide) ?_
    refine k_mask [true, true, true, false, false] ?_
    exact sX3_propsBeside_24 u C hr hR ec0_4 v1 (v1 - v1 / (8 : Int32) * (8 : Int32)) (((((c0_4).toUInt64 >>> (((v1 - (1 : Int32))).toInt64.toUInt64 &&& Int64.toUInt64 63)).toInt64 &&& (1 : Int64))).toInt32) h
set_option maxHeartbeats 400000 in
set_option maxRecDepth 100000 in
theorem c_X3_propsBeside (l : Launch) (u : Nat) (h : k_H) (hsh : h.1 = shMine) {c0_4 : Int64} (ec0_4 : h.2.2.1 0 4 = c0_4) {x0 : Int32} {out : Int32} (hf : f_X3_propsBeside u c0_4 x0 = some out) : k_CT l yX3_propsBeside cX3_propsBeside 5 (some .int) 0 0 [.ref 0, .int x0] h (some (.int out)) [] := by
  obtain ⟨sh, I, L, Rf⟩ := h
  try dsimp only
  obtain rfl : sh = shMine := hsh
  refine k_ofW (by decide) (Nat.le_of_ble_eq_true rfl) ?_
  intro X ad hl hR0 hr C
  have hR : X.R.frames = 0 ∧ X.R.locals = 0 := by rw [hR0]; exact ⟨rfl, rfl⟩
  have h := hf
  unfold f_X3_propsBeside at h
  refine k_start (us := []) k_ap_0 ?_
  show k_W X 5 0 0 _ ad (k_ap [] (shMine, I, L, Rf)) 0 [some (.ref 0), some (.int x0), none, none, none] []
  refine k_mask [true, true, false, false, false] ?_
  exact sX3_propsBeside_0 u C hr hR ec0_4 x0 h
/-! LullabyPit$Mine.openCells()J -/
theorem ds_X3_openCells : k_ds [] = true := by decide +kernel
set_option maxHeartbeats 400000 in
set_option maxRecDepth 100000 in
theorem sX3_openCells_0 (u : Nat) {X : k_X} {ad : Nat → Nat} (C : k_C X cX3_openCells RX3 1 ad) (hr : X.meth.sig.returnType = (some .long)) (hR : X.R.frames = 0 ∧ X.R.locals = 0) {I : Nat → Nat → Int32} {L : Nat → Nat → Int64} {Rf : Nat → Nat → Option Nat} {c0_3 : Int64} (ec0_3 : L 0 3 = c0_3) {c0_4 : Int64} (ec0_4 : L 0 4 = c0_4) {out : Int64} : bX3_openCells_0 u c0_3 c0_4 = some out → k_W X 1 0 0 (k_Q X ad (some (.long out)) (k_ap [] (shMine, I, L, Rf))) ad (k_ap [] (shMine, I, L, Rf)) 0 [some (.ref 0)] [] := by
  intro h
  unfold bX3_openCells_0 at h
  refine r_aload_n C dX3_openCells_0 (rfl : 0 + 1 = 1) rfl ?_
  refine r_getL (v := c0_3) C dX3_openCells_1 (rfl : 1 + 3 = 4) fl_X3_35 rfl rfl ec0_3 ?_
  refine r_aload_n C dX3_openCells_4 (rfl : 4 + 1 = 5) rfl ?_
  refine r_getL (v := c0_4) C dX3_openCells_5 (rfl : 5 + 3 = 8) fl_X3_39 rfl rfl ec0_4 ?_
  refine r_lor C dX3_openCells_8 (rfl : 8 + 1 = 9) ?_
  cases h
  exact r_lret C hr dX3_openCells_9
set_option maxHeartbeats 400000 in
set_option maxRecDepth 100000 in
theorem c_X3_openCells (l : Launch) (u : Nat) (h : k_H) (hsh : h.1 = shMine) {c0_3 : Int64} (ec0_3 : h.2.2.1 0 3 = c0_3) {c0_4 : Int64} (ec0_4 : h.2.2.1 0 4 = c0_4) {out : Int64} (hf : f_X3_openCells u c0_3 c0_4 = some out) : k_CT l yX3_openCells cX3_openCells 1 (some .long) 0 0 [.ref 0] h (some (.long out)) [] := by
  obtain ⟨sh, I, L, Rf⟩ := h
  try dsimp only
  obtain rfl : sh = shMine := hsh
  refine k_ofW (by decide) (Nat.le_of_ble_eq_true rfl) ?_
  intro X ad hl hR0 hr C
  have hR : X.R.frames = 0 ∧ X.R.locals = 0 := by rw [hR0]; exact ⟨rfl, rfl⟩
  have h := hf
  unfold f_X3_openCells at h
  refine k_start (us := []) k_ap_0 ?_
  show k_W X 1 0 0 _ ad (k_ap [] (shMine, I, L, Rf)) 0 [some (.ref 0)] []
  refine k_mask [true] ?_
  exact sX3_openCells_0 u C hr hR ec0_3 ec0_4 h
/-! LullabyPit$Mine.wide(I)I -/
theorem ds_X3_wide : k_ds [] = true := by decide +kernel
set_option maxHeartbeats 400000 in
set_option maxRecDepth 100000 in
theorem sX3_wide_63 (u : Nat) {X : k_X} {ad : Nat → Nat} (C : k_C X cX3_wide RX3 5 ad) (hr : X.meth.sig.returnType = (some .int)) (hR : X.R.frames = 0 ∧ X.R.locals = 0) {I : Nat → Nat → Int32} {L : Nat → Nat → Int64} {Rf : Nat → Nat → Option Nat} {c0_3 : Int64} (ec0_3 : L 0 3 = c0_3) {out : Int32} : ∀ (n : Nat) (v2 : Int32) (v3 : Int32) (v4 : Int32), bX3_wide_63 u c0_3 n v2 v3 v4 = some out → k_W X 5 0 0 (k_Q X ad (some (.int out)) (k_ap [] (shMine, I, L, Rf))) ad (k_ap [] (shMine, I, L, Rf)) 63 [some (.ref 0), none, some (.int v2), some (.int v3), some (.int v4)] [] := by
  intro n
  induction n with
  | zero => intro v2 v3 v4 h; cases h
  | succ n ih =>
    intro v2 v3 v4 h
    refine r_iload C dX3_wide_63 (rfl : 63 + 2 = 65) rfl ?_
    refine r_iload_n C dX3_wide_65 (rfl : 65 + 1 = 66) rfl ?_
    refine r_bipush (v := (8 : Int32)) C dX3_wide_66 (rfl : 66 + 2 = 68) rfl ?_
    refine r_iadd C dX3_wide_68 (rfl : 68 + 1 = 69) ?_
    refine r_icmp_ge (tgt := 95) C dX3_wide_69 (by decide) (rfl : 69 + 3 = 72) (fun c69 => ?_) (fun c69 => ?_)
    · have h := k_t c69 h
      refine r_iload_n C dX3_wide_95 (rfl : 95 + 1 = 96) rfl ?_
      cases h
      exact r_iret C hr dX3_wide_96
    · have h := k_f c69 h
      refine r_aload_n C dX3_wide_72 (rfl : 72 + 1 = 73) rfl ?_
      refine r_getL (v := c0_3) C dX3_wide_73 (rfl : 73 + 3 = 76) fl_X3_35 rfl rfl ec0_3 ?_
      refine r_iload C dX3_wide_76 (rfl : 76 + 2 = 78) rfl ?_
      refine r_lushr C dX3_wide_78 (rfl : 78 + 1 = 79) ?_
      refine r_lconst (v := (1 : Int64)) C dX3_wide_79 (rfl : 79 + 1 = 80) rfl ?_
      refine r_land C dX3_wide_80 (rfl : 80 + 1 = 81) ?_
      refine r_lconst (v := (0 : Int64)) C dX3_wide_81 (rfl : 81 + 1 = 82) rfl ?_
      refine r_lcmp C dX3_wide_82 (rfl : 82 + 1 = 83) ?_
      refine r_if_eq (tgt := 95) C dX3_wide_83 (by decide) (rfl : 83 + 3 = 86) (fun c83 => ?_) (fun c83 => ?_)
      · have h := k_t c83 h
        refine r_iload_n C dX3_wide_95 (rfl : 95 + 1 = 96) rfl ?_
        cases h
        exact r_iret C hr dX3_wide_96
      · have h := k_f c83 h
        refine r_iinc (v := (v3 + (1 : Int32))) C dX3_wide_86 (rfl : 86 + 3 = 89) rfl rfl (by decide) ?_
        show k_W _ _ _ _ _ _ _ _ [some (.ref 0), none, some (.int v2), some (.int (v3 + (1 : Int32))), some (.int v4)] _
        refine r_iinc (v := (v4 + (1 : Int32))) C dX3_wide_89 (rfl : 89 + 3 = 92) rfl rfl (by decide) ?_
        show k_W _ _ _ _ _ _ _ _ [some (.ref 0), none, some (.int v2), some (.int (v3 + (1 : Int32))), some (.int (v4 + (1 : Int32)))] _
        refine r_goto (tgt := 63) C dX3_wide_92 (by decide) ?_
        refine k_mask [true, false, true, true, true] ?_
        exact ih v2 (v3 + (1 : Int32)) (v4 + (1 : Int32)) h
set_option maxHeartbeats 400000 in
set_option maxRecDepth 100000 in
theorem sX3_wide_58 (u : Nat) {X : k_X} {ad : Nat → Nat} (C : k_C X cX3_wide RX3 5 ad) (hr : X.meth.sig.returnType = (some .int)) (hR : X.R.frames = 0 ∧ X.R.locals = 0) {I : Nat → Nat → Int32} {L : Nat → Nat → Int64} {Rf : Nat → Nat → Option Nat} {c0_3 : Int64} (ec0_3 : L 0 3 = c0_3) {out : Int32} : ∀ (v1 : Int32) (v2 : Int32) (v3 : Int32), bX3_wide_58 u c0_3 v1 v2 v3 = some out → k_W X 5 0 0 (k_Q X ad (some (.int out)) (k_ap [] (shMine, I, L, Rf))) ad (k_ap [] (shMine, I, L, Rf)) 58 [some (.ref 0), some (.int v1), some (.int v2), some (.int v3), none] [] := by
  intro v1 v2 v3 h
  unfold bX3_wide_58 at h
  refine r_iload_n C dX3_wide_58 (rfl : 58 + 1 = 59) rfl ?_
  refine r_iconst (v := (1 : Int32)) C dX3_wide_59 (rfl : 59 + 1 = 60) rfl ?_
  refine r_iadd C dX3_wide_60 (rfl : 60 + 1 = 61) ?_
  refine r_istore C dX3_wide_61 (rfl : 61 + 2 = 63) (by decide) (Nat.le_of_ble_eq_true rfl) ?_
  show k_W _ _ _ _ _ _ _ _ [some (.ref 0), some (.int v1), some (.int v2), some (.int v3), some (.int (v1 + (1 : Int32)))] _
  refine k_mask [true, false, true, true, true] ?_
  exact sX3_wide_63 u C hr hR ec0_3 u v2 v3 (v1 + (1 : Int32)) h
set_option maxHeartbeats 400000 in
set_option maxRecDepth 100000 in
theorem sX3_wide_29 (u : Nat) {X : k_X} {ad : Nat → Nat} (C : k_C X cX3_wide RX3 5 ad) (hr : X.meth.sig.returnType = (some .int)) (hR : X.R.frames = 0 ∧ X.R.locals = 0) {I : Nat → Nat → Int32} {L : Nat → Nat → Int64} {Rf : Nat → Nat → Option Nat} {c0_3 : Int64} (ec0_3 : L 0 3 = c0_3) {out : Int32} : ∀ (n : Nat) (v1 : Int32) (v2 : Int32) (v3 : Int32) (v4 : Int32), bX3_wide_29 u c0_3 n v1 v2 v3 v4 = some out → k_W X 5 0 0 (k_Q X ad (some (.int out)) (k_ap [] (shMine, I, L, Rf))) ad (k_ap [] (shMine, I, L, Rf)) 29 [some (.ref 0), some (.int v1), some (.int v2), some (.int v3), some (.int v4)] [] := by
  intro n
  induction n with
  | zero => intro v1 v2 v3 v4 h; cases h
  | succ n ih =>
    intro v1 v2 v3 v4 h
    refine r_iload C dX3_wide_29 (rfl : 29 + 2 = 31) rfl ?_
    refine r_iload_n C dX3_wide_31 (rfl : 31 + 1 = 32) rfl ?_
    refine r_icmp_lt (tgt := 58) C dX3_wide_32 (by decide) (rfl : 32 + 3 = 35) (fun c32 => ?_) (fun c32 => ?_)
    · have h := k_t c32 h
      refine k_mask [true, true, true, true, false] ?_
      exact sX3_wide_58 u C hr hR ec0_3 v1 v2 v3 h
    · have h := k_f c32 h
      refine r_aload_n C dX3_wide_35 (rfl : 35 + 1 = 36) rfl ?_
      refine r_getL (v := c0_3) C dX3_wide_36 (rfl : 36 + 3 = 39) fl_X3_35 rfl rfl ec0_3 ?_
      refine r_iload C dX3_wide_39 (rfl : 39 + 2 = 41) rfl ?_
      refine r_lushr C dX3_wide_41 (rfl : 41 + 1 = 42) ?_
      refine r_lconst (v := (1 : Int64)) C dX3_wide_42 (rfl : 42 + 1 = 43) rfl ?_
      refine r_land C dX3_wide_43 (rfl : 43 + 1 = 44) ?_
      refine r_lconst (v := (0 : Int64)) C dX3_wide_44 (rfl : 44 + 1 = 45) rfl ?_
      refine r_lcmp C dX3_wide_45 (rfl : 45 + 1 = 46) ?_
      refine r_if_eq (tgt := 58) C dX3_wide_46 (by decide) (rfl : 46 + 3 = 49) (fun c46 => ?_) (fun c46 => ?_)
      · have h := k_t c46 h
        refine k_mask [true, true, true, true, false] ?_
        exact sX3_wide_58 u C hr hR ec0_3 v1 v2 v3 h
      · have h := k_f c46 h
        refine r_iinc (v := (v3 + (1 : Int32))) C dX3_wide_49 (rfl : 49 + 3 = 52) rfl rfl (by decide) ?_
        show k_W _ _ _ _ _ _ _ _ [some (.ref 0), some (.int v1), some (.int v2), some (.int (v3 + (1 : Int32))), some (.int v4)] _
        refine r_iinc (v := (v4 + (-1 : Int32))) C dX3_wide_52 (rfl : 52 + 3 = 55) rfl rfl (by decide) ?_
        show k_W _ _ _ _ _ _ _ _ [some (.ref 0), some (.int v1), some (.int v2), some (.int (v3 + (1 : Int32))), some (.int (v4 + (-1 : Int32)))] _
        refine r_goto (tgt := 29) C dX3_wide_55 (by decide) ?_
        refine k_mask [true, true, true, true, true] ?_
        exact ih v1 v2 (v3 + (1 : Int32)) (v4 + (-1 : Int32)) h
set_option maxHeartbeats 400000 in
set_option maxRecDepth 100000 in
theorem sX3_wide_0 (u : Nat) {X : k_X} {ad : Nat → Nat} (C : k_C X cX3_wide RX3 5 ad) (hr : X.meth.sig.returnType = (some .int)) (hR : X.R.frames = 0 ∧ X.R.locals = 0) {I : Nat → Nat → Int32} {L : Nat → Nat → Int64} {Rf : Nat → Nat → Option Nat} {c0_3 : Int64} (ec0_3 : L 0 3 = c0_3) {out : Int32} : ∀ (v1 : Int32), bX3_wide_0 u c0_3 v1 = some out → k_W X 5 0 0 (k_Q X ad (some (.int out)) (k_ap [] (shMine, I, L, Rf))) ad (k_ap [] (shMine, I, L, Rf)) 0 [some (.ref 0), some (.int v1), none, none, none] [] := by
  intro v1 h
  unfold bX3_wide_0 at h
  refine r_aload_n C dX3_wide_0 (rfl : 0 + 1 = 1) rfl ?_
  refine r_getL (v := c0_3) C dX3_wide_1 (rfl : 1 + 3 = 4) fl_X3_35 rfl rfl ec0_3 ?_
  refine r_iload_n C dX3_wide_4 (rfl : 4 + 1 = 5) rfl ?_
  refine r_lushr C dX3_wide_5 (rfl : 5 + 1 = 6) ?_
  refine r_lconst (v := (1 : Int64)) C dX3_wide_6 (rfl : 6 + 1 = 7) rfl ?_
  refine r_land C dX3_wide_7 (rfl : 7 + 1 = 8) ?_
  refine r_lconst (v := (0 : Int64)) C dX3_wide_8 (rfl : 8 + 1 = 9) rfl ?_
  refine r_lcmp C dX3_wide_9 (rfl : 9 + 1 = 10) ?_
  refine r_if_ne (tgt := 15) C dX3_wide_10 (by decide) (rfl : 10 + 3 = 13) (fun c10 => ?_) (fun c10 => ?_)
  · have h := k_f c10 h
    refine r_iload_n C dX3_wide_15 (rfl : 15 + 1 = 16) rfl ?_
    refine r_iload_n C dX3_wide_16 (rfl : 16 + 1 = 17) rfl ?_
    refine r_bipush (v := (8 : Int32)) C dX3_wide_17 (rfl : 17 + 2 = 19) rfl ?_
    refine r_irem C dX3_wide_19 (rfl : 19 + 1 = 20) (by decide) ?_
    refine r_isub C dX3_wide_20 (rfl : 20 + 1 = 21) ?_
    refine r_istore_n C dX3_wide_21 (rfl : 21 + 1 = 22) (by decide) (Nat.le_of_ble_eq_true rfl) ?_
    show k_W _ _ _ _ _ _ _ _ [some (.ref 0), some (.int v1), some (.int (v1 - (v1 - v1 / (8 : Int32) * (8 : Int32)))), none, none] _
    refine r_iconst (v := (1 : Int32)) C dX3_wide_22 (rfl : 22 + 1 = 23) rfl ?_
    refine r_istore_n C dX3_wide_23 (rfl : 23 + 1 = 24) (by decide) (Nat.le_of_ble_eq_true rfl) ?_
    show k_W _ _ _ _ _ _ _ _ [some (.ref 0), some (.int v1), some (.int (v1 - (v1 - v1 / (8 : Int32) * (8 : Int32)))), some (.int (1 : Int32)), none] _
    refine r_iload_n C dX3_wide_24 (rfl : 24 + 1 = 25) rfl ?_
    refine r_iconst (v := (1 : Int32)) C dX3_wide_25 (rfl : 25 + 1 = 26) rfl ?_
    refine r_isub C dX3_wide_26 (rfl : 26 + 1 = 27) ?_
    refine r_istore C dX3_wide_27 (rfl : 27 + 2 = 29) (by decide) (Nat.le_of_ble_eq_true rfl) ?_
    show k_W _ _ _ _ _ _ _ _ [some (.ref 0), some (.int v1), some (.int (v1 - (v1 - v1 / (8 : Int32) * (8 : Int32)))), some (.int (1 : Int32)), some (.int (v1 - (1 : Int32)))] _
    refine k_mask [true, true, true, true, true] ?_
    exact sX3_wide_29 u C hr hR ec0_3 u v1 (v1 - (v1 - v1 / (8 : Int32) * (8 : Int32))) (1 : Int32) (v1 - (1 : Int32)) h
  · have h := k_t c10 h
    refine r_iconst (v := (0 : Int32)) C dX3_wide_13 (rfl : 13 + 1 = 14) rfl ?_
    cases h
    exact r_iret C hr dX3_wide_14
set_option maxHeartbeats 400000 in
set_option maxRecDepth 100000 in
theorem c_X3_wide (l : Launch) (u : Nat) (h : k_H) (hsh : h.1 = shMine) {c0_3 : Int64} (ec0_3 : h.2.2.1 0 3 = c0_3) {x0 : Int32} {out : Int32} (hf : f_X3_wide u c0_3 x0 = some out) : k_CT l yX3_wide cX3_wide 5 (some .int) 0 0 [.ref 0, .int x0] h (some (.int out)) [] := by
  obtain ⟨sh, I, L, Rf⟩ := h
  try dsimp only
  obtain rfl : sh = shMine := hsh
  refine k_ofW (by decide) (Nat.le_of_ble_eq_true rfl) ?_
  intro X ad hl hR0 hr C
  have hR : X.R.frames = 0 ∧ X.R.locals = 0 := by rw [hR0]; exact ⟨rfl, rfl⟩
  have h := hf
  unfold f_X3_wide at h
  refine k_start (us := []) k_ap_0 ?_
  show k_W X 5 0 0 _ ad (k_ap [] (shMine, I, L, Rf)) 0 [some (.ref 0), some (.int x0), none, none, none] []
  refine k_mask [true, true, false, false, false] ?_
  exact sX3_wide_0 u C hr hR ec0_3 x0 h
/-! LullabyPit$Mine.sight(IIZ)I -/
theorem ds_X3_sight : k_ds [] = true := by decide +kernel
set_option maxHeartbeats 400000 in
set_option maxRecDepth 100000 in
theorem sX3_sight_0 (u : Nat) {X : k_X} {ad : Nat → Nat} (C : k_C X cX3_sight RX3 4 ad) (hr : X.meth.sig.returnType = (some .int)) (hR : X.R.frames = 1 ∧ X.R.locals = 24) {I : Nat → Nat → Int32} {L : Nat → Nat → Int64} {Rf : Nat → Nat → Option Nat} {c0_10 : Int32} (ec0_10 : I 0 10 = c0_10) {c0_3 : Int64} (ec0_3 : L 0 3 = c0_3) {c0_4 : Int64} (ec0_4 : L 0 4 = c0_4) {a6 : (Nat → Int32)} (ea6 : I 6 = a6) {a7 : (Nat → Int32)} (ea7 : I 7 = a7) {out : Int32} : ∀ (v1 : Int32) (v2 : Int32) (v3 : Int32), bX3_sight_0 u c0_10 c0_3 c0_4 a6 a7 v1 v2 v3 = some out → k_W X 4 0 0 (k_Q X ad (some (.int out)) (k_ap [] (shMine, I, L, Rf))) ad (k_ap [] (shMine, I, L, Rf)) 0 [some (.ref 0), some (.int v1), some (.int v2), some (.int v3)] [] := by
  intro v1 v2 v3 h
  unfold bX3_sight_0 at h
  refine r_iload_n C dX3_sight_0 (rfl : 0 + 1 = 1) rfl ?_
  refine r_if_lt (tgt := 10) C dX3_sight_1 (by decide) (rfl : 1 + 3 = 4) (fun c1 => ?_) (fun c1 => ?_)
  · have h := k_t c1 h
    refine r_iconst (v := (0 : Int32)) C dX3_sight_10 (rfl : 10 + 1 = 11) rfl ?_
    cases h
    exact r_iret C hr dX3_sight_11
  · have h := k_f c1 h
    refine r_iload_n C dX3_sight_4 (rfl : 4 + 1 = 5) rfl ?_
    refine r_bipush (v := (48 : Int32)) C dX3_sight_5 (rfl : 5 + 2 = 7) rfl ?_
    refine r_icmp_lt (tgt := 12) C dX3_sight_7 (by decide) (rfl : 7 + 3 = 10) (fun c7 => ?_) (fun c7 => ?_)
    · have h := k_t c7 h
      refine r_iload_n C dX3_sight_12 (rfl : 12 + 1 = 13) rfl ?_
      by_cases c13_0 : v1 = (-7 : Int32)
      · have h := k_t c13_0 h
        refine r_tabIn (off := 110) (tgt := 123) C dX3_sight_13 (by rw [c13_0]; decide) (by rw [c13_0]; decide) (by rw [c13_0]; rfl) (by decide) ?_
        refine r_aload_n C dX3_sight_123 (rfl : 123 + 1 = 124) rfl ?_
        refine r_getR (q := 5) C dX3_sight_124 (rfl : 124 + 3 = 127) fl_X3_24 rfl rfl ?_
        refine r_getR (q := 6) C dX3_sight_127 (rfl : 127 + 3 = 130) fl_X3_137 rfl rfl ?_
        refine r_iload_n C dX3_sight_130 (rfl : 130 + 1 = 131) rfl ?_
        obtain ⟨hi131, h⟩ := k_i_of h
        refine a_i (j := (v2).toNatClampNeg) (f := a6) C dX3_sight_131 (rfl : 131 + 1 = 132) rfl ea6 hi131 rfl ?_
        cases h
        exact r_iret C hr dX3_sight_132
      · have h := k_f c13_0 h
        by_cases c13_1 : v1 = (-6 : Int32)
        · have h := k_t c13_1 h
          refine r_tabIn (off := 100) (tgt := 113) C dX3_sight_13 (by rw [c13_1]; decide) (by rw [c13_1]; decide) (by rw [c13_1]; rfl) (by decide) ?_
          refine r_aload_n C dX3_sight_113 (rfl : 113 + 1 = 114) rfl ?_
          refine r_getR (q := 5) C dX3_sight_114 (rfl : 114 + 3 = 117) fl_X3_24 rfl rfl ?_
          refine r_getR (q := 7) C dX3_sight_117 (rfl : 117 + 3 = 120) fl_X3_127 rfl rfl ?_
          refine r_iload_n C dX3_sight_120 (rfl : 120 + 1 = 121) rfl ?_
          obtain ⟨hi121, h⟩ := k_i_of h
          refine a_i (j := (v2).toNatClampNeg) (f := a7) C dX3_sight_121 (rfl : 121 + 1 = 122) rfl ea7 hi121 rfl ?_
          cases h
          exact r_iret C hr dX3_sight_122
        · have h := k_f c13_1 h
          by_cases c13_2 : v1 = (-5 : Int32)
          · have h := k_t c13_2 h
            refine r_tabIn (off := 94) (tgt := 107) C dX3_sight_13 (by rw [c13_2]; decide) (by rw [c13_2]; decide) (by rw [c13_2]; rfl) (by decide) ?_
            refine r_aload_n C dX3_sight_107 (rfl : 107 + 1 = 108) rfl ?_
            refine r_iload_n C dX3_sight_108 (rfl : 108 + 1 = 109) rfl ?_
            obtain ⟨r109, q109, h⟩ := k_b_of h
            refine d_V (As := [.int v2]) (st := []) (st' := [.int r109]) (h' := k_ap [] (shMine, I, L, Rf)) C hR ⟨Nat.zero_le _, Nat.zero_le _⟩ mv_X3_propsBeside lk_X3_146 dX3_sight_109 (rfl : 109 + 3 = 112) rfl rfl rfl rfl (c_X3_propsBeside X.l u (k_ap [] (shMine, I, L, Rf)) rfl ec0_4 q109) rfl rfl rfl rfl rfl ?_
            cases h
            exact r_iret C hr dX3_sight_112
          · have h := k_f c13_2 h
            by_cases c13_3 : v1 = (-4 : Int32)
            · have h := k_t c13_3 h
              refine r_tabIn (off := 71) (tgt := 84) C dX3_sight_13 (by rw [c13_3]; decide) (by rw [c13_3]; decide) (by rw [c13_3]; rfl) (by decide) ?_
              refine r_iload_n C dX3_sight_84 (rfl : 84 + 1 = 85) rfl ?_
              refine r_bipush (v := (8 : Int32)) C dX3_sight_85 (rfl : 85 + 2 = 87) rfl ?_
              refine r_icmp_lt (tgt := 105) C dX3_sight_87 (by decide) (rfl : 87 + 3 = 90) (fun c87 => ?_) (fun c87 => ?_)
              · have h := k_t c87 h
                refine r_iconst (v := (0 : Int32)) C dX3_sight_105 (rfl : 105 + 1 = 106) rfl ?_
                cases h
                exact r_iret C hr dX3_sight_106
              · have h := k_f c87 h
                refine r_aload_n C dX3_sight_90 (rfl : 90 + 1 = 91) rfl ?_
                obtain ⟨r91, q91, h⟩ := k_b_of h
                refine d_V (As := []) (st := []) (st' := [.long r91]) (h' := k_ap [] (shMine, I, L, Rf)) C hR ⟨Nat.zero_le _, Nat.zero_le _⟩ mv_X3_openCells lk_X3_101 dX3_sight_91 (rfl : 91 + 3 = 94) rfl rfl rfl rfl (c_X3_openCells X.l u (k_ap [] (shMine, I, L, Rf)) rfl ec0_3 ec0_4 q91) rfl rfl rfl rfl rfl ?_
                refine r_iload_n C dX3_sight_94 (rfl : 94 + 1 = 95) rfl ?_
                refine r_bipush (v := (8 : Int32)) C dX3_sight_95 (rfl : 95 + 2 = 97) rfl ?_
                refine r_isub C dX3_sight_97 (rfl : 97 + 1 = 98) ?_
                refine r_lushr C dX3_sight_98 (rfl : 98 + 1 = 99) ?_
                refine r_lconst (v := (1 : Int64)) C dX3_sight_99 (rfl : 99 + 1 = 100) rfl ?_
                refine r_land C dX3_sight_100 (rfl : 100 + 1 = 101) ?_
                refine r_l2i C dX3_sight_101 (rfl : 101 + 1 = 102) ?_
                refine r_goto (tgt := 106) C dX3_sight_102 (by decide) ?_
                cases h
                exact r_iret C hr dX3_sight_106
            · have h := k_f c13_3 h
              by_cases c13_4 : v1 = (-3 : Int32)
              · have h := k_t c13_4 h
                refine r_tabIn (off := 62) (tgt := 75) C dX3_sight_13 (by rw [c13_4]; decide) (by rw [c13_4]; decide) (by rw [c13_4]; rfl) (by decide) ?_
                refine r_aload_n C dX3_sight_75 (rfl : 75 + 1 = 76) rfl ?_
                refine r_getR (q := 5) C dX3_sight_76 (rfl : 76 + 3 = 79) fl_X3_24 rfl rfl ?_
                refine r_iload_n C dX3_sight_79 (rfl : 79 + 1 = 80) rfl ?_
                obtain ⟨r80, q80, h⟩ := k_b_of h
                refine d_Vp (pi := [5, 6, 7, 8, 9, 10, 11]) (shl := shPit) (bl := 0) (As := [.int v2]) (Al := [.int v2]) (st := []) (st' := [.int r80]) (h' := k_ap [] (shMine, I, L, Rf)) C hR ⟨Nat.zero_le _, Nat.zero_le _⟩ mv_X5_kindAbove lk_X3_143 dX3_sight_80 (rfl : 80 + 3 = 83) rfl rfl ck_shMine_shPit_5_10 rfl rfl (c_X5_kindAbove X.l u (k_pl [5, 6, 7, 8, 9, 10, 11] shPit (k_ap [] (shMine, I, L, Rf))) rfl ea6 q80) rfl (fun _ => rfl) rfl (fun _ => rfl) rfl rfl rfl rfl rfl ?_
                cases h
                exact r_iret C hr dX3_sight_83
              · have h := k_f c13_4 h
                by_cases c13_5 : v1 = (-2 : Int32)
                · have h := k_t c13_5 h
                  refine r_tabIn (off := 57) (tgt := 70) C dX3_sight_13 (by rw [c13_5]; decide) (by rw [c13_5]; decide) (by rw [c13_5]; rfl) (by decide) ?_
                  refine r_iload_n C dX3_sight_70 (rfl : 70 + 1 = 71) rfl ?_
                  refine r_bipush (v := (8 : Int32)) C dX3_sight_71 (rfl : 71 + 2 = 73) rfl ?_
                  refine r_idiv C dX3_sight_73 (rfl : 73 + 1 = 74) (by decide) ?_
                  cases h
                  exact r_iret C hr dX3_sight_74
                · have h := k_f c13_5 h
                  by_cases c13_6 : v1 = (-1 : Int32)
                  · have h := k_t c13_6 h
                    refine r_tabIn (off := 43) (tgt := 56) C dX3_sight_13 (by rw [c13_6]; decide) (by rw [c13_6]; decide) (by rw [c13_6]; rfl) (by decide) ?_
                    refine r_iload_n C dX3_sight_56 (rfl : 56 + 1 = 57) rfl ?_
                    refine r_if_eq (tgt := 64) C dX3_sight_57 (by decide) (rfl : 57 + 3 = 60) (fun c57 => ?_) (fun c57 => ?_)
                    · have h := k_t c57 h
                      refine r_aload_n C dX3_sight_64 (rfl : 64 + 1 = 65) rfl ?_
                      refine r_iload_n C dX3_sight_65 (rfl : 65 + 1 = 66) rfl ?_
                      obtain ⟨r66, q66, h⟩ := k_b_of h
                      refine d_V (As := [.int v2]) (st := []) (st' := [.int r66]) (h' := k_ap [] (shMine, I, L, Rf)) C hR ⟨Nat.zero_le _, Nat.zero_le _⟩ mv_X3_wide lk_X3_140 dX3_sight_66 (rfl : 66 + 3 = 69) rfl rfl rfl rfl (c_X3_wide X.l u (k_ap [] (shMine, I, L, Rf)) rfl ec0_3 q66) rfl rfl rfl rfl rfl ?_
                      cases h
                      exact r_iret C hr dX3_sight_69
                    · have h := k_f c57 h
                      refine r_iconst (v := (1 : Int32)) C dX3_sight_60 (rfl : 60 + 1 = 61) rfl ?_
                      refine r_goto (tgt := 69) C dX3_sight_61 (by decide) ?_
                      cases h
                      exact r_iret C hr dX3_sight_69
                  · have h := k_f c13_6 h
                    have hsw : (v1 : Int32).toInt < -7 ∨ -1 < (v1 : Int32).toInt := k_sw [(-7 : Int32), (-6 : Int32), (-5 : Int32), (-4 : Int32), (-3 : Int32), (-2 : Int32), (-1 : Int32)] (by decide) (by intro v hv; simp only [List.mem_cons, List.not_mem_nil, or_false] at hv; rcases hv with rfl | rfl | rfl | rfl | rfl | rfl | rfl <;> assumption)
                    refine r_tabOut (tgt := 133) C dX3_sight_13 hsw (by decide) ?_
                    refine r_aload_n C dX3_sight_133 (rfl : 133 + 1 = 134) rfl ?_
                    refine r_getI (v := c0_10) C dX3_sight_134 (rfl : 134 + 3 = 137) fl_X3_51 rfl rfl ec0_10 ?_
                    cases h
                    exact r_iret C hr dX3_sight_137
    · have h := k_f c7 h
      refine r_iconst (v := (0 : Int32)) C dX3_sight_10 (rfl : 10 + 1 = 11) rfl ?_
      cases h
      exact r_iret C hr dX3_sight_11
set_option maxHeartbeats 400000 in
set_option maxRecDepth 100000 in
theorem c_X3_sight (l : Launch) (u : Nat) (h : k_H) (hsh : h.1 = shMine) {c0_10 : Int32} (ec0_10 : h.2.1 0 10 = c0_10) {c0_3 : Int64} (ec0_3 : h.2.2.1 0 3 = c0_3) {c0_4 : Int64} (ec0_4 : h.2.2.1 0 4 = c0_4) {a6 : (Nat → Int32)} (ea6 : h.2.1 6 = a6) {a7 : (Nat → Int32)} (ea7 : h.2.1 7 = a7) {x0 : Int32} {x1 : Int32} {x2 : Int32} {out : Int32} (hf : f_X3_sight u c0_10 c0_3 c0_4 a6 a7 x0 x1 x2 = some out) : k_CT l yX3_sight cX3_sight 4 (some .int) 1 24 [.ref 0, .int x0, .int x1, .int x2] h (some (.int out)) [] := by
  obtain ⟨sh, I, L, Rf⟩ := h
  try dsimp only
  obtain rfl : sh = shMine := hsh
  refine k_ofW (by decide) (Nat.le_of_ble_eq_true rfl) ?_
  intro X ad hl hR0 hr C
  have hR : X.R.frames = 1 ∧ X.R.locals = 24 := by rw [hR0]; exact ⟨rfl, rfl⟩
  have h := hf
  unfold f_X3_sight at h
  refine k_start (us := []) k_ap_0 ?_
  show k_W X 4 0 0 _ ad (k_ap [] (shMine, I, L, Rf)) 0 [some (.ref 0), some (.int x0), some (.int x1), some (.int x2)] []
  refine k_mask [true, true, true, true] ?_
  exact sX3_sight_0 u C hr hR ec0_10 ec0_3 ec0_4 ea6 ea7 x0 x1 x2 h
/-! LullabyPit$Law.value(LLullabyPit$Mine;IZ)I -/
theorem ds_X1_value_F : k_ds [(14, 2, 0)] = true := by decide +kernel
set_option maxHeartbeats 400000 in
set_option maxRecDepth 100000 in
theorem sX1_value_F_110 (u : Nat) {X : k_X} {ad : Nat → Nat} (C : k_C X cX1_value RX1 7 ad) (hr : X.meth.sig.returnType = (some .int)) (hR : X.R.frames = 2 ∧ X.R.locals = 47) {I : Nat → Nat → Int32} {L : Nat → Nat → Int64} {Rf : Nat → Nat → Option Nat} {c0_10 : Int32} (ec0_10 : I 0 10 = c0_10) {c0_3 : Int64} (ec0_3 : L 0 3 = c0_3) {c0_4 : Int64} (ec0_4 : L 0 4 = c0_4) {a6 : (Nat → Int32)} (ea6 : I 6 = a6) {a7 : (Nat → Int32)} (ea7 : I 7 = a7) {c12_2 : Int32} (ec12_2 : I 12 2 = c12_2) {a13 : (Nat → Int32)} (ea13 : I 13 = a13) {out : Int32 × (Nat → Int32)} {k6 : (Nat → Int32) → Int32 → Int32 → Int32 → Int32 → Option (Int32 × (Nat → Int32))} (hk6 : ∀ (a14 : (Nat → Int32)) (v2 : Int32) (v3 : Int32) (v4 : Int32) (v5 : Int32), k6 a14 v2 v3 v4 v5 = some out → k_W X 7 0 0 (k_Q X ad (some (.int out.1)) (k_ap [(14, .inr (.inr (.inl out.2)))] (shMine, I, L, Rf))) ad (k_ap [(14, .inr (.inr (.inl a14)))] (shMine, I, L, Rf)) 6 [some (.ref 12), some (.ref 0), some (.int v2), some (.int v3), some (.int v4), some (.int v5), none] []) : ∀ (a14 : (Nat → Int32)) (v2 : Int32) (v3 : Int32) (v4 : Int32) (v5 : Int32), bX1_value_F_110 u c0_10 c0_3 c0_4 a6 a7 c12_2 a13 k6 a14 v2 v3 v4 v5 = some out → k_W X 7 0 0 (k_Q X ad (some (.int out.1)) (k_ap [(14, .inr (.inr (.inl out.2)))] (shMine, I, L, Rf))) ad (k_ap [(14, .inr (.inr (.inl a14)))] (shMine, I, L, Rf)) 110 [some (.ref 12), some (.ref 0), some (.int v2), some (.int v3), some (.int v4), some (.int v5), none] [] := by
  intro a14 v2 v3 v4 v5 h
  unfold bX1_value_F_110 at h
  refine r_iinc (v := (v5 + (1 : Int32))) C dX1_value_110 (rfl : 110 + 3 = 113) rfl rfl (by decide) ?_
  show k_W _ _ _ _ _ _ _ _ [some (.ref 12), some (.ref 0), some (.int v2), some (.int v3), some (.int v4), some (.int (v5 + (1 : Int32))), none] _
  refine r_goto (tgt := 6) C dX1_value_113 (by decide) ?_
  refine k_mask [true, true, true, true, true, true, false] ?_
  exact hk6 a14 v2 v3 v4 (v5 + (1 : Int32)) h
set_option maxHeartbeats 400000 in
set_option maxRecDepth 100000 in
theorem sX1_value_F_106 (u : Nat) {X : k_X} {ad : Nat → Nat} (C : k_C X cX1_value RX1 7 ad) (hr : X.meth.sig.returnType = (some .int)) (hR : X.R.frames = 2 ∧ X.R.locals = 47) {I : Nat → Nat → Int32} {L : Nat → Nat → Int64} {Rf : Nat → Nat → Option Nat} {c0_10 : Int32} (ec0_10 : I 0 10 = c0_10) {c0_3 : Int64} (ec0_3 : L 0 3 = c0_3) {c0_4 : Int64} (ec0_4 : L 0 4 = c0_4) {a6 : (Nat → Int32)} (ea6 : I 6 = a6) {a7 : (Nat → Int32)} (ea7 : I 7 = a7) {c12_2 : Int32} (ec12_2 : I 12 2 = c12_2) {a13 : (Nat → Int32)} (ea13 : I 13 = a13) {out : Int32 × (Nat → Int32)} {k6 : (Nat → Int32) → Int32 → Int32 → Int32 → Int32 → Option (Int32 × (Nat → Int32))} (hk6 : ∀ (a14 : (Nat → Int32)) (v2 : Int32) (v3 : Int32) (v4 : Int32) (v5 : Int32), k6 a14 v2 v3 v4 v5 = some out → k_W X 7 0 0 (k_Q X ad (some (.int out.1)) (k_ap [(14, .inr (.inr (.inl out.2)))] (shMine, I, L, Rf))) ad (k_ap [(14, .inr (.inr (.inl a14)))] (shMine, I, L, Rf)) 6 [some (.ref 12), some (.ref 0), some (.int v2), some (.int v3), some (.int v4), some (.int v5), none] []) : ∀ (a14 : (Nat → Int32)) (v2 : Int32) (v3 : Int32) (v4 : Int32) (v5 : Int32) (w0 : Int32) (w1 : Int32), bX1_value_F_106 u c0_10 c0_3 c0_4 a6 a7 c12_2 a13 k6 a14 v2 v3 v4 v5 w0 w1 = some out → k_W X 7 0 0 (k_Q X ad (some (.int out.1)) (k_ap [(14, .inr (.inr (.inl out.2)))] (shMine, I, L, Rf))) ad (k_ap [(14, .inr (.inr (.inl a14)))] (shMine, I, L, Rf)) 106 [some (.ref 12), some (.ref 0), some (.int v2), some (.int v3), some (.int v4), some (.int v5), none] [.int w0, .int w1, .ref 14] := by
  intro a14 v2 v3 v4 v5 w0 w1 h
  unfold bX1_value_F_106 at h
  obtain ⟨hi106, h⟩ := k_i_of h
  refine s_i (j := (w1).toNatClampNeg) (f := a14) (us' := [(14, .inr (.inr (.inl (upd a14 ((w1).toNatClampNeg) w0))))]) C dX1_value_106 (rfl : 106 + 1 = 107) rfl rfl hi106 rfl ds_X1_value_F rfl rfl rfl ?_
  refine r_iinc (v := (v4 + (1 : Int32))) C dX1_value_107 (rfl : 107 + 3 = 110) rfl rfl (by decide) ?_
  show k_W _ _ _ _ _ _ _ _ [some (.ref 12), some (.ref 0), some (.int v2), some (.int v3), some (.int (v4 + (1 : Int32))), some (.int v5), none] _
  refine k_mask [true, true, true, true, true, true, false] ?_
  exact sX1_value_F_110 u C hr hR ec0_10 ec0_3 ec0_4 ea6 ea7 ec12_2 ea13 hk6 (upd a14 ((w1).toNatClampNeg) w0) v2 v3 (v4 + (1 : Int32)) v5 h
set_option maxHeartbeats 400000 in
set_option maxRecDepth 100000 in
theorem sX1_value_F_6 (u : Nat) {X : k_X} {ad : Nat → Nat} (C : k_C X cX1_value RX1 7 ad) (hr : X.meth.sig.returnType = (some .int)) (hR : X.R.frames = 2 ∧ X.R.locals = 47) {I : Nat → Nat → Int32} {L : Nat → Nat → Int64} {Rf : Nat → Nat → Option Nat} {c0_10 : Int32} (ec0_10 : I 0 10 = c0_10) {c0_3 : Int64} (ec0_3 : L 0 3 = c0_3) {c0_4 : Int64} (ec0_4 : L 0 4 = c0_4) {a6 : (Nat → Int32)} (ea6 : I 6 = a6) {a7 : (Nat → Int32)} (ea7 : I 7 = a7) {c12_2 : Int32} (ec12_2 : I 12 2 = c12_2) {a13 : (Nat → Int32)} (ea13 : I 13 = a13) {out : Int32 × (Nat → Int32)} : ∀ (n : Nat) (a14 : (Nat → Int32)) (v2 : Int32) (v3 : Int32) (v4 : Int32) (v5 : Int32), bX1_value_F_6 u c0_10 c0_3 c0_4 a6 a7 c12_2 a13 n a14 v2 v3 v4 v5 = some out → k_W X 7 0 0 (k_Q X ad (some (.int out.1)) (k_ap [(14, .inr (.inr (.inl out.2)))] (shMine, I, L, Rf))) ad (k_ap [(14, .inr (.inr (.inl a14)))] (shMine, I, L, Rf)) 6 [some (.ref 12), some (.ref 0), some (.int v2), some (.int v3), some (.int v4), some (.int v5), none] [] := by
  intro n
  induction n with
  | zero => intro a14 v2 v3 v4 v5 h; cases h
  | succ n ih =>
    intro a14 v2 v3 v4 v5 h
    refine r_iload C dX1_value_6 (rfl : 6 + 2 = 8) rfl ?_
    refine r_aload_n C dX1_value_8 (rfl : 8 + 1 = 9) rfl ?_
    refine r_getI (v := c12_2) C dX1_value_9 (rfl : 9 + 3 = 12) fl_X1_18 rfl rfl ec12_2 ?_
    refine r_icmp_ge (tgt := 116) C dX1_value_12 (by decide) (rfl : 12 + 3 = 15) (fun c12 => ?_) (fun c12 => ?_)
    · have h := k_t c12 h
      refine r_aload_n C dX1_value_116 (rfl : 116 + 1 = 117) rfl ?_
      refine r_getR (q := 14) C dX1_value_117 (rfl : 117 + 3 = 120) fl_X1_15 rfl rfl ?_
      refine r_iconst (v := (0 : Int32)) C dX1_value_120 (rfl : 120 + 1 = 121) rfl ?_
      refine a_i (j := 0) (f := a14) C dX1_value_121 (rfl : 121 + 1 = 122) rfl rfl (show ¬ ((0 : Int32) < 0 ∨ 24 ≤ ((0 : Int32)).toNatClampNeg) by decide) rfl ?_
      cases h
      exact r_iret C hr dX1_value_122
    · have h := k_f c12 h
      refine r_aload_n C dX1_value_15 (rfl : 15 + 1 = 16) rfl ?_
      refine r_getR (q := 13) C dX1_value_16 (rfl : 16 + 3 = 19) fl_X1_9 rfl rfl ?_
      refine r_iload C dX1_value_19 (rfl : 19 + 2 = 21) rfl ?_
      obtain ⟨hi21, h⟩ := k_i_of h
      refine a_i (j := (v5).toNatClampNeg) (f := a13) C dX1_value_21 (rfl : 21 + 1 = 22) rfl ea13 hi21 rfl ?_
      refine r_istore C dX1_value_22 (rfl : 22 + 2 = 24) (by decide) (Nat.le_of_ble_eq_true rfl) ?_
      show k_W _ _ _ _ _ _ _ _ [some (.ref 12), some (.ref 0), some (.int v2), some (.int v3), some (.int v4), some (.int v5), some (.int (a13 ((v5).toNatClampNeg)))] _
      refine r_iload C dX1_value_24 (rfl : 24 + 2 = 26) rfl ?_
      refine r_bipush (v := (-9 : Int32)) C dX1_value_26 (rfl : 26 + 2 = 28) rfl ?_
      refine r_icmp_gt (tgt := 75) C dX1_value_28 (by decide) (rfl : 28 + 3 = 31) (fun c28 => ?_) (fun c28 => ?_)
      · have h := k_t c28 h
        refine r_iload C dX1_value_75 (rfl : 75 + 2 = 77) rfl ?_
        refine r_bipush (v := (24 : Int32)) C dX1_value_77 (rfl : 77 + 2 = 79) rfl ?_
        refine r_icmp_ge (tgt := 110) C dX1_value_79 (by decide) (rfl : 79 + 3 = 82) (fun c79 => ?_) (fun c79 => ?_)
        · have h := k_t c79 h
          refine k_mask [true, true, true, true, true, true, false] ?_
          exact sX1_value_F_110 u C hr hR ec0_10 ec0_3 ec0_4 ea6 ea7 ec12_2 ea13 ih a14 v2 v3 v4 v5 h
        · have h := k_f c79 h
          refine r_aload_n C dX1_value_82 (rfl : 82 + 1 = 83) rfl ?_
          refine r_getR (q := 14) C dX1_value_83 (rfl : 83 + 3 = 86) fl_X1_15 rfl rfl ?_
          refine r_iload C dX1_value_86 (rfl : 86 + 2 = 88) rfl ?_
          refine r_iload C dX1_value_88 (rfl : 88 + 2 = 90) rfl ?_
          refine r_if_lt (tgt := 98) C dX1_value_90 (by decide) (rfl : 90 + 3 = 93) (fun c90 => ?_) (fun c90 => ?_)
          · have h := k_t c90 h
            refine r_aload_n C dX1_value_98 (rfl : 98 + 1 = 99) rfl ?_
            refine r_iload C dX1_value_99 (rfl : 99 + 2 = 101) rfl ?_
            refine r_iload_n C dX1_value_101 (rfl : 101 + 1 = 102) rfl ?_
            refine r_iload_n C dX1_value_102 (rfl : 102 + 1 = 103) rfl ?_
            obtain ⟨r103, q103, h⟩ := k_b_of h
            refine d_V (As := [.int (a13 ((v5).toNatClampNeg)), .int v2, .int v3]) (st := [.int v4, .ref 14]) (st' := [.int r103, .int v4, .ref 14]) (h' := k_ap [(14, .inr (.inr (.inl a14)))] (shMine, I, L, Rf)) C hR ⟨Nat.zero_le _, Nat.zero_le _⟩ mv_X3_sight lk_X1_92 dX1_value_103 (rfl : 103 + 3 = 106) rfl rfl rfl rfl (c_X3_sight X.l u (k_ap [(14, .inr (.inr (.inl a14)))] (shMine, I, L, Rf)) rfl ec0_10 ec0_3 ec0_4 ea6 ea7 q103) rfl rfl rfl rfl rfl ?_
            refine k_mask [true, true, true, true, true, true, false] ?_
            exact sX1_value_F_106 u C hr hR ec0_10 ec0_3 ec0_4 ea6 ea7 ec12_2 ea13 ih a14 v2 v3 v4 v5 r103 v4 h
          · have h := k_f c90 h
            refine r_iload C dX1_value_93 (rfl : 93 + 2 = 95) rfl ?_
            refine r_goto (tgt := 106) C dX1_value_95 (by decide) ?_
            refine k_mask [true, true, true, true, true, true, false] ?_
            exact sX1_value_F_106 u C hr hR ec0_10 ec0_3 ec0_4 ea6 ea7 ec12_2 ea13 ih a14 v2 v3 v4 v5 (a13 ((v5).toNatClampNeg)) v4 h
      · have h := k_f c28 h
        refine r_iload C dX1_value_31 (rfl : 31 + 2 = 33) rfl ?_
        refine r_iconst (v := (2 : Int32)) C dX1_value_33 (rfl : 33 + 1 = 34) rfl ?_
        refine r_icmp_lt (tgt := 110) C dX1_value_34 (by decide) (rfl : 34 + 3 = 37) (fun c34 => ?_) (fun c34 => ?_)
        · have h := k_t c34 h
          refine k_mask [true, true, true, true, true, true, false] ?_
          exact sX1_value_F_110 u C hr hR ec0_10 ec0_3 ec0_4 ea6 ea7 ec12_2 ea13 ih a14 v2 v3 v4 v5 h
        · have h := k_f c34 h
          refine r_aload_n C dX1_value_37 (rfl : 37 + 1 = 38) rfl ?_
          refine r_getR (q := 14) C dX1_value_38 (rfl : 38 + 3 = 41) fl_X1_15 rfl rfl ?_
          refine r_iload C dX1_value_41 (rfl : 41 + 2 = 43) rfl ?_
          refine r_iconst (v := (2 : Int32)) C dX1_value_43 (rfl : 43 + 1 = 44) rfl ?_
          refine r_isub C dX1_value_44 (rfl : 44 + 1 = 45) ?_
          refine r_iload C dX1_value_45 (rfl : 45 + 2 = 47) rfl ?_
          refine r_aload_n C dX1_value_47 (rfl : 47 + 1 = 48) rfl ?_
          refine r_getR (q := 14) C dX1_value_48 (rfl : 48 + 3 = 51) fl_X1_15 rfl rfl ?_
          refine r_iload C dX1_value_51 (rfl : 51 + 2 = 53) rfl ?_
          refine r_iconst (v := (2 : Int32)) C dX1_value_53 (rfl : 53 + 1 = 54) rfl ?_
          refine r_isub C dX1_value_54 (rfl : 54 + 1 = 55) ?_
          obtain ⟨hi55, h⟩ := k_i_of h
          refine a_i (j := ((v4 - (2 : Int32))).toNatClampNeg) (f := a14) C dX1_value_55 (rfl : 55 + 1 = 56) rfl rfl hi55 rfl ?_
          refine r_aload_n C dX1_value_56 (rfl : 56 + 1 = 57) rfl ?_
          refine r_getR (q := 14) C dX1_value_57 (rfl : 57 + 3 = 60) fl_X1_15 rfl rfl ?_
          refine r_iload C dX1_value_60 (rfl : 60 + 2 = 62) rfl ?_
          refine r_iconst (v := (1 : Int32)) C dX1_value_62 (rfl : 62 + 1 = 63) rfl ?_
          refine r_isub C dX1_value_63 (rfl : 63 + 1 = 64) ?_
          obtain ⟨hi64, h⟩ := k_i_of h
          refine a_i (j := ((v4 - (1 : Int32))).toNatClampNeg) (f := a14) C dX1_value_64 (rfl : 64 + 1 = 65) rfl rfl hi64 rfl ?_
          obtain ⟨r65, q65, h⟩ := k_b_of h
          refine d_S (As := [.int (a13 ((v5).toNatClampNeg)), .int (a14 (((v4 - (2 : Int32))).toNatClampNeg)), .int (a14 (((v4 - (1 : Int32))).toNatClampNeg))]) (st := [.int (v4 - (2 : Int32)), .ref 14]) (st' := [.int r65, .int (v4 - (2 : Int32)), .ref 14]) (h' := k_ap [(14, .inr (.inr (.inl a14)))] (shMine, I, L, Rf)) C hR ⟨Nat.zero_le _, Nat.zero_le _⟩ ms_X1_joined lk_X1_88 dX1_value_65 (rfl : 65 + 3 = 68) rfl rfl (c_X1_joined X.l u (k_ap [(14, .inr (.inr (.inl a14)))] (shMine, I, L, Rf))  q65) rfl rfl rfl rfl rfl ?_
          obtain ⟨hi68, h⟩ := k_i_of h
          refine s_i (j := ((v4 - (2 : Int32))).toNatClampNeg) (f := a14) (us' := [(14, .inr (.inr (.inl (upd a14 (((v4 - (2 : Int32))).toNatClampNeg) r65))))]) C dX1_value_68 (rfl : 68 + 1 = 69) rfl rfl hi68 rfl ds_X1_value_F rfl rfl rfl ?_
          refine r_iinc (v := (v4 + (-1 : Int32))) C dX1_value_69 (rfl : 69 + 3 = 72) rfl rfl (by decide) ?_
          show k_W _ _ _ _ _ _ _ _ [some (.ref 12), some (.ref 0), some (.int v2), some (.int v3), some (.int (v4 + (-1 : Int32))), some (.int v5), some (.int (a13 ((v5).toNatClampNeg)))] _
          refine r_goto (tgt := 110) C dX1_value_72 (by decide) ?_
          refine k_mask [true, true, true, true, true, true, false] ?_
          exact sX1_value_F_110 u C hr hR ec0_10 ec0_3 ec0_4 ea6 ea7 ec12_2 ea13 ih (upd a14 (((v4 - (2 : Int32))).toNatClampNeg) r65) v2 v3 (v4 + (-1 : Int32)) v5 h
set_option maxHeartbeats 400000 in
set_option maxRecDepth 100000 in
theorem sX1_value_F_0 (u : Nat) {X : k_X} {ad : Nat → Nat} (C : k_C X cX1_value RX1 7 ad) (hr : X.meth.sig.returnType = (some .int)) (hR : X.R.frames = 2 ∧ X.R.locals = 47) {I : Nat → Nat → Int32} {L : Nat → Nat → Int64} {Rf : Nat → Nat → Option Nat} {c0_10 : Int32} (ec0_10 : I 0 10 = c0_10) {c0_3 : Int64} (ec0_3 : L 0 3 = c0_3) {c0_4 : Int64} (ec0_4 : L 0 4 = c0_4) {a6 : (Nat → Int32)} (ea6 : I 6 = a6) {a7 : (Nat → Int32)} (ea7 : I 7 = a7) {c12_2 : Int32} (ec12_2 : I 12 2 = c12_2) {a13 : (Nat → Int32)} (ea13 : I 13 = a13) {out : Int32 × (Nat → Int32)} : ∀ (a14 : (Nat → Int32)) (v2 : Int32) (v3 : Int32), bX1_value_F_0 u c0_10 c0_3 c0_4 a6 a7 c12_2 a13 a14 v2 v3 = some out → k_W X 7 0 0 (k_Q X ad (some (.int out.1)) (k_ap [(14, .inr (.inr (.inl out.2)))] (shMine, I, L, Rf))) ad (k_ap [(14, .inr (.inr (.inl a14)))] (shMine, I, L, Rf)) 0 [some (.ref 12), some (.ref 0), some (.int v2), some (.int v3), none, none, none] [] := by
  intro a14 v2 v3 h
  unfold bX1_value_F_0 at h
  refine r_iconst (v := (0 : Int32)) C dX1_value_0 (rfl : 0 + 1 = 1) rfl ?_
  refine r_istore C dX1_value_1 (rfl : 1 + 2 = 3) (by decide) (Nat.le_of_ble_eq_true rfl) ?_
  show k_W _ _ _ _ _ _ _ _ [some (.ref 12), some (.ref 0), some (.int v2), some (.int v3), some (.int (0 : Int32)), none, none] _
  refine r_iconst (v := (0 : Int32)) C dX1_value_3 (rfl : 3 + 1 = 4) rfl ?_
  refine r_istore C dX1_value_4 (rfl : 4 + 2 = 6) (by decide) (Nat.le_of_ble_eq_true rfl) ?_
  show k_W _ _ _ _ _ _ _ _ [some (.ref 12), some (.ref 0), some (.int v2), some (.int v3), some (.int (0 : Int32)), some (.int (0 : Int32)), none] _
  refine k_mask [true, true, true, true, true, true, false] ?_
  exact sX1_value_F_6 u C hr hR ec0_10 ec0_3 ec0_4 ea6 ea7 ec12_2 ea13 u a14 v2 v3 (0 : Int32) (0 : Int32) h
set_option maxHeartbeats 400000 in
set_option maxRecDepth 100000 in
theorem c_X1_value_F (l : Launch) (u : Nat) (h : k_H) (hsh : h.1 = shMine) {c0_10 : Int32} (ec0_10 : h.2.1 0 10 = c0_10) {c0_3 : Int64} (ec0_3 : h.2.2.1 0 3 = c0_3) {c0_4 : Int64} (ec0_4 : h.2.2.1 0 4 = c0_4) {a6 : (Nat → Int32)} (ea6 : h.2.1 6 = a6) {a7 : (Nat → Int32)} (ea7 : h.2.1 7 = a7) {c12_2 : Int32} (ec12_2 : h.2.1 12 2 = c12_2) {a13 : (Nat → Int32)} (ea13 : h.2.1 13 = a13) {a14 : (Nat → Int32)} (ea14 : h.2.1 14 = a14) {x1 : Int32} {x2 : Int32} {out : Int32 × (Nat → Int32)} (hf : f_X1_value_F u c0_10 c0_3 c0_4 a6 a7 c12_2 a13 a14 x1 x2 = some out) : k_CT l yX1_value cX1_value 7 (some .int) 2 47 [.ref 12, .ref 0, .int x1, .int x2] h (some (.int out.1)) [(14, .inr (.inr (.inl out.2)))] := by
  obtain ⟨sh, I, L, Rf⟩ := h
  try dsimp only
  obtain rfl : sh = shMine := hsh
  refine k_ofW (by decide) (Nat.le_of_ble_eq_true rfl) ?_
  intro X ad hl hR0 hr C
  have hR : X.R.frames = 2 ∧ X.R.locals = 47 := by rw [hR0]; exact ⟨rfl, rfl⟩
  have h := hf
  unfold f_X1_value_F at h
  refine k_start (us := [(14, .inr (.inr (.inl a14)))]) (k_ao_A ea14 k_ap_0) ?_
  show k_W X 7 0 0 _ ad (k_ap [(14, .inr (.inr (.inl a14)))] (shMine, I, L, Rf)) 0 [some (.ref 12), some (.ref 0), some (.int x1), some (.int x2), none, none, none] []
  refine k_mask [true, true, true, true, false, false, false] ?_
  exact sX1_value_F_0 u C hr hR ec0_10 ec0_3 ec0_4 ea6 ea7 ec12_2 ea13 a14 x1 x2 h
