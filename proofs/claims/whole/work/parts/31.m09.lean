/-! LullabyPitModel.isAtHand(I)Z -/
theorem ds_X11_isAtHand : k_ds [] = true := by decide +kernel
set_option maxHeartbeats 400000 in
set_option maxRecDepth 100000 in
theorem sX11_isAtHand_0 (u : Nat) {X : k_X} {ad : Nat → Nat} (C : k_C X cX11_isAtHand RX11 4 ad) (hr : X.meth.sig.returnType = (some .boolean)) (hR : X.R.frames = 2 ∧ X.R.locals = 44) {I : Nat → Nat → Int32} {L : Nat → Nat → Int64} {Rf : Nat → Nat → Option Nat} {c0_25 : Int32} (ec0_25 : I 0 25 = c0_25) {c0_26 : Int32} (ec0_26 : I 0 26 = c0_26) {c0_27 : Int32} (ec0_27 : I 0 27 = c0_27) {a21 : (Nat → Int32)} (ea21 : I 21 = a21) {out : Int32} : ∀ (v1 : Int32), bX11_isAtHand_0 u c0_25 c0_26 c0_27 a21 v1 = some out → k_W X 4 0 0 (k_Q X ad (some (.int out)) (k_ap [] (shM, I, L, Rf))) ad (k_ap [] (shM, I, L, Rf)) 0 [some (.ref 0), some (.int v1), none, none] [] := by
  intro v1 h
  unfold bX11_isAtHand_0 at h
  refine r_iload_n C dX11_isAtHand_0 (rfl : 0 + 1 = 1) rfl ?_
  refine r_bipush (v := (8 : Int32)) C dX11_isAtHand_1 (rfl : 1 + 2 = 3) rfl ?_
  refine r_irem C dX11_isAtHand_3 (rfl : 3 + 1 = 4) (by decide) ?_
  refine r_istore_n C dX11_isAtHand_4 (rfl : 4 + 1 = 5) (by decide) (Nat.le_of_ble_eq_true rfl) ?_
  show k_W _ _ _ _ _ _ _ _ [some (.ref 0), some (.int v1), some (.int (v1 - v1 / (8 : Int32) * (8 : Int32))), none] _
  refine r_iload_n C dX11_isAtHand_5 (rfl : 5 + 1 = 6) rfl ?_
  refine r_bipush (v := (8 : Int32)) C dX11_isAtHand_6 (rfl : 6 + 2 = 8) rfl ?_
  refine r_idiv C dX11_isAtHand_8 (rfl : 8 + 1 = 9) (by decide) ?_
  refine r_istore_n C dX11_isAtHand_9 (rfl : 9 + 1 = 10) (by decide) (Nat.le_of_ble_eq_true rfl) ?_
  show k_W _ _ _ _ _ _ _ _ [some (.ref 0), some (.int v1), some (.int (v1 - v1 / (8 : Int32) * (8 : Int32))), some (.int (v1 / (8 : Int32)))] _
  refine r_aload_n C dX11_isAtHand_10 (rfl : 10 + 1 = 11) rfl ?_
  refine r_iload_n C dX11_isAtHand_11 (rfl : 11 + 1 = 12) rfl ?_
  refine r_iconst (v := (1 : Int32)) C dX11_isAtHand_12 (rfl : 12 + 1 = 13) rfl ?_
  refine r_isub C dX11_isAtHand_13 (rfl : 13 + 1 = 14) ?_
  refine r_iload_n C dX11_isAtHand_14 (rfl : 14 + 1 = 15) rfl ?_
  obtain ⟨r15, q15, h⟩ := k_b_of h
  refine d_V (As := [.int ((v1 - v1 / (8 : Int32) * (8 : Int32)) - (1 : Int32)), .int (v1 / (8 : Int32))]) (st := []) (st' := [.int r15]) (h' := k_ap [] (shM, I, L, Rf)) C hR ⟨Nat.zero_le _, Nat.zero_le _⟩ mv_X11_isOpen lk_X11_367 dX11_isAtHand_15 (rfl : 15 + 3 = 18) rfl rfl rfl rfl (c_X11_isOpen X.l u (k_ap [] (shM, I, L, Rf)) rfl ec0_25 ec0_26 ea21 q15) rfl rfl rfl rfl rfl ?_
  refine r_if_ne (tgt := 70) C dX11_isAtHand_18 (by decide) (rfl : 18 + 3 = 21) (fun c18 => ?_) (fun c18 => ?_)
  · have h := k_f c18 h
    refine r_iconst (v := (1 : Int32)) C dX11_isAtHand_70 (rfl : 70 + 1 = 71) rfl ?_
    refine r_goto (tgt := 75) C dX11_isAtHand_71 (by decide) ?_
    cases h
    exact r_zret C hr (Or.inr rfl) dX11_isAtHand_75
  · have h := k_t c18 h
    refine r_aload_n C dX11_isAtHand_21 (rfl : 21 + 1 = 22) rfl ?_
    refine r_iload_n C dX11_isAtHand_22 (rfl : 22 + 1 = 23) rfl ?_
    refine r_iconst (v := (1 : Int32)) C dX11_isAtHand_23 (rfl : 23 + 1 = 24) rfl ?_
    refine r_iadd C dX11_isAtHand_24 (rfl : 24 + 1 = 25) ?_
    refine r_iload_n C dX11_isAtHand_25 (rfl : 25 + 1 = 26) rfl ?_
    obtain ⟨r26, q26, h⟩ := k_b_of h
    refine d_V (As := [.int ((v1 - v1 / (8 : Int32) * (8 : Int32)) + (1 : Int32)), .int (v1 / (8 : Int32))]) (st := []) (st' := [.int r26]) (h' := k_ap [] (shM, I, L, Rf)) C hR ⟨Nat.zero_le _, Nat.zero_le _⟩ mv_X11_isOpen lk_X11_367 dX11_isAtHand_26 (rfl : 26 + 3 = 29) rfl rfl rfl rfl (c_X11_isOpen X.l u (k_ap [] (shM, I, L, Rf)) rfl ec0_25 ec0_26 ea21 q26) rfl rfl rfl rfl rfl ?_
    refine r_if_ne (tgt := 70) C dX11_isAtHand_29 (by decide) (rfl : 29 + 3 = 32) (fun c29 => ?_) (fun c29 => ?_)
    · have h := k_f c29 h
      refine r_iconst (v := (1 : Int32)) C dX11_isAtHand_70 (rfl : 70 + 1 = 71) rfl ?_
      refine r_goto (tgt := 75) C dX11_isAtHand_71 (by decide) ?_
      cases h
      exact r_zret C hr (Or.inr rfl) dX11_isAtHand_75
    · have h := k_t c29 h
      refine r_aload_n C dX11_isAtHand_32 (rfl : 32 + 1 = 33) rfl ?_
      refine r_iload_n C dX11_isAtHand_33 (rfl : 33 + 1 = 34) rfl ?_
      refine r_iload_n C dX11_isAtHand_34 (rfl : 34 + 1 = 35) rfl ?_
      refine r_iconst (v := (1 : Int32)) C dX11_isAtHand_35 (rfl : 35 + 1 = 36) rfl ?_
      refine r_isub C dX11_isAtHand_36 (rfl : 36 + 1 = 37) ?_
      obtain ⟨r37, q37, h⟩ := k_b_of h
      refine d_V (As := [.int (v1 - v1 / (8 : Int32) * (8 : Int32)), .int ((v1 / (8 : Int32)) - (1 : Int32))]) (st := []) (st' := [.int r37]) (h' := k_ap [] (shM, I, L, Rf)) C hR ⟨Nat.zero_le _, Nat.zero_le _⟩ mv_X11_isOpen lk_X11_367 dX11_isAtHand_37 (rfl : 37 + 3 = 40) rfl rfl rfl rfl (c_X11_isOpen X.l u (k_ap [] (shM, I, L, Rf)) rfl ec0_25 ec0_26 ea21 q37) rfl rfl rfl rfl rfl ?_
      refine r_if_ne (tgt := 70) C dX11_isAtHand_40 (by decide) (rfl : 40 + 3 = 43) (fun c40 => ?_) (fun c40 => ?_)
      · have h := k_f c40 h
        refine r_iconst (v := (1 : Int32)) C dX11_isAtHand_70 (rfl : 70 + 1 = 71) rfl ?_
        refine r_goto (tgt := 75) C dX11_isAtHand_71 (by decide) ?_
        cases h
        exact r_zret C hr (Or.inr rfl) dX11_isAtHand_75
      · have h := k_t c40 h
        refine r_aload_n C dX11_isAtHand_43 (rfl : 43 + 1 = 44) rfl ?_
        refine r_iload_n C dX11_isAtHand_44 (rfl : 44 + 1 = 45) rfl ?_
        refine r_iload_n C dX11_isAtHand_45 (rfl : 45 + 1 = 46) rfl ?_
        refine r_iconst (v := (1 : Int32)) C dX11_isAtHand_46 (rfl : 46 + 1 = 47) rfl ?_
        refine r_iadd C dX11_isAtHand_47 (rfl : 47 + 1 = 48) ?_
        obtain ⟨r48, q48, h⟩ := k_b_of h
        refine d_V (As := [.int (v1 - v1 / (8 : Int32) * (8 : Int32)), .int ((v1 / (8 : Int32)) + (1 : Int32))]) (st := []) (st' := [.int r48]) (h' := k_ap [] (shM, I, L, Rf)) C hR ⟨Nat.zero_le _, Nat.zero_le _⟩ mv_X11_isOpen lk_X11_367 dX11_isAtHand_48 (rfl : 48 + 3 = 51) rfl rfl rfl rfl (c_X11_isOpen X.l u (k_ap [] (shM, I, L, Rf)) rfl ec0_25 ec0_26 ea21 q48) rfl rfl rfl rfl rfl ?_
        refine r_if_ne (tgt := 70) C dX11_isAtHand_51 (by decide) (rfl : 51 + 3 = 54) (fun c51 => ?_) (fun c51 => ?_)
        · have h := k_f c51 h
          refine r_iconst (v := (1 : Int32)) C dX11_isAtHand_70 (rfl : 70 + 1 = 71) rfl ?_
          refine r_goto (tgt := 75) C dX11_isAtHand_71 (by decide) ?_
          cases h
          exact r_zret C hr (Or.inr rfl) dX11_isAtHand_75
        · have h := k_t c51 h
          refine r_iload_n C dX11_isAtHand_54 (rfl : 54 + 1 = 55) rfl ?_
          refine r_if_ne (tgt := 74) C dX11_isAtHand_55 (by decide) (rfl : 55 + 3 = 58) (fun c55 => ?_) (fun c55 => ?_)
          · have h := k_f c55 h
            refine r_iconst (v := (0 : Int32)) C dX11_isAtHand_74 (rfl : 74 + 1 = 75) rfl ?_
            cases h
            exact r_zret C hr (Or.inl rfl) dX11_isAtHand_75
          · have h := k_t c55 h
            refine r_aload_n C dX11_isAtHand_58 (rfl : 58 + 1 = 59) rfl ?_
            refine r_getI (v := c0_27) C dX11_isAtHand_59 (rfl : 59 + 3 = 62) fl_X11_190 rfl rfl ec0_27 ?_
            refine r_iload_n C dX11_isAtHand_62 (rfl : 62 + 1 = 63) rfl ?_
            refine r_ishr C dX11_isAtHand_63 (rfl : 63 + 1 = 64) ?_
            refine r_iconst (v := (1 : Int32)) C dX11_isAtHand_64 (rfl : 64 + 1 = 65) rfl ?_
            refine r_iand C dX11_isAtHand_65 (rfl : 65 + 1 = 66) ?_
            refine r_iconst (v := (1 : Int32)) C dX11_isAtHand_66 (rfl : 66 + 1 = 67) rfl ?_
            refine r_icmp_ne (tgt := 74) C dX11_isAtHand_67 (by decide) (rfl : 67 + 3 = 70) (fun c67 => ?_) (fun c67 => ?_)
            · have h := k_f c67 h
              refine r_iconst (v := (0 : Int32)) C dX11_isAtHand_74 (rfl : 74 + 1 = 75) rfl ?_
              cases h
              exact r_zret C hr (Or.inl rfl) dX11_isAtHand_75
            · have h := k_t c67 h
              refine r_iconst (v := (1 : Int32)) C dX11_isAtHand_70 (rfl : 70 + 1 = 71) rfl ?_
              refine r_goto (tgt := 75) C dX11_isAtHand_71 (by decide) ?_
              cases h
              exact r_zret C hr (Or.inr rfl) dX11_isAtHand_75
set_option maxHeartbeats 400000 in
set_option maxRecDepth 100000 in
theorem c_X11_isAtHand (l : Launch) (u : Nat) (h : k_H) (hsh : h.1 = shM) {c0_25 : Int32} (ec0_25 : h.2.1 0 25 = c0_25) {c0_26 : Int32} (ec0_26 : h.2.1 0 26 = c0_26) {c0_27 : Int32} (ec0_27 : h.2.1 0 27 = c0_27) {a21 : (Nat → Int32)} (ea21 : h.2.1 21 = a21) {x0 : Int32} {out : Int32} (hf : f_X11_isAtHand u c0_25 c0_26 c0_27 a21 x0 = some out) : k_CT l yX11_isAtHand cX11_isAtHand 4 (some .boolean) 2 44 [.ref 0, .int x0] h (some (.int out)) [] := by
  obtain ⟨sh, I, L, Rf⟩ := h
  try dsimp only
  obtain rfl : sh = shM := hsh
  refine k_ofW (by decide) (Nat.le_of_ble_eq_true rfl) ?_
  intro X ad hl hR0 hr C
  have hR : X.R.frames = 2 ∧ X.R.locals = 44 := by rw [hR0]; exact ⟨rfl, rfl⟩
  have h := hf
  unfold f_X11_isAtHand at h
  refine k_start (us := []) k_ap_0 ?_
  show k_W X 4 0 0 _ ad (k_ap [] (shM, I, L, Rf)) 0 [some (.ref 0), some (.int x0), none, none] []
  refine k_mask [true, true, false, false] ?_
  exact sX11_isAtHand_0 u C hr hR ec0_25 ec0_26 ec0_27 ea21 x0 h
/-! LullabyPitModel.whyNot(I)I -/
theorem ds_X11_whyNot : k_ds [] = true := by decide +kernel
set_option maxHeartbeats 400000 in
set_option maxRecDepth 100000 in
theorem sX11_whyNot_0 (u : Nat) {X : k_X} {ad : Nat → Nat} (C : k_C X cX11_whyNot RX11 2 ad) (hr : X.meth.sig.returnType = (some .int)) (hR : X.R.frames = 3 ∧ X.R.locals = 67) {I : Nat → Nat → Int32} {L : Nat → Nat → Int64} {Rf : Nat → Nat → Option Nat} {c0_25 : Int32} (ec0_25 : I 0 25 = c0_25) {c0_26 : Int32} (ec0_26 : I 0 26 = c0_26) {c0_27 : Int32} (ec0_27 : I 0 27 = c0_27) {a21 : (Nat → Int32)} (ea21 : I 21 = a21) {out : Int32} : ∀ (v1 : Int32), bX11_whyNot_0 u c0_25 c0_26 c0_27 a21 v1 = some out → k_W X 2 0 0 (k_Q X ad (some (.int out)) (k_ap [] (shM, I, L, Rf))) ad (k_ap [] (shM, I, L, Rf)) 0 [some (.ref 0), some (.int v1)] [] := by
  intro v1 h
  unfold bX11_whyNot_0 at h
  refine r_aload_n C dX11_whyNot_0 (rfl : 0 + 1 = 1) rfl ?_
  refine r_iload_n C dX11_whyNot_1 (rfl : 1 + 1 = 2) rfl ?_
  refine r_bipush (v := (8 : Int32)) C dX11_whyNot_2 (rfl : 2 + 2 = 4) rfl ?_
  refine r_irem C dX11_whyNot_4 (rfl : 4 + 1 = 5) (by decide) ?_
  refine r_iload_n C dX11_whyNot_5 (rfl : 5 + 1 = 6) rfl ?_
  refine r_bipush (v := (8 : Int32)) C dX11_whyNot_6 (rfl : 6 + 2 = 8) rfl ?_
  refine r_idiv C dX11_whyNot_8 (rfl : 8 + 1 = 9) (by decide) ?_
  obtain ⟨r9, q9, h⟩ := k_b_of h
  refine d_V (As := [.int (v1 - v1 / (8 : Int32) * (8 : Int32)), .int (v1 / (8 : Int32))]) (st := []) (st' := [.int r9]) (h' := k_ap [] (shM, I, L, Rf)) C hR ⟨Nat.zero_le _, Nat.zero_le _⟩ mv_X11_isOpen lk_X11_367 dX11_whyNot_9 (rfl : 9 + 3 = 12) rfl rfl rfl rfl (c_X11_isOpen X.l u (k_ap [] (shM, I, L, Rf)) rfl ec0_25 ec0_26 ea21 q9) rfl rfl rfl rfl rfl ?_
  refine r_if_eq (tgt := 19) C dX11_whyNot_12 (by decide) (rfl : 12 + 3 = 15) (fun c12 => ?_) (fun c12 => ?_)
  · have h := k_t c12 h
    refine r_aload_n C dX11_whyNot_19 (rfl : 19 + 1 = 20) rfl ?_
    refine r_iload_n C dX11_whyNot_20 (rfl : 20 + 1 = 21) rfl ?_
    obtain ⟨r21, q21, h⟩ := k_b_of h
    refine d_V (As := [.int v1]) (st := []) (st' := [.int r21]) (h' := k_ap [] (shM, I, L, Rf)) C hR ⟨Nat.zero_le _, Nat.zero_le _⟩ mv_X11_isAtHand lk_X11_385 dX11_whyNot_21 (rfl : 21 + 3 = 24) rfl rfl rfl rfl (c_X11_isAtHand X.l u (k_ap [] (shM, I, L, Rf)) rfl ec0_25 ec0_26 ec0_27 ea21 q21) rfl rfl rfl rfl rfl ?_
    refine r_if_ne (tgt := 31) C dX11_whyNot_24 (by decide) (rfl : 24 + 3 = 27) (fun c24 => ?_) (fun c24 => ?_)
    · have h := k_f c24 h
      refine r_iload_n C dX11_whyNot_31 (rfl : 31 + 1 = 32) rfl ?_
      refine r_bipush (v := (8 : Int32)) C dX11_whyNot_32 (rfl : 32 + 2 = 34) rfl ?_
      refine r_idiv C dX11_whyNot_34 (rfl : 34 + 1 = 35) (by decide) ?_
      refine r_aload_n C dX11_whyNot_35 (rfl : 35 + 1 = 36) rfl ?_
      refine r_getR (q := 21) C dX11_whyNot_36 (rfl : 36 + 3 = 39) fl_X11_77 rfl rfl ?_
      refine r_bipush (v := (74 : Int32)) C dX11_whyNot_39 (rfl : 39 + 2 = 41) rfl ?_
      refine a_i (j := 74) (f := a21) C dX11_whyNot_41 (rfl : 41 + 1 = 42) rfl ea21 (show ¬ ((74 : Int32) < 0 ∨ 77 ≤ ((74 : Int32)).toNatClampNeg) by decide) rfl ?_
      refine r_icmp_lt (tgt := 49) C dX11_whyNot_42 (by decide) (rfl : 42 + 3 = 45) (fun c42 => ?_) (fun c42 => ?_)
      · have h := k_t c42 h
        refine r_iconst (v := (0 : Int32)) C dX11_whyNot_49 (rfl : 49 + 1 = 50) rfl ?_
        cases h
        exact r_iret C hr dX11_whyNot_50
      · have h := k_f c42 h
        refine r_iconst (v := (3 : Int32)) C dX11_whyNot_45 (rfl : 45 + 1 = 46) rfl ?_
        refine r_goto (tgt := 50) C dX11_whyNot_46 (by decide) ?_
        cases h
        exact r_iret C hr dX11_whyNot_50
    · have h := k_t c24 h
      refine r_iconst (v := (2 : Int32)) C dX11_whyNot_27 (rfl : 27 + 1 = 28) rfl ?_
      refine r_goto (tgt := 50) C dX11_whyNot_28 (by decide) ?_
      cases h
      exact r_iret C hr dX11_whyNot_50
  · have h := k_f c12 h
    refine r_iconst (v := (1 : Int32)) C dX11_whyNot_15 (rfl : 15 + 1 = 16) rfl ?_
    refine r_goto (tgt := 50) C dX11_whyNot_16 (by decide) ?_
    cases h
    exact r_iret C hr dX11_whyNot_50
set_option maxHeartbeats 400000 in
set_option maxRecDepth 100000 in
theorem c_X11_whyNot (l : Launch) (u : Nat) (h : k_H) (hsh : h.1 = shM) {c0_25 : Int32} (ec0_25 : h.2.1 0 25 = c0_25) {c0_26 : Int32} (ec0_26 : h.2.1 0 26 = c0_26) {c0_27 : Int32} (ec0_27 : h.2.1 0 27 = c0_27) {a21 : (Nat → Int32)} (ea21 : h.2.1 21 = a21) {x0 : Int32} {out : Int32} (hf : f_X11_whyNot u c0_25 c0_26 c0_27 a21 x0 = some out) : k_CT l yX11_whyNot cX11_whyNot 2 (some .int) 3 67 [.ref 0, .int x0] h (some (.int out)) [] := by
  obtain ⟨sh, I, L, Rf⟩ := h
  try dsimp only
  obtain rfl : sh = shM := hsh
  refine k_ofW (by decide) (Nat.le_of_ble_eq_true rfl) ?_
  intro X ad hl hR0 hr C
  have hR : X.R.frames = 3 ∧ X.R.locals = 67 := by rw [hR0]; exact ⟨rfl, rfl⟩
  have h := hf
  unfold f_X11_whyNot at h
  refine k_start (us := []) k_ap_0 ?_
  show k_W X 2 0 0 _ ad (k_ap [] (shM, I, L, Rf)) 0 [some (.ref 0), some (.int x0)] []
  refine k_mask [true, true] ?_
  exact sX11_whyNot_0 u C hr hR ec0_25 ec0_26 ec0_27 ea21 x0 h
/-! LullabyPitModel.propped(II)I -/
theorem ds_X11_propped : k_ds [] = true := by decide +kernel
set_option maxHeartbeats 400000 in
set_option maxRecDepth 100000 in
theorem sX11_propped_0 (u : Nat) {X : k_X} {ad : Nat → Nat} (C : k_C X cX11_propped RX11 3 ad) (hr : X.meth.sig.returnType = (some .int)) (hR : X.R.frames = 1 ∧ X.R.locals = 22) {I : Nat → Nat → Int32} {L : Nat → Nat → Int64} {Rf : Nat → Nat → Option Nat} {c0_25 : Int32} (ec0_25 : I 0 25 = c0_25) {c0_26 : Int32} (ec0_26 : I 0 26 = c0_26) {a21 : (Nat → Int32)} (ea21 : I 21 = a21) {out : Int32} : ∀ (v1 : Int32) (v2 : Int32), bX11_propped_0 u c0_25 c0_26 a21 v1 v2 = some out → k_W X 3 0 0 (k_Q X ad (some (.int out)) (k_ap [] (shM, I, L, Rf))) ad (k_ap [] (shM, I, L, Rf)) 0 [some (.ref 0), some (.int v1), some (.int v2)] [] := by
  intro v1 v2 h
  unfold bX11_propped_0 at h
  refine r_aload_n C dX11_propped_0 (rfl : 0 + 1 = 1) rfl ?_
  refine r_iload_n C dX11_propped_1 (rfl : 1 + 1 = 2) rfl ?_
  refine r_iload_n C dX11_propped_2 (rfl : 2 + 1 = 3) rfl ?_
  obtain ⟨r3, q3, h⟩ := k_b_of h
  refine d_V (As := [.int v1, .int v2]) (st := []) (st' := [.int r3]) (h' := k_ap [] (shM, I, L, Rf)) C hR ⟨Nat.zero_le _, Nat.zero_le _⟩ mv_X11_isIn lk_X11_363 dX11_propped_3 (rfl : 3 + 3 = 6) rfl rfl rfl rfl (c_X11_isIn X.l u (k_ap [] (shM, I, L, Rf)) rfl ec0_25 ec0_26 q3) rfl rfl rfl rfl rfl ?_
  refine r_if_eq (tgt := 28) C dX11_propped_6 (by decide) (rfl : 6 + 3 = 9) (fun c6 => ?_) (fun c6 => ?_)
  · have h := k_t c6 h
    refine r_iconst (v := (0 : Int32)) C dX11_propped_28 (rfl : 28 + 1 = 29) rfl ?_
    cases h
    exact r_iret C hr dX11_propped_29
  · have h := k_f c6 h
    refine r_aload_n C dX11_propped_9 (rfl : 9 + 1 = 10) rfl ?_
    refine r_getR (q := 21) C dX11_propped_10 (rfl : 10 + 3 = 13) fl_X11_77 rfl rfl ?_
    refine r_bipush (v := (8 : Int32)) C dX11_propped_13 (rfl : 13 + 2 = 15) rfl ?_
    refine r_iload_n C dX11_propped_15 (rfl : 15 + 1 = 16) rfl ?_
    refine r_imul C dX11_propped_16 (rfl : 16 + 1 = 17) ?_
    refine r_iload_n C dX11_propped_17 (rfl : 17 + 1 = 18) rfl ?_
    refine r_iadd C dX11_propped_18 (rfl : 18 + 1 = 19) ?_
    obtain ⟨hi19, h⟩ := k_i_of h
    refine a_i (j := ((((8 : Int32) * v2) + v1)).toNatClampNeg) (f := a21) C dX11_propped_19 (rfl : 19 + 1 = 20) rfl ea21 hi19 rfl ?_
    refine r_iconst (v := (2 : Int32)) C dX11_propped_20 (rfl : 20 + 1 = 21) rfl ?_
    refine r_icmp_ne (tgt := 28) C dX11_propped_21 (by decide) (rfl : 21 + 3 = 24) (fun c21 => ?_) (fun c21 => ?_)
    · have h := k_f c21 h
      refine r_iconst (v := (0 : Int32)) C dX11_propped_28 (rfl : 28 + 1 = 29) rfl ?_
      cases h
      exact r_iret C hr dX11_propped_29
    · have h := k_t c21 h
      refine r_iconst (v := (1 : Int32)) C dX11_propped_24 (rfl : 24 + 1 = 25) rfl ?_
      refine r_goto (tgt := 29) C dX11_propped_25 (by decide) ?_
      cases h
      exact r_iret C hr dX11_propped_29
set_option maxHeartbeats 400000 in
set_option maxRecDepth 100000 in
theorem c_X11_propped (l : Launch) (u : Nat) (h : k_H) (hsh : h.1 = shM) {c0_25 : Int32} (ec0_25 : h.2.1 0 25 = c0_25) {c0_26 : Int32} (ec0_26 : h.2.1 0 26 = c0_26) {a21 : (Nat → Int32)} (ea21 : h.2.1 21 = a21) {x0 : Int32} {x1 : Int32} {out : Int32} (hf : f_X11_propped u c0_25 c0_26 a21 x0 x1 = some out) : k_CT l yX11_propped cX11_propped 3 (some .int) 1 22 [.ref 0, .int x0, .int x1] h (some (.int out)) [] := by
  obtain ⟨sh, I, L, Rf⟩ := h
  try dsimp only
  obtain rfl : sh = shM := hsh
  refine k_ofW (by decide) (Nat.le_of_ble_eq_true rfl) ?_
  intro X ad hl hR0 hr C
  have hR : X.R.frames = 1 ∧ X.R.locals = 22 := by rw [hR0]; exact ⟨rfl, rfl⟩
  have h := hf
  unfold f_X11_propped at h
  refine k_start (us := []) k_ap_0 ?_
  show k_W X 3 0 0 _ ad (k_ap [] (shM, I, L, Rf)) 0 [some (.ref 0), some (.int x0), some (.int x1)] []
  refine k_mask [true, true, true] ?_
  exact sX11_propped_0 u C hr hR ec0_25 ec0_26 ea21 x0 x1 h
/-! LullabyPitModel.findFacts(II)V -/
theorem ds_X11_findFacts : k_ds [(17, 2, 0)] = true := by decide +kernel
set_option maxHeartbeats 400000 in
set_option maxRecDepth 100000 in
theorem sX11_findFacts_72 (u : Nat) {X : k_X} {ad : Nat → Nat} (C : k_C X cX11_findFacts RX11 5 ad) (hr : X.meth.sig.returnType = none) (hR : X.R.frames = 2 ∧ X.R.locals = 44) {I : Nat → Nat → Int32} {L : Nat → Nat → Int64} {Rf : Nat → Nat → Option Nat} {c0_25 : Int32} (ec0_25 : I 0 25 = c0_25) {c0_26 : Int32} (ec0_26 : I 0 26 = c0_26) {a7 : (Nat → Int32)} (ea7 : I 7 = a7) {a8 : (Nat → Int32)} (ea8 : I 8 = a8) {a21 : (Nat → Int32)} (ea21 : I 21 = a21) {out : (Nat → Int32)} : ∀ (a17 : (Nat → Int32)) (v1 : Int32) (v3 : Int32) (v4 : Int32) (w0 : Int32) (w1 : Int32), bX11_findFacts_72 u c0_25 c0_26 a7 a8 a21 a17 v1 v3 v4 w0 w1 = some out → k_W X 5 0 0 (k_Q X ad none (k_ap [(17, .inr (.inr (.inl out)))] (shM, I, L, Rf))) ad (k_ap [(17, .inr (.inr (.inl a17)))] (shM, I, L, Rf)) 72 [some (.ref 0), some (.int v1), none, some (.int v3), some (.int v4)] [.int w0, .int w1, .ref 17] := by
  intro a17 v1 v3 v4 w0 w1 h
  unfold bX11_findFacts_72 at h
  obtain ⟨hi72, h⟩ := k_i_of h
  refine s_i (j := (w1).toNatClampNeg) (f := a17) (us' := [(17, .inr (.inr (.inl (upd a17 ((w1).toNatClampNeg) w0))))]) C dX11_findFacts_72 (rfl : 72 + 1 = 73) rfl rfl hi72 rfl ds_X11_findFacts rfl rfl rfl ?_
  refine r_aload_n C dX11_findFacts_73 (rfl : 73 + 1 = 74) rfl ?_
  refine r_getR (q := 17) C dX11_findFacts_74 (rfl : 74 + 3 = 77) fl_X11_65 rfl rfl ?_
  refine r_iconst (v := (4 : Int32)) C dX11_findFacts_77 (rfl : 77 + 1 = 78) rfl ?_
  refine r_aload_n C dX11_findFacts_78 (rfl : 78 + 1 = 79) rfl ?_
  refine r_iload_n C dX11_findFacts_79 (rfl : 79 + 1 = 80) rfl ?_
  refine r_iconst (v := (1 : Int32)) C dX11_findFacts_80 (rfl : 80 + 1 = 81) rfl ?_
  refine r_isub C dX11_findFacts_81 (rfl : 81 + 1 = 82) ?_
  refine r_iload C dX11_findFacts_82 (rfl : 82 + 2 = 84) rfl ?_
  obtain ⟨r84, q84, h⟩ := k_b_of h
  refine d_V (As := [.int (v3 - (1 : Int32)), .int v4]) (st := [.int (4 : Int32), .ref 17]) (st' := [.int r84, .int (4 : Int32), .ref 17]) (h' := k_ap [(17, .inr (.inr (.inl (upd a17 ((w1).toNatClampNeg) w0))))] (shM, I, L, Rf)) C hR ⟨Nat.zero_le _, Nat.zero_le _⟩ mv_X11_propped lk_X11_370 dX11_findFacts_84 (rfl : 84 + 3 = 87) rfl rfl rfl rfl (c_X11_propped X.l u (k_ap [(17, .inr (.inr (.inl (upd a17 ((w1).toNatClampNeg) w0))))] (shM, I, L, Rf)) rfl ec0_25 ec0_26 ea21 q84) rfl rfl rfl rfl rfl ?_
  refine r_aload_n C dX11_findFacts_87 (rfl : 87 + 1 = 88) rfl ?_
  refine r_iload_n C dX11_findFacts_88 (rfl : 88 + 1 = 89) rfl ?_
  refine r_iconst (v := (1 : Int32)) C dX11_findFacts_89 (rfl : 89 + 1 = 90) rfl ?_
  refine r_iadd C dX11_findFacts_90 (rfl : 90 + 1 = 91) ?_
  refine r_iload C dX11_findFacts_91 (rfl : 91 + 2 = 93) rfl ?_
  obtain ⟨r93, q93, h⟩ := k_b_of h
  refine d_V (As := [.int (v3 + (1 : Int32)), .int v4]) (st := [.int r84, .int (4 : Int32), .ref 17]) (st' := [.int r93, .int r84, .int (4 : Int32), .ref 17]) (h' := k_ap [(17, .inr (.inr (.inl (upd a17 ((w1).toNatClampNeg) w0))))] (shM, I, L, Rf)) C hR ⟨Nat.zero_le _, Nat.zero_le _⟩ mv_X11_propped lk_X11_370 dX11_findFacts_93 (rfl : 93 + 3 = 96) rfl rfl rfl rfl (c_X11_propped X.l u (k_ap [(17, .inr (.inr (.inl (upd a17 ((w1).toNatClampNeg) w0))))] (shM, I, L, Rf)) rfl ec0_25 ec0_26 ea21 q93) rfl rfl rfl rfl rfl ?_
  refine r_iadd C dX11_findFacts_96 (rfl : 96 + 1 = 97) ?_
  refine s_i (j := 4) (f := (upd a17 ((w1).toNatClampNeg) w0)) (us' := [(17, .inr (.inr (.inl (upd (upd a17 ((w1).toNatClampNeg) w0) 4 (r84 + r93)))))]) C dX11_findFacts_97 (rfl : 97 + 1 = 98) rfl rfl (show ¬ ((4 : Int32) < 0 ∨ 8 ≤ ((4 : Int32)).toNatClampNeg) by decide) rfl ds_X11_findFacts rfl rfl rfl ?_
  refine r_aload_n C dX11_findFacts_98 (rfl : 98 + 1 = 99) rfl ?_
  refine r_getR (q := 17) C dX11_findFacts_99 (rfl : 99 + 3 = 102) fl_X11_65 rfl rfl ?_
  refine r_iconst (v := (5 : Int32)) C dX11_findFacts_102 (rfl : 102 + 1 = 103) rfl ?_
  refine r_aload_n C dX11_findFacts_103 (rfl : 103 + 1 = 104) rfl ?_
  refine r_getR (q := 8) C dX11_findFacts_104 (rfl : 104 + 3 = 107) fl_X11_38 rfl rfl ?_
  refine r_iload_n C dX11_findFacts_107 (rfl : 107 + 1 = 108) rfl ?_
  obtain ⟨hi108, h⟩ := k_i_of h
  refine a_i (j := (v1).toNatClampNeg) (f := a8) C dX11_findFacts_108 (rfl : 108 + 1 = 109) rfl ea8 hi108 rfl ?_
  refine s_i (j := 5) (f := (upd (upd a17 ((w1).toNatClampNeg) w0) 4 (r84 + r93))) (us' := [(17, .inr (.inr (.inl (upd (upd (upd a17 ((w1).toNatClampNeg) w0) 4 (r84 + r93)) 5 (a8 ((v1).toNatClampNeg))))))]) C dX11_findFacts_109 (rfl : 109 + 1 = 110) rfl rfl (show ¬ ((5 : Int32) < 0 ∨ 8 ≤ ((5 : Int32)).toNatClampNeg) by decide) rfl ds_X11_findFacts rfl rfl rfl ?_
  refine r_aload_n C dX11_findFacts_110 (rfl : 110 + 1 = 111) rfl ?_
  refine r_getR (q := 17) C dX11_findFacts_111 (rfl : 111 + 3 = 114) fl_X11_65 rfl rfl ?_
  refine r_bipush (v := (6 : Int32)) C dX11_findFacts_114 (rfl : 114 + 2 = 116) rfl ?_
  refine r_aload_n C dX11_findFacts_116 (rfl : 116 + 1 = 117) rfl ?_
  refine r_getR (q := 7) C dX11_findFacts_117 (rfl : 117 + 3 = 120) fl_X11_35 rfl rfl ?_
  refine r_iload_n C dX11_findFacts_120 (rfl : 120 + 1 = 121) rfl ?_
  obtain ⟨hi121, h⟩ := k_i_of h
  refine a_i (j := (v1).toNatClampNeg) (f := a7) C dX11_findFacts_121 (rfl : 121 + 1 = 122) rfl ea7 hi121 rfl ?_
  refine s_i (j := 6) (f := (upd (upd (upd a17 ((w1).toNatClampNeg) w0) 4 (r84 + r93)) 5 (a8 ((v1).toNatClampNeg)))) (us' := [(17, .inr (.inr (.inl (upd (upd (upd (upd a17 ((w1).toNatClampNeg) w0) 4 (r84 + r93)) 5 (a8 ((v1).toNatClampNeg))) 6 (a7 ((v1).toNatClampNeg))))))]) C dX11_findFacts_122 (rfl : 122 + 1 = 123) rfl rfl (show ¬ ((6 : Int32) < 0 ∨ 8 ≤ ((6 : Int32)).toNatClampNeg) by decide) rfl ds_X11_findFacts rfl rfl rfl ?_
  refine r_aload_n C dX11_findFacts_123 (rfl : 123 + 1 = 124) rfl ?_
  refine r_getR (q := 17) C dX11_findFacts_124 (rfl : 124 + 3 = 127) fl_X11_65 rfl rfl ?_
  refine r_bipush (v := (7 : Int32)) C dX11_findFacts_127 (rfl : 127 + 2 = 129) rfl ?_
  refine r_aload_n C dX11_findFacts_129 (rfl : 129 + 1 = 130) rfl ?_
  refine r_getR (q := 21) C dX11_findFacts_130 (rfl : 130 + 3 = 133) fl_X11_77 rfl rfl ?_
  refine r_bipush (v := (69 : Int32)) C dX11_findFacts_133 (rfl : 133 + 2 = 135) rfl ?_
  refine a_i (j := 69) (f := a21) C dX11_findFacts_135 (rfl : 135 + 1 = 136) rfl ea21 (show ¬ ((69 : Int32) < 0 ∨ 77 ≤ ((69 : Int32)).toNatClampNeg) by decide) rfl ?_
  refine s_i (j := 7) (f := (upd (upd (upd (upd a17 ((w1).toNatClampNeg) w0) 4 (r84 + r93)) 5 (a8 ((v1).toNatClampNeg))) 6 (a7 ((v1).toNatClampNeg)))) (us' := [(17, .inr (.inr (.inl (upd (upd (upd (upd (upd a17 ((w1).toNatClampNeg) w0) 4 (r84 + r93)) 5 (a8 ((v1).toNatClampNeg))) 6 (a7 ((v1).toNatClampNeg))) 7 (a21 69)))))]) C dX11_findFacts_136 (rfl : 136 + 1 = 137) rfl rfl (show ¬ ((7 : Int32) < 0 ∨ 8 ≤ ((7 : Int32)).toNatClampNeg) by decide) rfl ds_X11_findFacts rfl rfl rfl ?_
  cases h
  exact r_vret C hr dX11_findFacts_137
set_option maxHeartbeats 400000 in
set_option maxRecDepth 100000 in
theorem sX11_findFacts_49 (u : Nat) {X : k_X} {ad : Nat → Nat} (C : k_C X cX11_findFacts RX11 5 ad) (hr : X.meth.sig.returnType = none) (hR : X.R.frames = 2 ∧ X.R.locals = 44) {I : Nat → Nat → Int32} {L : Nat → Nat → Int64} {Rf : Nat → Nat → Option Nat} {c0_25 : Int32} (ec0_25 : I 0 25 = c0_25) {c0_26 : Int32} (ec0_26 : I 0 26 = c0_26) {a7 : (Nat → Int32)} (ea7 : I 7 = a7) {a8 : (Nat → Int32)} (ea8 : I 8 = a8) {a21 : (Nat → Int32)} (ea21 : I 21 = a21) {out : (Nat → Int32)} : ∀ (a17 : (Nat → Int32)) (v1 : Int32) (v3 : Int32) (v4 : Int32) (w0 : Int32) (w1 : Int32), bX11_findFacts_49 u c0_25 c0_26 a7 a8 a21 a17 v1 v3 v4 w0 w1 = some out → k_W X 5 0 0 (k_Q X ad none (k_ap [(17, .inr (.inr (.inl out)))] (shM, I, L, Rf))) ad (k_ap [(17, .inr (.inr (.inl a17)))] (shM, I, L, Rf)) 49 [some (.ref 0), some (.int v1), none, some (.int v3), some (.int v4)] [.int w0, .int w1, .ref 17] := by
  intro a17 v1 v3 v4 w0 w1 h
  unfold bX11_findFacts_49 at h
  obtain ⟨hi49, h⟩ := k_i_of h
  refine s_i (j := (w1).toNatClampNeg) (f := a17) (us' := [(17, .inr (.inr (.inl (upd a17 ((w1).toNatClampNeg) w0))))]) C dX11_findFacts_49 (rfl : 49 + 1 = 50) rfl rfl hi49 rfl ds_X11_findFacts rfl rfl rfl ?_
  refine r_aload_n C dX11_findFacts_50 (rfl : 50 + 1 = 51) rfl ?_
  refine r_getR (q := 17) C dX11_findFacts_51 (rfl : 51 + 3 = 54) fl_X11_65 rfl rfl ?_
  refine r_iconst (v := (3 : Int32)) C dX11_findFacts_54 (rfl : 54 + 1 = 55) rfl ?_
  refine r_aload_n C dX11_findFacts_55 (rfl : 55 + 1 = 56) rfl ?_
  refine r_iload_n C dX11_findFacts_56 (rfl : 56 + 1 = 57) rfl ?_
  refine r_iload C dX11_findFacts_57 (rfl : 57 + 2 = 59) rfl ?_
  refine r_iconst (v := (1 : Int32)) C dX11_findFacts_59 (rfl : 59 + 1 = 60) rfl ?_
  refine r_isub C dX11_findFacts_60 (rfl : 60 + 1 = 61) ?_
  obtain ⟨r61, q61, h⟩ := k_b_of h
  refine d_V (As := [.int v3, .int (v4 - (1 : Int32))]) (st := [.int (3 : Int32), .ref 17]) (st' := [.int r61, .int (3 : Int32), .ref 17]) (h' := k_ap [(17, .inr (.inr (.inl (upd a17 ((w1).toNatClampNeg) w0))))] (shM, I, L, Rf)) C hR ⟨Nat.zero_le _, Nat.zero_le _⟩ mv_X11_isOpen lk_X11_367 dX11_findFacts_61 (rfl : 61 + 3 = 64) rfl rfl rfl rfl (c_X11_isOpen X.l u (k_ap [(17, .inr (.inr (.inl (upd a17 ((w1).toNatClampNeg) w0))))] (shM, I, L, Rf)) rfl ec0_25 ec0_26 ea21 q61) rfl rfl rfl rfl rfl ?_
  refine r_if_eq (tgt := 71) C dX11_findFacts_64 (by decide) (rfl : 64 + 3 = 67) (fun c64 => ?_) (fun c64 => ?_)
  · have h := k_t c64 h
    refine r_iconst (v := (0 : Int32)) C dX11_findFacts_71 (rfl : 71 + 1 = 72) rfl ?_
    refine k_mask [true, true, false, true, true] ?_
    exact sX11_findFacts_72 u C hr hR ec0_25 ec0_26 ea7 ea8 ea21 (upd a17 ((w1).toNatClampNeg) w0) v1 v3 v4 (0 : Int32) (3 : Int32) h
  · have h := k_f c64 h
    refine r_iconst (v := (1 : Int32)) C dX11_findFacts_67 (rfl : 67 + 1 = 68) rfl ?_
    refine r_goto (tgt := 72) C dX11_findFacts_68 (by decide) ?_
    refine k_mask [true, true, false, true, true] ?_
    exact sX11_findFacts_72 u C hr hR ec0_25 ec0_26 ea7 ea8 ea21 (upd a17 ((w1).toNatClampNeg) w0) v1 v3 v4 (1 : Int32) (3 : Int32) h
set_option maxHeartbeats 400000 in
set_option maxRecDepth 100000 in
theorem sX11_findFacts_0 (u : Nat) {X : k_X} {ad : Nat → Nat} (C : k_C X cX11_findFacts RX11 5 ad) (hr : X.meth.sig.returnType = none) (hR : X.R.frames = 2 ∧ X.R.locals = 44) {I : Nat → Nat → Int32} {L : Nat → Nat → Int64} {Rf : Nat → Nat → Option Nat} {c0_25 : Int32} (ec0_25 : I 0 25 = c0_25) {c0_26 : Int32} (ec0_26 : I 0 26 = c0_26) {a7 : (Nat → Int32)} (ea7 : I 7 = a7) {a8 : (Nat → Int32)} (ea8 : I 8 = a8) {a21 : (Nat → Int32)} (ea21 : I 21 = a21) {out : (Nat → Int32)} : ∀ (a17 : (Nat → Int32)) (v1 : Int32) (v2 : Int32), bX11_findFacts_0 u c0_25 c0_26 a7 a8 a21 a17 v1 v2 = some out → k_W X 5 0 0 (k_Q X ad none (k_ap [(17, .inr (.inr (.inl out)))] (shM, I, L, Rf))) ad (k_ap [(17, .inr (.inr (.inl a17)))] (shM, I, L, Rf)) 0 [some (.ref 0), some (.int v1), some (.int v2), none, none] [] := by
  intro a17 v1 v2 h
  unfold bX11_findFacts_0 at h
  refine r_iload_n C dX11_findFacts_0 (rfl : 0 + 1 = 1) rfl ?_
  refine r_bipush (v := (8 : Int32)) C dX11_findFacts_1 (rfl : 1 + 2 = 3) rfl ?_
  refine r_irem C dX11_findFacts_3 (rfl : 3 + 1 = 4) (by decide) ?_
  refine r_istore_n C dX11_findFacts_4 (rfl : 4 + 1 = 5) (by decide) (Nat.le_of_ble_eq_true rfl) ?_
  show k_W _ _ _ _ _ _ _ _ [some (.ref 0), some (.int v1), some (.int v2), some (.int (v1 - v1 / (8 : Int32) * (8 : Int32))), none] _
  refine r_iload_n C dX11_findFacts_5 (rfl : 5 + 1 = 6) rfl ?_
  refine r_bipush (v := (8 : Int32)) C dX11_findFacts_6 (rfl : 6 + 2 = 8) rfl ?_
  refine r_idiv C dX11_findFacts_8 (rfl : 8 + 1 = 9) (by decide) ?_
  refine r_istore C dX11_findFacts_9 (rfl : 9 + 2 = 11) (by decide) (Nat.le_of_ble_eq_true rfl) ?_
  show k_W _ _ _ _ _ _ _ _ [some (.ref 0), some (.int v1), some (.int v2), some (.int (v1 - v1 / (8 : Int32) * (8 : Int32))), some (.int (v1 / (8 : Int32)))] _
  refine r_aload_n C dX11_findFacts_11 (rfl : 11 + 1 = 12) rfl ?_
  refine r_getR (q := 17) C dX11_findFacts_12 (rfl : 12 + 3 = 15) fl_X11_65 rfl rfl ?_
  refine r_iconst (v := (0 : Int32)) C dX11_findFacts_15 (rfl : 15 + 1 = 16) rfl ?_
  refine r_iload_n C dX11_findFacts_16 (rfl : 16 + 1 = 17) rfl ?_
  refine s_i (j := 0) (f := a17) (us' := [(17, .inr (.inr (.inl (upd a17 0 v2))))]) C dX11_findFacts_17 (rfl : 17 + 1 = 18) rfl rfl (show ¬ ((0 : Int32) < 0 ∨ 8 ≤ ((0 : Int32)).toNatClampNeg) by decide) rfl ds_X11_findFacts rfl rfl rfl ?_
  refine r_aload_n C dX11_findFacts_18 (rfl : 18 + 1 = 19) rfl ?_
  refine r_getR (q := 17) C dX11_findFacts_19 (rfl : 19 + 3 = 22) fl_X11_65 rfl rfl ?_
  refine r_iconst (v := (1 : Int32)) C dX11_findFacts_22 (rfl : 22 + 1 = 23) rfl ?_
  refine r_iload C dX11_findFacts_23 (rfl : 23 + 2 = 25) rfl ?_
  refine s_i (j := 1) (f := (upd a17 0 v2)) (us' := [(17, .inr (.inr (.inl (upd (upd a17 0 v2) 1 (v1 / (8 : Int32))))))]) C dX11_findFacts_25 (rfl : 25 + 1 = 26) rfl rfl (show ¬ ((1 : Int32) < 0 ∨ 8 ≤ ((1 : Int32)).toNatClampNeg) by decide) rfl ds_X11_findFacts rfl rfl rfl ?_
  refine r_aload_n C dX11_findFacts_26 (rfl : 26 + 1 = 27) rfl ?_
  refine r_getR (q := 17) C dX11_findFacts_27 (rfl : 27 + 3 = 30) fl_X11_65 rfl rfl ?_
  refine r_iconst (v := (2 : Int32)) C dX11_findFacts_30 (rfl : 30 + 1 = 31) rfl ?_
  refine r_iload C dX11_findFacts_31 (rfl : 31 + 2 = 33) rfl ?_
  refine r_if_ne (tgt := 40) C dX11_findFacts_33 (by decide) (rfl : 33 + 3 = 36) (fun c33 => ?_) (fun c33 => ?_)
  · have h := k_f c33 h
    refine r_aload_n C dX11_findFacts_40 (rfl : 40 + 1 = 41) rfl ?_
    refine r_getR (q := 7) C dX11_findFacts_41 (rfl : 41 + 3 = 44) fl_X11_35 rfl rfl ?_
    refine r_iload_n C dX11_findFacts_44 (rfl : 44 + 1 = 45) rfl ?_
    refine r_bipush (v := (8 : Int32)) C dX11_findFacts_45 (rfl : 45 + 2 = 47) rfl ?_
    refine r_isub C dX11_findFacts_47 (rfl : 47 + 1 = 48) ?_
    obtain ⟨hi48, h⟩ := k_i_of h
    refine a_i (j := ((v1 - (8 : Int32))).toNatClampNeg) (f := a7) C dX11_findFacts_48 (rfl : 48 + 1 = 49) rfl ea7 hi48 rfl ?_
    refine k_mask [true, true, false, true, true] ?_
    exact sX11_findFacts_49 u C hr hR ec0_25 ec0_26 ea7 ea8 ea21 (upd (upd a17 0 v2) 1 (v1 / (8 : Int32))) v1 (v1 - v1 / (8 : Int32) * (8 : Int32)) (v1 / (8 : Int32)) (a7 (((v1 - (8 : Int32))).toNatClampNeg)) (2 : Int32) h
  · have h := k_t c33 h
    refine r_iconst (v := (0 : Int32)) C dX11_findFacts_36 (rfl : 36 + 1 = 37) rfl ?_
    refine r_goto (tgt := 49) C dX11_findFacts_37 (by decide) ?_
    refine k_mask [true, true, false, true, true] ?_
    exact sX11_findFacts_49 u C hr hR ec0_25 ec0_26 ea7 ea8 ea21 (upd (upd a17 0 v2) 1 (v1 / (8 : Int32))) v1 (v1 - v1 / (8 : Int32) * (8 : Int32)) (v1 / (8 : Int32)) (0 : Int32) (2 : Int32) h
set_option maxHeartbeats 400000 in
set_option maxRecDepth 100000 in
theorem c_X11_findFacts (l : Launch) (u : Nat) (h : k_H) (hsh : h.1 = shM) {c0_25 : Int32} (ec0_25 : h.2.1 0 25 = c0_25) {c0_26 : Int32} (ec0_26 : h.2.1 0 26 = c0_26) {a7 : (Nat → Int32)} (ea7 : h.2.1 7 = a7) {a8 : (Nat → Int32)} (ea8 : h.2.1 8 = a8) {a17 : (Nat → Int32)} (ea17 : h.2.1 17 = a17) {a21 : (Nat → Int32)} (ea21 : h.2.1 21 = a21) {x0 : Int32} {x1 : Int32} {out : (Nat → Int32)} (hf : f_X11_findFacts u c0_25 c0_26 a7 a8 a17 a21 x0 x1 = some out) : k_CT l yX11_findFacts cX11_findFacts 5 none 2 44 [.ref 0, .int x0, .int x1] h none [(17, .inr (.inr (.inl out)))] := by
  obtain ⟨sh, I, L, Rf⟩ := h
  try dsimp only
  obtain rfl : sh = shM := hsh
  refine k_ofW (by decide) (Nat.le_of_ble_eq_true rfl) ?_
  intro X ad hl hR0 hr C
  have hR : X.R.frames = 2 ∧ X.R.locals = 44 := by rw [hR0]; exact ⟨rfl, rfl⟩
  have h := hf
  unfold f_X11_findFacts at h
  refine k_start (us := [(17, .inr (.inr (.inl a17)))]) (k_ao_A ea17 k_ap_0) ?_
  show k_W X 5 0 0 _ ad (k_ap [(17, .inr (.inr (.inl a17)))] (shM, I, L, Rf)) 0 [some (.ref 0), some (.int x0), some (.int x1), none, none] []
  refine k_mask [true, true, true, false, false] ?_
  exact sX11_findFacts_0 u C hr hR ec0_25 ec0_26 ea7 ea8 ea21 a17 x0 x1 h
/-! LullabyPitModel.harmOf(I)I -/
theorem ds_X11_harmOf : k_ds [(16, 2, 0), (17, 2, 0)] = true := by decide +kernel
set_option maxHeartbeats 400000 in
set_option maxRecDepth 100000 in
theorem sX11_harmOf_30 (u : Nat) {X : k_X} {ad : Nat → Nat} (C : k_C X cX11_harmOf RX11 3 ad) (hr : X.meth.sig.returnType = (some .int)) (hR : X.R.frames = 3 ∧ X.R.locals = 68) {I : Nat → Nat → Int32} {L : Nat → Nat → Int64} {Rf : Nat → Nat → Option Nat} {c0_25 : Int32} (ec0_25 : I 0 25 = c0_25) {c0_26 : Int32} (ec0_26 : I 0 26 = c0_26) {a7 : (Nat → Int32)} (ea7 : I 7 = a7) {a8 : (Nat → Int32)} (ea8 : I 8 = a8) {a13 : (Nat → Int32)} (ea13 : I 13 = a13) {a14 : (Nat → Int32)} (ea14 : I 14 = a14) {a15 : (Nat → Int32)} (ea15 : I 15 = a15) {a21 : (Nat → Int32)} (ea21 : I 21 = a21) {out : Int32 × (Nat → Int32) × (Nat → Int32)} : ∀ (a16 : (Nat → Int32)) (a17 : (Nat → Int32)) (w0 : Int32), bX11_harmOf_30 u c0_25 c0_26 a7 a8 a13 a14 a15 a21 a16 a17 w0 = some out → k_W X 3 0 0 (k_Q X ad (some (.int out.1)) (k_ap [(16, .inr (.inr (.inl out.2.1))), (17, .inr (.inr (.inl out.2.2)))] (shM, I, L, Rf))) ad (k_ap [(16, .inr (.inr (.inl a16))), (17, .inr (.inr (.inl a17)))] (shM, I, L, Rf)) 30 [none, none, none] [.int w0] := by
  intro a16 a17 w0 h
  unfold bX11_harmOf_30 at h
  refine r_istore_n C dX11_harmOf_30 (rfl : 30 + 1 = 31) (by decide) (Nat.le_of_ble_eq_true rfl) ?_
  show k_W _ _ _ _ _ _ _ _ [none, none, some (.int w0)] _
  refine r_iload_n C dX11_harmOf_31 (rfl : 31 + 1 = 32) rfl ?_
  refine r_if_ge (tgt := 39) C dX11_harmOf_32 (by decide) (rfl : 32 + 3 = 35) (fun c32 => ?_) (fun c32 => ?_)
  · have h := k_t c32 h
    refine r_iload_n C dX11_harmOf_39 (rfl : 39 + 1 = 40) rfl ?_
    refine r_bipush (v := (99 : Int32)) C dX11_harmOf_40 (rfl : 40 + 2 = 42) rfl ?_
    refine r_icmp_le (tgt := 50) C dX11_harmOf_42 (by decide) (rfl : 42 + 3 = 45) (fun c42 => ?_) (fun c42 => ?_)
    · have h := k_t c42 h
      refine r_iload_n C dX11_harmOf_50 (rfl : 50 + 1 = 51) rfl ?_
      cases h
      exact r_iret C hr dX11_harmOf_51
    · have h := k_f c42 h
      refine r_bipush (v := (99 : Int32)) C dX11_harmOf_45 (rfl : 45 + 2 = 47) rfl ?_
      refine r_goto (tgt := 51) C dX11_harmOf_47 (by decide) ?_
      cases h
      exact r_iret C hr dX11_harmOf_51
  · have h := k_f c32 h
    refine r_iconst (v := (0 : Int32)) C dX11_harmOf_35 (rfl : 35 + 1 = 36) rfl ?_
    refine r_goto (tgt := 51) C dX11_harmOf_36 (by decide) ?_
    cases h
    exact r_iret C hr dX11_harmOf_51
set_option maxHeartbeats 400000 in
set_option maxRecDepth 100000 in
theorem sX11_harmOf_0 (u : Nat) {X : k_X} {ad : Nat → Nat} (C : k_C X cX11_harmOf RX11 3 ad) (hr : X.meth.sig.returnType = (some .int)) (hR : X.R.frames = 3 ∧ X.R.locals = 68) {I : Nat → Nat → Int32} {L : Nat → Nat → Int64} {Rf : Nat → Nat → Option Nat} {c0_25 : Int32} (ec0_25 : I 0 25 = c0_25) {c0_26 : Int32} (ec0_26 : I 0 26 = c0_26) {a7 : (Nat → Int32)} (ea7 : I 7 = a7) {a8 : (Nat → Int32)} (ea8 : I 8 = a8) {a13 : (Nat → Int32)} (ea13 : I 13 = a13) {a14 : (Nat → Int32)} (ea14 : I 14 = a14) {a15 : (Nat → Int32)} (ea15 : I 15 = a15) {a21 : (Nat → Int32)} (ea21 : I 21 = a21) {out : Int32 × (Nat → Int32) × (Nat → Int32)} : ∀ (a16 : (Nat → Int32)) (a17 : (Nat → Int32)) (v1 : Int32), bX11_harmOf_0 u c0_25 c0_26 a7 a8 a13 a14 a15 a21 a16 a17 v1 = some out → k_W X 3 0 0 (k_Q X ad (some (.int out.1)) (k_ap [(16, .inr (.inr (.inl out.2.1))), (17, .inr (.inr (.inl out.2.2)))] (shM, I, L, Rf))) ad (k_ap [(16, .inr (.inr (.inl a16))), (17, .inr (.inr (.inl a17)))] (shM, I, L, Rf)) 0 [some (.ref 0), some (.int v1), none] [] := by
  intro a16 a17 v1 h
  unfold bX11_harmOf_0 at h
  refine r_aload_n C dX11_harmOf_0 (rfl : 0 + 1 = 1) rfl ?_
  refine r_iload_n C dX11_harmOf_1 (rfl : 1 + 1 = 2) rfl ?_
  refine r_iconst (v := (1 : Int32)) C dX11_harmOf_2 (rfl : 2 + 1 = 3) rfl ?_
  obtain ⟨r3, q3, h⟩ := k_b_of h
  refine d_V (As := [.int v1, .int (1 : Int32)]) (st := []) (st' := []) (h' := k_ap [(16, .inr (.inr (.inl a16))), (17, .inr (.inr (.inl r3)))] (shM, I, L, Rf)) C hR ⟨Nat.zero_le _, Nat.zero_le _⟩ mv_X11_findFacts lk_X11_376 dX11_harmOf_3 (rfl : 3 + 3 = 6) rfl rfl rfl rfl (c_X11_findFacts X.l u (k_ap [(16, .inr (.inr (.inl a16))), (17, .inr (.inr (.inl a17)))] (shM, I, L, Rf)) rfl ec0_25 ec0_26 ea7 ea8 rfl ea21 q3) rfl rfl rfl (k_jn (us' := [(16, .inr (.inr (.inl a16))), (17, .inr (.inr (.inl r3)))]) ds_X11_harmOf rfl rfl rfl) rfl ?_
  refine r_aload_n C dX11_harmOf_6 (rfl : 6 + 1 = 7) rfl ?_
  refine r_getR (q := 15) C dX11_harmOf_7 (rfl : 7 + 3 = 10) fl_X11_59 rfl rfl ?_
  refine r_iconst (v := (1 : Int32)) C dX11_harmOf_10 (rfl : 10 + 1 = 11) rfl ?_
  refine a_i (j := 1) (f := a15) C dX11_harmOf_11 (rfl : 11 + 1 = 12) rfl ea15 (show ¬ ((1 : Int32) < 0 ∨ 2 ≤ ((1 : Int32)).toNatClampNeg) by decide) rfl ?_
  refine r_if_ne (tgt := 25) C dX11_harmOf_12 (by decide) (rfl : 12 + 3 = 15) (fun c12 => ?_) (fun c12 => ?_)
  · have h := k_f c12 h
    refine r_aload_n C dX11_harmOf_25 (rfl : 25 + 1 = 26) rfl ?_
    refine r_iconst (v := (1 : Int32)) C dX11_harmOf_26 (rfl : 26 + 1 = 27) rfl ?_
    obtain ⟨r27, q27, h⟩ := k_b_of h
    refine d_V (As := [.int (1 : Int32)]) (st := []) (st' := [.int r27.1]) (h' := k_ap [(16, .inr (.inr (.inl r27.2))), (17, .inr (.inr (.inl r3)))] (shM, I, L, Rf)) C hR ⟨Nat.zero_le _, Nat.zero_le _⟩ mv_X11_valueOf lk_X11_379 dX11_harmOf_27 (rfl : 27 + 3 = 30) rfl rfl rfl rfl (c_X11_valueOf X.l u (k_ap [(16, .inr (.inr (.inl a16))), (17, .inr (.inr (.inl r3)))] (shM, I, L, Rf)) rfl ea13 ea14 ea15 rfl rfl q27) rfl rfl rfl (k_jn (us' := [(16, .inr (.inr (.inl r27.2))), (17, .inr (.inr (.inl r3)))]) ds_X11_harmOf rfl rfl rfl) rfl ?_
    refine k_mask [false, false, false] ?_
    exact sX11_harmOf_30 u C hr hR ec0_25 ec0_26 ea7 ea8 ea13 ea14 ea15 ea21 r27.2 r3 r27.1 h
  · have h := k_t c12 h
    refine r_aload_n C dX11_harmOf_15 (rfl : 15 + 1 = 16) rfl ?_
    refine r_getR (q := 17) C dX11_harmOf_16 (rfl : 16 + 3 = 19) fl_X11_65 rfl rfl ?_
    refine r_bipush (v := (6 : Int32)) C dX11_harmOf_19 (rfl : 19 + 2 = 21) rfl ?_
    refine a_i (j := 6) (f := r3) C dX11_harmOf_21 (rfl : 21 + 1 = 22) rfl rfl (show ¬ ((6 : Int32) < 0 ∨ 8 ≤ ((6 : Int32)).toNatClampNeg) by decide) rfl ?_
    refine r_goto (tgt := 30) C dX11_harmOf_22 (by decide) ?_
    refine k_mask [false, false, false] ?_
    exact sX11_harmOf_30 u C hr hR ec0_25 ec0_26 ea7 ea8 ea13 ea14 ea15 ea21 a16 r3 (r3 6) h
set_option maxHeartbeats 400000 in
set_option maxRecDepth 100000 in
theorem c_X11_harmOf (l : Launch) (u : Nat) (h : k_H) (hsh : h.1 = shM) {c0_25 : Int32} (ec0_25 : h.2.1 0 25 = c0_25) {c0_26 : Int32} (ec0_26 : h.2.1 0 26 = c0_26) {a7 : (Nat → Int32)} (ea7 : h.2.1 7 = a7) {a8 : (Nat → Int32)} (ea8 : h.2.1 8 = a8) {a13 : (Nat → Int32)} (ea13 : h.2.1 13 = a13) {a14 : (Nat → Int32)} (ea14 : h.2.1 14 = a14) {a15 : (Nat → Int32)} (ea15 : h.2.1 15 = a15) {a16 : (Nat → Int32)} (ea16 : h.2.1 16 = a16) {a17 : (Nat → Int32)} (ea17 : h.2.1 17 = a17) {a21 : (Nat → Int32)} (ea21 : h.2.1 21 = a21) {x0 : Int32} {out : Int32 × (Nat → Int32) × (Nat → Int32)} (hf : f_X11_harmOf u c0_25 c0_26 a7 a8 a13 a14 a15 a16 a17 a21 x0 = some out) : k_CT l yX11_harmOf cX11_harmOf 3 (some .int) 3 68 [.ref 0, .int x0] h (some (.int out.1)) [(16, .inr (.inr (.inl out.2.1))), (17, .inr (.inr (.inl out.2.2)))] := by
  obtain ⟨sh, I, L, Rf⟩ := h
  try dsimp only
  obtain rfl : sh = shM := hsh
  refine k_ofW (by decide) (Nat.le_of_ble_eq_true rfl) ?_
  intro X ad hl hR0 hr C
  have hR : X.R.frames = 3 ∧ X.R.locals = 68 := by rw [hR0]; exact ⟨rfl, rfl⟩
  have h := hf
  unfold f_X11_harmOf at h
  refine k_start (us := [(16, .inr (.inr (.inl a16))), (17, .inr (.inr (.inl a17)))]) (k_ao_A ea16 (k_ao_A ea17 k_ap_0)) ?_
  show k_W X 3 0 0 _ ad (k_ap [(16, .inr (.inr (.inl a16))), (17, .inr (.inr (.inl a17)))] (shM, I, L, Rf)) 0 [some (.ref 0), some (.int x0), none] []
  refine k_mask [true, true, false] ?_
  exact sX11_harmOf_0 u C hr hR ec0_25 ec0_26 ea7 ea8 ea13 ea14 ea15 ea21 a16 a17 x0 h
/-! LullabyPitModel.wideAt(I)I -/
theorem ds_X11_wideAt : k_ds [] = true := by decide +kernel
set_option maxHeartbeats 400000 in
set_option maxRecDepth 100000 in
theorem sX11_wideAt_46 (u : Nat) {X : k_X} {ad : Nat → Nat} (C : k_C X cX11_wideAt RX11 4 ad) (hr : X.meth.sig.returnType = (some .int)) (hR : X.R.frames = 0 ∧ X.R.locals = 0) {I : Nat → Nat → Int32} {L : Nat → Nat → Int64} {Rf : Nat → Nat → Option Nat} {c0_25 : Int32} (ec0_25 : I 0 25 = c0_25) {a21 : (Nat → Int32)} (ea21 : I 21 = a21) {out : Int32} : ∀ (n : Nat) (v1 : Int32) (v2 : Int32) (v3 : Int32), bX11_wideAt_46 u c0_25 a21 n v1 v2 v3 = some out → k_W X 4 0 0 (k_Q X ad (some (.int out)) (k_ap [] (shM, I, L, Rf))) ad (k_ap [] (shM, I, L, Rf)) 46 [some (.ref 0), some (.int v1), some (.int v2), some (.int v3)] [] := by
  intro n
  induction n with
  | zero => intro v1 v2 v3 h; cases h
  | succ n ih =>
    intro v1 v2 v3 h
    refine r_iload_n C dX11_wideAt_46 (rfl : 46 + 1 = 47) rfl ?_
    refine r_aload_n C dX11_wideAt_47 (rfl : 47 + 1 = 48) rfl ?_
    refine r_getI (v := c0_25) C dX11_wideAt_48 (rfl : 48 + 3 = 51) fl_X11_184 rfl rfl ec0_25 ?_
    refine r_icmp_ge (tgt := 80) C dX11_wideAt_51 (by decide) (rfl : 51 + 3 = 54) (fun c51 => ?_) (fun c51 => ?_)
    · have h := k_t c51 h
      refine r_iload_n C dX11_wideAt_80 (rfl : 80 + 1 = 81) rfl ?_
      cases h
      exact r_iret C hr dX11_wideAt_81
    · have h := k_f c51 h
      refine r_aload_n C dX11_wideAt_54 (rfl : 54 + 1 = 55) rfl ?_
      refine r_getR (q := 21) C dX11_wideAt_55 (rfl : 55 + 3 = 58) fl_X11_77 rfl rfl ?_
      refine r_iload_n C dX11_wideAt_58 (rfl : 58 + 1 = 59) rfl ?_
      refine r_iload_n C dX11_wideAt_59 (rfl : 59 + 1 = 60) rfl ?_
      refine r_bipush (v := (8 : Int32)) C dX11_wideAt_60 (rfl : 60 + 2 = 62) rfl ?_
      refine r_irem C dX11_wideAt_62 (rfl : 62 + 1 = 63) (by decide) ?_
      refine r_isub C dX11_wideAt_63 (rfl : 63 + 1 = 64) ?_
      refine r_iload_n C dX11_wideAt_64 (rfl : 64 + 1 = 65) rfl ?_
      refine r_iadd C dX11_wideAt_65 (rfl : 65 + 1 = 66) ?_
      obtain ⟨hi66, h⟩ := k_i_of h
      refine a_i (j := (((v1 - (v1 - v1 / (8 : Int32) * (8 : Int32))) + v3)).toNatClampNeg) (f := a21) C dX11_wideAt_66 (rfl : 66 + 1 = 67) rfl ea21 hi66 rfl ?_
      refine r_iconst (v := (1 : Int32)) C dX11_wideAt_67 (rfl : 67 + 1 = 68) rfl ?_
      refine r_icmp_ne (tgt := 80) C dX11_wideAt_68 (by decide) (rfl : 68 + 3 = 71) (fun c68 => ?_) (fun c68 => ?_)
      · have h := k_f c68 h
        refine r_iload_n C dX11_wideAt_80 (rfl : 80 + 1 = 81) rfl ?_
        cases h
        exact r_iret C hr dX11_wideAt_81
      · have h := k_t c68 h
        refine r_iinc (v := (v2 + (1 : Int32))) C dX11_wideAt_71 (rfl : 71 + 3 = 74) rfl rfl (by decide) ?_
        show k_W _ _ _ _ _ _ _ _ [some (.ref 0), some (.int v1), some (.int (v2 + (1 : Int32))), some (.int v3)] _
        refine r_iinc (v := (v3 + (1 : Int32))) C dX11_wideAt_74 (rfl : 74 + 3 = 77) rfl rfl (by decide) ?_
        show k_W _ _ _ _ _ _ _ _ [some (.ref 0), some (.int v1), some (.int (v2 + (1 : Int32))), some (.int (v3 + (1 : Int32)))] _
        refine r_goto (tgt := 46) C dX11_wideAt_77 (by decide) ?_
        refine k_mask [true, true, true, true] ?_
        exact ih v1 (v2 + (1 : Int32)) (v3 + (1 : Int32)) h
set_option maxHeartbeats 400000 in
set_option maxRecDepth 100000 in
theorem sX11_wideAt_39 (u : Nat) {X : k_X} {ad : Nat → Nat} (C : k_C X cX11_wideAt RX11 4 ad) (hr : X.meth.sig.returnType = (some .int)) (hR : X.R.frames = 0 ∧ X.R.locals = 0) {I : Nat → Nat → Int32} {L : Nat → Nat → Int64} {Rf : Nat → Nat → Option Nat} {c0_25 : Int32} (ec0_25 : I 0 25 = c0_25) {a21 : (Nat → Int32)} (ea21 : I 21 = a21) {out : Int32} : ∀ (v1 : Int32) (v2 : Int32), bX11_wideAt_39 u c0_25 a21 v1 v2 = some out → k_W X 4 0 0 (k_Q X ad (some (.int out)) (k_ap [] (shM, I, L, Rf))) ad (k_ap [] (shM, I, L, Rf)) 39 [some (.ref 0), some (.int v1), some (.int v2), none] [] := by
  intro v1 v2 h
  unfold bX11_wideAt_39 at h
  refine r_iload_n C dX11_wideAt_39 (rfl : 39 + 1 = 40) rfl ?_
  refine r_bipush (v := (8 : Int32)) C dX11_wideAt_40 (rfl : 40 + 2 = 42) rfl ?_
  refine r_irem C dX11_wideAt_42 (rfl : 42 + 1 = 43) (by decide) ?_
  refine r_iconst (v := (1 : Int32)) C dX11_wideAt_43 (rfl : 43 + 1 = 44) rfl ?_
  refine r_iadd C dX11_wideAt_44 (rfl : 44 + 1 = 45) ?_
  refine r_istore_n C dX11_wideAt_45 (rfl : 45 + 1 = 46) (by decide) (Nat.le_of_ble_eq_true rfl) ?_
  show k_W _ _ _ _ _ _ _ _ [some (.ref 0), some (.int v1), some (.int v2), some (.int ((v1 - v1 / (8 : Int32) * (8 : Int32)) + (1 : Int32)))] _
  refine k_mask [true, true, true, true] ?_
  exact sX11_wideAt_46 u C hr hR ec0_25 ea21 u v1 v2 ((v1 - v1 / (8 : Int32) * (8 : Int32)) + (1 : Int32)) h
set_option maxHeartbeats 400000 in
set_option maxRecDepth 100000 in
theorem sX11_wideAt_9 (u : Nat) {X : k_X} {ad : Nat → Nat} (C : k_C X cX11_wideAt RX11 4 ad) (hr : X.meth.sig.returnType = (some .int)) (hR : X.R.frames = 0 ∧ X.R.locals = 0) {I : Nat → Nat → Int32} {L : Nat → Nat → Int64} {Rf : Nat → Nat → Option Nat} {c0_25 : Int32} (ec0_25 : I 0 25 = c0_25) {a21 : (Nat → Int32)} (ea21 : I 21 = a21) {out : Int32} : ∀ (n : Nat) (v1 : Int32) (v2 : Int32) (v3 : Int32), bX11_wideAt_9 u c0_25 a21 n v1 v2 v3 = some out → k_W X 4 0 0 (k_Q X ad (some (.int out)) (k_ap [] (shM, I, L, Rf))) ad (k_ap [] (shM, I, L, Rf)) 9 [some (.ref 0), some (.int v1), some (.int v2), some (.int v3)] [] := by
  intro n
  induction n with
  | zero => intro v1 v2 v3 h; cases h
  | succ n ih =>
    intro v1 v2 v3 h
    refine r_iload_n C dX11_wideAt_9 (rfl : 9 + 1 = 10) rfl ?_
    refine r_if_lt (tgt := 39) C dX11_wideAt_10 (by decide) (rfl : 10 + 3 = 13) (fun c10 => ?_) (fun c10 => ?_)
    · have h := k_t c10 h
      refine k_mask [true, true, true, false] ?_
      exact sX11_wideAt_39 u C hr hR ec0_25 ea21 v1 v2 h
    · have h := k_f c10 h
      refine r_aload_n C dX11_wideAt_13 (rfl : 13 + 1 = 14) rfl ?_
      refine r_getR (q := 21) C dX11_wideAt_14 (rfl : 14 + 3 = 17) fl_X11_77 rfl rfl ?_
      refine r_iload_n C dX11_wideAt_17 (rfl : 17 + 1 = 18) rfl ?_
      refine r_iload_n C dX11_wideAt_18 (rfl : 18 + 1 = 19) rfl ?_
      refine r_bipush (v := (8 : Int32)) C dX11_wideAt_19 (rfl : 19 + 2 = 21) rfl ?_
      refine r_irem C dX11_wideAt_21 (rfl : 21 + 1 = 22) (by decide) ?_
      refine r_isub C dX11_wideAt_22 (rfl : 22 + 1 = 23) ?_
      refine r_iload_n C dX11_wideAt_23 (rfl : 23 + 1 = 24) rfl ?_
      refine r_iadd C dX11_wideAt_24 (rfl : 24 + 1 = 25) ?_
      obtain ⟨hi25, h⟩ := k_i_of h
      refine a_i (j := (((v1 - (v1 - v1 / (8 : Int32) * (8 : Int32))) + v3)).toNatClampNeg) (f := a21) C dX11_wideAt_25 (rfl : 25 + 1 = 26) rfl ea21 hi25 rfl ?_
      refine r_iconst (v := (1 : Int32)) C dX11_wideAt_26 (rfl : 26 + 1 = 27) rfl ?_
      refine r_icmp_ne (tgt := 39) C dX11_wideAt_27 (by decide) (rfl : 27 + 3 = 30) (fun c27 => ?_) (fun c27 => ?_)
      · have h := k_f c27 h
        refine k_mask [true, true, true, false] ?_
        exact sX11_wideAt_39 u C hr hR ec0_25 ea21 v1 v2 h
      · have h := k_t c27 h
        refine r_iinc (v := (v2 + (1 : Int32))) C dX11_wideAt_30 (rfl : 30 + 3 = 33) rfl rfl (by decide) ?_
        show k_W _ _ _ _ _ _ _ _ [some (.ref 0), some (.int v1), some (.int (v2 + (1 : Int32))), some (.int v3)] _
        refine r_iinc (v := (v3 + (-1 : Int32))) C dX11_wideAt_33 (rfl : 33 + 3 = 36) rfl rfl (by decide) ?_
        show k_W _ _ _ _ _ _ _ _ [some (.ref 0), some (.int v1), some (.int (v2 + (1 : Int32))), some (.int (v3 + (-1 : Int32)))] _
        refine r_goto (tgt := 9) C dX11_wideAt_36 (by decide) ?_
        refine k_mask [true, true, true, true] ?_
        exact ih v1 (v2 + (1 : Int32)) (v3 + (-1 : Int32)) h
set_option maxHeartbeats 400000 in
set_option maxRecDepth 100000 in
theorem sX11_wideAt_0 (u : Nat) {X : k_X} {ad : Nat → Nat} (C : k_C X cX11_wideAt RX11 4 ad) (hr : X.meth.sig.returnType = (some .int)) (hR : X.R.frames = 0 ∧ X.R.locals = 0) {I : Nat → Nat → Int32} {L : Nat → Nat → Int64} {Rf : Nat → Nat → Option Nat} {c0_25 : Int32} (ec0_25 : I 0 25 = c0_25) {a21 : (Nat → Int32)} (ea21 : I 21 = a21) {out : Int32} : ∀ (v1 : Int32), bX11_wideAt_0 u c0_25 a21 v1 = some out → k_W X 4 0 0 (k_Q X ad (some (.int out)) (k_ap [] (shM, I, L, Rf))) ad (k_ap [] (shM, I, L, Rf)) 0 [some (.ref 0), some (.int v1), none, none] [] := by
  intro v1 h
  unfold bX11_wideAt_0 at h
  refine r_iconst (v := (1 : Int32)) C dX11_wideAt_0 (rfl : 0 + 1 = 1) rfl ?_
  refine r_istore_n C dX11_wideAt_1 (rfl : 1 + 1 = 2) (by decide) (Nat.le_of_ble_eq_true rfl) ?_
  show k_W _ _ _ _ _ _ _ _ [some (.ref 0), some (.int v1), some (.int (1 : Int32)), none] _
  refine r_iload_n C dX11_wideAt_2 (rfl : 2 + 1 = 3) rfl ?_
  refine r_bipush (v := (8 : Int32)) C dX11_wideAt_3 (rfl : 3 + 2 = 5) rfl ?_
  refine r_irem C dX11_wideAt_5 (rfl : 5 + 1 = 6) (by decide) ?_
  refine r_iconst (v := (1 : Int32)) C dX11_wideAt_6 (rfl : 6 + 1 = 7) rfl ?_
  refine r_isub C dX11_wideAt_7 (rfl : 7 + 1 = 8) ?_
  refine r_istore_n C dX11_wideAt_8 (rfl : 8 + 1 = 9) (by decide) (Nat.le_of_ble_eq_true rfl) ?_
  show k_W _ _ _ _ _ _ _ _ [some (.ref 0), some (.int v1), some (.int (1 : Int32)), some (.int ((v1 - v1 / (8 : Int32) * (8 : Int32)) - (1 : Int32)))] _
  refine k_mask [true, true, true, true] ?_
  exact sX11_wideAt_9 u C hr hR ec0_25 ea21 u v1 (1 : Int32) ((v1 - v1 / (8 : Int32) * (8 : Int32)) - (1 : Int32)) h
set_option maxHeartbeats 400000 in
set_option maxRecDepth 100000 in
theorem c_X11_wideAt (l : Launch) (u : Nat) (h : k_H) (hsh : h.1 = shM) {c0_25 : Int32} (ec0_25 : h.2.1 0 25 = c0_25) {a21 : (Nat → Int32)} (ea21 : h.2.1 21 = a21) {x0 : Int32} {out : Int32} (hf : f_X11_wideAt u c0_25 a21 x0 = some out) : k_CT l yX11_wideAt cX11_wideAt 4 (some .int) 0 0 [.ref 0, .int x0] h (some (.int out)) [] := by
  obtain ⟨sh, I, L, Rf⟩ := h
  try dsimp only
  obtain rfl : sh = shM := hsh
  refine k_ofW (by decide) (Nat.le_of_ble_eq_true rfl) ?_
  intro X ad hl hR0 hr C
  have hR : X.R.frames = 0 ∧ X.R.locals = 0 := by rw [hR0]; exact ⟨rfl, rfl⟩
  have h := hf
  unfold f_X11_wideAt at h
  refine k_start (us := []) k_ap_0 ?_
  show k_W X 4 0 0 _ ad (k_ap [] (shM, I, L, Rf)) 0 [some (.ref 0), some (.int x0), none, none] []
  refine k_mask [true, true, false, false] ?_
  exact sX11_wideAt_0 u C hr hR ec0_25 ea21 x0 h
