/-! LullabyPitModel.within(III)Z -/
theorem ds_X11_within : k_ds [] = true := by decide
def f_X11_within (u : Nat) (x0 : Int32) (x1 : Int32) (x2 : Int32) : Option (Int32) := (if x0 < x1 then some (0 : Int32) else (if x2 < x0 then some (0 : Int32) else some (1 : Int32)))
set_option maxHeartbeats 4000000 in
set_option maxRecDepth 100000 in
theorem c_X11_within (l : Launch) (u : Nat) (h : k_H) (hsh : h.1 = shM) {x0 : Int32} {x1 : Int32} {x2 : Int32} {out : Int32} (hf : f_X11_within u x0 x1 x2 = some out) : k_CT l yX11_within cX11_within 3 (some .boolean) 0 0 [.int x0, .int x1, .int x2] h (some (.int out)) [] := by
  obtain ⟨sh, I, L, Rf⟩ := h
  obtain rfl : sh = shM := hsh
  refine k_ofW (by decide) (Nat.le_of_ble_eq_true rfl) ?_
  intro X ad hl hR0 hr C
  have hR : X.R.frames = 0 ∧ X.R.locals = 0 := by rw [hR0]; exact ⟨rfl, rfl⟩
  have h := hf
  unfold f_X11_within at h
  refine k_start (us := []) k_ap_0 ?_
  show k_W X 3 0 0 _ ad (k_ap [] (shM, I, L, Rf)) 0 [some (.int x0), some (.int x1), some (.int x2)] []
  refine r_iload_n C dX11_within_0 (rfl : 0 + 1 = 1) rfl ?_
  refine r_iload_n C dX11_within_1 (rfl : 1 + 1 = 2) rfl ?_
  refine r_icmp_lt (tgt := 14) C dX11_within_2 (by decide) (rfl : 2 + 3 = 5) (fun c2 => ?_) (fun c2 => ?_)
  · have h := k_t c2 h
    refine r_iconst (v := (0 : Int32)) C dX11_within_14 (rfl : 14 + 1 = 15) rfl ?_
    cases h
    exact r_zret C hr (by decide) dX11_within_15
  · have h := k_f c2 h
    refine r_iload_n C dX11_within_5 (rfl : 5 + 1 = 6) rfl ?_
    refine r_iload_n C dX11_within_6 (rfl : 6 + 1 = 7) rfl ?_
    refine r_icmp_gt (tgt := 14) C dX11_within_7 (by decide) (rfl : 7 + 3 = 10) (fun c7 => ?_) (fun c7 => ?_)
    · have h := k_t c7 h
      refine r_iconst (v := (0 : Int32)) C dX11_within_14 (rfl : 14 + 1 = 15) rfl ?_
      cases h
      exact r_zret C hr (by decide) dX11_within_15
    · have h := k_f c7 h
      refine r_iconst (v := (1 : Int32)) C dX11_within_10 (rfl : 10 + 1 = 11) rfl ?_
      refine r_goto (tgt := 15) C dX11_within_11 (by decide) ?_
      cases h
      exact r_zret C hr (by decide) dX11_within_15
/-! LullabyPitModel.isIn(II)Z -/
theorem ds_X11_isIn : k_ds [] = true := by decide
def f_X11_isIn (u : Nat) (c0_25 : Int32) (c0_26 : Int32) (x0 : Int32) (x1 : Int32) : Option (Int32) := (if x0 < (0 : Int32) then some (0 : Int32) else (if c0_25 ≤ x0 then some (0 : Int32) else (if x1 < (0 : Int32) then some (0 : Int32) else (if c0_26 ≤ x1 then some (0 : Int32) else some (1 : Int32)))))
set_option maxHeartbeats 4000000 in
set_option maxRecDepth 100000 in
theorem c_X11_isIn (l : Launch) (u : Nat) (h : k_H) (hsh : h.1 = shM) {c0_25 : Int32} (ec0_25 : h.2.1 0 25 = c0_25) {c0_26 : Int32} (ec0_26 : h.2.1 0 26 = c0_26) {x0 : Int32} {x1 : Int32} {out : Int32} (hf : f_X11_isIn u c0_25 c0_26 x0 x1 = some out) : k_CT l yX11_isIn cX11_isIn 3 (some .boolean) 0 0 [.ref 0, .int x0, .int x1] h (some (.int out)) [] := by
  obtain ⟨sh, I, L, Rf⟩ := h
  obtain rfl : sh = shM := hsh
  refine k_ofW (by decide) (Nat.le_of_ble_eq_true rfl) ?_
  intro X ad hl hR0 hr C
  have hR : X.R.frames = 0 ∧ X.R.locals = 0 := by rw [hR0]; exact ⟨rfl, rfl⟩
  have h := hf
  unfold f_X11_isIn at h
  refine k_start (us := []) k_ap_0 ?_
  show k_W X 3 0 0 _ ad (k_ap [] (shM, I, L, Rf)) 0 [some (.ref 0), some (.int x0), some (.int x1)] []
  refine r_iload_n C dX11_isIn_0 (rfl : 0 + 1 = 1) rfl ?_
  refine r_if_lt (tgt := 28) C dX11_isIn_1 (by decide) (rfl : 1 + 3 = 4) (fun c1 => ?_) (fun c1 => ?_)
  · have h := k_t c1 h
    refine r_iconst (v := (0 : Int32)) C dX11_isIn_28 (rfl : 28 + 1 = 29) rfl ?_
    cases h
    exact r_zret C hr (by decide) dX11_isIn_29
  · have h := k_f c1 h
    refine r_iload_n C dX11_isIn_4 (rfl : 4 + 1 = 5) rfl ?_
    refine r_aload_n C dX11_isIn_5 (rfl : 5 + 1 = 6) rfl ?_
    refine r_getI (v := c0_25) C dX11_isIn_6 (rfl : 6 + 3 = 9) fl_X11_184 rfl rfl ec0_25 ?_
    refine r_icmp_ge (tgt := 28) C dX11_isIn_9 (by decide) (rfl : 9 + 3 = 12) (fun c9 => ?_) (fun c9 => ?_)
    · have h := k_t c9 h
      refine r_iconst (v := (0 : Int32)) C dX11_isIn_28 (rfl : 28 + 1 = 29) rfl ?_
      cases h
      exact r_zret C hr (by decide) dX11_isIn_29
    · have h := k_f c9 h
      refine r_iload_n C dX11_isIn_12 (rfl : 12 + 1 = 13) rfl ?_
      refine r_if_lt (tgt := 28) C dX11_isIn_13 (by decide) (rfl : 13 + 3 = 16) (fun c13 => ?_) (fun c13 => ?_)
      · have h := k_t c13 h
        refine r_iconst (v := (0 : Int32)) C dX11_isIn_28 (rfl : 28 + 1 = 29) rfl ?_
        cases h
        exact r_zret C hr (by decide) dX11_isIn_29
      · have h := k_f c13 h
        refine r_iload_n C dX11_isIn_16 (rfl : 16 + 1 = 17) rfl ?_
        refine r_aload_n C dX11_isIn_17 (rfl : 17 + 1 = 18) rfl ?_
        refine r_getI (v := c0_26) C dX11_isIn_18 (rfl : 18 + 3 = 21) fl_X11_187 rfl rfl ec0_26 ?_
        refine r_icmp_ge (tgt := 28) C dX11_isIn_21 (by decide) (rfl : 21 + 3 = 24) (fun c21 => ?_) (fun c21 => ?_)
        · have h := k_t c21 h
          refine r_iconst (v := (0 : Int32)) C dX11_isIn_28 (rfl : 28 + 1 = 29) rfl ?_
          cases h
          exact r_zret C hr (by decide) dX11_isIn_29
        · have h := k_f c21 h
          refine r_iconst (v := (1 : Int32)) C dX11_isIn_24 (rfl : 24 + 1 = 25) rfl ?_
          refine r_goto (tgt := 29) C dX11_isIn_25 (by decide) ?_
          cases h
          exact r_zret C hr (by decide) dX11_isIn_29
/-! LullabyPitModel.isOpen(II)Z -/
theorem ds_X11_isOpen : k_ds [] = true := by decide
def f_X11_isOpen (u : Nat) (c0_25 : Int32) (c0_26 : Int32) (a21 : (Nat → Int32)) (x0 : Int32) (x1 : Int32) : Option (Int32) := k_b (f_X11_isIn u c0_25 c0_26 x0 x1) (fun r3 => (if r3 = (0 : Int32) then some (0 : Int32) else k_i 77 (((8 : Int32) * x1) + x0) ((if (a21 (((((8 : Int32) * x1) + x0)).toNatClampNeg)) = (1 : Int32) then some (1 : Int32) else k_i 77 (((8 : Int32) * x1) + x0) ((if (a21 (((((8 : Int32) * x1) + x0)).toNatClampNeg)) = (2 : Int32) then some (1 : Int32) else some (0 : Int32)))))))
set_option maxHeartbeats 4000000 in
set_option maxRecDepth 100000 in
theorem c_X11_isOpen (l : Launch) (u : Nat) (h : k_H) (hsh : h.1 = shM) {c0_25 : Int32} (ec0_25 : h.2.1 0 25 = c0_25) {c0_26 : Int32} (ec0_26 : h.2.1 0 26 = c0_26) {a21 : (Nat → Int32)} (ea21 : h.2.1 21 = a21) {x0 : Int32} {x1 : Int32} {out : Int32} (hf : f_X11_isOpen u c0_25 c0_26 a21 x0 x1 = some out) : k_CT l yX11_isOpen cX11_isOpen 3 (some .boolean) 1 22 [.ref 0, .int x0, .int x1] h (some (.int out)) [] := by
  obtain ⟨sh, I, L, Rf⟩ := h
  obtain rfl : sh = shM := hsh
  refine k_ofW (by decide) (Nat.le_of_ble_eq_true rfl) ?_
  intro X ad hl hR0 hr C
  have hR : X.R.frames = 1 ∧ X.R.locals = 22 := by rw [hR0]; exact ⟨rfl, rfl⟩
  have h := hf
  unfold f_X11_isOpen at h
  refine k_start (us := []) k_ap_0 ?_
  show k_W X 3 0 0 _ ad (k_ap [] (shM, I, L, Rf)) 0 [some (.ref 0), some (.int x0), some (.int x1)] []
  refine r_aload_n C dX11_isOpen_0 (rfl : 0 + 1 = 1) rfl ?_
  refine r_iload_n C dX11_isOpen_1 (rfl : 1 + 1 = 2) rfl ?_
  refine r_iload_n C dX11_isOpen_2 (rfl : 2 + 1 = 3) rfl ?_
  obtain ⟨r3, q3, h⟩ := k_b_of h
  refine d_V (As := [.int x0, .int x1]) (st := []) (st' := [.int r3]) (h' := k_ap [] (shM, I, L, Rf)) C hR ⟨Nat.zero_le _, Nat.zero_le _⟩ mv_X11_isIn lk_X11_363 dX11_isOpen_3 (rfl : 3 + 3 = 6) rfl rfl rfl rfl (c_X11_isIn X.l u _ rfl ec0_25 ec0_26 q3) rfl rfl rfl rfl rfl ?_
  refine r_if_eq (tgt := 43) C dX11_isOpen_6 (by decide) (rfl : 6 + 3 = 9) (fun c6 => ?_) (fun c6 => ?_)
  · have h := k_t c6 h
    refine r_iconst (v := (0 : Int32)) C dX11_isOpen_43 (rfl : 43 + 1 = 44) rfl ?_
    cases h
    exact r_zret C hr (by decide) dX11_isOpen_44
  · have h := k_f c6 h
    refine r_aload_n C dX11_isOpen_9 (rfl : 9 + 1 = 10) rfl ?_
    refine r_getR (q := 21) C dX11_isOpen_10 (rfl : 10 + 3 = 13) fl_X11_77 rfl rfl ?_
    refine r_bipush (v := (8 : Int32)) C dX11_isOpen_13 (rfl : 13 + 2 = 15) rfl ?_
    refine r_iload_n C dX11_isOpen_15 (rfl : 15 + 1 = 16) rfl ?_
    refine r_imul C dX11_isOpen_16 (rfl : 16 + 1 = 17) ?_
    refine r_iload_n C dX11_isOpen_17 (rfl : 17 + 1 = 18) rfl ?_
    refine r_iadd C dX11_isOpen_18 (rfl : 18 + 1 = 19) ?_
    obtain ⟨hi19, h⟩ := k_i_of h
    refine a_i (j := ((((8 : Int32) * x1) + x0)).toNatClampNeg) (f := a21) C dX11_isOpen_19 (rfl : 19 + 1 = 20) rfl ea21 hi19 rfl ?_
    refine r_iconst (v := (1 : Int32)) C dX11_isOpen_20 (rfl : 20 + 1 = 21) rfl ?_
    refine r_icmp_eq (tgt := 39) C dX11_isOpen_21 (by decide) (rfl : 21 + 3 = 24) (fun c21 => ?_) (fun c21 => ?_)
    · have h := k_t c21 h
      refine r_iconst (v := (1 : Int32)) C dX11_isOpen_39 (rfl : 39 + 1 = 40) rfl ?_
      refine r_goto (tgt := 44) C dX11_isOpen_40 (by decide) ?_
      cases h
      exact r_zret C hr (by decide) dX11_isOpen_44
    · have h := k_f c21 h
      refine r_aload_n C dX11_isOpen_24 (rfl : 24 + 1 = 25) rfl ?_
      refine r_getR (q := 21) C dX11_isOpen_25 (rfl : 25 + 3 = 28) fl_X11_77 rfl rfl ?_
      refine r_bipush (v := (8 : Int32)) C dX11_isOpen_28 (rfl : 28 + 2 = 30) rfl ?_
      refine r_iload_n C dX11_isOpen_30 (rfl : 30 + 1 = 31) rfl ?_
      refine r_imul C dX11_isOpen_31 (rfl : 31 + 1 = 32) ?_
      refine r_iload_n C dX11_isOpen_32 (rfl : 32 + 1 = 33) rfl ?_
      refine r_iadd C dX11_isOpen_33 (rfl : 33 + 1 = 34) ?_
      obtain ⟨hi34, h⟩ := k_i_of h
      refine a_i (j := ((((8 : Int32) * x1) + x0)).toNatClampNeg) (f := a21) C dX11_isOpen_34 (rfl : 34 + 1 = 35) rfl ea21 hi34 rfl ?_
      refine r_iconst (v := (2 : Int32)) C dX11_isOpen_35 (rfl : 35 + 1 = 36) rfl ?_
      refine r_icmp_ne (tgt := 43) C dX11_isOpen_36 (by decide) (rfl : 36 + 3 = 39) (fun c36 => ?_) (fun c36 => ?_)
      · have h := k_f c36 h
        refine r_iconst (v := (0 : Int32)) C dX11_isOpen_43 (rfl : 43 + 1 = 44) rfl ?_
        cases h
        exact r_zret C hr (by decide) dX11_isOpen_44
      · have h := k_t c36 h
        refine r_iconst (v := (1 : Int32)) C dX11_isOpen_39 (rfl : 39 + 1 = 40) rfl ?_
        refine r_goto (tgt := 44) C dX11_isOpen_40 (by decide) ?_
        cases h
        exact r_zret C hr (by decide) dX11_isOpen_44
/-! LullabyPitModel.isAtHand(I)Z -/
theorem ds_X11_isAtHand : k_ds [] = true := by decide
def f_X11_isAtHand (u : Nat) (c0_25 : Int32) (c0_26 : Int32) (c0_27 : Int32) (a21 : (Nat → Int32)) (x0 : Int32) : Option (Int32) := k_b (f_X11_isOpen u c0_25 c0_26 a21 ((x0 - x0 / (8 : Int32) * (8 : Int32)) - (1 : Int32)) (x0 / (8 : Int32))) (fun r15 => (if r15 = (0 : Int32) then k_b (f_X11_isOpen u c0_25 c0_26 a21 ((x0 - x0 / (8 : Int32) * (8 : Int32)) + (1 : Int32)) (x0 / (8 : Int32))) (fun r26 => (if r26 = (0 : Int32) then k_b (f_X11_isOpen u c0_25 c0_26 a21 (x0 - x0 / (8 : Int32) * (8 : Int32)) ((x0 / (8 : Int32)) - (1 : Int32))) (fun r37 => (if r37 = (0 : Int32) then k_b (f_X11_isOpen u c0_25 c0_26 a21 (x0 - x0 / (8 : Int32) * (8 : Int32)) ((x0 / (8 : Int32)) + (1 : Int32))) (fun r48 => (if r48 = (0 : Int32) then (if (x0 / (8 : Int32)) = (0 : Int32) then (if ((c0_27 >>> ((x0 - x0 / (8 : Int32) * (8 : Int32)) &&& 31)) &&& (1 : Int32)) = (1 : Int32) then some (1 : Int32) else some (0 : Int32)) else some (0 : Int32)) else some (1 : Int32))) else some (1 : Int32))) else some (1 : Int32))) else some (1 : Int32)))
set_option maxHeartbeats 4000000 in
set_option maxRecDepth 100000 in
theorem c_X11_isAtHand (l : Launch) (u : Nat) (h : k_H) (hsh : h.1 = shM) {c0_25 : Int32} (ec0_25 : h.2.1 0 25 = c0_25) {c0_26 : Int32} (ec0_26 : h.2.1 0 26 = c0_26) {c0_27 : Int32} (ec0_27 : h.2.1 0 27 = c0_27) {a21 : (Nat → Int32)} (ea21 : h.2.1 21 = a21) {x0 : Int32} {out : Int32} (hf : f_X11_isAtHand u c0_25 c0_26 c0_27 a21 x0 = some out) : k_CT l yX11_isAtHand cX11_isAtHand 4 (some .boolean) 2 44 [.ref 0, .int x0] h (some (.int out)) [] := by
  obtain ⟨sh, I, L, Rf⟩ := h
  obtain rfl : sh = shM := hsh
  refine k_ofW (by decide) (Nat.le_of_ble_eq_true rfl) ?_
  intro X ad hl hR0 hr C
  have hR : X.R.frames = 2 ∧ X.R.locals = 44 := by rw [hR0]; exact ⟨rfl, rfl⟩
  have h := hf
  unfold f_X11_isAtHand at h
  refine k_start (us := []) k_ap_0 ?_
  show k_W X 4 0 0 _ ad (k_ap [] (shM, I, L, Rf)) 0 [some (.ref 0), some (.int x0), none, none] []
  refine r_iload_n C dX11_isAtHand_0 (rfl : 0 + 1 = 1) rfl ?_
  refine r_bipush (v := (8 : Int32)) C dX11_isAtHand_1 (rfl : 1 + 2 = 3) rfl ?_
  refine r_irem C dX11_isAtHand_3 (rfl : 3 + 1 = 4) (by decide) ?_
  refine r_istore_n C dX11_isAtHand_4 (rfl : 4 + 1 = 5) (by decide) (Nat.le_of_ble_eq_true rfl) ?_
  show k_W _ _ _ _ _ _ _ _ [some (.ref 0), some (.int x0), some (.int (x0 - x0 / (8 : Int32) * (8 : Int32))), none] _
  refine r_iload_n C dX11_isAtHand_5 (rfl : 5 + 1 = 6) rfl ?_
  refine r_bipush (v := (8 : Int32)) C dX11_isAtHand_6 (rfl : 6 + 2 = 8) rfl ?_
  refine r_idiv C dX11_isAtHand_8 (rfl : 8 + 1 = 9) (by decide) ?_
  refine r_istore_n C dX11_isAtHand_9 (rfl : 9 + 1 = 10) (by decide) (Nat.le_of_ble_eq_true rfl) ?_
  show k_W _ _ _ _ _ _ _ _ [some (.ref 0), some (.int x0), some (.int (x0 - x0 / (8 : Int32) * (8 : Int32))), some (.int (x0 / (8 : Int32)))] _
  refine r_aload_n C dX11_isAtHand_10 (rfl : 10 + 1 = 11) rfl ?_
  refine r_iload_n C dX11_isAtHand_11 (rfl : 11 + 1 = 12) rfl ?_
  refine r_iconst (v := (1 : Int32)) C dX11_isAtHand_12 (rfl : 12 + 1 = 13) rfl ?_
  refine r_isub C dX11_isAtHand_13 (rfl : 13 + 1 = 14) ?_
  refine r_iload_n C dX11_isAtHand_14 (rfl : 14 + 1 = 15) rfl ?_
  obtain ⟨r15, q15, h⟩ := k_b_of h
  refine d_V (As := [.int ((x0 - x0 / (8 : Int32) * (8 : Int32)) - (1 : Int32)), .int (x0 / (8 : Int32))]) (st := []) (st' := [.int r15]) (h' := k_ap [] (shM, I, L, Rf)) C hR ⟨Nat.zero_le _, Nat.zero_le _⟩ mv_X11_isOpen lk_X11_367 dX11_isAtHand_15 (rfl : 15 + 3 = 18) rfl rfl rfl rfl (c_X11_isOpen X.l u _ rfl ec0_25 ec0_26 ea21 q15) rfl rfl rfl rfl rfl ?_
  refine r_if_ne (tgt := 70) C dX11_isAtHand_18 (by decide) (rfl : 18 + 3 = 21) (fun c18 => ?_) (fun c18 => ?_)
  · have h := k_f c18 h
    refine r_iconst (v := (1 : Int32)) C dX11_isAtHand_70 (rfl : 70 + 1 = 71) rfl ?_
    refine r_goto (tgt := 75) C dX11_isAtHand_71 (by decide) ?_
    cases h
    exact r_zret C hr (by decide) dX11_isAtHand_75
  · have h := k_t c18 h
    refine r_aload_n C dX11_isAtHand_21 (rfl : 21 + 1 = 22) rfl ?_
    refine r_iload_n C dX11_isAtHand_22 (rfl : 22 + 1 = 23) rfl ?_
    refine r_iconst (v := (1 : Int32)) C dX11_isAtHand_23 (rfl : 23 + 1 = 24) rfl ?_
    refine r_iadd C dX11_isAtHand_24 (rfl : 24 + 1 = 25) ?_
    refine r_iload_n C dX11_isAtHand_25 (rfl : 25 + 1 = 26) rfl ?_
    obtain ⟨r26, q26, h⟩ := k_b_of h
    refine d_V (As := [.int ((x0 - x0 / (8 : Int32) * (8 : Int32)) + (1 : Int32)), .int (x0 / (8 : Int32))]) (st := []) (st' := [.int r26]) (h' := k_ap [] (shM, I, L, Rf)) C hR ⟨Nat.zero_le _, Nat.zero_le _⟩ mv_X11_isOpen lk_X11_367 dX11_isAtHand_26 (rfl : 26 + 3 = 29) rfl rfl rfl rfl (c_X11_isOpen X.l u _ rfl ec0_25 ec0_26 ea21 q26) rfl rfl rfl rfl rfl ?_
    refine r_if_ne (tgt := 70) C dX11_isAtHand_29 (by decide) (rfl : 29 + 3 = 32) (fun c29 => ?_) (fun c29 => ?_)
    · have h := k_f c29 h
      refine r_iconst (v := (1 : Int32)) C dX11_isAtHand_70 (rfl : 70 + 1 = 71) rfl ?_
      refine r_goto (tgt := 75) C dX11_isAtHand_71 (by decide) ?_
      cases h
      exact r_zret C hr (by decide) dX11_isAtHand_75
    · have h := k_t c29 h
      refine r_aload_n C dX11_isAtHand_32 (rfl : 32 + 1 = 33) rfl ?_
      refine r_iload_n C dX11_isAtHand_33 (rfl : 33 + 1 = 34) rfl ?_
      refine r_iload_n C dX11_isAtHand_34 (rfl : 34 + 1 = 35) rfl ?_
      refine r_iconst (v := (1 : Int32)) C dX11_isAtHand_35 (rfl : 35 + 1 = 36) rfl ?_
      refine r_isub C dX11_isAtHand_36 (rfl : 36 + 1 = 37) ?_
      obtain ⟨r37, q37, h⟩ := k_b_of h
      refine d_V (As := [.int (x0 - x0 / (8 : Int32) * (8 : Int32)), .int ((x0 / (8 : Int32)) - (1 : Int32))]) (st := []) (st' := [.int r37]) (h' := k_ap [] (shM, I, L, Rf)) C hR ⟨Nat.zero_le _, Nat.zero_le _⟩ mv_X11_isOpen lk_X11_367 dX11_isAtHand_37 (rfl : 37 + 3 = 40) rfl rfl rfl rfl (c_X11_isOpen X.l u _ rfl ec0_25 ec0_26 ea21 q37) rfl rfl rfl rfl rfl ?_
      refine r_if_ne (tgt := 70) C dX11_isAtHand_40 (by decide) (rfl : 40 + 3 = 43) (fun c40 => ?_) (fun c40 => ?_)
      · have h := k_f c40 h
        refine r_iconst (v := (1 : Int32)) C dX11_isAtHand_70 (rfl : 70 + 1 = 71) rfl ?_
        refine r_goto (tgt := 75) C dX11_isAtHand_71 (by decide) ?_
        cases h
        exact r_zret C hr (by decide) dX11_isAtHand_75
      · have h := k_t c40 h
        refine r_aload_n C dX11_isAtHand_43 (rfl : 43 + 1 = 44) rfl ?_
        refine r_iload_n C dX11_isAtHand_44 (rfl : 44 + 1 = 45) rfl ?_
        refine r_iload_n C dX11_isAtHand_45 (rfl : 45 + 1 = 46) rfl ?_
        refine r_iconst (v := (1 : Int32)) C dX11_isAtHand_46 (rfl : 46 + 1 = 47) rfl ?_
        refine r_iadd C dX11_isAtHand_47 (rfl : 47 + 1 = 48) ?_
        obtain ⟨r48, q48, h⟩ := k_b_of h
        refine d_V (As := [.int (x0 - x0 / (8 : Int32) * (8 : Int32)), .int ((x0 / (8 : Int32)) + (1 : Int32))]) (st := []) (st' := [.int r48]) (h' := k_ap [] (shM, I, L, Rf)) C hR ⟨Nat.zero_le _, Nat.zero_le _⟩ mv_X11_isOpen lk_X11_367 dX11_isAtHand_48 (rfl : 48 + 3 = 51) rfl rfl rfl rfl (c_X11_isOpen X.l u _ rfl ec0_25 ec0_26 ea21 q48) rfl rfl rfl rfl rfl ?_
        refine r_if_ne (tgt := 70) C dX11_isAtHand_51 (by decide) (rfl : 51 + 3 = 54) (fun c51 => ?_) (fun c51 => ?_)
        · have h := k_f c51 h
          refine r_iconst (v := (1 : Int32)) C dX11_isAtHand_70 (rfl : 70 + 1 = 71) rfl ?_
          refine r_goto (tgt := 75) C dX11_isAtHand_71 (by decide) ?_
          cases h
          exact r_zret C hr (by decide) dX11_isAtHand_75
        · have h := k_t c51 h
          refine r_iload_n C dX11_isAtHand_54 (rfl : 54 + 1 = 55) rfl ?_
          refine r_if_ne (tgt := 74) C dX11_isAtHand_55 (by decide) (rfl : 55 + 3 = 58) (fun c55 => ?_) (fun c55 => ?_)
          · have h := k_f c55 h
            refine r_iconst (v := (0 : Int32)) C dX11_isAtHand_74 (rfl : 74 + 1 = 75) rfl ?_
            cases h
            exact r_zret C hr (by decide) dX11_isAtHand_75
          · have h := k_t c55 h
            refine r_aload_n C dX11_isAtHand_58 (rfl : 58 + 1 = 59) rfl ?_
            refine r_getI (v := c0_27) C dX11_isAtHand_59 (rfl : 59 + 3 = 62) fl_X11_190 rfl rfl ec0_27 ?_
            refine r_iload_n C dX11_isAtHand_62 (rfl : 62 + 1 = 63) rfl ?_
            refine r_ishr C dX11_isAtHand_63 (rfl : 63 + 1 = 64) ?_
            refine r_iconst (v := (1 : Int32)) C dX11_isAtHand_64 (rfl : 64 + 1 = 65) rfl ?_
            refine r_iand C dX11_isAtHand_65 (rfl : 65 + 1 = 66) ?_
            refine r_iconst (v := (1 : Int32)) C dX11_isAtHand_66 (rfl : 66 + 1 = 67) rfl ?_
            refine r_icmp_ne (tgt := 74) C dX11_isAtHand_67 (by decide) (rfl : 67 + 3 = 70) (fun c67 => ?_) (fun c67 => ?_)
            · have h := k_f c67 h
              refine r_iconst (v := (0 : Int32)) C dX11_isAtHand_74 (rfl : 74 + 1 = 75) rfl ?_
              cases h
              exact r_zret C hr (by decide) dX11_isAtHand_75
            · have h := k_t c67 h
              refine r_iconst (v := (1 : Int32)) C dX11_isAtHand_70 (rfl : 70 + 1 = 71) rfl ?_
              refine r_goto (tgt := 75) C dX11_isAtHand_71 (by decide) ?_
              cases h
              exact r_zret C hr (by decide) dX11_isAtHand_75
/-! LullabyPitModel.wideAt(I)I -/
theorem ds_X11_wideAt : k_ds [] = true := by decide
def bX11_wideAt_46 (u : Nat) (c0_25 : Int32) (a21 : (Nat → Int32)) : Nat → Int32 → Int32 → Int32 → Option (Int32)
  | 0, _, _, _ => none
  | n + 1, v1, v2, v3 => (if c0_25 ≤ v3 then some v2 else k_i 77 ((v1 - (v1 - v1 / (8 : Int32) * (8 : Int32))) + v3) ((if (a21 ((((v1 - (v1 - v1 / (8 : Int32) * (8 : Int32))) + v3)).toNatClampNeg)) = (1 : Int32) then (bX11_wideAt_46 u c0_25 a21 n v1 (v2 + (1 : Int32)) (v3 + (1 : Int32))) else some v2)))
set_option maxHeartbeats 4000000 in
set_option maxRecDepth 100000 in
theorem sX11_wideAt_46 (u : Nat) {X : k_X} {ad : Nat → Nat} (C : k_C X cX11_wideAt RX11 4 ad) (hr : X.meth.sig.returnType = (some .int)) (hR : X.R.frames = 0 ∧ X.R.locals = 0) {I : Nat → Nat → Int32} {L : Nat → Nat → Int64} {Rf : Nat → Nat → Option Nat} {c0_25 : Int32} (ec0_25 : I 0 25 = c0_25) {a21 : (Nat → Int32)} (ea21 : I 21 = a21) {out : Int32} : ∀ (n : Nat) (v1 : Int32) (v2 : Int32) (v3 : Int32), bX11_wideAt_46 u c0_25 a21 n v1 v2 v3 = some out → k_W X 4 0 0 (k_Q X ad (some (.int out)) (k_ap [] (shM, I, L, Rf))) ad (k_ap [] (shM, I, L, Rf)) 46 [some (.ref 0), some (.int v1), some (.int v2), some (.int v3)] [] := by
  intro n
  induction n with
  | zero => intro v1 v2 v3 h; cases h
  | succ n ih =>
    intro v1 v2 v3 h
    refine r_iload_n C dX11_wideAt_46 (rfl : 46 + 1 = 47) rfl ?_
    refine r_aload_n C dX11_wideAt_47 (rfl : 47 + 1 = 48) rfl ?_
    refine r_getI (v := c0_25) C dX11_wideAt_48 (rfl : 48 + 3 = 51) fl_X11_184 rfl rfl ec0_25 ?_
    refine r_icmp_ge (tgt := 80) C dX11_wideAt_51 (by decide) (rfl : 51 + 3 = 54) (fun c51 => ?_) (fun c51 => ?_)
    · have h := k_t c51 h
      refine r_iload_n C dX11_wideAt_80 (rfl : 80 + 1 = 81) rfl ?_
      cases h
      exact r_iret C hr dX11_wideAt_81
    · have h := k_f c51 h
      refine r_aload_n C dX11_wideAt_54 (rfl : 54 + 1 = 55) rfl ?_
      refine r_getR (q := 21) C dX11_wideAt_55 (rfl : 55 + 3 = 58) fl_X11_77 rfl rfl ?_
      refine r_iload_n C dX11_wideAt_58 (rfl : 58 + 1 = 59) rfl ?_
      refine r_iload_n C dX11_wideAt_59 (rfl : 59 + 1 = 60) rfl ?_
      refine r_bipush (v := (8 : Int32)) C dX11_wideAt_60 (rfl : 60 + 2 = 62) rfl ?_
      refine r_irem C dX11_wideAt_62 (rfl : 62 + 1 = 63) (by decide) ?_
      refine r_isub C dX11_wideAt_63 (rfl : 63 + 1 = 64) ?_
      refine r_iload_n C dX11_wideAt_64 (rfl : 64 + 1 = 65) rfl ?_
      refine r_iadd C dX11_wideAt_65 (rfl : 65 + 1 = 66) ?_
      obtain ⟨hi66, h⟩ := k_i_of h
      refine a_i (j := (((v1 - (v1 - v1 / (8 : Int32) * (8 : Int32))) + v3)).toNatClampNeg) (f := a21) C dX11_wideAt_66 (rfl : 66 + 1 = 67) rfl ea21 hi66 rfl ?_
      refine r_iconst (v := (1 : Int32)) C dX11_wideAt_67 (rfl : 67 + 1 = 68) rfl ?_
      refine r_icmp_ne (tgt := 80) C dX11_wideAt_68 (by decide) (rfl : 68 + 3 = 71) (fun c68 => ?_) (fun c68 => ?_)
      · have h := k_f c68 h
        refine r_iload_n C dX11_wideAt_80 (rfl : 80 + 1 = 81) rfl ?_
        cases h
        exact r_iret C hr dX11_wideAt_81
      · have h := k_t c68 h
        refine r_iinc (v := (v2 + (1 : Int32))) C dX11_wideAt_71 (rfl : 71 + 3 = 74) rfl rfl (by decide) ?_
        show k_W _ _ _ _ _ _ _ _ [some (.ref 0), some (.int v1), some (.int (v2 + (1 : Int32))), some (.int v3)] _
        refine r_iinc (v := (v3 + (1 : Int32))) C dX11_wideAt_74 (rfl : 74 + 3 = 77) rfl rfl (by decide) ?_
        show k_W _ _ _ _ _ _ _ _ [some (.ref 0), some (.int v1), some (.int (v2 + (1 : Int32))), some (.int (v3 + (1 : Int32)))] _
        refine r_goto (tgt := 46) C dX11_wideAt_77 (by decide) ?_
        refine k_mask [true, true, true, true] ?_
        exact ih v1 (v2 + (1 : Int32)) (v3 + (1 : Int32)) h
def bX11_wideAt_39 (u : Nat) (c0_25 : Int32) (a21 : (Nat → Int32)) (v1 : Int32) (v2 : Int32) : Option (Int32) := (bX11_wideAt_46 u c0_25 a21 u v1 v2 ((v1 - v1 / (8 : Int32) * (8 : Int32)) + (1 : Int32)))
set_option maxHeartbeats 4000000 in
set_option maxRecDepth 100000 in
theorem sX11_wideAt_39 (u : Nat) {X : k_X} {ad : Nat → Nat} (C : k_C X cX11_wideAt RX11 4 ad) (hr : X.meth.sig.returnType = (some .int)) (hR : X.R.frames = 0 ∧ X.R.locals = 0) {I : Nat → Nat → Int32} {L : Nat → Nat → Int64} {Rf : Nat → Nat → Option Nat} {c0_25 : Int32} (ec0_25 : I 0 25 = c0_25) {a21 : (Nat → Int32)} (ea21 : I 21 = a21) {out : Int32} : ∀ (v1 : Int32) (v2 : Int32), bX11_wideAt_39 u c0_25 a21 v1 v2 = some out → k_W X 4 0 0 (k_Q X ad (some (.int out)) (k_ap [] (shM, I, L, Rf))) ad (k_ap [] (shM, I, L, Rf)) 39 [some (.ref 0), some (.int v1), some (.int v2), none] [] := by
  intro v1 v2 h
  unfold bX11_wideAt_39 at h
  refine r_iload_n C dX11_wideAt_39 (rfl : 39 + 1 = 40) rfl ?_
  refine r_bipush (v := (8 : Int32)) C dX11_wideAt_40 (rfl : 40 + 2 = 42) rfl ?_
  refine r_irem C dX11_wideAt_42 (rfl : 42 + 1 = 43) (by decide) ?_
  refine r_iconst (v := (1 : Int32)) C dX11_wideAt_43 (rfl : 43 + 1 = 44) rfl ?_
  refine r_iadd C dX11_wideAt_44 (rfl : 44 + 1 = 45) ?_
  refine r_istore_n C dX11_wideAt_45 (rfl : 45 + 1 = 46) (by decide) (Nat.le_of_ble_eq_true rfl) ?_
  show k_W _ _ _ _ _ _ _ _ [some (.ref 0), some (.int v1), some (.int v2), some (.int ((v1 - v1 / (8 : Int32) * (8 : Int32)) + (1 : Int32)))] _
  refine k_mask [true, true, true, true] ?_
  exact sX11_wideAt_46 u C hr hR ec0_25 ea21 u v1 v2 ((v1 - v1 / (8 : Int32) * (8 : Int32)) + (1 : Int32)) h
def bX11_wideAt_9 (u : Nat) (c0_25 : Int32) (a21 : (Nat → Int32)) : Nat → Int32 → Int32 → Int32 → Option (Int32)
  | 0, _, _, _ => none
  | n + 1, v1, v2, v3 => (if v3 < (0 : Int32) then (bX11_wideAt_39 u c0_25 a21 v1 v2) else k_i 77 ((v1 - (v1 - v1 / (8 : Int32) * (8 : Int32))) + v3) ((if (a21 ((((v1 - (v1 - v1 / (8 : Int32) * (8 : Int32))) + v3)).toNatClampNeg)) = (1 : Int32) then (bX11_wideAt_9 u c0_25 a21 n v1 (v2 + (1 : Int32)) (v3 + (-1 : Int32))) else (bX11_wideAt_39 u c0_25 a21 v1 v2))))
set_option maxHeartbeats 4000000 in
set_option maxRecDepth 100000 in
theorem sX11_wideAt_9 (u : Nat) {X : k_X} {ad : Nat → Nat} (C : k_C X cX11_wideAt RX11 4 ad) (hr : X.meth.sig.returnType = (some .int)) (hR : X.R.frames = 0 ∧ X.R.locals = 0) {I : Nat → Nat → Int32} {L : Nat → Nat → Int64} {Rf : Nat → Nat → Option Nat} {c0_25 : Int32} (ec0_25 : I 0 25 = c0_25) {a21 : (Nat → Int32)} (ea21 : I 21 = a21) {out : Int32} : ∀ (n : Nat) (v1 : Int32) (v2 : Int32) (v3 : Int32), bX11_wideAt_9 u c0_25 a21 n v1 v2 v3 = some out → k_W X 4 0 0 (k_Q X ad (some (.int out)) (k_ap [] (shM, I, L, Rf))) ad (k_ap [] (shM, I, L, Rf)) 9 [some (.ref 0), some (.int v1), some (.int v2), some (.int v3)] [] := by
  intro n
  induction n with
  | zero => intro v1 v2 v3 h; cases h
  | succ n ih =>
    intro v1 v2 v3 h
    refine r_iload_n C dX11_wideAt_9 (rfl : 9 + 1 = 10) rfl ?_
    refine r_if_lt (tgt := 39) C dX11_wideAt_10 (by decide) (rfl : 10 + 3 = 13) (fun c10 => ?_) (fun c10 => ?_)
    · have h := k_t c10 h
      refine k_mask [true, true, true, false] ?_
      exact sX11_wideAt_39 u C hr hR ec0_25 ea21 v1 v2 h
    · have h := k_f c10 h
      refine r_aload_n C dX11_wideAt_13 (rfl : 13 + 1 = 14) rfl ?_
      refine r_getR (q := 21) C dX11_wideAt_14 (rfl : 14 + 3 = 17) fl_X11_77 rfl rfl ?_
      refine r_iload_n C dX11_wideAt_17 (rfl : 17 + 1 = 18) rfl ?_
      refine r_iload_n C dX11_wideAt_18 (rfl : 18 + 1 = 19) rfl ?_
      refine r_bipush (v := (8 : Int32)) C dX11_wideAt_19 (rfl : 19 + 2 = 21) rfl ?_
      refine r_irem C dX11_wideAt_21 (rfl : 21 + 1 = 22) (by decide) ?_
      refine r_isub C dX11_wideAt_22 (rfl : 22 + 1 = 23) ?_
      refine r_iload_n C dX11_wideAt_23 (rfl : 23 + 1 = 24) rfl ?_
      refine r_iadd C dX11_wideAt_24 (rfl : 24 + 1 = 25) ?_
      obtain ⟨hi25, h⟩ := k_i_of h
      refine a_i (j := (((v1 - (v1 - v1 / (8 : Int32) * (8 : Int32))) + v3)).toNatClampNeg) (f := a21) C dX11_wideAt_25 (rfl : 25 + 1 = 26) rfl ea21 hi25 rfl ?_
      refine r_iconst (v := (1 : Int32)) C dX11_wideAt_26 (rfl : 26 + 1 = 27) rfl ?_
      refine r_icmp_ne (tgt := 39) C dX11_wideAt_27 (by decide) (rfl : 27 + 3 = 30) (fun c27 => ?_) (fun c27 => ?_)
      · have h := k_f c27 h
        refine k_mask [true, true, true, false] ?_
        exact sX11_wideAt_39 u C hr hR ec0_25 ea21 v1 v2 h
      · have h := k_t c27 h
        refine r_iinc (v := (v2 + (1 : Int32))) C dX11_wideAt_30 (rfl : 30 + 3 = 33) rfl rfl (by decide) ?_
        show k_W _ _ _ _ _ _ _ _ [some (.ref 0), some (.int v1), some (.int (v2 + (1 : Int32))), some (.int v3)] _
        refine r_iinc (v := (v3 + (-1 : Int32))) C dX11_wideAt_33 (rfl : 33 + 3 = 36) rfl rfl (by decide) ?_
        show k_W _ _ _ _ _ _ _ _ [some (.ref 0), some (.int v1), some (.int (v2 + (1 : Int32))), some (.int (v3 + (-1 : Int32)))] _
        refine r_goto (tgt := 9) C dX11_wideAt_36 (by decide) ?_
        refine k_mask [true, true, true, true] ?_
        exact ih v1 (v2 + (1 : Int32)) (v3 + (-1 : Int32)) h
def f_X11_wideAt (u : Nat) (c0_25 : Int32) (a21 : (Nat → Int32)) (x0 : Int32) : Option (Int32) := (bX11_wideAt_9 u c0_25 a21 u x0 (1 : Int32) ((x0 - x0 / (8 : Int32) * (8 : Int32)) - (1 : Int32)))
set_option maxHeartbeats 4000000 in
set_option maxRecDepth 100000 in
theorem c_X11_wideAt (l : Launch) (u : Nat) (h : k_H) (hsh : h.1 = shM) {c0_25 : Int32} (ec0_25 : h.2.1 0 25 = c0_25) {a21 : (Nat → Int32)} (ea21 : h.2.1 21 = a21) {x0 : Int32} {out : Int32} (hf : f_X11_wideAt u c0_25 a21 x0 = some out) : k_CT l yX11_wideAt cX11_wideAt 4 (some .int) 0 0 [.ref 0, .int x0] h (some (.int out)) [] := by
  obtain ⟨sh, I, L, Rf⟩ := h
  obtain rfl : sh = shM := hsh
  refine k_ofW (by decide) (Nat.le_of_ble_eq_true rfl) ?_
  intro X ad hl hR0 hr C
  have hR : X.R.frames = 0 ∧ X.R.locals = 0 := by rw [hR0]; exact ⟨rfl, rfl⟩
  have h := hf
  unfold f_X11_wideAt at h
  refine k_start (us := []) k_ap_0 ?_
  show k_W X 4 0 0 _ ad (k_ap [] (shM, I, L, Rf)) 0 [some (.ref 0), some (.int x0), none, none] []
  refine r_iconst (v := (1 : Int32)) C dX11_wideAt_0 (rfl : 0 + 1 = 1) rfl ?_
  refine r_istore_n C dX11_wideAt_1 (rfl : 1 + 1 = 2) (by decide) (Nat.le_of_ble_eq_true rfl) ?_
  show k_W _ _ _ _ _ _ _ _ [some (.ref 0), some (.int x0), some (.int (1 : Int32)), none] _
  refine r_iload_n C dX11_wideAt_2 (rfl : 2 + 1 = 3) rfl ?_
  refine r_bipush (v := (8 : Int32)) C dX11_wideAt_3 (rfl : 3 + 2 = 5) rfl ?_
  refine r_irem C dX11_wideAt_5 (rfl : 5 + 1 = 6) (by decide) ?_
  refine r_iconst (v := (1 : Int32)) C dX11_wideAt_6 (rfl : 6 + 1 = 7) rfl ?_
  refine r_isub C dX11_wideAt_7 (rfl : 7 + 1 = 8) ?_
  refine r_istore_n C dX11_wideAt_8 (rfl : 8 + 1 = 9) (by decide) (Nat.le_of_ble_eq_true rfl) ?_
  show k_W _ _ _ _ _ _ _ _ [some (.ref 0), some (.int x0), some (.int (1 : Int32)), some (.int ((x0 - x0 / (8 : Int32) * (8 : Int32)) - (1 : Int32)))] _
  refine k_mask [true, true, true, true] ?_
  exact sX11_wideAt_9 u C hr hR ec0_25 ea21 u x0 (1 : Int32) ((x0 - x0 / (8 : Int32) * (8 : Int32)) - (1 : Int32)) h
/-! LullabyPitModel.propped(II)I -/
theorem ds_X11_propped : k_ds [] = true := by decide
def f_X11_propped (u : Nat) (c0_25 : Int32) (c0_26 : Int32) (a21 : (Nat → Int32)) (x0 : Int32) (x1 : Int32) : Option (Int32) := k_b (f_X11_isIn u c0_25 c0_26 x0 x1) (fun r3 => (if r3 = (0 : Int32) then some (0 : Int32) else k_i 77 (((8 : Int32) * x1) + x0) ((if (a21 (((((8 : Int32) * x1) + x0)).toNatClampNeg)) = (2 : Int32) then some (1 : Int32) else some (0 : Int32)))))
set_option maxHeartbeats 4000000 in
set_option maxRecDepth 100000 in
theorem c_X11_propped (l : Launch) (u : Nat) (h : k_H) (hsh : h.1 = shM) {c0_25 : Int32} (ec0_25 : h.2.1 0 25 = c0_25) {c0_26 : Int32} (ec0_26 : h.2.1 0 26 = c0_26) {a21 : (Nat → Int32)} (ea21 : h.2.1 21 = a21) {x0 : Int32} {x1 : Int32} {out : Int32} (hf : f_X11_propped u c0_25 c0_26 a21 x0 x1 = some out) : k_CT l yX11_propped cX11_propped 3 (some .int) 1 22 [.ref 0, .int x0, .int x1] h (some (.int out)) [] := by
  obtain ⟨sh, I, L, Rf⟩ := h
  obtain rfl : sh = shM := hsh
  refine k_ofW (by decide) (Nat.le_of_ble_eq_true rfl) ?_
  intro X ad hl hR0 hr C
  have hR : X.R.frames = 1 ∧ X.R.locals = 22 := by rw [hR0]; exact ⟨rfl, rfl⟩
  have h := hf
  unfold f_X11_propped at h
  refine k_start (us := []) k_ap_0 ?_
  show k_W X 3 0 0 _ ad (k_ap [] (shM, I, L, Rf)) 0 [some (.ref 0), some (.int x0), some (.int x1)] []
  refine r_aload_n C dX11_propped_0 (rfl : 0 + 1 = 1) rfl ?_
  refine r_iload_n C dX11_propped_1 (rfl : 1 + 1 = 2) rfl ?_
  refine r_iload_n C dX11_propped_2 (rfl : 2 + 1 = 3) rfl ?_
  obtain ⟨r3, q3, h⟩ := k_b_of h
  refine d_V (As := [.int x0, .int x1]) (st := []) (st' := [.int r3]) (h' := k_ap [] (shM, I, L, Rf)) C hR ⟨Nat.zero_le _, Nat.zero_le _⟩ mv_X11_isIn lk_X11_363 dX11_propped_3 (rfl : 3 + 3 = 6) rfl rfl rfl rfl (c_X11_isIn X.l u _ rfl ec0_25 ec0_26 q3) rfl rfl rfl rfl rfl ?_
  refine r_if_eq (tgt := 28) C dX11_propped_6 (by decide) (rfl : 6 + 3 = 9) (fun c6 => ?_) (fun c6 => ?_)
  · have h := k_t c6 h
    refine r_iconst (v := (0 : Int32)) C dX11_propped_28 (rfl : 28 + 1 = 29) rfl ?_
    cases h
    exact r_iret C hr dX11_propped_29
  · have h := k_f c6 h
    refine r_aload_n C dX11_propped_9 (rfl : 9 + 1 = 10) rfl ?_
    refine r_getR (q := 21) C dX11_propped_10 (rfl : 10 + 3 = 13) fl_X11_77 rfl rfl ?_
    refine r_bipush (v := (8 : Int32)) C dX11_propped_13 (rfl : 13 + 2 = 15) rfl ?_
    refine r_iload_n C dX11_propped_15 (rfl : 15 + 1 = 16) rfl ?_
    refine r_imul C dX11_propped_16 (rfl : 16 + 1 = 17) ?_
    refine r_iload_n C dX11_propped_17 (rfl : 17 + 1 = 18) rfl ?_
    refine r_iadd C dX11_propped_18 (rfl : 18 + 1 = 19) ?_
    obtain ⟨hi19, h⟩ := k_i_of h
    refine a_i (j := ((((8 : Int32) * x1) + x0)).toNatClampNeg) (f := a21) C dX11_propped_19 (rfl : 19 + 1 = 20) rfl ea21 hi19 rfl ?_
    refine r_iconst (v := (2 : Int32)) C dX11_propped_20 (rfl : 20 + 1 = 21) rfl ?_
    refine r_icmp_ne (tgt := 28) C dX11_propped_21 (by decide) (rfl : 21 + 3 = 24) (fun c21 => ?_) (fun c21 => ?_)
    · have h := k_f c21 h
      refine r_iconst (v := (0 : Int32)) C dX11_propped_28 (rfl : 28 + 1 = 29) rfl ?_
      cases h
      exact r_iret C hr dX11_propped_29
    · have h := k_t c21 h
      refine r_iconst (v := (1 : Int32)) C dX11_propped_24 (rfl : 24 + 1 = 25) rfl ?_
      refine r_goto (tgt := 29) C dX11_propped_25 (by decide) ?_
      cases h
      exact r_iret C hr dX11_propped_29
/-! LullabyPitModel.findFacts(II)V -/
theorem ds_X11_findFacts : k_ds [(17, 2, 0)] = true := by decide
def bX11_findFacts_72 (u : Nat) (c0_25 : Int32) (c0_26 : Int32) (a7 : (Nat → Int32)) (a8 : (Nat → Int32)) (a21 : (Nat → Int32)) (a17 : (Nat → Int32)) (v1 : Int32) (v3 : Int32) (v4 : Int32) (w0 : Int32) (w1 : Int32) : Option ((Nat → Int32)) := k_i 8 w1 (k_b (f_X11_propped u c0_25 c0_26 a21 (v3 - (1 : Int32)) v4) (fun r84 => k_b (f_X11_propped u c0_25 c0_26 a21 (v3 + (1 : Int32)) v4) (fun r93 => k_i 48 v1 (k_i 48 v1 (some (upd (upd (upd (upd (upd a17 ((w1).toNatClampNeg) w0) 4 (r84 + r93)) 5 (a8 ((v1).toNatClampNeg))) 6 (a7 ((v1).toNatClampNeg))) 7 (a21 69)))))))
set_option maxHeartbeats 4000000 in
set_option maxRecDepth 100000 in
theorem sX11_findFacts_72 (u : Nat) {X : k_X} {ad : Nat → Nat} (C : k_C X cX11_findFacts RX11 5 ad) (hr : X.meth.sig.returnType = none) (hR : X.R.frames = 2 ∧ X.R.locals = 44) {I : Nat → Nat → Int32} {L : Nat → Nat → Int64} {Rf : Nat → Nat → Option Nat} {c0_25 : Int32} (ec0_25 : I 0 25 = c0_25) {c0_26 : Int32} (ec0_26 : I 0 26 = c0_26) {a7 : (Nat → Int32)} (ea7 : I 7 = a7) {a8 : (Nat → Int32)} (ea8 : I 8 = a8) {a21 : (Nat → Int32)} (ea21 : I 21 = a21) {out : (Nat → Int32)} : ∀ (a17 : (Nat → Int32)) (v1 : Int32) (v3 : Int32) (v4 : Int32) (w0 : Int32) (w1 : Int32), bX11_findFacts_72 u c0_25 c0_26 a7 a8 a21 a17 v1 v3 v4 w0 w1 = some out → k_W X 5 0 0 (k_Q X ad none (k_ap [(17, .inr (.inr (.inl out)))] (shM, I, L, Rf))) ad (k_ap [(17, .inr (.inr (.inl a17)))] (shM, I, L, Rf)) 72 [some (.ref 0), some (.int v1), none, some (.int v3), some (.int v4)] [.int w0, .int w1, .ref 17] := by
  intro a17 v1 v3 v4 w0 w1 h
  unfold bX11_findFacts_72 at h
  obtain ⟨hi72, h⟩ := k_i_of h
  refine s_i (j := (w1).toNatClampNeg) (f := a17) (us' := [(17, .inr (.inr (.inl (upd a17 ((w1).toNatClampNeg) w0))))]) C dX11_findFacts_72 (rfl : 72 + 1 = 73) rfl rfl hi72 rfl ds_X11_findFacts rfl rfl rfl ?_
  refine r_aload_n C dX11_findFacts_73 (rfl : 73 + 1 = 74) rfl ?_
  refine r_getR (q := 17) C dX11_findFacts_74 (rfl : 74 + 3 = 77) fl_X11_65 rfl rfl ?_
  refine r_iconst (v := (4 : Int32)) C dX11_findFacts_77 (rfl : 77 + 1 = 78) rfl ?_
  refine r_aload_n C dX11_findFacts_78 (rfl : 78 + 1 = 79) rfl ?_
  refine r_iload_n C dX11_findFacts_79 (rfl : 79 + 1 = 80) rfl ?_
  refine r_iconst (v := (1 : Int32)) C dX11_findFacts_80 (rfl : 80 + 1 = 81) rfl ?_
  refine r_isub C dX11_findFacts_81 (rfl : 81 + 1 = 82) ?_
  refine r_iload C dX11_findFacts_82 (rfl : 82 + 2 = 84) rfl ?_
  obtain ⟨r84, q84, h⟩ := k_b_of h
  refine d_V (As := [.int (v3 - (1 : Int32)), .int v4]) (st := [.int (4 : Int32), .ref 17]) (st' := [.int r84, .int (4 : Int32), .ref 17]) (h' := k_ap [(17, .inr (.inr (.inl (upd a17 ((w1).toNatClampNeg) w0))))] (shM, I, L, Rf)) C hR ⟨Nat.zero_le _, Nat.zero_le _⟩ mv_X11_propped lk_X11_370 dX11_findFacts_84 (rfl : 84 + 3 = 87) rfl rfl rfl rfl (c_X11_propped X.l u _ rfl ec0_25 ec0_26 ea21 q84) rfl rfl rfl rfl rfl ?_
  refine r_aload_n C dX11_findFacts_87 (rfl : 87 + 1 = 88) rfl ?_
  refine r_iload_n C dX11_findFacts_88 (rfl : 88 + 1 = 89) rfl ?_
  refine r_iconst (v := (1 : Int32)) C dX11_findFacts_89 (rfl : 89 + 1 = 90) rfl ?_
  refine r_iadd C dX11_findFacts_90 (rfl : 90 + 1 = 91) ?_
  refine r_iload C dX11_findFacts_91 (rfl : 91 + 2 = 93) rfl ?_
  obtain ⟨r93, q93, h⟩ := k_b_of h
  refine d_V (As := [.int (v3 + (1 : Int32)), .int v4]) (st := [.int r84, .int (4 : Int32), .ref 17]) (st' := [.int r93, .int r84, .int (4 : Int32), .ref 17]) (h' := k_ap [(17, .inr (.inr (.inl (upd a17 ((w1).toNatClampNeg) w0))))] (shM, I, L, Rf)) C hR ⟨Nat.zero_le _, Nat.zero_le _⟩ mv_X11_propped lk_X11_370 dX11_findFacts_93 (rfl : 93 + 3 = 96) rfl rfl rfl rfl (c_X11_propped X.l u _ rfl ec0_25 ec0_26 ea21 q93) rfl rfl rfl rfl rfl ?_
  refine r_iadd C dX11_findFacts_96 (rfl : 96 + 1 = 97) ?_
  refine s_i (j := 4) (f := (upd a17 ((w1).toNatClampNeg) w0)) (us' := [(17, .inr (.inr (.inl (upd (upd a17 ((w1).toNatClampNeg) w0) 4 (r84 + r93)))))]) C dX11_findFacts_97 (rfl : 97 + 1 = 98) rfl rfl (show ¬ ((4 : Int32) < 0 ∨ 8 ≤ ((4 : Int32)).toNatClampNeg) by decide) rfl ds_X11_findFacts rfl rfl rfl ?_
  refine r_aload_n C dX11_findFacts_98 (rfl : 98 + 1 = 99) rfl ?_
  refine r_getR (q := 17) C dX11_findFacts_99 (rfl : 99 + 3 = 102) fl_X11_65 rfl rfl ?_
  refine r_iconst (v := (5 : Int32)) C dX11_findFacts_102 (rfl : 102 + 1 = 103) rfl ?_
  refine r_aload_n C dX11_findFacts_103 (rfl : 103 + 1 = 104) rfl ?_
  refine r_getR (q := 8) C dX11_findFacts_104 (rfl : 104 + 3 = 107) fl_X11_38 rfl rfl ?_
  refine r_iload_n C dX11_findFacts_107 (rfl : 107 + 1 = 108) rfl ?_
  obtain ⟨hi108, h⟩ := k_i_of h
  refine a_i (j := (v1).toNatClampNeg) (f := a8) C dX11_findFacts_108 (rfl : 108 + 1 = 109) rfl ea8 hi108 rfl ?_
  refine s_i (j := 5) (f := (upd (upd a17 ((w1).toNatClampNeg) w0) 4 (r84 + r93))) (us' := [(17, .inr (.inr (.inl (upd (upd (upd a17 ((w1).toNatClampNeg) w0) 4 (r84 + r93)) 5 (a8 ((v1).toNatClampNeg))))))]) C dX11_findFacts_109 (rfl : 109 + 1 = 110) rfl rfl (show ¬ ((5 : Int32) < 0 ∨ 8 ≤ ((5 : Int32)).toNatClampNeg) by decide) rfl ds_X11_findFacts rfl rfl rfl ?_
  refine r_aload_n C dX11_findFacts_110 (rfl : 110 + 1 = 111) rfl ?_
  refine r_getR (q := 17) C dX11_findFacts_111 (rfl : 111 + 3 = 114) fl_X11_65 rfl rfl ?_
  refine r_bipush (v := (6 : Int32)) C dX11_findFacts_114 (rfl : 114 + 2 = 116) rfl ?_
  refine r_aload_n C dX11_findFacts_116 (rfl : 116 + 1 = 117) rfl ?_
  refine r_getR (q := 7) C dX11_findFacts_117 (rfl : 117 + 3 = 120) fl_X11_35 rfl rfl ?_
  refine r_iload_n C dX11_findFacts_120 (rfl : 120 + 1 = 121) rfl ?_
  obtain ⟨hi121, h⟩ := k_i_of h
  refine a_i (j := (v1).toNatClampNeg) (f := a7) C dX11_findFacts_121 (rfl : 121 + 1 = 122) rfl ea7 hi121 rfl ?_
  refine s_i (j := 6) (f := (upd (upd (upd a17 ((w1).toNatClampNeg) w0) 4 (r84 + r93)) 5 (a8 ((v1).toNatClampNeg)))) (us' := [(17, .inr (.inr (.inl (upd (upd (upd (upd a17 ((w1).toNatClampNeg) w0) 4 (r84 + r93)) 5 (a8 ((v1).toNatClampNeg))) 6 (a7 ((v1).toNatClampNeg))))))]) C dX11_findFacts_122 (rfl : 122 + 1 = 123) rfl rfl (show ¬ ((6 : Int32) < 0 ∨ 8 ≤ ((6 : Int32)).toNatClampNeg) by decide) rfl ds_X11_findFacts rfl rfl rfl ?_
  refine r_aload_n C dX11_findFacts_123 (rfl : 123 + 1 = 124) rfl ?_
  refine r_getR (q := 17) C dX11_findFacts_124 (rfl : 124 + 3 = 127) fl_X11_65 rfl rfl ?_
  refine r_bipush (v := (7 : Int32)) C dX11_findFacts_127 (rfl : 127 + 2 = 129) rfl ?_
  refine r_aload_n C dX11_findFacts_129 (rfl : 129 + 1 = 130) rfl ?_
  refine r_getR (q := 21) C dX11_findFacts_130 (rfl : 130 + 3 = 133) fl_X11_77 rfl rfl ?_
  refine r_bipush (v := (69 : Int32)) C dX11_findFacts_133 (rfl : 133 + 2 = 135) rfl ?_
  refine a_i (j := 69) (f := a21) C dX11_findFacts_135 (rfl : 135 + 1 = 136) rfl ea21 (show ¬ ((69 : Int32) < 0 ∨ 77 ≤ ((69 : Int32)).toNatClampNeg) by decide) rfl ?_
  refine s_i (j := 7) (f := (upd (upd (upd (upd a17 ((w1).toNatClampNeg) w0) 4 (r84 + r93)) 5 (a8 ((v1).toNatClampNeg))) 6 (a7 ((v1).toNatClampNeg)))) (us' := [(17, .inr (.inr (.inl (upd (upd (upd (upd (upd a17 ((w1).toNatClampNeg) w0) 4 (r84 + r93)) 5 (a8 ((v1).toNatClampNeg))) 6 (a7 ((v1).toNatClampNeg))) 7 (a21 69)))))]) C dX11_findFacts_136 (rfl : 136 + 1 = 137) rfl rfl (show ¬ ((7 : Int32) < 0 ∨ 8 ≤ ((7 : Int32)).toNatClampNeg) by decide) rfl ds_X11_findFacts rfl rfl rfl ?_
  cases h
  exact r_vret C hr dX11_findFacts_137
def bX11_findFacts_49 (u : Nat) (c0_25 : Int32) (c0_26 : Int32) (a7 : (Nat → Int32)) (a8 : (Nat → Int32)) (a21 : (Nat → Int32)) (a17 : (Nat → Int32)) (v1 : Int32) (v3 : Int32) (v4 : Int32) (w0 : Int32) (w1 : Int32) : Option ((Nat → Int32)) := k_i 8 w1 (k_b (f_X11_isOpen u c0_25 c0_26 a21 v3 (v4 - (1 : Int32))) (fun r61 => (if r61 = (0 : Int32) then (bX11_findFacts_72 u c0_25 c0_26 a7 a8 a21 (upd a17 ((w1).toNatClampNeg) w0) v1 v3 v4 (0 : Int32) (3 : Int32)) else (bX11_findFacts_72 u c0_25 c0_26 a7 a8 a21 (upd a17 ((w1).toNatClampNeg) w0) v1 v3 v4 (1 : Int32) (3 : Int32)))))
set_option maxHeartbeats 4000000 in
set_option maxRecDepth 100000 in
theorem sX11_findFacts_49 (u : Nat) {X : k_X} {ad : Nat → Nat} (C : k_C X cX11_findFacts RX11 5 ad) (hr : X.meth.sig.returnType = none) (hR : X.R.frames = 2 ∧ X.R.locals = 44) {I : Nat → Nat → Int32} {L : Nat → Nat → Int64} {Rf : Nat → Nat → Option Nat} {c0_25 : Int32} (ec0_25 : I 0 25 = c0_25) {c0_26 : Int32} (ec0_26 : I 0 26 = c0_26) {a7 : (Nat → Int32)} (ea7 : I 7 = a7) {a8 : (Nat → Int32)} (ea8 : I 8 = a8) {a21 : (Nat → Int32)} (ea21 : I 21 = a21) {out : (Nat → Int32)} : ∀ (a17 : (Nat → Int32)) (v1 : Int32) (v3 : Int32) (v4 : Int32) (w0 : Int32) (w1 : Int32), bX11_findFacts_49 u c0_25 c0_26 a7 a8 a21 a17 v1 v3 v4 w0 w1 = some out → k_W X 5 0 0 (k_Q X ad none (k_ap [(17, .inr (.inr (.inl out)))] (shM, I, L, Rf))) ad (k_ap [(17, .inr (.inr (.inl a17)))] (shM, I, L, Rf)) 49 [some (.ref 0), some (.int v1), none, some (.int v3), some (.int v4)] [.int w0, .int w1, .ref 17] := by
  intro a17 v1 v3 v4 w0 w1 h
  unfold bX11_findFacts_49 at h
  obtain ⟨hi49, h⟩ := k_i_of h
  refine s_i (j := (w1).toNatClampNeg) (f := a17) (us' := [(17, .inr (.inr (.inl (upd a17 ((w1).toNatClampNeg) w0))))]) C dX11_findFacts_49 (rfl : 49 + 1 = 50) rfl rfl hi49 rfl ds_X11_findFacts rfl rfl rfl ?_
  refine r_aload_n C dX11_findFacts_50 (rfl : 50 + 1 = 51) rfl ?_
  refine r_getR (q := 17) C dX11_findFacts_51 (rfl : 51 + 3 = 54) fl_X11_65 rfl rfl ?_
  refine r_iconst (v := (3 : Int32)) C dX11_findFacts_54 (rfl : 54 + 1 = 55) rfl ?_
  refine r_aload_n C dX11_findFacts_55 (rfl : 55 + 1 = 56) rfl ?_
  refine r_iload_n C dX11_findFacts_56 (rfl : 56 + 1 = 57) rfl ?_
  refine r_iload C dX11_findFacts_57 (rfl : 57 + 2 = 59) rfl ?_
  refine r_iconst (v := (1 : Int32)) C dX11_findFacts_59 (rfl : 59 + 1 = 60) rfl ?_
  refine r_isub C dX11_findFacts_60 (rfl : 60 + 1 = 61) ?_
  obtain ⟨r61, q61, h⟩ := k_b_of h
  refine d_V (As := [.int v3, .int (v4 - (1 : Int32))]) (st := [.int (3 : Int32), .ref 17]) (st' := [.int r61, .int (3 : Int32), .ref 17]) (h' := k_ap [(17, .inr (.inr (.inl (upd a17 ((w1).toNatClampNeg) w0))))] (shM, I, L, Rf)) C hR ⟨Nat.zero_le _, Nat.zero_le _⟩ mv_X11_isOpen lk_X11_367 dX11_findFacts_61 (rfl : 61 + 3 = 64) rfl rfl rfl rfl (c_X11_isOpen X.l u _ rfl ec0_25 ec0_26 ea21 q61) rfl rfl rfl rfl rfl ?_
  refine r_if_eq (tgt := 71) C dX11_findFacts_64 (by decide) (rfl : 64 + 3 = 67) (fun c64 => ?_) (fun c64 => ?_)
  · have h := k_t c64 h
    refine r_iconst (v := (0 : Int32)) C dX11_findFacts_71 (rfl : 71 + 1 = 72) rfl ?_
    refine k_mask [true, true, false, true, true] ?_
    exact sX11_findFacts_72 u C hr hR ec0_25 ec0_26 ea7 ea8 ea21 (upd a17 ((w1).toNatClampNeg) w0) v1 v3 v4 (0 : Int32) (3 : Int32) h
  · have h := k_f c64 h
    refine r_iconst (v := (1 : Int32)) C dX11_findFacts_67 (rfl : 67 + 1 = 68) rfl ?_
    refine r_goto (tgt := 72) C dX11_findFacts_68 (by decide) ?_
    refine k_mask [true, true, false, true, true] ?_
    exact sX11_findFacts_72 u C hr hR ec0_25 ec0_26 ea7 ea8 ea21 (upd a17 ((w1).toNatClampNeg) w0) v1 v3 v4 (1 : Int32) (3 : Int32) h
def f_X11_findFacts (u : Nat) (c0_25 : Int32) (c0_26 : Int32) (a7 : (Nat → Int32)) (a8 : (Nat → Int32)) (a17 : (Nat → Int32)) (a21 : (Nat → Int32)) (x0 : Int32) (x1 : Int32) : Option ((Nat → Int32)) := (if (x0 / (8 : Int32)) = (0 : Int32) then (bX11_findFacts_49 u c0_25 c0_26 a7 a8 a21 (upd (upd a17 0 x1) 1 (x0 / (8 : Int32))) x0 (x0 - x0 / (8 : Int32) * (8 : Int32)) (x0 / (8 : Int32)) (0 : Int32) (2 : Int32)) else k_i 48 (x0 - (8 : Int32)) ((bX11_findFacts_49 u c0_25 c0_26 a7 a8 a21 (upd (upd a17 0 x1) 1 (x0 / (8 : Int32))) x0 (x0 - x0 / (8 : Int32) * (8 : Int32)) (x0 / (8 : Int32)) (a7 (((x0 - (8 : Int32))).toNatClampNeg)) (2 : Int32))))
set_option maxHeartbeats 4000000 in
set_option maxRecDepth 100000 in
theorem c_X11_findFacts (l : Launch) (u : Nat) (h : k_H) (hsh : h.1 = shM) {c0_25 : Int32} (ec0_25 : h.2.1 0 25 = c0_25) {c0_26 : Int32} (ec0_26 : h.2.1 0 26 = c0_26) {a7 : (Nat → Int32)} (ea7 : h.2.1 7 = a7) {a8 : (Nat → Int32)} (ea8 : h.2.1 8 = a8) {a17 : (Nat → Int32)} (ea17 : h.2.1 17 = a17) {a21 : (Nat → Int32)} (ea21 : h.2.1 21 = a21) {x0 : Int32} {x1 : Int32} {out : (Nat → Int32)} (hf : f_X11_findFacts u c0_25 c0_26 a7 a8 a17 a21 x0 x1 = some out) : k_CT l yX11_findFacts cX11_findFacts 5 none 2 44 [.ref 0, .int x0, .int x1] h none [(17, .inr (.inr (.inl out)))] := by
  obtain ⟨sh, I, L, Rf⟩ := h
  obtain rfl : sh = shM := hsh
  obtain rfl := ea17
  refine k_ofW (by decide) (Nat.le_of_ble_eq_true rfl) ?_
  intro X ad hl hR0 hr C
  have hR : X.R.frames = 2 ∧ X.R.locals = 44 := by rw [hR0]; exact ⟨rfl, rfl⟩
  have h := hf
  unfold f_X11_findFacts at h
  refine k_start (us := [(17, .inr (.inr (.inl (I 17))))]) (k_ap_A k_ap_0) ?_
  show k_W X 5 0 0 _ ad (k_ap [(17, .inr (.inr (.inl (I 17))))] (shM, I, L, Rf)) 0 [some (.ref 0), some (.int x0), some (.int x1), none, none] []
  refine r_iload_n C dX11_findFacts_0 (rfl : 0 + 1 = 1) rfl ?_
  refine r_bipush (v := (8 : Int32)) C dX11_findFacts_1 (rfl : 1 + 2 = 3) rfl ?_
  refine r_irem C dX11_findFacts_3 (rfl : 3 + 1 = 4) (by decide) ?_
  refine r_istore_n C dX11_findFacts_4 (rfl : 4 + 1 = 5) (by decide) (Nat.le_of_ble_eq_true rfl) ?_
  show k_W _ _ _ _ _ _ _ _ [some (.ref 0), some (.int x0), some (.int x1), some (.int (x0 - x0 / (8 : Int32) * (8 : Int32))), none] _
  refine r_iload_n C dX11_findFacts_5 (rfl : 5 + 1 = 6) rfl ?_
  refine r_bipush (v := (8 : Int32)) C dX11_findFacts_6 (rfl : 6 + 2 = 8) rfl ?_
  refine r_idiv C dX11_findFacts_8 (rfl : 8 + 1 = 9) (by decide) ?_
  refine r_istore C dX11_findFacts_9 (rfl : 9 + 2 = 11) (by decide) (Nat.le_of_ble_eq_true rfl) ?_
  show k_W _ _ _ _ _ _ _ _ [some (.ref 0), some (.int x0), some (.int x1), some (.int (x0 - x0 / (8 : Int32) * (8 : Int32))), some (.int (x0 / (8 : Int32)))] _
  refine r_aload_n C dX11_findFacts_11 (rfl : 11 + 1 = 12) rfl ?_
  refine r_getR (q := 17) C dX11_findFacts_12 (rfl : 12 + 3 = 15) fl_X11_65 rfl rfl ?_
  refine r_iconst (v := (0 : Int32)) C dX11_findFacts_15 (rfl : 15 + 1 = 16) rfl ?_
  refine r_iload_n C dX11_findFacts_16 (rfl : 16 + 1 = 17) rfl ?_
  refine s_i (j := 0) (f := (I 17)) (us' := [(17, .inr (.inr (.inl (upd (I 17) 0 x1))))]) C dX11_findFacts_17 (rfl : 17 + 1 = 18) rfl rfl (show ¬ ((0 : Int32) < 0 ∨ 8 ≤ ((0 : Int32)).toNatClampNeg) by decide) rfl ds_X11_findFacts rfl rfl rfl ?_
  refine r_aload_n C dX11_findFacts_18 (rfl : 18 + 1 = 19) rfl ?_
  refine r_getR (q := 17) C dX11_findFacts_19 (rfl : 19 + 3 = 22) fl_X11_65 rfl rfl ?_
  refine r_iconst (v := (1 : Int32)) C dX11_findFacts_22 (rfl : 22 + 1 = 23) rfl ?_
  refine r_iload C dX11_findFacts_23 (rfl : 23 + 2 = 25) rfl ?_
  refine s_i (j := 1) (f := (upd (I 17) 0 x1)) (us' := [(17, .inr (.inr (.inl (upd (upd (I 17) 0 x1) 1 (x0 / (8 : Int32))))))]) C dX11_findFacts_25 (rfl : 25 + 1 = 26) rfl rfl (show ¬ ((1 : Int32) < 0 ∨ 8 ≤ ((1 : Int32)).toNatClampNeg) by decide) rfl ds_X11_findFacts rfl rfl rfl ?_
  refine r_aload_n C dX11_findFacts_26 (rfl : 26 + 1 = 27) rfl ?_
  refine r_getR (q := 17) C dX11_findFacts_27 (rfl : 27 + 3 = 30) fl_X11_65 rfl rfl ?_
  refine r_iconst (v := (2 : Int32)) C dX11_findFacts_30 (rfl : 30 + 1 = 31) rfl ?_
  refine r_iload C dX11_findFacts_31 (rfl : 31 + 2 = 33) rfl ?_
  refine r_if_ne (tgt := 40) C dX11_findFacts_33 (by decide) (rfl : 33 + 3 = 36) (fun c33 => ?_) (fun c33 => ?_)
  · have h := k_f c33 h
    refine r_aload_n C dX11_findFacts_40 (rfl : 40 + 1 = 41) rfl ?_
    refine r_getR (q := 7) C dX11_findFacts_41 (rfl : 41 + 3 = 44) fl_X11_35 rfl rfl ?_
    refine r_iload_n C dX11_findFacts_44 (rfl : 44 + 1 = 45) rfl ?_
    refine r_bipush (v := (8 : Int32)) C dX11_findFacts_45 (rfl : 45 + 2 = 47) rfl ?_
    refine r_isub C dX11_findFacts_47 (rfl : 47 + 1 = 48) ?_
    obtain ⟨hi48, h⟩ := k_i_of h
    refine a_i (j := ((x0 - (8 : Int32))).toNatClampNeg) (f := a7) C dX11_findFacts_48 (rfl : 48 + 1 = 49) rfl ea7 hi48 rfl ?_
    refine k_mask [true, true, false, true, true] ?_
    exact sX11_findFacts_49 u C hr hR ec0_25 ec0_26 ea7 ea8 ea21 (upd (upd (I 17) 0 x1) 1 (x0 / (8 : Int32))) x0 (x0 - x0 / (8 : Int32) * (8 : Int32)) (x0 / (8 : Int32)) (a7 (((x0 - (8 : Int32))).toNatClampNeg)) (2 : Int32) h
  · have h := k_t c33 h
    refine r_iconst (v := (0 : Int32)) C dX11_findFacts_36 (rfl : 36 + 1 = 37) rfl ?_
    refine r_goto (tgt := 49) C dX11_findFacts_37 (by decide) ?_
    refine k_mask [true, true, false, true, true] ?_
    exact sX11_findFacts_49 u C hr hR ec0_25 ec0_26 ea7 ea8 ea21 (upd (upd (I 17) 0 x1) 1 (x0 / (8 : Int32))) x0 (x0 - x0 / (8 : Int32) * (8 : Int32)) (x0 / (8 : Int32)) (0 : Int32) (2 : Int32) h
/-! LullabyPitModel.both(III)I -/
theorem ds_X11_both : k_ds [] = true := by decide
def bX11_both_65 (u : Nat) (v1 : Int32) (v2 : Int32) (w0 : Int32) (w1 : Int32) : Option (Int32) := (if w1 = w0 then some v1 else some v2)
set_option maxHeartbeats 4000000 in
set_option maxRecDepth 100000 in
theorem sX11_both_65 (u : Nat) {X : k_X} {ad : Nat → Nat} (C : k_C X cX11_both RX11 3 ad) (hr : X.meth.sig.returnType = (some .int)) (hR : X.R.frames = 0 ∧ X.R.locals = 0) {I : Nat → Nat → Int32} {L : Nat → Nat → Int64} {Rf : Nat → Nat → Option Nat} {out : Int32} : ∀ (v1 : Int32) (v2 : Int32) (w0 : Int32) (w1 : Int32), bX11_both_65 u v1 v2 w0 w1 = some out → k_W X 3 0 0 (k_Q X ad (some (.int out)) (k_ap [] (shM, I, L, Rf))) ad (k_ap [] (shM, I, L, Rf)) 65 [none, some (.int v1), some (.int v2)] [.int w0, .int w1] := by
  intro v1 v2 w0 w1 h
  unfold bX11_both_65 at h
  refine r_icmp_ne (tgt := 72) C dX11_both_65 (by decide) (rfl : 65 + 3 = 68) (fun c65 => ?_) (fun c65 => ?_)
  · have h := k_f c65 h
    refine r_iload_n C dX11_both_72 (rfl : 72 + 1 = 73) rfl ?_
    cases h
    exact r_iret C hr dX11_both_73
  · have h := k_t c65 h
    refine r_iload_n C dX11_both_68 (rfl : 68 + 1 = 69) rfl ?_
    refine r_goto (tgt := 73) C dX11_both_69 (by decide) ?_
    cases h
    exact r_iret C hr dX11_both_73
def bX11_both_54 (u : Nat) (v0 : Int32) (v1 : Int32) (v2 : Int32) (w0 : Int32) : Option (Int32) := (if v0 = (6 : Int32) then (bX11_both_65 u v1 v2 (1 : Int32) w0) else (bX11_both_65 u v1 v2 (0 : Int32) w0))
set_option maxHeartbeats 4000000 in
set_option maxRecDepth 100000 in
theorem sX11_both_54 (u : Nat) {X : k_X} {ad : Nat → Nat} (C : k_C X cX11_both RX11 3 ad) (hr : X.meth.sig.returnType = (some .int)) (hR : X.R.frames = 0 ∧ X.R.locals = 0) {I : Nat → Nat → Int32} {L : Nat → Nat → Int64} {Rf : Nat → Nat → Option Nat} {out : Int32} : ∀ (v0 : Int32) (v1 : Int32) (v2 : Int32) (w0 : Int32), bX11_both_54 u v0 v1 v2 w0 = some out → k_W X 3 0 0 (k_Q X ad (some (.int out)) (k_ap [] (shM, I, L, Rf))) ad (k_ap [] (shM, I, L, Rf)) 54 [some (.int v0), some (.int v1), some (.int v2)] [.int w0] := by
  intro v0 v1 v2 w0 h
  unfold bX11_both_54 at h
  refine r_iload_n C dX11_both_54 (rfl : 54 + 1 = 55) rfl ?_
  refine r_bipush (v := (6 : Int32)) C dX11_both_55 (rfl : 55 + 2 = 57) rfl ?_
  refine r_icmp_ne (tgt := 64) C dX11_both_57 (by decide) (rfl : 57 + 3 = 60) (fun c57 => ?_) (fun c57 => ?_)
  · have h := k_f c57 h
    refine r_iconst (v := (0 : Int32)) C dX11_both_64 (rfl : 64 + 1 = 65) rfl ?_
    refine k_mask [false, true, true] ?_
    exact sX11_both_65 u C hr hR v1 v2 (0 : Int32) w0 h
  · have h := k_t c57 h
    refine r_iconst (v := (1 : Int32)) C dX11_both_60 (rfl : 60 + 1 = 61) rfl ?_
    refine r_goto (tgt := 65) C dX11_both_61 (by decide) ?_
    refine k_mask [false, true, true] ?_
    exact sX11_both_65 u C hr hR v1 v2 (1 : Int32) w0 h
def f_X11_both (u : Nat) (x0 : Int32) (x1 : Int32) (x2 : Int32) : Option (Int32) := (if x0 = (2 : Int32) then some (x1 + x2) else (if x0 = (3 : Int32) then some (x1 - x2) else (if x0 = (4 : Int32) then some (x1 * x2) else (if x0 = (5 : Int32) then (if x2 = (0 : Int32) then some (0 : Int32) else k_d x2 (some (x1 / x2))) else (if x2 ≤ x1 then (bX11_both_54 u x0 x1 x2 (0 : Int32)) else (bX11_both_54 u x0 x1 x2 (1 : Int32)))))))
set_option maxHeartbeats 4000000 in
set_option maxRecDepth 100000 in
theorem c_X11_both (l : Launch) (u : Nat) (h : k_H) (hsh : h.1 = shM) {x0 : Int32} {x1 : Int32} {x2 : Int32} {out : Int32} (hf : f_X11_both u x0 x1 x2 = some out) : k_CT l yX11_both cX11_both 3 (some .int) 0 0 [.int x0, .int x1, .int x2] h (some (.int out)) [] := by
  obtain ⟨sh, I, L, Rf⟩ := h
  obtain rfl : sh = shM := hsh
  refine k_ofW (by decide) (Nat.le_of_ble_eq_true rfl) ?_
  intro X ad hl hR0 hr C
  have hR : X.R.frames = 0 ∧ X.R.locals = 0 := by rw [hR0]; exact ⟨rfl, rfl⟩
  have h := hf
  unfold f_X11_both at h
  refine k_start (us := []) k_ap_0 ?_
  show k_W X 3 0 0 _ ad (k_ap [] (shM, I, L, Rf)) 0 [some (.int x0), some (.int x1), some (.int x2)] []
  refine r_iload_n C dX11_both_0 (rfl : 0 + 1 = 1) rfl ?_
  refine r_iconst (v := (2 : Int32)) C dX11_both_1 (rfl : 1 + 1 = 2) rfl ?_
  refine r_icmp_ne (tgt := 9) C dX11_both_2 (by decide) (rfl : 2 + 3 = 5) (fun c2 => ?_) (fun c2 => ?_)
  · have h := k_f c2 h
    refine r_iload_n C dX11_both_9 (rfl : 9 + 1 = 10) rfl ?_
    refine r_iconst (v := (3 : Int32)) C dX11_both_10 (rfl : 10 + 1 = 11) rfl ?_
    refine r_icmp_ne (tgt := 18) C dX11_both_11 (by decide) (rfl : 11 + 3 = 14) (fun c11 => ?_) (fun c11 => ?_)
    · have h := k_f c11 h
      refine r_iload_n C dX11_both_18 (rfl : 18 + 1 = 19) rfl ?_
      refine r_iconst (v := (4 : Int32)) C dX11_both_19 (rfl : 19 + 1 = 20) rfl ?_
      refine r_icmp_ne (tgt := 27) C dX11_both_20 (by decide) (rfl : 20 + 3 = 23) (fun c20 => ?_) (fun c20 => ?_)
      · have h := k_f c20 h
        refine r_iload_n C dX11_both_27 (rfl : 27 + 1 = 28) rfl ?_
        refine r_iconst (v := (5 : Int32)) C dX11_both_28 (rfl : 28 + 1 = 29) rfl ?_
        refine r_icmp_ne (tgt := 44) C dX11_both_29 (by decide) (rfl : 29 + 3 = 32) (fun c29 => ?_) (fun c29 => ?_)
        · have h := k_f c29 h
          refine r_iload_n C dX11_both_44 (rfl : 44 + 1 = 45) rfl ?_
          refine r_iload_n C dX11_both_45 (rfl : 45 + 1 = 46) rfl ?_
          refine r_icmp_ge (tgt := 53) C dX11_both_46 (by decide) (rfl : 46 + 3 = 49) (fun c46 => ?_) (fun c46 => ?_)
          · have h := k_t c46 h
            refine r_iconst (v := (0 : Int32)) C dX11_both_53 (rfl : 53 + 1 = 54) rfl ?_
            refine k_mask [true, true, true] ?_
            exact sX11_both_54 u C hr hR x0 x1 x2 (0 : Int32) h
          · have h := k_f c46 h
            refine r_iconst (v := (1 : Int32)) C dX11_both_49 (rfl : 49 + 1 = 50) rfl ?_
            refine r_goto (tgt := 54) C dX11_both_50 (by decide) ?_
            refine k_mask [true, true, true] ?_
            exact sX11_both_54 u C hr hR x0 x1 x2 (1 : Int32) h
        · have h := k_t c29 h
          refine r_iload_n C dX11_both_32 (rfl : 32 + 1 = 33) rfl ?_
          refine r_if_ne (tgt := 40) C dX11_both_33 (by decide) (rfl : 33 + 3 = 36) (fun c33 => ?_) (fun c33 => ?_)
          · have h := k_f c33 h
            refine r_iload_n C dX11_both_40 (rfl : 40 + 1 = 41) rfl ?_
            refine r_iload_n C dX11_both_41 (rfl : 41 + 1 = 42) rfl ?_
            obtain ⟨hz42, h⟩ := k_d_of h
            refine r_idiv C dX11_both_42 (rfl : 42 + 1 = 43) hz42 ?_
            cases h
            exact r_iret C hr dX11_both_43
          · have h := k_t c33 h
            refine r_iconst (v := (0 : Int32)) C dX11_both_36 (rfl : 36 + 1 = 37) rfl ?_
            refine r_goto (tgt := 43) C dX11_both_37 (by decide) ?_
            cases h
            exact r_iret C hr dX11_both_43
      · have h := k_t c20 h
        refine r_iload_n C dX11_both_23 (rfl : 23 + 1 = 24) rfl ?_
        refine r_iload_n C dX11_both_24 (rfl : 24 + 1 = 25) rfl ?_
        refine r_imul C dX11_both_25 (rfl : 25 + 1 = 26) ?_
        cases h
        exact r_iret C hr dX11_both_26
    · have h := k_t c11 h
      refine r_iload_n C dX11_both_14 (rfl : 14 + 1 = 15) rfl ?_
      refine r_iload_n C dX11_both_15 (rfl : 15 + 1 = 16) rfl ?_
      refine r_isub C dX11_both_16 (rfl : 16 + 1 = 17) ?_
      cases h
      exact r_iret C hr dX11_both_17
  · have h := k_t c2 h
    refine r_iload_n C dX11_both_5 (rfl : 5 + 1 = 6) rfl ?_
    refine r_iload_n C dX11_both_6 (rfl : 6 + 1 = 7) rfl ?_
    refine r_iadd C dX11_both_7 (rfl : 7 + 1 = 8) ?_
    cases h
    exact r_iret C hr dX11_both_8
/-! LullabyPitModel.valueOf(I)I -/
theorem ds_X11_valueOf : k_ds [(16, 2, 0)] = true := by decide
def bX11_valueOf_105 (u : Nat) (a13 : (Nat → Int32)) (a14 : (Nat → Int32)) (a15 : (Nat → Int32)) (a17 : (Nat → Int32)) (k8 : (Nat → Int32) → Int32 → Int32 → Int32 → Option (Int32 × (Nat → Int32))) (a16 : (Nat → Int32)) (v1 : Int32) (v2 : Int32) (v3 : Int32) : Option (Int32 × (Nat → Int32)) := (k8 a16 v1 v2 (v3 + (1 : Int32)))
set_option maxHeartbeats 4000000 in
set_option maxRecDepth 100000 in
theorem sX11_valueOf_105 (u : Nat) {X : k_X} {ad : Nat → Nat} (C : k_C X cX11_valueOf RX11 5 ad) (hr : X.meth.sig.returnType = (some .int)) (hR : X.R.frames = 1 ∧ X.R.locals = 22) {I : Nat → Nat → Int32} {L : Nat → Nat → Int64} {Rf : Nat → Nat → Option Nat} {a13 : (Nat → Int32)} (ea13 : I 13 = a13) {a14 : (Nat → Int32)} (ea14 : I 14 = a14) {a15 : (Nat → Int32)} (ea15 : I 15 = a15) {a17 : (Nat → Int32)} (ea17 : I 17 = a17) {out : Int32 × (Nat → Int32)} {k8 : (Nat → Int32) → Int32 → Int32 → Int32 → Option (Int32 × (Nat → Int32))} (hk8 : ∀ (a16 : (Nat → Int32)) (v1 : Int32) (v2 : Int32) (v3 : Int32), k8 a16 v1 v2 v3 = some out → k_W X 5 0 0 (k_Q X ad (some (.int out.1)) (k_ap [(16, .inr (.inr (.inl out.2)))] (shM, I, L, Rf))) ad (k_ap [(16, .inr (.inr (.inl a16)))] (shM, I, L, Rf)) 8 [some (.ref 0), some (.int v1), some (.int v2), some (.int v3), none] []) : ∀ (a16 : (Nat → Int32)) (v1 : Int32) (v2 : Int32) (v3 : Int32), bX11_valueOf_105 u a13 a14 a15 a17 k8 a16 v1 v2 v3 = some out → k_W X 5 0 0 (k_Q X ad (some (.int out.1)) (k_ap [(16, .inr (.inr (.inl out.2)))] (shM, I, L, Rf))) ad (k_ap [(16, .inr (.inr (.inl a16)))] (shM, I, L, Rf)) 105 [some (.ref 0), some (.int v1), some (.int v2), some (.int v3), none] [] := by
  intro a16 v1 v2 v3 h
  unfold bX11_valueOf_105 at h
  refine r_iinc (v := (v3 + (1 : Int32))) C dX11_valueOf_105 (rfl : 105 + 3 = 108) rfl rfl (by decide) ?_
  show k_W _ _ _ _ _ _ _ _ [some (.ref 0), some (.int v1), some (.int v2), some (.int (v3 + (1 : Int32))), none] _
  refine r_goto (tgt := 8) C dX11_valueOf_108 (by decide) ?_
  refine k_mask [true, true, true, true, false] ?_
  exact hk8 a16 v1 v2 (v3 + (1 : Int32)) h
def bX11_valueOf_68 (u : Nat) (a13 : (Nat → Int32)) (a14 : (Nat → Int32)) (a15 : (Nat → Int32)) (a17 : (Nat → Int32)) (k8 : (Nat → Int32) → Int32 → Int32 → Int32 → Option (Int32 × (Nat → Int32))) (a16 : (Nat → Int32)) (v1 : Int32) (v2 : Int32) (v3 : Int32) (w0 : Int32) (w1 : Int32) : Option (Int32 × (Nat → Int32)) := k_i 150 w1 ((bX11_valueOf_105 u a13 a14 a15 a17 k8 (upd a16 ((w1).toNatClampNeg) w0) v1 (v2 + (1 : Int32)) v3))
set_option maxHeartbeats 4000000 in
set_option maxRecDepth 100000 in
theorem sX11_valueOf_68 (u : Nat) {X : k_X} {ad : Nat → Nat} (C : k_C X cX11_valueOf RX11 5 ad) (hr : X.meth.sig.returnType = (some .int)) (hR : X.R.frames = 1 ∧ X.R.locals = 22) {I : Nat → Nat → Int32} {L : Nat → Nat → Int64} {Rf : Nat → Nat → Option Nat} {a13 : (Nat → Int32)} (ea13 : I 13 = a13) {a14 : (Nat → Int32)} (ea14 : I 14 = a14) {a15 : (Nat → Int32)} (ea15 : I 15 = a15) {a17 : (Nat → Int32)} (ea17 : I 17 = a17) {out : Int32 × (Nat → Int32)} {k8 : (Nat → Int32) → Int32 → Int32 → Int32 → Option (Int32 × (Nat → Int32))} (hk8 : ∀ (a16 : (Nat → Int32)) (v1 : Int32) (v2 : Int32) (v3 : Int32), k8 a16 v1 v2 v3 = some out → k_W X 5 0 0 (k_Q X ad (some (.int out.1)) (k_ap [(16, .inr (.inr (.inl out.2)))] (shM, I, L, Rf))) ad (k_ap [(16, .inr (.inr (.inl a16)))] (shM, I, L, Rf)) 8 [some (.ref 0), some (.int v1), some (.int v2), some (.int v3), none] []) : ∀ (a16 : (Nat → Int32)) (v1 : Int32) (v2 : Int32) (v3 : Int32) (w0 : Int32) (w1 : Int32), bX11_valueOf_68 u a13 a14 a15 a17 k8 a16 v1 v2 v3 w0 w1 = some out → k_W X 5 0 0 (k_Q X ad (some (.int out.1)) (k_ap [(16, .inr (.inr (.inl out.2)))] (shM, I, L, Rf))) ad (k_ap [(16, .inr (.inr (.inl a16)))] (shM, I, L, Rf)) 68 [some (.ref 0), some (.int v1), some (.int v2), some (.int v3), none] [.int w0, .int w1, .ref 16] := by
  intro a16 v1 v2 v3 w0 w1 h
  unfold bX11_valueOf_68 at h
  obtain ⟨hi68, h⟩ := k_i_of h
  refine s_i (j := (w1).toNatClampNeg) (f := a16) (us' := [(16, .inr (.inr (.inl (upd a16 ((w1).toNatClampNeg) w0))))]) C dX11_valueOf_68 (rfl : 68 + 1 = 69) rfl rfl hi68 rfl ds_X11_valueOf rfl rfl rfl ?_
  refine r_iinc (v := (v2 + (1 : Int32))) C dX11_valueOf_69 (rfl : 69 + 3 = 72) rfl rfl (by decide) ?_
  show k_W _ _ _ _ _ _ _ _ [some (.ref 0), some (.int v1), some (.int (v2 + (1 : Int32))), some (.int v3), none] _
  refine r_goto (tgt := 105) C dX11_valueOf_72 (by decide) ?_
  refine k_mask [true, true, true, true, false] ?_
  exact sX11_valueOf_105 u C hr hR ea13 ea14 ea15 ea17 hk8 (upd a16 ((w1).toNatClampNeg) w0) v1 (v2 + (1 : Int32)) v3 h
def bX11_valueOf_8 (u : Nat) (a13 : (Nat → Int32)) (a14 : (Nat → Int32)) (a15 : (Nat → Int32)) (a17 : (Nat → Int32)) : Nat → (Nat → Int32) → Int32 → Int32 → Int32 → Option (Int32 × (Nat → Int32))
  | 0, _, _, _, _ => none
  | n + 1, a16, v1, v2, v3 => k_i 2 v1 ((if (((150 : Int32) * v1) + (a15 ((v1).toNatClampNeg))) ≤ v3 then some ((a16 0), a16) else k_i 300 v3 ((if (1 : Int32) < (a13 ((v3).toNatClampNeg)) then k_i 150 ((v2 + (-1 : Int32)) - (1 : Int32)) (k_i 150 (v2 + (-1 : Int32)) (k_b (f_X11_both u (a13 ((v3).toNatClampNeg)) (a16 ((((v2 + (-1 : Int32)) - (1 : Int32))).toNatClampNeg)) (a16 (((v2 + (-1 : Int32))).toNatClampNeg))) (fun r101 => k_i 150 ((v2 + (-1 : Int32)) - (1 : Int32)) ((bX11_valueOf_105 u a13 a14 a15 a17 (bX11_valueOf_8 u a13 a14 a15 a17 n) (upd a16 ((((v2 + (-1 : Int32)) - (1 : Int32))).toNatClampNeg) r101) v1 (v2 + (-1 : Int32)) v3))))) else (if (a13 ((v3).toNatClampNeg)) = (0 : Int32) then k_i 300 v3 ((bX11_valueOf_68 u a13 a14 a15 a17 (bX11_valueOf_8 u a13 a14 a15 a17 n) a16 v1 v2 v3 (a14 ((v3).toNatClampNeg)) v2)) else k_i 300 v3 (k_i 8 (a14 ((v3).toNatClampNeg)) ((bX11_valueOf_68 u a13 a14 a15 a17 (bX11_valueOf_8 u a13 a14 a15 a17 n) a16 v1 v2 v3 (a17 (((a14 ((v3).toNatClampNeg))).toNatClampNeg)) v2))))))))
set_option maxHeartbeats 4000000 in
set_option maxRecDepth 100000 in
theorem sX11_valueOf_8 (u : Nat) {X : k_X} {ad : Nat → Nat} (C : k_C X cX11_valueOf RX11 5 ad) (hr : X.meth.sig.returnType = (some .int)) (hR : X.R.frames = 1 ∧ X.R.locals = 22) {I : Nat → Nat → Int32} {L : Nat → Nat → Int64} {Rf : Nat → Nat → Option Nat} {a13 : (Nat → Int32)} (ea13 : I 13 = a13) {a14 : (Nat → Int32)} (ea14 : I 14 = a14) {a15 : (Nat → Int32)} (ea15 : I 15 = a15) {a17 : (Nat → Int32)} (ea17 : I 17 = a17) {out : Int32 × (Nat → Int32)} : ∀ (n : Nat) (a16 : (Nat → Int32)) (v1 : Int32) (v2 : Int32) (v3 : Int32), bX11_valueOf_8 u a13 a14 a15 a17 n a16 v1 v2 v3 = some out → k_W X 5 0 0 (k_Q X ad (some (.int out.1)) (k_ap [(16, .inr (.inr (.inl out.2)))] (shM, I, L, Rf))) ad (k_ap [(16, .inr (.inr (.inl a16)))] (shM, I, L, Rf)) 8 [some (.ref 0), some (.int v1), some (.int v2), some (.int v3), none] [] := by
  intro n
  induction n with
  | zero => intro a16 v1 v2 v3 h; cases h
  | succ n ih =>
    intro a16 v1 v2 v3 h
    refine r_iload_n C dX11_valueOf_8 (rfl : 8 + 1 = 9) rfl ?_
    refine r_sipush (v := (150 : Int32)) C dX11_valueOf_9 (rfl : 9 + 3 = 12) rfl ?_
    refine r_iload_n C dX11_valueOf_12 (rfl : 12 + 1 = 13) rfl ?_
    refine r_imul C dX11_valueOf_13 (rfl : 13 + 1 = 14) ?_
    refine r_aload_n C dX11_valueOf_14 (rfl : 14 + 1 = 15) rfl ?_
    refine r_getR (q := 15) C dX11_valueOf_15 (rfl : 15 + 3 = 18) fl_X11_59 rfl rfl ?_
    refine r_iload_n C dX11_valueOf_18 (rfl : 18 + 1 = 19) rfl ?_
    obtain ⟨hi19, h⟩ := k_i_of h
    refine a_i (j := (v1).toNatClampNeg) (f := a15) C dX11_valueOf_19 (rfl : 19 + 1 = 20) rfl ea15 hi19 rfl ?_
    refine r_iadd C dX11_valueOf_20 (rfl : 20 + 1 = 21) ?_
    refine r_icmp_ge (tgt := 111) C dX11_valueOf_21 (by decide) (rfl : 21 + 3 = 24) (fun c21 => ?_) (fun c21 => ?_)
    · have h := k_t c21 h
      refine r_aload_n C dX11_valueOf_111 (rfl : 111 + 1 = 112) rfl ?_
      refine r_getR (q := 16) C dX11_valueOf_112 (rfl : 112 + 3 = 115) fl_X11_62 rfl rfl ?_
      refine r_iconst (v := (0 : Int32)) C dX11_valueOf_115 (rfl : 115 + 1 = 116) rfl ?_
      refine a_i (j := 0) (f := a16) C dX11_valueOf_116 (rfl : 116 + 1 = 117) rfl rfl (show ¬ ((0 : Int32) < 0 ∨ 150 ≤ ((0 : Int32)).toNatClampNeg) by decide) rfl ?_
      cases h
      exact r_iret C hr dX11_valueOf_117
    · have h := k_f c21 h
      refine r_aload_n C dX11_valueOf_24 (rfl : 24 + 1 = 25) rfl ?_
      refine r_getR (q := 13) C dX11_valueOf_25 (rfl : 25 + 3 = 28) fl_X11_53 rfl rfl ?_
      refine r_iload_n C dX11_valueOf_28 (rfl : 28 + 1 = 29) rfl ?_
      obtain ⟨hi29, h⟩ := k_i_of h
      refine a_i (j := (v3).toNatClampNeg) (f := a13) C dX11_valueOf_29 (rfl : 29 + 1 = 30) rfl ea13 hi29 rfl ?_
      refine r_istore C dX11_valueOf_30 (rfl : 30 + 2 = 32) (by decide) (Nat.le_of_ble_eq_true rfl) ?_
      show k_W _ _ _ _ _ _ _ _ [some (.ref 0), some (.int v1), some (.int v2), some (.int v3), some (.int (a13 ((v3).toNatClampNeg)))] _
      refine r_iload C dX11_valueOf_32 (rfl : 32 + 2 = 34) rfl ?_
      refine r_iconst (v := (1 : Int32)) C dX11_valueOf_34 (rfl : 34 + 1 = 35) rfl ?_
      refine r_icmp_gt (tgt := 75) C dX11_valueOf_35 (by decide) (rfl : 35 + 3 = 38) (fun c35 => ?_) (fun c35 => ?_)
      · have h := k_t c35 h
        refine r_iinc (v := (v2 + (-1 : Int32))) C dX11_valueOf_75 (rfl : 75 + 3 = 78) rfl rfl (by decide) ?_
        show k_W _ _ _ _ _ _ _ _ [some (.ref 0), some (.int v1), some (.int (v2 + (-1 : Int32))), some (.int v3), some (.int (a13 ((v3).toNatClampNeg)))] _
        refine r_aload_n C dX11_valueOf_78 (rfl : 78 + 1 = 79) rfl ?_
        refine r_getR (q := 16) C dX11_valueOf_79 (rfl : 79 + 3 = 82) fl_X11_62 rfl rfl ?_
        refine r_iload_n C dX11_valueOf_82 (rfl : 82 + 1 = 83) rfl ?_
        refine r_iconst (v := (1 : Int32)) C dX11_valueOf_83 (rfl : 83 + 1 = 84) rfl ?_
        refine r_isub C dX11_valueOf_84 (rfl : 84 + 1 = 85) ?_
        refine r_iload C dX11_valueOf_85 (rfl : 85 + 2 = 87) rfl ?_
        refine r_aload_n C dX11_valueOf_87 (rfl : 87 + 1 = 88) rfl ?_
        refine r_getR (q := 16) C dX11_valueOf_88 (rfl : 88 + 3 = 91) fl_X11_62 rfl rfl ?_
        refine r_iload_n C dX11_valueOf_91 (rfl : 91 + 1 = 92) rfl ?_
        refine r_iconst (v := (1 : Int32)) C dX11_valueOf_92 (rfl : 92 + 1 = 93) rfl ?_
        refine r_isub C dX11_valueOf_93 (rfl : 93 + 1 = 94) ?_
        obtain ⟨hi94, h⟩ := k_i_of h
        refine a_i (j := (((v2 + (-1 : Int32)) - (1 : Int32))).toNatClampNeg) (f := a16) C dX11_valueOf_94 (rfl : 94 + 1 = 95) rfl rfl hi94 rfl ?_
        refine r_aload_n C dX11_valueOf_95 (rfl : 95 + 1 = 96) rfl ?_
        refine r_getR (q := 16) C dX11_valueOf_96 (rfl : 96 + 3 = 99) fl_X11_62 rfl rfl ?_
        refine r_iload_n C dX11_valueOf_99 (rfl : 99 + 1 = 100) rfl ?_
        obtain ⟨hi100, h⟩ := k_i_of h
        refine a_i (j := ((v2 + (-1 : Int32))).toNatClampNeg) (f := a16) C dX11_valueOf_100 (rfl : 100 + 1 = 101) rfl rfl hi100 rfl ?_
        obtain ⟨r101, q101, h⟩ := k_b_of h
        refine d_S (As := [.int (a13 ((v3).toNatClampNeg)), .int (a16 ((((v2 + (-1 : Int32)) - (1 : Int32))).toNatClampNeg)), .int (a16 (((v2 + (-1 : Int32))).toNatClampNeg))]) (st := [.int ((v2 + (-1 : Int32)) - (1 : Int32)), .ref 16]) (st' := [.int r101, .int ((v2 + (-1 : Int32)) - (1 : Int32)), .ref 16]) (h' := k_ap [(16, .inr (.inr (.inl a16)))] (shM, I, L, Rf)) C hR ⟨Nat.zero_le _, Nat.zero_le _⟩ ms_X11_both lk_X11_321 dX11_valueOf_101 (rfl : 101 + 3 = 104) rfl rfl (c_X11_both X.l u _ rfl  q101) rfl rfl rfl rfl rfl ?_
        obtain ⟨hi104, h⟩ := k_i_of h
        refine s_i (j := (((v2 + (-1 : Int32)) - (1 : Int32))).toNatClampNeg) (f := a16) (us' := [(16, .inr (.inr (.inl (upd a16 ((((v2 + (-1 : Int32)) - (1 : Int32))).toNatClampNeg) r101))))]) C dX11_valueOf_104 (rfl : 104 + 1 = 105) rfl rfl hi104 rfl ds_X11_valueOf rfl rfl rfl ?_
        refine k_mask [true, true, true, true, false] ?_
        exact sX11_valueOf_105 u C hr hR ea13 ea14 ea15 ea17 ih (upd a16 ((((v2 + (-1 : Int32)) - (1 : Int32))).toNatClampNeg) r101) v1 (v2 + (-1 : Int32)) v3 h
      · have h := k_f c35 h
        refine r_aload_n C dX11_valueOf_38 (rfl : 38 + 1 = 39) rfl ?_
        refine r_getR (q := 16) C dX11_valueOf_39 (rfl : 39 + 3 = 42) fl_X11_62 rfl rfl ?_
        refine r_iload_n C dX11_valueOf_42 (rfl : 42 + 1 = 43) rfl ?_
        refine r_iload C dX11_valueOf_43 (rfl : 43 + 2 = 45) rfl ?_
        refine r_if_ne (tgt := 57) C dX11_valueOf_45 (by decide) (rfl : 45 + 3 = 48) (fun c45 => ?_) (fun c45 => ?_)
        · have h := k_f c45 h
          refine r_aload_n C dX11_valueOf_57 (rfl : 57 + 1 = 58) rfl ?_
          refine r_getR (q := 17) C dX11_valueOf_58 (rfl : 58 + 3 = 61) fl_X11_65 rfl rfl ?_
          refine r_aload_n C dX11_valueOf_61 (rfl : 61 + 1 = 62) rfl ?_
          refine r_getR (q := 14) C dX11_valueOf_62 (rfl : 62 + 3 = 65) fl_X11_56 rfl rfl ?_
          refine r_iload_n C dX11_valueOf_65 (rfl : 65 + 1 = 66) rfl ?_
          obtain ⟨hi66, h⟩ := k_i_of h
          refine a_i (j := (v3).toNatClampNeg) (f := a14) C dX11_valueOf_66 (rfl : 66 + 1 = 67) rfl ea14 hi66 rfl ?_
          obtain ⟨hi67, h⟩ := k_i_of h
          refine a_i (j := ((a14 ((v3).toNatClampNeg))).toNatClampNeg) (f := a17) C dX11_valueOf_67 (rfl : 67 + 1 = 68) rfl ea17 hi67 rfl ?_
          refine k_mask [true, true, true, true, false] ?_
          exact sX11_valueOf_68 u C hr hR ea13 ea14 ea15 ea17 ih a16 v1 v2 v3 (a17 (((a14 ((v3).toNatClampNeg))).toNatClampNeg)) v2 h
        · have h := k_t c45 h
          refine r_aload_n C dX11_valueOf_48 (rfl : 48 + 1 = 49) rfl ?_
          refine r_getR (q := 14) C dX11_valueOf_49 (rfl : 49 + 3 = 52) fl_X11_56 rfl rfl ?_
          refine r_iload_n C dX11_valueOf_52 (rfl : 52 + 1 = 53) rfl ?_
          obtain ⟨hi53, h⟩ := k_i_of h
          refine a_i (j := (v3).toNatClampNeg) (f := a14) C dX11_valueOf_53 (rfl : 53 + 1 = 54) rfl ea14 hi53 rfl ?_
          refine r_goto (tgt := 68) C dX11_valueOf_54 (by decide) ?_
          refine k_mask [true, true, true, true, false] ?_
          exact sX11_valueOf_68 u C hr hR ea13 ea14 ea15 ea17 ih a16 v1 v2 v3 (a14 ((v3).toNatClampNeg)) v2 h
def f_X11_valueOf (u : Nat) (a13 : (Nat → Int32)) (a14 : (Nat → Int32)) (a15 : (Nat → Int32)) (a16 : (Nat → Int32)) (a17 : (Nat → Int32)) (x0 : Int32) : Option (Int32 × (Nat → Int32)) := (bX11_valueOf_8 u a13 a14 a15 a17 u a16 x0 (0 : Int32) ((150 : Int32) * x0))
set_option maxHeartbeats 4000000 in
set_option maxRecDepth 100000 in
theorem c_X11_valueOf (l : Launch) (u : Nat) (h : k_H) (hsh : h.1 = shM) {a13 : (Nat → Int32)} (ea13 : h.2.1 13 = a13) {a14 : (Nat → Int32)} (ea14 : h.2.1 14 = a14) {a15 : (Nat → Int32)} (ea15 : h.2.1 15 = a15) {a16 : (Nat → Int32)} (ea16 : h.2.1 16 = a16) {a17 : (Nat → Int32)} (ea17 : h.2.1 17 = a17) {x0 : Int32} {out : Int32 × (Nat → Int32)} (hf : f_X11_valueOf u a13 a14 a15 a16 a17 x0 = some out) : k_CT l yX11_valueOf cX11_valueOf 5 (some .int) 1 22 [.ref 0, .int x0] h (some (.int out.1)) [(16, .inr (.inr (.inl out.2)))] := by
  obtain ⟨sh, I, L, Rf⟩ := h
  obtain rfl : sh = shM := hsh
  obtain rfl := ea16
  refine k_ofW (by decide) (Nat.le_of_ble_eq_true rfl) ?_
  intro X ad hl hR0 hr C
  have hR : X.R.frames = 1 ∧ X.R.locals = 22 := by rw [hR0]; exact ⟨rfl, rfl⟩
  have h := hf
  unfold f_X11_valueOf at h
  refine k_start (us := [(16, .inr (.inr (.inl (I 16))))]) (k_ap_A k_ap_0) ?_
  show k_W X 5 0 0 _ ad (k_ap [(16, .inr (.inr (.inl (I 16))))] (shM, I, L, Rf)) 0 [some (.ref 0), some (.int x0), none, none, none] []
  refine r_iconst (v := (0 : Int32)) C dX11_valueOf_0 (rfl : 0 + 1 = 1) rfl ?_
  refine r_istore_n C dX11_valueOf_1 (rfl : 1 + 1 = 2) (by decide) (Nat.le_of_ble_eq_true rfl) ?_
  show k_W _ _ _ _ _ _ _ _ [some (.ref 0), some (.int x0), some (.int (0 : Int32)), none, none] _
  refine r_sipush (v := (150 : Int32)) C dX11_valueOf_2 (rfl : 2 + 3 = 5) rfl ?_
  refine r_iload_n C dX11_valueOf_5 (rfl : 5 + 1 = 6) rfl ?_
  refine r_imul C dX11_valueOf_6 (rfl : 6 + 1 = 7) ?_
  refine r_istore_n C dX11_valueOf_7 (rfl : 7 + 1 = 8) (by decide) (Nat.le_of_ble_eq_true rfl) ?_
  show k_W _ _ _ _ _ _ _ _ [some (.ref 0), some (.int x0), some (.int (0 : Int32)), some (.int ((150 : Int32) * x0)), none] _
  refine k_mask [true, true, true, true, false] ?_
  exact sX11_valueOf_8 u C hr hR ea13 ea14 ea15 ea17 u (I 16) x0 (0 : Int32) ((150 : Int32) * x0) h
