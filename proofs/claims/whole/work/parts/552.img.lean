theorem mv_X4_takeImage : k_MV yX4_takeImage cX4_takeImage 3 (some .boolean) 1 := ⟨(k_me (tm3 (List.mem_of_getElem? (i := 106) rfl)) rfl), (k_me (tm3 (List.mem_of_getElem? (i := 107) rfl)) rfl), (k_me (tm1 (List.mem_of_getElem? (i := 8) rfl)) rfl), (k_me (tm3 (List.mem_of_getElem? (i := 108) rfl)) rfl), by decide, by decide, by decide +kernel⟩
theorem mv_X4_bringBack : k_MV yX4_bringBack cX4_bringBack 3 none 1 := ⟨(k_me (tm3 (List.mem_of_getElem? (i := 118) rfl)) rfl), (k_me (tm3 (List.mem_of_getElem? (i := 119) rfl)) rfl), (k_me (tm1 (List.mem_of_getElem? (i := 8) rfl)) rfl), (k_me (tm3 (List.mem_of_getElem? (i := 120) rfl)) rfl), by decide, by decide, by decide +kernel⟩
/-! IMAGES, the class's callers -/
theorem k_sI_s (p k : Nat) (v : Int32) (h : k_H) : (k_sI p k v h).1 = h.1 := rfl
theorem k_sA_s (p : Nat) (g : Nat → Int32) (h : k_H) : (k_sA p g h).1 = h.1 := rfl
theorem k_tIs_ne {m : Nat} : ∀ (n i : Nat) (h : k_H) {q : Nat} {x : k_Sh}, h.1[q]? = some x → (k_tIs m n i h).1[q]? = some x
  | 0, _, _, _, _, hs => hs
  | n + 1, i, _, _, _, hs => by unfold k_tIs; exact k_tIs_ne n (i + 1) _ (k_save_ne hs)
theorem k_tI_ne {W m q : Nat} {h : k_H} {x : k_Sh} (hs : h.1[q]? = some x) : (k_tI W m h).1[q]? = some x := by
  unfold k_tI
  rw [k_sI_s, k_sA_s]
  exact k_tIs_ne W 0 _ (k_save_ne hs)
theorem k_bBs_ne {m : Nat} : ∀ (n i : Nat) (h : k_H) {q : Nat} {x : k_Sh}, h.1[q]? = some x → (k_bBs m n i h).1[q]? = some x
  | 0, _, _, _, _, hs => hs
  | n + 1, i, _, _, _, hs => by unfold k_bBs; exact k_bBs_ne n (i + 1) _ (k_save_ne hs)
theorem k_bB_ne {W m q : Nat} {h : k_H} {x : k_Sh} (hs : h.1[q]? = some x) : (k_bB W m h).1[q]? = some x := by
  unfold k_bB
  refine k_bBs_ne W 0 _ ?_
  rw [k_sI_s, k_load_sh, k_sI_s]
  exact hs
theorem k_bBs_I {m x : Nat} (hx : x < 70) : ∀ (n i : Nat) (h : k_H), k_LP h → (k_bBs m n i h).2.1 x = h.2.1 x
  | 0, _, _, _ => rfl
  | n + 1, i, _, L => by unfold k_bBs; exact (k_bBs_I hx n (i + 1) _ (k_LP_save L (Or.inl rfl))).trans (k_LP_I L (Or.inl rfl) hx)
theorem k_bB_5 {W m : Nat} {h : k_H} (L : k_LP h) : (k_bB W m h).2.1 35 5 = nI m := by
  have e := k_bBs_I (m := m) (x := 35) (by decide) W 0 _ (k_LP_sI (k_LP_load (p := 37) (j := m) (k_LP_sI L 35 5 (nI m))) 35 1 (nI W))
  unfold k_bB
  rw [e, k_sI_ne (Or.inr (by decide)), (k_load_out (Or.inr (by decide))).1]
  exact k_sI_self
set_option maxRecDepth 100000 in
theorem c_X10_image (l : Launch) (h : k_H) {m W : Nat} (hX : k_oX h.1) (L : k_LP h) (hm : m < 3) (hW : W ≤ 16) (hw : h.2.1 35 1 = nI W) (him : h.2.1 35 5 = nI m) (hall : ∀ j, j < W → ∃ q, h.2.2.2 36 j = some q) (hlen : h.1.length + 85 ≤ 1000000) : k_CG l yX10_image cX10_image 1 (some .int) 6 220 85 714 [.ref 0] h (fun v h' => v = some (.int (nI (m + 1))) ∧ h' = k_tI W m h) := by
  refine k_ofWG (by decide) (Nat.le_of_ble_eq_true rfl) ?_
  intro X ad hlX hR0 hr C hnm
  have hR : X.R.frames = 6 ∧ X.R.locals = 220 := by rw [hR0]; exact ⟨rfl, rfl⟩
  have hRc : X.R.cells = 85 := by rw [hR0]
  have hRs : X.R.slots = 714 := by rw [hR0]
  show k_W X 1 0 0 _ ad h 0 [some (.ref 0)] []
  refine r_aload_n C dX10_image_0 (rfl : 0 + 1 = 1) rfl ?_
  refine r_getR (q := 35) C dX10_image_1 (rfl : 1 + 3 = 4) fl_X10_67 hX.1 rfl ?_
  refine r_aload_n C dX10_image_4 (rfl : 4 + 1 = 5) rfl ?_
  refine r_getR (q := 26) C dX10_image_5 (rfl : 5 + 3 = 8) fl_X10_50 hX.1 rfl ?_
  refine c_VG (As := [.ref 26]) (st := []) (b := 35) C hR (k_csl hRc hRs rfl rfl) mv_X4_takeImage (k_me (tm3 (List.mem_of_getElem? (i := 105) rfl)) rfl) dX10_image_8 (rfl : 8 + 3 = 11) rfl rfl L.1.1 rfl (c_X4_takeImage X.l h L hm hW hw him hall hlen) rfl rfl rfl ⟨k_okv_of hX.1, True.intro⟩ True.intro ?_
  rintro v ad1 h1 ⟨rfl, rfl⟩ hsm1 C1
  change k_W X _ _ _ _ ad1 _ _ _ [.int 1]
  have X1 : (k_tI W m h).1[0]? = some k_s0 := k_tI_ne hX.1
  have P1 : (k_tI W m h).1[35]? = some k_s35 := k_tI_ne L.1.1
  refine r_if_eq (tgt := 24) C1 dX10_image_11 (by decide) (rfl : 11 + 3 = 14) (fun z => absurd z (by decide)) (fun _ => ?_)
  refine r_aload_n C1 dX10_image_14 (rfl : 14 + 1 = 15) rfl ?_
  refine r_getR (q := 35) C1 dX10_image_15 (rfl : 15 + 3 = 18) fl_X10_67 X1 rfl ?_
  refine r_getI (v := nI (m + 1)) C1 dX10_image_18 (rfl : 18 + 3 = 21) fl_X10_406 P1 rfl k_sI_self ?_
  refine r_goto (tgt := 25) C1 dX10_image_21 (by decide) ?_
  exact g_iret C1 hr (Nat.le_of_ble_eq_true rfl) (Nat.le_of_ble_eq_true rfl) ⟨rfl, rfl⟩ hsm1 dX10_image_25
set_option maxRecDepth 100000 in
theorem c_X10_image3 (l : Launch) (h : k_H) (hX : k_oX h.1) (L : k_LP h) (him : h.2.1 35 5 = nI 3) : k_CG l yX10_image cX10_image 1 (some .int) 6 220 85 714 [.ref 0] h (fun v h' => v = some (.int (-1)) ∧ h' = h) := by
  refine k_ofWG (by decide) (Nat.le_of_ble_eq_true rfl) ?_
  intro X ad hlX hR0 hr C hnm
  have hR : X.R.frames = 6 ∧ X.R.locals = 220 := by rw [hR0]; exact ⟨rfl, rfl⟩
  have hRc : X.R.cells = 85 := by rw [hR0]
  have hRs : X.R.slots = 714 := by rw [hR0]
  show k_W X 1 0 0 _ ad h 0 [some (.ref 0)] []
  refine r_aload_n C dX10_image_0 (rfl : 0 + 1 = 1) rfl ?_
  refine r_getR (q := 35) C dX10_image_1 (rfl : 1 + 3 = 4) fl_X10_67 hX.1 rfl ?_
  refine r_aload_n C dX10_image_4 (rfl : 4 + 1 = 5) rfl ?_
  refine r_getR (q := 26) C dX10_image_5 (rfl : 5 + 3 = 8) fl_X10_50 hX.1 rfl ?_
  refine c_VG (As := [.ref 26]) (st := []) (b := 35) C hR (k_csl hRc hRs rfl rfl) mv_X4_takeImage (k_me (tm3 (List.mem_of_getElem? (i := 105) rfl)) rfl) dX10_image_8 (rfl : 8 + 3 = 11) rfl rfl L.1.1 rfl (c_X4_takeImage3 X.l h L him) rfl rfl rfl ⟨k_okv_of hX.1, True.intro⟩ True.intro ?_
  rintro v ad1 h1 ⟨rfl, rfl⟩ hsm1 C1
  change k_W X _ _ _ _ ad1 _ _ _ [.int 0]
  refine r_if_eq (tgt := 24) C1 dX10_image_11 (by decide) (rfl : 11 + 3 = 14) (fun _ => ?_) (fun z => absurd rfl z)
  refine r_iconst (v := (-1 : Int32)) C1 dX10_image_24 (rfl : 24 + 1 = 25) rfl ?_
  exact g_iret C1 hr (Nat.le_of_ble_eq_true rfl) (Nat.le_of_ble_eq_true rfl) ⟨rfl, rfl⟩ hsm1 dX10_image_25
set_option maxRecDepth 100000 in
theorem c_X10_restore (l : Launch) (h : k_H) {m W : Nat} (hX : k_oX h.1) (L : k_LP h) (hm : m < 3) (hW : W ≤ 16) (him : h.2.1 35 5 = nI (m + 1)) (hiw : h.2.1 39 m = nI W) (hall : ∀ j, j < W → ∃ q, h.2.2.2 38 (16 * m + j) = some q) (hlen : h.1.length + 80 ≤ 1000000) : k_CG l yX10_restore cX10_restore 1 (some .int) 6 220 80 672 [.ref 0] h (fun v h' => v = some (.int (nI m)) ∧ h' = k_sI 0 14 0 (k_bB W m h)) := by
  refine k_ofWG (by decide) (Nat.le_of_ble_eq_true rfl) ?_
  intro X ad hlX hR0 hr C hnm
  have hR : X.R.frames = 6 ∧ X.R.locals = 220 := by rw [hR0]; exact ⟨rfl, rfl⟩
  have hRc : X.R.cells = 80 := by rw [hR0]
  have hRs : X.R.slots = 672 := by rw [hR0]
  show k_W X 1 0 0 _ ad h 0 [some (.ref 0)] []
  refine r_aload_n C dX10_restore_0 (rfl : 0 + 1 = 1) rfl ?_
  refine r_getR (q := 35) C dX10_restore_1 (rfl : 1 + 3 = 4) fl_X10_67 hX.1 rfl ?_
  refine r_getI (v := nI (m + 1)) C dX10_restore_4 (rfl : 4 + 3 = 7) fl_X10_406 L.1.1 rfl him ?_
  refine r_if_ne (tgt := 12) C dX10_restore_7 (by decide) (rfl : 7 + 3 = 10) (fun _ => ?_) (fun z => absurd (k_t3 m hm).2.2.2.2.2 (by have e : nI (m + 1) = 0 := (by first | exact z | exact Classical.byContradiction z); rw [e]; decide))
  refine r_aload_n C dX10_restore_12 (rfl : 12 + 1 = 13) rfl ?_
  refine r_getR (q := 35) C dX10_restore_13 (rfl : 13 + 3 = 16) fl_X10_67 hX.1 rfl ?_
  refine r_aload_n C dX10_restore_16 (rfl : 16 + 1 = 17) rfl ?_
  refine r_getR (q := 26) C dX10_restore_17 (rfl : 17 + 3 = 20) fl_X10_50 hX.1 rfl ?_
  refine c_VG (As := [.ref 26]) (st := []) (b := 35) C hR (k_csl hRc hRs rfl rfl) mv_X4_bringBack (k_me (tm3 (List.mem_of_getElem? (i := 117) rfl)) rfl) dX10_restore_20 (rfl : 20 + 3 = 23) rfl rfl L.1.1 rfl (c_X4_bringBack X.l h L hm hW him hiw hall hlen) rfl rfl rfl ⟨k_okv_of hX.1, True.intro⟩ True.intro ?_
  rintro v ad1 h1 ⟨rfl, rfl⟩ hsm1 C1
  change k_W X _ _ _ _ ad1 _ _ _ []
  have X1 : (k_bB W m h).1[0]? = some k_s0 := k_bB_ne hX.1
  have P1 : (k_bB W m h).1[35]? = some k_s35 := k_bB_ne L.1.1
  refine r_aload_n C1 dX10_restore_23 (rfl : 23 + 1 = 24) rfl ?_
  refine r_iconst (v := (0 : Int32)) C1 dX10_restore_24 (rfl : 24 + 1 = 25) rfl ?_
  refine r_putI C1 dX10_restore_25 (rfl : 25 + 3 = 28) fp_X10_139 X1 rfl ?_
  change k_W X _ _ _ _ ad1 (k_sI 0 14 0 (k_bB W m h)) _ _ _
  refine r_aload_n C1 dX10_restore_28 (rfl : 28 + 1 = 29) rfl ?_
  refine r_getR (q := 35) C1 dX10_restore_29 (rfl : 29 + 3 = 32) fl_X10_67 X1 rfl ?_
  refine r_getI (v := nI m) C1 dX10_restore_32 (rfl : 32 + 3 = 35) fl_X10_406 P1 rfl (by rw [k_sI_ne (Or.inl (by decide))]; exact k_bB_5 L) ?_
  exact g_iret C1 hr (Nat.le_of_ble_eq_true rfl) (Nat.le_of_ble_eq_true rfl) ⟨rfl, rfl⟩ hsm1 dX10_restore_35
set_option maxRecDepth 100000 in
theorem c_X10_restore0 (l : Launch) (h : k_H) (hX : k_oX h.1) (L : k_LP h) (him : h.2.1 35 5 = 0) : k_CG l yX10_restore cX10_restore 1 (some .int) 6 220 80 672 [.ref 0] h (fun v h' => v = some (.int (-1)) ∧ h' = h) := by
  refine k_ofWG (by decide) (Nat.le_of_ble_eq_true rfl) ?_
  intro X ad hlX hR0 hr C hnm
  have hR : X.R.frames = 6 ∧ X.R.locals = 220 := by rw [hR0]; exact ⟨rfl, rfl⟩
  have hRc : X.R.cells = 80 := by rw [hR0]
  have hRs : X.R.slots = 672 := by rw [hR0]
  show k_W X 1 0 0 _ ad h 0 [some (.ref 0)] []
  refine r_aload_n C dX10_restore_0 (rfl : 0 + 1 = 1) rfl ?_
  refine r_getR (q := 35) C dX10_restore_1 (rfl : 1 + 3 = 4) fl_X10_67 hX.1 rfl ?_
  refine r_getI (v := (0 : Int32)) C dX10_restore_4 (rfl : 4 + 3 = 7) fl_X10_406 L.1.1 rfl him ?_
  refine r_if_ne (tgt := 12) C dX10_restore_7 (by decide) (rfl : 7 + 3 = 10) (fun z => absurd rfl z) (fun _ => ?_)
  refine r_iconst (v := (-1 : Int32)) C dX10_restore_10 (rfl : 10 + 1 = 11) rfl ?_
  exact g_iret C hr (Nat.le_of_ble_eq_true rfl) (Nat.le_of_ble_eq_true rfl) ⟨rfl, rfl⟩ (k_sm_rf _ _) dX10_restore_11
