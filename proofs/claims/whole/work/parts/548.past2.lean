theorem ms_X4_save : k_MS yX4_save cX4_save 3 none 3 := ⟨(k_me (tm3 (List.mem_of_getElem? (i := 110) rfl)) rfl), (k_me (tm1 (List.mem_of_getElem? (i := 8) rfl)) rfl), (k_me (tm3 (List.mem_of_getElem? (i := 111) rfl)) rfl), by decide, by decide, by decide +kernel⟩
theorem ms_X4_load : k_MS yX4_load cX4_load 3 none 3 := ⟨(k_me (tm3 (List.mem_of_getElem? (i := 33) rfl)) rfl), (k_me (tm1 (List.mem_of_getElem? (i := 8) rfl)) rfl), (k_me (tm3 (List.mem_of_getElem? (i := 34) rfl)) rfl), by decide, by decide, by decide +kernel⟩
theorem mv_X4_takeBack : k_MV yX4_takeBack cX4_takeBack 2 none 1 := ⟨(k_me (tm3 (List.mem_of_getElem? (i := 29) rfl)) rfl), (k_me (tm3 (List.mem_of_getElem? (i := 30) rfl)) rfl), (k_me (tm1 (List.mem_of_getElem? (i := 8) rfl)) rfl), (k_me (tm3 (List.mem_of_getElem? (i := 31) rfl)) rfl), by decide, by decide, by decide +kernel⟩
theorem fl_X4_11 : k_FL RX4 11 4 0 := ⟨_, _, _, rfl, in_X4, by decide, Or.inl (k_me (tm2 (List.mem_of_getElem? (i := 74) rfl)) rfl)⟩
/-! THE PAST, the class's callers -/
def k_s35 : k_Sh := (0, 4, [39, 0, 40, 41, 42, 0])
/-- the past of the class's object: it, its rows -/
def k_pX (sh : List k_Sh) : Prop := sh[35]? = some k_s35 ∧ sh[36]? = some (5, 16, []) ∧ sh[37]? = some (5, 3, []) ∧ sh[38]? = some (5, 48, []) ∧ sh[39]? = some (1, 3, [])
theorem k_pX_le {sh sh' : List k_Sh} (B : k_pX sh) (h : ∀ (q : Nat) (x : k_Sh), sh[q]? = some x → sh'[q]? = some x) : k_pX sh' := ⟨h _ _ B.1, h _ _ B.2.1, h _ _ B.2.2.1, h _ _ B.2.2.2.1, h _ _ B.2.2.2.2⟩
theorem k_cpM_out {h : k_H} {b a x : Nat} (hx : x < b ∨ b + 4 < x) : (k_cpM b a h).2.1 x = h.2.1 x ∧ (k_cpM b a h).2.2.1 x = h.2.2.1 x := by
  have e := k_ap_out (p := x) (k_cpU b a h) h (fun u hu => by
    simp only [k_cpU, List.mem_cons, List.not_mem_nil, or_false] at hu
    rcases hu with rfl | rfl | rfl | rfl | rfl | rfl | rfl | rfl | rfl | rfl | rfl | rfl | rfl | rfl | rfl <;> dsimp only <;> omega)
  exact ⟨e.1, e.2.1⟩
theorem k_nm_out {h : k_H} {x : Nat} (hx : x < h.1.length) : (k_nm h).2.1 x = h.2.1 x ∧ (k_nm h).2.2.1 x = h.2.2.1 x := by
  have e : ∀ q, h.1.length ≤ q → x ≠ q := fun q hq => by omega
  have e1 : h.1.length ≤ h.1.length := Nat.le_refl _
  refine ⟨?_, ?_⟩
  · show k_ua (k_ua (k_ua (k_ua (k_ua h.2.1 _ _) _ _) _ _) _ _) _ _ x = _
    rw [k_ua_ne, k_ua_ne, k_ua_ne, k_ua_ne, k_ua_ne]
    · exact e _ (Nat.le_refl _)
    · exact e _ (by show _ ≤ (k_gr _ h).1.length; rw [k_gr_len]; omega)
    · exact e _ (by show _ ≤ (k_nf _ _ _ _ _).1.length; simp only [i_X3_1, i_X3_2, i_X3_3, k_nf_len, k_gr_len]; omega)
    · exact e _ (by show _ ≤ (k_nf _ _ _ _ _).1.length; simp only [i_X3_1, i_X3_2, i_X3_3, k_nf_len, k_gr_len]; omega)
    · exact e _ (by show _ ≤ (k_nf _ _ _ _ _).1.length; simp only [i_X3_1, i_X3_2, i_X3_3, k_nf_len, k_gr_len]; omega)
  · show k_ua (k_ua (k_ua (k_ua (k_ua h.2.2.1 _ _) _ _) _ _) _ _) _ _ x = _
    rw [k_ua_ne, k_ua_ne, k_ua_ne, k_ua_ne, k_ua_ne]
    · exact e _ (Nat.le_refl _)
    · exact e _ (by show _ ≤ (k_gr _ h).1.length; rw [k_gr_len]; omega)
    · exact e _ (by show _ ≤ (k_nf _ _ _ _ _).1.length; simp only [i_X3_1, i_X3_2, i_X3_3, k_nf_len, k_gr_len]; omega)
    · exact e _ (by show _ ≤ (k_nf _ _ _ _ _).1.length; simp only [i_X3_1, i_X3_2, i_X3_3, k_nf_len, k_gr_len]; omega)
    · exact e _ (by show _ ≤ (k_nf _ _ _ _ _).1.length; simp only [i_X3_1, i_X3_2, i_X3_3, k_nf_len, k_gr_len]; omega)
theorem k_tw_out {h : k_H} {a x : Nat} (hx : x < h.1.length) : (k_tw a h).2.1 x = h.2.1 x ∧ (k_tw a h).2.2.1 x = h.2.2.1 x := by
  have e1 := k_cpM_out (h := k_nm h) (b := h.1.length) (a := a) (x := x) (Or.inl hx)
  have e2 := k_nm_out hx
  exact ⟨e1.1.trans e2.1, e1.2.trans e2.2⟩
theorem k_uR_I (p j q : Nat) (h : k_H) : (k_uR p j q h).2.1 = h.2.1 := rfl
theorem k_uR_L (p j q : Nat) (h : k_H) : (k_uR p j q h).2.2.1 = h.2.2.1 := rfl
theorem k_save_out {h : k_H} {p j a x : Nat} (hx : x < h.1.length) (hq : ∀ q, h.2.2.2 p j = some q → x < q ∨ q + 4 < x) : (k_save p j a h).2.1 x = h.2.1 x ∧ (k_save p j a h).2.2.1 x = h.2.2.1 x := by
  unfold k_save
  cases hz : h.2.2.2 p j with
  | none => dsimp only; rw [k_uR_I, k_uR_L]; exact k_tw_out (a := a) hx
  | some q => dsimp only; exact k_cpM_out (hq q hz)
theorem k_PS_q {h : k_H} (S : k_PS h) {p j q a : Nat} (hp : p = 36 ∨ p = 37 ∨ p = 38) (ha : a + 4 < 70) (hz : h.2.2.2 p j = some q) : k_mA h.1 q ∧ 25 < q ∧ (q + 4 < a ∨ a + 4 < q) := by
  obtain ⟨s1, s2⟩ := S.1 p j q hp hz
  exact ⟨s1, by omega, Or.inr (by omega)⟩
theorem k_PS_sI {h : k_H} (S : k_PS h) (p k : Nat) (v : Int32) : k_PS (k_sI p k v h) := S
set_option maxRecDepth 100000 in
theorem c_X4_keep (l : Launch) (h : k_H) {w : Int32} {j : Nat} (P : k_pX h.1) (Bs : k_base h.1) (S : k_PS h) (ha : k_mA h.1 26) (hw : h.2.1 35 1 = w) (hw0 : ¬ w < 0) (hw16 : w < 16) (hj : w.toNatClampNeg = j) (hj16 : j < 16) (hlen : h.1.length + 5 ≤ 1000000) : k_CG l yX4_keep cX4_keep 2 none 5 180 5 42 [.ref 35, .ref 26] h (fun v h' => v = none ∧ h' = k_sI 35 1 (w + 1) (k_save 36 j 26 h)) := by
  refine k_ofWG (by decide) (Nat.le_of_ble_eq_true rfl) ?_
  intro X ad hlX hR0 hr C hnm
  have hR : X.R.frames = 5 ∧ X.R.locals = 180 := by rw [hR0]; exact ⟨rfl, rfl⟩
  have hRc : X.R.cells = 5 := by rw [hR0]
  have hRs : X.R.slots = 42 := by rw [hR0]
  show k_W X 2 0 0 _ ad h 0 [some (.ref 35), some (.ref 26)] []
  refine r_aload_n C dX4_keep_0 (rfl : 0 + 1 = 1) rfl ?_
  refine r_getI (v := w) C dX4_keep_1 (rfl : 1 + 3 = 4) fl_X4_25 P.1 rfl hw ?_
  refine r_bipush (v := (16 : Int32)) C dX4_keep_4 (rfl : 4 + 2 = 6) rfl ?_
  refine r_icmp_ge (tgt := 31) C dX4_keep_6 (by decide) (rfl : 6 + 3 = 9) (fun z => absurd hw16 (Int32.not_lt.mpr z)) (fun _ => ?_)
  refine r_aload_n C dX4_keep_9 (rfl : 9 + 1 = 10) rfl ?_
  refine r_getR (q := 36) C dX4_keep_10 (rfl : 10 + 3 = 13) fl_X4_11 P.1 rfl ?_
  refine r_aload_n C dX4_keep_13 (rfl : 13 + 1 = 14) rfl ?_
  refine r_getI (v := w) C dX4_keep_14 (rfl : 14 + 3 = 17) fl_X4_25 P.1 rfl hw ?_
  refine r_aload_n C dX4_keep_17 (rfl : 17 + 1 = 18) rfl ?_
  refine c_SG (As := [.ref 36, .int w, .ref 26]) (st := []) C hR (k_csl hRc hRs rfl rfl) ms_X4_save (k_me (tm3 (List.mem_of_getElem? (i := 109) rfl)) rfl) dX4_keep_18 (rfl : 18 + 3 = 21) rfl rfl (c_X4_save X.l h P.2.1 (fun z => z.elim hw0 (fun y => by omega)) hw16 hj Bs ha (by omega) (fun q hz => k_PS_q S (Or.inl rfl) (by omega) hz) hlen) rfl rfl rfl ⟨k_okv_of P.1, k_okv_of ha.1, True.intro⟩ True.intro ?_
  rintro v ad1 h1 ⟨rfl, rfl⟩ hsm1 C1
  have P1 := k_pX_le P (fun q x hx => k_save_ne (p := 36) (j := j) (a := 26) hx)
  have hw1 : (k_save 36 j 26 h).2.1 35 1 = w := by rw [(k_save_out (x := 35) (k_lt_of P.1) (fun q hz => Or.inl (by have := (S.1 36 j q (Or.inl rfl) hz).2; omega))).1]; exact hw
  change k_W X _ _ _ _ ad1 _ _ _ []
  refine r_aload_n C1 dX4_keep_21 (rfl : 21 + 1 = 22) rfl ?_
  refine r_dup C1 dX4_keep_22 (rfl : 22 + 1 = 23) rfl ?_
  refine r_getI (v := w) C1 dX4_keep_23 (rfl : 23 + 3 = 26) fl_X4_25 P1.1 rfl hw1 ?_
  refine r_iconst (v := (1 : Int32)) C1 dX4_keep_26 (rfl : 26 + 1 = 27) rfl ?_
  refine r_iadd C1 dX4_keep_27 (rfl : 27 + 1 = 28) ?_
  refine r_putI C1 dX4_keep_28 (rfl : 28 + 3 = 31) fp_X4_25 P1.1 rfl ?_
  exact g_vret C1 hr (Nat.le_of_ble_eq_true rfl) (Nat.le_of_ble_eq_true rfl) ⟨rfl, rfl⟩ hsm1 dX4_keep_31
set_option maxRecDepth 100000 in
theorem c_X4_takeBack (l : Launch) (h : k_H) {w : Int32} {j : Nat} (P : k_pX h.1) (Bs : k_base h.1) (S : k_PS h) (ha : k_mA h.1 26) (hw : h.2.1 35 1 = w) (hw1 : 0 < w) (hw0 : ¬ w - 1 < 0) (hw16 : w - 1 < 16) (hj : (w - 1).toNatClampNeg = j) (hj16 : j < 16) : k_CG l yX4_takeBack cX4_takeBack 2 none 3 110 0 0 [.ref 35, .ref 26] h (fun v h' => v = none ∧ h' = k_load 36 j 26 (k_sI 35 1 (w - 1) h)) := by
  refine k_ofWG (by decide) (Nat.le_of_ble_eq_true rfl) ?_
  intro X ad hlX hR0 hr C hnm
  have hR : X.R.frames = 3 ∧ X.R.locals = 110 := by rw [hR0]; exact ⟨rfl, rfl⟩
  have hRc : X.R.cells = 0 := by rw [hR0]
  have hRs : X.R.slots = 0 := by rw [hR0]
  show k_W X 2 0 0 _ ad h 0 [some (.ref 35), some (.ref 26)] []
  refine r_aload_n C dX4_takeBack_0 (rfl : 0 + 1 = 1) rfl ?_
  refine r_getI (v := w) C dX4_takeBack_1 (rfl : 1 + 3 = 4) fl_X4_25 P.1 rfl hw ?_
  refine r_if_le (tgt := 29) C dX4_takeBack_4 (by decide) (rfl : 4 + 3 = 7) (fun z => absurd hw1 (Int32.not_lt.mpr z)) (fun _ => ?_)
  refine r_aload_n C dX4_takeBack_7 (rfl : 7 + 1 = 8) rfl ?_
  refine r_dup C dX4_takeBack_8 (rfl : 8 + 1 = 9) rfl ?_
  refine r_getI (v := w) C dX4_takeBack_9 (rfl : 9 + 3 = 12) fl_X4_25 P.1 rfl hw ?_
  refine r_iconst (v := (1 : Int32)) C dX4_takeBack_12 (rfl : 12 + 1 = 13) rfl ?_
  refine r_isub C dX4_takeBack_13 (rfl : 13 + 1 = 14) ?_
  refine r_putI C dX4_takeBack_14 (rfl : 14 + 3 = 17) fp_X4_25 P.1 rfl ?_
  change k_W X _ _ _ _ ad (k_sI 35 1 (w - 1) h) _ _ _
  have hww : (k_sI 35 1 (w - 1) h).2.1 35 1 = w - 1 := by show k_u h.2.1 35 1 (w - 1) 35 1 = _; unfold k_u; rw [if_pos rfl, if_pos rfl]
  refine r_aload_n C dX4_takeBack_17 (rfl : 17 + 1 = 18) rfl ?_
  refine r_getR (q := 36) C dX4_takeBack_18 (rfl : 18 + 3 = 21) fl_X4_11 (show (k_sI 35 1 (w - 1) h).1[35]? = some k_s35 from P.1) rfl ?_
  refine r_aload_n C dX4_takeBack_21 (rfl : 21 + 1 = 22) rfl ?_
  refine r_getI (v := (w - 1)) C dX4_takeBack_22 (rfl : 22 + 3 = 25) fl_X4_25 (show (k_sI 35 1 (w - 1) h).1[35]? = some k_s35 from P.1) rfl hww ?_
  refine r_aload_n C dX4_takeBack_25 (rfl : 25 + 1 = 26) rfl ?_
  refine c_SG (As := [.ref 36, .int (w - 1), .ref 26]) (st := []) C hR (k_csl hRc hRs rfl rfl) ms_X4_load (k_me (tm3 (List.mem_of_getElem? (i := 32) rfl)) rfl) dX4_takeBack_26 (rfl : 26 + 3 = 29) rfl rfl (c_X4_load X.l (k_sI 35 1 (w - 1) h) P.2.1 (fun z => z.elim hw0 (fun y => by omega)) hw16 hj Bs ha (by omega) (fun q hz => k_PS_q S (Or.inl rfl) (by omega) hz)) rfl rfl rfl ⟨k_okv_of P.1, k_okv_of ha.1, True.intro⟩ True.intro ?_
  rintro v ad1 h1 ⟨rfl, rfl⟩ hsm1 C1
  exact g_vret C1 hr (Nat.le_of_ble_eq_true rfl) (Nat.le_of_ble_eq_true rfl) ⟨rfl, rfl⟩ hsm1 dX4_takeBack_29
/-- the class's object itself -/
def k_s0 : k_Sh := (0, 10, [4, 6, 13, 20, 23, 26, 29, 34, 38, 43, 61, 64, 70, 72, 0])
def k_oX (sh : List k_Sh) : Prop := sh[0]? = some k_s0 ∧ k_mA sh 26
theorem k_oX_le {sh sh' : List k_Sh} (B : k_oX sh) (h : ∀ (q : Nat) (x : k_Sh), sh[q]? = some x → sh'[q]? = some x) : k_oX sh' := ⟨h _ _ B.1, k_mA_le B.2 h⟩
theorem k_load_sh (p j a : Nat) (h : k_H) : (k_load p j a h).1 = h.1 := by
  unfold k_load
  cases h.2.2.2 p j with
  | none => rfl
  | some q => exact k_cpM_sh _ _ _
theorem k_load_out {h : k_H} {p j a x : Nat} (hx : x < a ∨ a + 4 < x) : (k_load p j a h).2.1 x = h.2.1 x ∧ (k_load p j a h).2.2.1 x = h.2.2.1 x := by
  unfold k_load
  cases h.2.2.2 p j with
  | none => exact ⟨rfl, rfl⟩
  | some q => exact k_cpM_out hx
theorem k_sI_self {h : k_H} {p k : Nat} {v : Int32} : (k_sI p k v h).2.1 p k = v := by show k_u h.2.1 p k v p k = v; unfold k_u; rw [if_pos rfl, if_pos rfl]
theorem k_sI_ne {h : k_H} {p k q j : Nat} {v : Int32} (hne : q ≠ p ∨ j ≠ k) : (k_sI p k v h).2.1 q j = h.2.1 q j := by
  show k_u h.2.1 p k v q j = _
  unfold k_u
  by_cases e1 : q = p
  · rw [if_pos e1, if_neg (hne.resolve_left (fun z => z e1))]
  · rw [if_neg e1]
set_option maxRecDepth 100000 in
theorem c_X10_undo (l : Launch) (h : k_H) {w : Int32} {j : Nat} (hX : k_oX h.1) (P : k_pX h.1) (Bs : k_base h.1) (S : k_PS h) (hw : h.2.1 35 1 = w) (hw1 : 0 < w) (hw0 : ¬ w - 1 < 0) (hw16 : w - 1 < 16) (hj : (w - 1).toNatClampNeg = j) (hj16 : j < 16) : k_CG l yX10_undo cX10_undo 1 (some .int) 4 150 0 0 [.ref 0] h (fun v h' => v = some (.int (w - 1)) ∧ h' = k_sI 0 14 0 (k_load 36 j 26 (k_sI 35 1 (w - 1) h))) := by
  refine k_ofWG (by decide) (Nat.le_of_ble_eq_true rfl) ?_
  intro X ad hlX hR0 hr C hnm
  have hR : X.R.frames = 4 ∧ X.R.locals = 150 := by rw [hR0]; exact ⟨rfl, rfl⟩
  have hRc : X.R.cells = 0 := by rw [hR0]
  have hRs : X.R.slots = 0 := by rw [hR0]
  show k_W X 1 0 0 _ ad h 0 [some (.ref 0)] []
  refine r_aload_n C dX10_undo_0 (rfl : 0 + 1 = 1) rfl ?_
  refine r_getR (q := 35) C dX10_undo_1 (rfl : 1 + 3 = 4) fl_X10_67 hX.1 rfl ?_
  refine r_getI (v := w) C dX10_undo_4 (rfl : 4 + 3 = 7) fl_X10_183 P.1 rfl hw ?_
  refine r_if_ne (tgt := 12) C dX10_undo_7 (by decide) (rfl : 7 + 3 = 10) (fun _ => ?_) (fun z => absurd hw1 (by have e : w = 0 := (by first | exact z | exact Classical.byContradiction z); rw [e]; decide))
  refine r_aload_n C dX10_undo_12 (rfl : 12 + 1 = 13) rfl ?_
  refine r_getR (q := 35) C dX10_undo_13 (rfl : 13 + 3 = 16) fl_X10_67 hX.1 rfl ?_
  refine r_aload_n C dX10_undo_16 (rfl : 16 + 1 = 17) rfl ?_
  refine r_getR (q := 26) C dX10_undo_17 (rfl : 17 + 3 = 20) fl_X10_50 hX.1 rfl ?_
  refine c_VG (As := [.ref 26]) (st := []) (b := 35) C hR (k_csl hRc hRs rfl rfl) mv_X4_takeBack (k_me (tm3 (List.mem_of_getElem? (i := 28) rfl)) rfl) dX10_undo_20 (rfl : 20 + 3 = 23) rfl rfl P.1 rfl (c_X4_takeBack X.l h P Bs S hX.2 hw hw1 hw0 hw16 hj hj16) rfl rfl rfl ⟨k_okv_of hX.1, True.intro⟩ True.intro ?_
  rintro v ad1 h1 ⟨rfl, rfl⟩ hsm1 C1
  change k_W X _ _ _ _ ad1 _ _ _ []
  have X1 : (k_load 36 j 26 (k_sI 35 1 (w - 1) h)).1[0]? = some k_s0 := by rw [k_load_sh]; exact hX.1
  have P1 : (k_load 36 j 26 (k_sI 35 1 (w - 1) h)).1[35]? = some k_s35 := by rw [k_load_sh]; exact P.1
  refine r_aload_n C1 dX10_undo_23 (rfl : 23 + 1 = 24) rfl ?_
  refine r_iconst (v := (0 : Int32)) C1 dX10_undo_24 (rfl : 24 + 1 = 25) rfl ?_
  refine r_putI C1 dX10_undo_25 (rfl : 25 + 3 = 28) fp_X10_139 X1 rfl ?_
  change k_W X _ _ _ _ ad1 (k_sI 0 14 0 (k_load 36 j 26 (k_sI 35 1 (w - 1) h))) _ _ _
  refine r_aload_n C1 dX10_undo_28 (rfl : 28 + 1 = 29) rfl ?_
  refine r_getR (q := 35) C1 dX10_undo_29 (rfl : 29 + 3 = 32) fl_X10_67 X1 rfl ?_
  refine r_getI (v := (w - 1)) C1 dX10_undo_32 (rfl : 32 + 3 = 35) fl_X10_183 P1 rfl (by rw [k_sI_ne (Or.inl (by decide)), (k_load_out (Or.inr (by decide))).1]; exact k_sI_self) ?_
  exact g_iret C1 hr (Nat.le_of_ble_eq_true rfl) (Nat.le_of_ble_eq_true rfl) ⟨rfl, rfl⟩ hsm1 dX10_undo_35
theorem c_X10_undo0 (l : Launch) (h : k_H) (hX : k_oX h.1) (P : k_pX h.1) (hw : h.2.1 35 1 = 0) : k_CG l yX10_undo cX10_undo 1 (some .int) 4 150 0 0 [.ref 0] h (fun v h' => v = some (.int (-1)) ∧ h' = h) := by
  refine k_ofWG (by decide) (Nat.le_of_ble_eq_true rfl) ?_
  intro X ad hlX hR0 hr C hnm
  have hR : X.R.frames = 4 ∧ X.R.locals = 150 := by rw [hR0]; exact ⟨rfl, rfl⟩
  have hRc : X.R.cells = 0 := by rw [hR0]
  have hRs : X.R.slots = 0 := by rw [hR0]
  show k_W X 1 0 0 _ ad h 0 [some (.ref 0)] []
  refine r_aload_n C dX10_undo_0 (rfl : 0 + 1 = 1) rfl ?_
  refine r_getR (q := 35) C dX10_undo_1 (rfl : 1 + 3 = 4) fl_X10_67 hX.1 rfl ?_
  refine r_getI (v := (0 : Int32)) C dX10_undo_4 (rfl : 4 + 3 = 7) fl_X10_183 P.1 rfl hw ?_
  refine r_if_ne (tgt := 12) C dX10_undo_7 (by decide) (rfl : 7 + 3 = 10) (fun z => absurd rfl z) (fun _ => ?_)
  refine r_iconst (v := (-1 : Int32)) C dX10_undo_10 (rfl : 10 + 1 = 11) rfl ?_
  exact g_iret C hr (Nat.le_of_ble_eq_true rfl) (Nat.le_of_ble_eq_true rfl) ⟨rfl, rfl⟩ (k_sm_rf _ _) dX10_undo_11
