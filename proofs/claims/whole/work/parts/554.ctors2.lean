theorem ff_X0_13 : k_FF RX0 13 0 0 := ⟨_, _, _, tyX0, _, rfl, in_X0, tyX0_ok, nmX0, by decide, rfl, rfl, tyX0_ok 0 (by decide), fun _ => ⟨rfl, rfl⟩, (k_me (tm2 (List.mem_of_getElem? (i := 164) rfl)) rfl)⟩
theorem ff_X9_9 : k_FF RX9 9 9 1 := ⟨_, _, _, tyX9, _, rfl, in_X9, tyX9_ok, nmX9, by decide, rfl, rfl, tyX9_ok 1 (by decide), fun _ => ⟨rfl, rfl⟩, (k_me (tm2 (List.mem_of_getElem? (i := 144) rfl)) rfl)⟩
theorem ff_X9_15 : k_FF RX9 15 9 2 := ⟨_, _, _, tyX9, _, rfl, in_X9, tyX9_ok, nmX9, by decide, rfl, rfl, tyX9_ok 2 (by decide), fun _ => ⟨rfl, rfl⟩, (k_me (tm2 (List.mem_of_getElem? (i := 145) rfl)) rfl)⟩
theorem ff_X9_18 : k_FF RX9 18 9 0 := ⟨_, _, _, tyX9, _, rfl, in_X9, tyX9_ok, nmX9, by decide, rfl, rfl, tyX9_ok 0 (by decide), fun _ => ⟨rfl, rfl⟩, (k_me (tm2 (List.mem_of_getElem? (i := 143) rfl)) rfl)⟩
/-! CONSTRUCTORS THAT CALL -/
def i_X0 (p q0 : Nat) (h : k_H) : k_H := k_st1 p (0, 0, [h.1.length + 3, 0, 0, 0, 0]) (k_tw q0 h)
set_option maxRecDepth 100000 in
theorem c_X0_init (l : Launch) (h : k_H) {p q0 : Nat} (hs : h.1[p]? = some (0, 0, [2, 0, 0, 0, 0])) (Bs : k_base h.1) (ha : k_mA h.1 q0) (ha2 : 25 < q0) (hlen : h.1.length + 5 ≤ 1000000) : k_CG l yX0_init cX0_init 2 none 4 130 5 42 [.ref p, .ref q0] h (fun v h' => v = none ∧ h' = i_X0 p q0 h) := by
  refine k_ofWG (by decide) (Nat.le_of_ble_eq_true rfl) ?_
  intro X ad hlX hR0 hr C hnm
  have hR : X.R.frames = 4 ∧ X.R.locals = 130 := by rw [hR0]; exact ⟨rfl, rfl⟩
  have hRc : X.R.cells = 5 := by rw [hR0]
  have hRs : X.R.slots = 42 := by rw [hR0]
  show k_W X 2 0 0 _ ad h 0 [some (.ref p), some (.ref q0)] []
  refine r_aload_n C dX0_init_0 (rfl : 0 + 1 = 1) rfl ?_
  refine r_objinit C hR dX0_init_1 (rfl : 1 + 3 = 4) (k_me (tm2 (List.mem_of_getElem? (i := 162) rfl)) rfl) rfl rfl ?_
  refine r_aload_n C dX0_init_4 (rfl : 4 + 1 = 5) rfl ?_
  refine r_aload_n C dX0_init_5 (rfl : 5 + 1 = 6) rfl ?_
  refine c_VG (As := []) (st := [.ref p]) (b := q0) C hR (k_csl hRc hRs rfl rfl) mv_X3_twin (k_me (tm2 (List.mem_of_getElem? (i := 163) rfl)) rfl) dX0_init_6 (rfl : 6 + 3 = 9) rfl rfl ha.1 rfl (c_twin X.l h Bs ha ha2 hlen) rfl rfl rfl ⟨k_okv_of hs, k_okv_of ha.1, True.intro⟩ ⟨k_okv_of hs, True.intro⟩ ?_
  rintro v ad1 h1 ⟨rfl, rfl⟩ hsm1 C1
  change k_W X _ _ _ _ ad1 _ _ _ [.ref h.1.length, .ref p]
  refine g_setR (sl' := [h.1.length + 3, 0, 0, 0, 0]) C1 hnm dX0_init_9 (rfl : 9 + 3 = 12) ff_X0_13 (k_tw_ne hs) (Nat.le_of_ble_eq_true rfl) (k_lt_of (k_tw_mA q0 h).1) rfl ?_
  exact g_vret C1 hr (Nat.le_of_ble_eq_true rfl) (Nat.le_of_ble_eq_true rfl) ⟨rfl, rfl⟩ hsm1 dX0_init_12
def i_X9_1 (p q0 n : Nat) (h : k_H) : k_H := k_nf p 9 [2, n + 3, 2, 0] (1, 8, []) h
def i_X9_2 (p q0 n : Nat) (h : k_H) : k_H := k_nf p 9 [2, n + 3, n + 1 + 3, 0] (1, 8, []) (i_X9_1 p q0 n h)
def i_X9_3 (p q0 n : Nat) (h : k_H) : k_H := k_st1 p (0, 9, [q0 + 3, n + 3, n + 1 + 3, 0]) (i_X9_2 p q0 n h)
def i_X9 (p q0 n : Nat) (h : k_H) : k_H := i_X9_3 p q0 n h
theorem k_ck1 {n m : Nat} {sh : List k_Sh} (h : sh[n]? = some (1, m, [])) : k_ck [n] (shArr m) sh = true := by
  refine k_ck_mk rfl rfl ?_ ?_
  · simp only [va_nd, List.not_mem_nil, not_false_eq_true, decide_true, Bool.and_true]
  · intro i s hs
    match i, hs with
    | 0, hs => cases hs; exact ⟨h, rfl⟩
    | i + 1, hs => exact absurd hs (by simp [shArr])
def j_X9 (p q0 n : Nat) (out : Nat → Int32) (h : k_H) : k_H := k_ap [(n, .inr (.inr (.inl out)))] (i_X9_3 p q0 n h)
set_option maxRecDepth 10000 in
theorem c_X9_init (l : Launch) (u : Nat) (h : k_H) {p n : Nat} (hs : h.1[p]? = some (0, 9, [2, 2, 2, 0])) {q0 : Nat} {s0 : k_Sh} (hq0 : h.1[q0]? = some s0) (hn0 : p ≠ q0) (hl : h.1.length = n) (hlen : n + 2 ≤ 1000000) {out : Nat → Int32} (hf : f_J7_fill_53178 u 8 ((i_X9_3 p q0 n h).2.1 n) (-1) = some out) : k_CG l yX9_init cX9_init 2 none 3 80 2 16 [.ref p, .ref q0] h (fun v h' => v = none ∧ h' = j_X9 p q0 n out h) := by
  refine k_ofWG (by decide) (Nat.le_of_ble_eq_true rfl) ?_
  intro X ad hlX hR0 hr C hnm
  have hR : X.R.frames = 3 ∧ X.R.locals = 80 := by rw [hR0]; exact ⟨rfl, rfl⟩
  have hRc : X.R.cells = 2 := by rw [hR0]
  have hRs : X.R.slots = 16 := by rw [hR0]
  show k_W X 2 0 0 _ ad h 0 [some (.ref p), some (.ref q0)] []
  refine r_aload_n C dX9_init_0 (rfl : 0 + 1 = 1) rfl ?_
  refine r_objinit C hR dX9_init_1 (rfl : 1 + 3 = 4) (k_me (tm2 (List.mem_of_getElem? (i := 141) rfl)) rfl) rfl rfl ?_
  refine r_aload_n C dX9_init_4 (rfl : 4 + 1 = 5) rfl ?_
  refine r_bipush (v := (8 : Int32)) C dX9_init_5 (rfl : 5 + 2 = 7) rfl ?_
  refine g_nfI (sl' := [2, n + 3, 2, 0]) C hnm ff_X9_9 hs hl rfl (Nat.le_of_ble_eq_true rfl) dX9_init_7 dX9_init_9 (rfl : 7 + 5 = 12) (by decide) rfl (by decide) (k_csl hRc hRs rfl rfl) (by omega) ⟨k_okv_of hs, k_okv_of hq0, True.intro⟩ True.intro ?_
  intro ad0 hsm0 C0
  have hs0 : (i_X9_1 p q0 n h).1[p]? = some (0, 9, [2, n + 3, 2, 0]) := k_nf_at hs
  have hl0 : (i_X9_1 p q0 n h).1.length = n + 1 := by show (k_nf _ _ _ _ _).1.length = _; rw [k_nf_len, hl]
  have he0 : h.1.length ≤ (i_X9_1 p q0 n h).1.length := by rw [hl0, hl]; omega
  have hq0_0 : (i_X9_1 p q0 n h).1[q0]? = some s0 := k_nf_ne hn0 hq0
  refine r_aload_n C0 dX9_init_12 (rfl : 12 + 1 = 13) rfl ?_
  refine r_bipush (v := (8 : Int32)) C0 dX9_init_13 (rfl : 13 + 2 = 15) rfl ?_
  refine g_nfI (sl' := [2, n + 3, n + 1 + 3, 0]) C0 hnm ff_X9_15 hs0 hl0 rfl (Nat.le_of_ble_eq_true rfl) dX9_init_15 dX9_init_17 (rfl : 15 + 5 = 20) (by decide) rfl (by decide) (k_csl hRc hRs rfl rfl) (by omega) ⟨k_okv_of hs0, k_okv_of hq0_0, True.intro⟩ True.intro ?_
  intro ad1 hsm1 C1
  have hs1 : (i_X9_2 p q0 n h).1[p]? = some (0, 9, [2, n + 3, n + 1 + 3, 0]) := k_nf_at hs0
  have hl1 : (i_X9_2 p q0 n h).1.length = n + 2 := by show (k_nf _ _ _ _ _).1.length = _; rw [k_nf_len, hl0]
  have he1 : h.1.length ≤ (i_X9_2 p q0 n h).1.length := by rw [hl1, hl]; omega
  have hq0_1 : (i_X9_2 p q0 n h).1[q0]? = some s0 := k_nf_ne hn0 hq0_0
  refine r_aload_n C1 dX9_init_20 (rfl : 20 + 1 = 21) rfl ?_
  refine r_aload_n C1 dX9_init_21 (rfl : 21 + 1 = 22) rfl ?_
  refine g_setR (sl' := [q0 + 3, n + 3, n + 1 + 3, 0]) C1 hnm dX9_init_22 (rfl : 22 + 3 = 25) ff_X9_18 hs1 (Nat.le_of_ble_eq_true rfl) (k_lt_of hq0_1) rfl ?_
  have hs_r22 : (i_X9_3 p q0 n h).1[p]? = some (0, 9, [q0 + 3, n + 3, n + 1 + 3, 0]) := k_st1_at hs1
  have hl_r22 : (i_X9_3 p q0 n h).1.length = n + 2 := by show (k_st1 _ _ _).1.length = _; rw [k_st1_len, hl1]
  have hq0_r22 : (i_X9_3 p q0 n h).1[q0]? = some s0 := k_st1_ne hn0 hq0_1
  refine r_aload_n C1 dX9_init_25 (rfl : 25 + 1 = 26) rfl ?_
  have hp : p < n := by have := k_lt_of hs; omega
  have hA : (i_X9_3 p q0 n h).1[n]? = some (1, 8, []) := k_st1_ne (Nat.ne_of_lt hp) (k_nf_ne (Nat.ne_of_lt hp) (k_nf_new hl hs))
  refine r_getR (q := n) C1 dX9_init_26 (rfl : 26 + 3 = 29) fl_X9_9 hs_r22 rfl ?_
  refine r_iconst (v := (-1 : Int32)) C1 dX9_init_29 (rfl : 29 + 1 = 30) rfl ?_
  refine c_Sp (pi := [n]) (shl := shArr 8) (As := [.ref n, .int (-1 : Int32)]) (Al := [.ref 0, .int (-1 : Int32)]) (st := []) (v := none) (us := [(0, .inr (.inr (.inl out)))]) C1 hR (k_csl hRc hRs rfl rfl) ms_J7_fill_53178 lk_X9_22 dX9_init_30 (rfl : 30 + 3 = 33) rfl rfl (k_ck1 hA) (c_J7_fill_53178 X.l u 8 (k_pl [n] (shArr 8) (i_X9_3 p q0 n h)) rfl (k_plA (p := n) rfl rfl) hf) (fun _ => rfl) rfl (fun _ => rfl) rfl rfl rfl ?_
  exact g_vret C1 hr (Nat.le_of_ble_eq_true rfl) (Nat.le_of_ble_eq_true rfl) ⟨rfl, rfl⟩ (k_sm_tr hsm0 hsm1 he0) dX9_init_33
