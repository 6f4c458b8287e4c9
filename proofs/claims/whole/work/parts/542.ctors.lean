theorem ff_X8_9 : k_FF RX8 9 8 0 := ⟨_, _, _, tyX8, _, rfl, in_X8, tyX8_ok, nmX8, by decide, rfl, rfl, tyX8_ok 0 (by decide), fun _ => ⟨rfl, rfl⟩, (k_me (tm1 (List.mem_of_getElem? (i := 42) rfl)) rfl)⟩
theorem ff_X1_9 : k_FF RX1 9 1 0 := ⟨_, _, _, tyX1, _, rfl, in_X1, tyX1_ok, nmX1, by decide, rfl, rfl, tyX1_ok 0 (by decide), fun _ => ⟨rfl, rfl⟩, (k_me (tm1 (List.mem_of_getElem? (i := 168) rfl)) rfl)⟩
theorem ff_X1_15 : k_FF RX1 15 1 1 := ⟨_, _, _, tyX1, _, rfl, in_X1, tyX1_ok, nmX1, by decide, rfl, rfl, tyX1_ok 1 (by decide), fun _ => ⟨rfl, rfl⟩, (k_me (tm1 (List.mem_of_getElem? (i := 169) rfl)) rfl)⟩
theorem ff_X2_9 : k_FF RX2 9 2 0 := ⟨_, _, _, tyX2, _, rfl, in_X2, tyX2_ok, nmX2, by decide, rfl, rfl, tyX2_ok 0 (by decide), fun _ => ⟨rfl, rfl⟩, (k_me (tm2 (List.mem_of_getElem? (i := 190) rfl)) rfl)⟩
theorem ff_X6_11 : k_FF RX6 11 6 0 := ⟨_, _, _, tyX6, _, rfl, in_X6, tyX6_ok, nmX6, by decide, rfl, rfl, tyX6_ok 0 (by decide), fun _ => ⟨rfl, rfl⟩, (k_me (tm2 (List.mem_of_getElem? (i := 41) rfl)) rfl)⟩
theorem ff_X6_15 : k_FF RX6 15 6 1 := ⟨_, _, _, tyX6, _, rfl, in_X6, tyX6_ok, nmX6, by decide, rfl, rfl, tyX6_ok 1 (by decide), fun _ => ⟨rfl, rfl⟩, (k_me (tm2 (List.mem_of_getElem? (i := 42) rfl)) rfl)⟩
theorem ff_X6_18 : k_FF RX6 18 6 2 := ⟨_, _, _, tyX6, _, rfl, in_X6, tyX6_ok, nmX6, by decide, rfl, rfl, tyX6_ok 2 (by decide), fun _ => ⟨rfl, rfl⟩, (k_me (tm2 (List.mem_of_getElem? (i := 43) rfl)) rfl)⟩
theorem in_X4 : ∀ w ∈ u_ws RX4 TX4 6, w ∈ k_tb := by decide +kernel
theorem ff_X4_11 : k_FF RX4 11 4 0 := ⟨_, _, _, tyX4, _, rfl, in_X4, tyX4_ok, nmX4, by decide, rfl, rfl, tyX4_ok 0 (by decide), fun _ => ⟨rfl, rfl⟩, (k_me (tm2 (List.mem_of_getElem? (i := 74) rfl)) rfl)⟩
theorem ff_X4_15 : k_FF RX4 15 4 2 := ⟨_, _, _, tyX4, _, rfl, in_X4, tyX4_ok, nmX4, by decide, rfl, rfl, tyX4_ok 2 (by decide), fun _ => ⟨rfl, rfl⟩, (k_me (tm2 (List.mem_of_getElem? (i := 77) rfl)) rfl)⟩
theorem ff_X4_18 : k_FF RX4 18 4 3 := ⟨_, _, _, tyX4, _, rfl, in_X4, tyX4_ok, nmX4, by decide, rfl, rfl, tyX4_ok 3 (by decide), fun _ => ⟨rfl, rfl⟩, (k_me (tm2 (List.mem_of_getElem? (i := 78) rfl)) rfl)⟩
theorem ff_X4_21 : k_FF RX4 21 4 4 := ⟨_, _, _, tyX4, _, rfl, in_X4, tyX4_ok, nmX4, by decide, rfl, rfl, tyX4_ok 4 (by decide), fun _ => ⟨rfl, rfl⟩, (k_me (tm2 (List.mem_of_getElem? (i := 79) rfl)) rfl)⟩
theorem ff_X3_9 : k_FF RX3 9 3 6 := ⟨_, _, _, tyX3, _, rfl, in_X3, tyX3_ok, nmX3, by decide, rfl, rfl, tyX3_ok 6 (by decide), fun _ => ⟨rfl, rfl⟩, (k_me (tm1 (List.mem_of_getElem? (i := 204) rfl)) rfl)⟩
theorem ff_X3_15 : k_FF RX3 15 3 7 := ⟨_, _, _, tyX3, _, rfl, in_X3, tyX3_ok, nmX3, by decide, rfl, rfl, tyX3_ok 7 (by decide), fun _ => ⟨rfl, rfl⟩, (k_me (tm1 (List.mem_of_getElem? (i := 207) rfl)) rfl)⟩
theorem ff_X3_18 : k_FF RX3 18 3 8 := ⟨_, _, _, tyX3, _, rfl, in_X3, tyX3_ok, nmX3, by decide, rfl, rfl, tyX3_ok 8 (by decide), fun _ => ⟨rfl, rfl⟩, (k_me (tm1 (List.mem_of_getElem? (i := 209) rfl)) rfl)⟩
theorem ff_X3_21 : k_FF RX3 21 3 9 := ⟨_, _, _, tyX3, _, rfl, in_X3, tyX3_ok, nmX3, by decide, rfl, rfl, tyX3_ok 9 (by decide), fun _ => ⟨rfl, rfl⟩, (k_me (tm1 (List.mem_of_getElem? (i := 211) rfl)) rfl)⟩
theorem ff_X3_24 : k_FF RX3 24 3 0 := ⟨_, _, _, tyX3, _, rfl, in_X3, tyX3_ok, nmX3, by decide, rfl, rfl, tyX3_ok 0 (by decide), fun _ => ⟨rfl, rfl⟩, (k_me (tm1 (List.mem_of_getElem? (i := 196) rfl)) rfl)⟩
theorem ff_X3_28 : k_FF RX3 28 3 1 := ⟨_, _, _, tyX3, _, rfl, in_X3, tyX3_ok, nmX3, by decide, rfl, rfl, tyX3_ok 1 (by decide), fun _ => ⟨rfl, rfl⟩, (k_me (tm1 (List.mem_of_getElem? (i := 197) rfl)) rfl)⟩
theorem ff_X3_32 : k_FF RX3 32 3 2 := ⟨_, _, _, tyX3, _, rfl, in_X3, tyX3_ok, nmX3, by decide, rfl, rfl, tyX3_ok 2 (by decide), fun _ => ⟨rfl, rfl⟩, (k_me (tm1 (List.mem_of_getElem? (i := 198) rfl)) rfl)⟩
def i_X8_1 (p n : Nat) (h : k_H) : k_H := k_nf p 8 [n + 3, 0, 0, 0, 0, 0, 0] (2, 600, []) h
def i_X8_2 (p n : Nat) (h : k_H) : k_H := k_sI p 6 (-1 : Int32) (i_X8_1 p n h)
def i_X8 (p n : Nat) (h : k_H) : k_H := i_X8_2 p n h
set_option maxRecDepth 10000 in
theorem c_X8_init (l : Launch) (h : k_H) {p n : Nat} (hs : h.1[p]? = some (0, 8, [2, 0, 0, 0, 0, 0, 0])) (hl : h.1.length = n) (hlen : n + 1 ≤ 1000000) : k_CG l yX8_init cX8_init 1 none 2 40 1 600 [.ref p] h (fun v h' => v = none ∧ h' = i_X8 p n h) := by
  refine k_ofWG (by decide) (Nat.le_of_ble_eq_true rfl) ?_
  intro X ad hlX hR0 hr C hnm
  have hR : X.R.frames = 2 ∧ X.R.locals = 40 := by rw [hR0]; exact ⟨rfl, rfl⟩
  have hRc : X.R.cells = 1 := by rw [hR0]
  have hRs : X.R.slots = 600 := by rw [hR0]
  show k_W X 1 0 0 _ ad h 0 [some (.ref p)] []
  refine r_aload_n C dX8_init_0 (rfl : 0 + 1 = 1) rfl ?_
  refine r_objinit C hR dX8_init_1 (rfl : 1 + 3 = 4) (k_me (tm1 (List.mem_of_getElem? (i := 41) rfl)) rfl) rfl rfl ?_
  refine r_aload_n C dX8_init_4 (rfl : 4 + 1 = 5) rfl ?_
  refine r_sipush (v := (600 : Int32)) C dX8_init_5 (rfl : 5 + 3 = 8) rfl ?_
  refine g_nfB (sl' := [n + 3, 0, 0, 0, 0, 0, 0]) C hnm ff_X8_9 hs hl rfl (Nat.le_of_ble_eq_true rfl) dX8_init_8 dX8_init_10 (rfl : 8 + 5 = 13) (by decide) rfl (by decide) (k_csl hRc hRs rfl rfl) (by omega) ⟨k_okv_of hs, True.intro⟩ True.intro ?_
  intro ad0 hsm0 C0
  have hs0 : (i_X8_1 p n h).1[p]? = some (0, 8, [n + 3, 0, 0, 0, 0, 0, 0]) := k_nf_at hs
  have hl0 : (i_X8_1 p n h).1.length = n + 1 := by show (k_nf _ _ _ _ _).1.length = _; rw [k_nf_len, hl]
  have he0 : h.1.length ≤ (i_X8_1 p n h).1.length := by rw [hl0, hl]; omega
  refine r_aload_n C0 dX8_init_13 (rfl : 13 + 1 = 14) rfl ?_
  refine r_iconst (v := (-1 : Int32)) C0 dX8_init_14 (rfl : 14 + 1 = 15) rfl ?_
  refine r_putI C0 dX8_init_15 (rfl : 15 + 3 = 18) fp_X8_15 hs0 rfl ?_
  change k_W _ _ _ _ _ _ (i_X8_2 p n h) _ _ _
  change (i_X8_2 p n h).1[p]? = some (0, 8, [n + 3, 0, 0, 0, 0, 0, 0]) at hs0
  change (i_X8_2 p n h).1.length = n + 1 at hl0
  change h.1.length ≤ (i_X8_2 p n h).1.length at he0
  exact g_vret C0 hr (Nat.le_of_ble_eq_true rfl) (Nat.le_of_ble_eq_true rfl) ⟨rfl, rfl⟩ hsm0 dX8_init_18
def i_X1_1 (p n : Nat) (h : k_H) : k_H := k_nf p 1 [n + 3, 2, 0] (1, 150, []) h
def i_X1_2 (p n : Nat) (h : k_H) : k_H := k_nf p 1 [n + 3, n + 1 + 3, 0] (1, 24, []) (i_X1_1 p n h)
def i_X1 (p n : Nat) (h : k_H) : k_H := i_X1_2 p n h
set_option maxRecDepth 10000 in
theorem c_X1_init (l : Launch) (h : k_H) {p n : Nat} (hs : h.1[p]? = some (0, 1, [2, 2, 0])) (hl : h.1.length = n) (hlen : n + 2 ≤ 1000000) : k_CG l yX1_init cX1_init 1 none 2 40 2 174 [.ref p] h (fun v h' => v = none ∧ h' = i_X1 p n h) := by
  refine k_ofWG (by decide) (Nat.le_of_ble_eq_true rfl) ?_
  intro X ad hlX hR0 hr C hnm
  have hR : X.R.frames = 2 ∧ X.R.locals = 40 := by rw [hR0]; exact ⟨rfl, rfl⟩
  have hRc : X.R.cells = 2 := by rw [hR0]
  have hRs : X.R.slots = 174 := by rw [hR0]
  show k_W X 1 0 0 _ ad h 0 [some (.ref p)] []
  refine r_aload_n C dX1_init_0 (rfl : 0 + 1 = 1) rfl ?_
  refine r_objinit C hR dX1_init_1 (rfl : 1 + 3 = 4) (k_me (tm1 (List.mem_of_getElem? (i := 167) rfl)) rfl) rfl rfl ?_
  refine r_aload_n C dX1_init_4 (rfl : 4 + 1 = 5) rfl ?_
  refine r_sipush (v := (150 : Int32)) C dX1_init_5 (rfl : 5 + 3 = 8) rfl ?_
  refine g_nfI (sl' := [n + 3, 2, 0]) C hnm ff_X1_9 hs hl rfl (Nat.le_of_ble_eq_true rfl) dX1_init_8 dX1_init_10 (rfl : 8 + 5 = 13) (by decide) rfl (by decide) (k_csl hRc hRs rfl rfl) (by omega) ⟨k_okv_of hs, True.intro⟩ True.intro ?_
  intro ad0 hsm0 C0
  have hs0 : (i_X1_1 p n h).1[p]? = some (0, 1, [n + 3, 2, 0]) := k_nf_at hs
  have hl0 : (i_X1_1 p n h).1.length = n + 1 := by show (k_nf _ _ _ _ _).1.length = _; rw [k_nf_len, hl]
  have he0 : h.1.length ≤ (i_X1_1 p n h).1.length := by rw [hl0, hl]; omega
  refine r_aload_n C0 dX1_init_13 (rfl : 13 + 1 = 14) rfl ?_
  refine r_bipush (v := (24 : Int32)) C0 dX1_init_14 (rfl : 14 + 2 = 16) rfl ?_
  refine g_nfI (sl' := [n + 3, n + 1 + 3, 0]) C0 hnm ff_X1_15 hs0 hl0 rfl (Nat.le_of_ble_eq_true rfl) dX1_init_16 dX1_init_18 (rfl : 16 + 5 = 21) (by decide) rfl (by decide) (k_csl hRc hRs rfl rfl) (by omega) ⟨k_okv_of hs0, True.intro⟩ True.intro ?_
  intro ad1 hsm1 C1
  have hs1 : (i_X1_2 p n h).1[p]? = some (0, 1, [n + 3, n + 1 + 3, 0]) := k_nf_at hs0
  have hl1 : (i_X1_2 p n h).1.length = n + 2 := by show (k_nf _ _ _ _ _).1.length = _; rw [k_nf_len, hl0]
  have he1 : h.1.length ≤ (i_X1_2 p n h).1.length := by rw [hl1, hl]; omega
  exact g_vret C1 hr (Nat.le_of_ble_eq_true rfl) (Nat.le_of_ble_eq_true rfl) ⟨rfl, rfl⟩ (k_sm_tr hsm0 hsm1 he0) dX1_init_21
def i_X2_1 (p n : Nat) (h : k_H) : k_H := k_nf p 2 [n + 3, 0, 0, 0] (1, 21, []) h
def i_X2 (p n : Nat) (h : k_H) : k_H := i_X2_1 p n h
set_option maxRecDepth 10000 in
theorem c_X2_init (l : Launch) (h : k_H) {p n : Nat} (hs : h.1[p]? = some (0, 2, [2, 0, 0, 0])) (hl : h.1.length = n) (hlen : n + 1 ≤ 1000000) : k_CG l yX2_init cX2_init 1 none 2 40 1 21 [.ref p] h (fun v h' => v = none ∧ h' = i_X2 p n h) := by
  refine k_ofWG (by decide) (Nat.le_of_ble_eq_true rfl) ?_
  intro X ad hlX hR0 hr C hnm
  have hR : X.R.frames = 2 ∧ X.R.locals = 40 := by rw [hR0]; exact ⟨rfl, rfl⟩
  have hRc : X.R.cells = 1 := by rw [hR0]
  have hRs : X.R.slots = 21 := by rw [hR0]
  show k_W X 1 0 0 _ ad h 0 [some (.ref p)] []
  refine r_aload_n C dX2_init_0 (rfl : 0 + 1 = 1) rfl ?_
  refine r_objinit C hR dX2_init_1 (rfl : 1 + 3 = 4) (k_me (tm2 (List.mem_of_getElem? (i := 189) rfl)) rfl) rfl rfl ?_
  refine r_aload_n C dX2_init_4 (rfl : 4 + 1 = 5) rfl ?_
  refine r_bipush (v := (21 : Int32)) C dX2_init_5 (rfl : 5 + 2 = 7) rfl ?_
  refine g_nfI (sl' := [n + 3, 0, 0, 0]) C hnm ff_X2_9 hs hl rfl (Nat.le_of_ble_eq_true rfl) dX2_init_7 dX2_init_9 (rfl : 7 + 5 = 12) (by decide) rfl (by decide) (k_csl hRc hRs rfl rfl) (by omega) ⟨k_okv_of hs, True.intro⟩ True.intro ?_
  intro ad0 hsm0 C0
  have hs0 : (i_X2_1 p n h).1[p]? = some (0, 2, [n + 3, 0, 0, 0]) := k_nf_at hs
  have hl0 : (i_X2_1 p n h).1.length = n + 1 := by show (k_nf _ _ _ _ _).1.length = _; rw [k_nf_len, hl]
  have he0 : h.1.length ≤ (i_X2_1 p n h).1.length := by rw [hl0, hl]; omega
  exact g_vret C0 hr (Nat.le_of_ble_eq_true rfl) (Nat.le_of_ble_eq_true rfl) ⟨rfl, rfl⟩ hsm0 dX2_init_12
def i_X6_1 (p n : Nat) (h : k_H) : k_H := k_nf p 6 [n + 3, 2, 2, 0, 0, 0, 0] (1, 30, []) h
def i_X6_2 (p n : Nat) (h : k_H) : k_H := k_nf p 6 [n + 3, n + 1 + 3, 2, 0, 0, 0, 0] (1, 30, []) (i_X6_1 p n h)
def i_X6_3 (p n : Nat) (h : k_H) : k_H := k_nf p 6 [n + 3, n + 1 + 3, n + 2 + 3, 0, 0, 0, 0] (1, 30, []) (i_X6_2 p n h)
def i_X6 (p n : Nat) (h : k_H) : k_H := i_X6_3 p n h
set_option maxRecDepth 10000 in
theorem c_X6_init (l : Launch) (h : k_H) {p n : Nat} (hs : h.1[p]? = some (0, 6, [2, 2, 2, 0, 0, 0, 0])) (hl : h.1.length = n) (hlen : n + 3 ≤ 1000000) : k_CG l yX6_init cX6_init 1 none 2 40 3 90 [.ref p] h (fun v h' => v = none ∧ h' = i_X6 p n h) := by
  refine k_ofWG (by decide) (Nat.le_of_ble_eq_true rfl) ?_
  intro X ad hlX hR0 hr C hnm
  have hR : X.R.frames = 2 ∧ X.R.locals = 40 := by rw [hR0]; exact ⟨rfl, rfl⟩
  have hRc : X.R.cells = 3 := by rw [hR0]
  have hRs : X.R.slots = 90 := by rw [hR0]
  show k_W X 1 0 0 _ ad h 0 [some (.ref p)] []
  refine r_aload_n C dX6_init_0 (rfl : 0 + 1 = 1) rfl ?_
  refine r_objinit C hR dX6_init_1 (rfl : 1 + 3 = 4) (k_me (tm2 (List.mem_of_getElem? (i := 40) rfl)) rfl) rfl rfl ?_
  refine r_aload_n C dX6_init_4 (rfl : 4 + 1 = 5) rfl ?_
  refine r_bipush (v := (30 : Int32)) C dX6_init_5 (rfl : 5 + 2 = 7) rfl ?_
  refine g_nfI (sl' := [n + 3, 2, 2, 0, 0, 0, 0]) C hnm ff_X6_11 hs hl rfl (Nat.le_of_ble_eq_true rfl) dX6_init_7 dX6_init_9 (rfl : 7 + 5 = 12) (by decide) rfl (by decide) (k_csl hRc hRs rfl rfl) (by omega) ⟨k_okv_of hs, True.intro⟩ True.intro ?_
  intro ad0 hsm0 C0
  have hs0 : (i_X6_1 p n h).1[p]? = some (0, 6, [n + 3, 2, 2, 0, 0, 0, 0]) := k_nf_at hs
  have hl0 : (i_X6_1 p n h).1.length = n + 1 := by show (k_nf _ _ _ _ _).1.length = _; rw [k_nf_len, hl]
  have he0 : h.1.length ≤ (i_X6_1 p n h).1.length := by rw [hl0, hl]; omega
  refine r_aload_n C0 dX6_init_12 (rfl : 12 + 1 = 13) rfl ?_
  refine r_bipush (v := (30 : Int32)) C0 dX6_init_13 (rfl : 13 + 2 = 15) rfl ?_
  refine g_nfI (sl' := [n + 3, n + 1 + 3, 2, 0, 0, 0, 0]) C0 hnm ff_X6_15 hs0 hl0 rfl (Nat.le_of_ble_eq_true rfl) dX6_init_15 dX6_init_17 (rfl : 15 + 5 = 20) (by decide) rfl (by decide) (k_csl hRc hRs rfl rfl) (by omega) ⟨k_okv_of hs0, True.intro⟩ True.intro ?_
  intro ad1 hsm1 C1
  have hs1 : (i_X6_2 p n h).1[p]? = some (0, 6, [n + 3, n + 1 + 3, 2, 0, 0, 0, 0]) := k_nf_at hs0
  have hl1 : (i_X6_2 p n h).1.length = n + 2 := by show (k_nf _ _ _ _ _).1.length = _; rw [k_nf_len, hl0]
  have he1 : h.1.length ≤ (i_X6_2 p n h).1.length := by rw [hl1, hl]; omega
  refine r_aload_n C1 dX6_init_20 (rfl : 20 + 1 = 21) rfl ?_
  refine r_bipush (v := (30 : Int32)) C1 dX6_init_21 (rfl : 21 + 2 = 23) rfl ?_
  refine g_nfI (sl' := [n + 3, n + 1 + 3, n + 2 + 3, 0, 0, 0, 0]) C1 hnm ff_X6_18 hs1 hl1 rfl (Nat.le_of_ble_eq_true rfl) dX6_init_23 dX6_init_25 (rfl : 23 + 5 = 28) (by decide) rfl (by decide) (k_csl hRc hRs rfl rfl) (by omega) ⟨k_okv_of hs1, True.intro⟩ True.intro ?_
  intro ad2 hsm2 C2
  have hs2 : (i_X6_3 p n h).1[p]? = some (0, 6, [n + 3, n + 1 + 3, n + 2 + 3, 0, 0, 0, 0]) := k_nf_at hs1
  have hl2 : (i_X6_3 p n h).1.length = n + 3 := by show (k_nf _ _ _ _ _).1.length = _; rw [k_nf_len, hl1]
  have he2 : h.1.length ≤ (i_X6_3 p n h).1.length := by rw [hl2, hl]; omega
  exact g_vret C2 hr (Nat.le_of_ble_eq_true rfl) (Nat.le_of_ble_eq_true rfl) ⟨rfl, rfl⟩ (k_sm_tr (k_sm_tr hsm0 hsm1 he0) hsm2 he1) dX6_init_28
def i_X4_1 (p n : Nat) (h : k_H) : k_H := k_nf p 4 [n + 3, 0, 2, 2, 2, 0] (5, 16, []) h
def i_X4_2 (p n : Nat) (h : k_H) : k_H := k_nf p 4 [n + 3, 0, n + 1 + 3, 2, 2, 0] (5, 3, []) (i_X4_1 p n h)
def i_X4_3 (p n : Nat) (h : k_H) : k_H := k_nf p 4 [n + 3, 0, n + 1 + 3, n + 2 + 3, 2, 0] (5, 48, []) (i_X4_2 p n h)
def i_X4_4 (p n : Nat) (h : k_H) : k_H := k_nf p 4 [n + 3, 0, n + 1 + 3, n + 2 + 3, n + 3 + 3, 0] (1, 3, []) (i_X4_3 p n h)
def i_X4 (p n : Nat) (h : k_H) : k_H := i_X4_4 p n h
set_option maxRecDepth 10000 in
theorem c_X4_init (l : Launch) (h : k_H) {p n : Nat} (hs : h.1[p]? = some (0, 4, [2, 0, 2, 2, 2, 0])) (hl : h.1.length = n) (hlen : n + 4 ≤ 1000000) : k_CG l yX4_init cX4_init 1 none 2 40 4 70 [.ref p] h (fun v h' => v = none ∧ h' = i_X4 p n h) := by
  refine k_ofWG (by decide) (Nat.le_of_ble_eq_true rfl) ?_
  intro X ad hlX hR0 hr C hnm
  have hR : X.R.frames = 2 ∧ X.R.locals = 40 := by rw [hR0]; exact ⟨rfl, rfl⟩
  have hRc : X.R.cells = 4 := by rw [hR0]
  have hRs : X.R.slots = 70 := by rw [hR0]
  show k_W X 1 0 0 _ ad h 0 [some (.ref p)] []
  refine r_aload_n C dX4_init_0 (rfl : 0 + 1 = 1) rfl ?_
  refine r_objinit C hR dX4_init_1 (rfl : 1 + 3 = 4) (k_me (tm2 (List.mem_of_getElem? (i := 71) rfl)) rfl) rfl rfl ?_
  refine r_aload_n C dX4_init_4 (rfl : 4 + 1 = 5) rfl ?_
  refine r_bipush (v := (16 : Int32)) C dX4_init_5 (rfl : 5 + 2 = 7) rfl ?_
  refine g_nfQ (sl' := [n + 3, 0, 2, 2, 2, 0]) C hnm (k_me (tm2 (List.mem_of_getElem? (i := 72) rfl)) rfl) ff_X4_11 hs hl rfl (Nat.le_of_ble_eq_true rfl) dX4_init_7 dX4_init_10 (rfl : 7 + 6 = 13) (by decide) rfl (by decide) (k_csl hRc hRs rfl rfl) (by omega) ⟨k_okv_of hs, True.intro⟩ True.intro ?_
  intro ad0 hsm0 C0
  have hs0 : (i_X4_1 p n h).1[p]? = some (0, 4, [n + 3, 0, 2, 2, 2, 0]) := k_nf_at hs
  have hl0 : (i_X4_1 p n h).1.length = n + 1 := by show (k_nf _ _ _ _ _).1.length = _; rw [k_nf_len, hl]
  have he0 : h.1.length ≤ (i_X4_1 p n h).1.length := by rw [hl0, hl]; omega
  refine r_aload_n C0 dX4_init_13 (rfl : 13 + 1 = 14) rfl ?_
  refine r_iconst (v := (3 : Int32)) C0 dX4_init_14 (rfl : 14 + 1 = 15) rfl ?_
  refine g_nfQ (sl' := [n + 3, 0, n + 1 + 3, 2, 2, 0]) C0 hnm (k_me (tm2 (List.mem_of_getElem? (i := 72) rfl)) rfl) ff_X4_15 hs0 hl0 rfl (Nat.le_of_ble_eq_true rfl) dX4_init_15 dX4_init_18 (rfl : 15 + 6 = 21) (by decide) rfl (by decide) (k_csl hRc hRs rfl rfl) (by omega) ⟨k_okv_of hs0, True.intro⟩ True.intro ?_
  intro ad1 hsm1 C1
  have hs1 : (i_X4_2 p n h).1[p]? = some (0, 4, [n + 3, 0, n + 1 + 3, 2, 2, 0]) := k_nf_at hs0
  have hl1 : (i_X4_2 p n h).1.length = n + 2 := by show (k_nf _ _ _ _ _).1.length = _; rw [k_nf_len, hl0]
  have he1 : h.1.length ≤ (i_X4_2 p n h).1.length := by rw [hl1, hl]; omega
  refine r_aload_n C1 dX4_init_21 (rfl : 21 + 1 = 22) rfl ?_
  refine r_bipush (v := (48 : Int32)) C1 dX4_init_22 (rfl : 22 + 2 = 24) rfl ?_
  refine g_nfQ (sl' := [n + 3, 0, n + 1 + 3, n + 2 + 3, 2, 0]) C1 hnm (k_me (tm2 (List.mem_of_getElem? (i := 72) rfl)) rfl) ff_X4_18 hs1 hl1 rfl (Nat.le_of_ble_eq_true rfl) dX4_init_24 dX4_init_27 (rfl : 24 + 6 = 30) (by decide) rfl (by decide) (k_csl hRc hRs rfl rfl) (by omega) ⟨k_okv_of hs1, True.intro⟩ True.intro ?_
  intro ad2 hsm2 C2
  have hs2 : (i_X4_3 p n h).1[p]? = some (0, 4, [n + 3, 0, n + 1 + 3, n + 2 + 3, 2, 0]) := k_nf_at hs1
  have hl2 : (i_X4_3 p n h).1.length = n + 3 := by show (k_nf _ _ _ _ _).1.length = _; rw [k_nf_len, hl1]
  have he2 : h.1.length ≤ (i_X4_3 p n h).1.length := by rw [hl2, hl]; omega
  refine r_aload_n C2 dX4_init_30 (rfl : 30 + 1 = 31) rfl ?_
  refine r_iconst (v := (3 : Int32)) C2 dX4_init_31 (rfl : 31 + 1 = 32) rfl ?_
  refine g_nfI (sl' := [n + 3, 0, n + 1 + 3, n + 2 + 3, n + 3 + 3, 0]) C2 hnm ff_X4_21 hs2 hl2 rfl (Nat.le_of_ble_eq_true rfl) dX4_init_32 dX4_init_34 (rfl : 32 + 5 = 37) (by decide) rfl (by decide) (k_csl hRc hRs rfl rfl) (by omega) ⟨k_okv_of hs2, True.intro⟩ True.intro ?_
  intro ad3 hsm3 C3
  have hs3 : (i_X4_4 p n h).1[p]? = some (0, 4, [n + 3, 0, n + 1 + 3, n + 2 + 3, n + 3 + 3, 0]) := k_nf_at hs2
  have hl3 : (i_X4_4 p n h).1.length = n + 4 := by show (k_nf _ _ _ _ _).1.length = _; rw [k_nf_len, hl2]
  have he3 : h.1.length ≤ (i_X4_4 p n h).1.length := by rw [hl3, hl]; omega
  exact g_vret C3 hr (Nat.le_of_ble_eq_true rfl) (Nat.le_of_ble_eq_true rfl) ⟨rfl, rfl⟩ (k_sm_tr (k_sm_tr (k_sm_tr hsm0 hsm1 he0) hsm2 he1) hsm3 he2) dX4_init_37
def i_X3_1 (p q0 q1 q2 n : Nat) (h : k_H) : k_H := k_nf p 3 [2, 2, 2, 1, 1, 1, n + 3, 2, 2, 2, 0, 0, 0, 0, 0, 0, 0, 0] (1, 6, []) h
def i_X3_2 (p q0 q1 q2 n : Nat) (h : k_H) : k_H := k_nf p 3 [2, 2, 2, 1, 1, 1, n + 3, n + 1 + 3, 2, 2, 0, 0, 0, 0, 0, 0, 0, 0] (1, 6, []) (i_X3_1 p q0 q1 q2 n h)
def i_X3_3 (p q0 q1 q2 n : Nat) (h : k_H) : k_H := k_nf p 3 [2, 2, 2, 1, 1, 1, n + 3, n + 1 + 3, n + 2 + 3, 2, 0, 0, 0, 0, 0, 0, 0, 0] (1, 6, []) (i_X3_2 p q0 q1 q2 n h)
def i_X3_4 (p q0 q1 q2 n : Nat) (h : k_H) : k_H := k_nf p 3 [2, 2, 2, 1, 1, 1, n + 3, n + 1 + 3, n + 2 + 3, n + 3 + 3, 0, 0, 0, 0, 0, 0, 0, 0] (1, 6, []) (i_X3_3 p q0 q1 q2 n h)
def i_X3_5 (p q0 q1 q2 n : Nat) (h : k_H) : k_H := k_st1 p (0, 3, [q0 + 3, 2, 2, 1, 1, 1, n + 3, n + 1 + 3, n + 2 + 3, n + 3 + 3, 0, 0, 0, 0, 0, 0, 0, 0]) (i_X3_4 p q0 q1 q2 n h)
def i_X3_6 (p q0 q1 q2 n : Nat) (h : k_H) : k_H := k_st1 p (0, 3, [q0 + 3, q1 + 3, 2, 1, 1, 1, n + 3, n + 1 + 3, n + 2 + 3, n + 3 + 3, 0, 0, 0, 0, 0, 0, 0, 0]) (i_X3_5 p q0 q1 q2 n h)
def i_X3_7 (p q0 q1 q2 n : Nat) (h : k_H) : k_H := k_st1 p (0, 3, [q0 + 3, q1 + 3, q2 + 3, 1, 1, 1, n + 3, n + 1 + 3, n + 2 + 3, n + 3 + 3, 0, 0, 0, 0, 0, 0, 0, 0]) (i_X3_6 p q0 q1 q2 n h)
def i_X3 (p q0 q1 q2 n : Nat) (h : k_H) : k_H := i_X3_7 p q0 q1 q2 n h
set_option maxRecDepth 10000 in
theorem c_X3_init (l : Launch) (h : k_H) {p n : Nat} (hs : h.1[p]? = some (0, 3, [2, 2, 2, 1, 1, 1, 2, 2, 2, 2, 0, 0, 0, 0, 0, 0, 0, 0])) {q0 : Nat} {s0 : k_Sh} (hq0 : h.1[q0]? = some s0) (hn0 : p ≠ q0) {q1 : Nat} {s1 : k_Sh} (hq1 : h.1[q1]? = some s1) (hn1 : p ≠ q1) {q2 : Nat} {s2 : k_Sh} (hq2 : h.1[q2]? = some s2) (hn2 : p ≠ q2) (hl : h.1.length = n) (hlen : n + 4 ≤ 1000000) : k_CG l yX3_init cX3_init 4 none 2 40 4 24 [.ref p, .ref q0, .ref q1, .ref q2] h (fun v h' => v = none ∧ h' = i_X3 p q0 q1 q2 n h) := by
  refine k_ofWG (by decide) (Nat.le_of_ble_eq_true rfl) ?_
  intro X ad hlX hR0 hr C hnm
  have hR : X.R.frames = 2 ∧ X.R.locals = 40 := by rw [hR0]; exact ⟨rfl, rfl⟩
  have hRc : X.R.cells = 4 := by rw [hR0]
  have hRs : X.R.slots = 24 := by rw [hR0]
  show k_W X 4 0 0 _ ad h 0 [some (.ref p), some (.ref q0), some (.ref q1), some (.ref q2)] []
  refine r_aload_n C dX3_init_0 (rfl : 0 + 1 = 1) rfl ?_
  refine r_objinit C hR dX3_init_1 (rfl : 1 + 3 = 4) (k_me (tm1 (List.mem_of_getElem? (i := 195) rfl)) rfl) rfl rfl ?_
  refine r_aload_n C dX3_init_4 (rfl : 4 + 1 = 5) rfl ?_
  refine r_bipush (v := (6 : Int32)) C dX3_init_5 (rfl : 5 + 2 = 7) rfl ?_
  refine g_nfI (sl' := [2, 2, 2, 1, 1, 1, n + 3, 2, 2, 2, 0, 0, 0, 0, 0, 0, 0, 0]) C hnm ff_X3_9 hs hl rfl (Nat.le_of_ble_eq_true rfl) dX3_init_7 dX3_init_9 (rfl : 7 + 5 = 12) (by decide) rfl (by decide) (k_csl hRc hRs rfl rfl) (by omega) ⟨k_okv_of hs, k_okv_of hq0, k_okv_of hq1, k_okv_of hq2, True.intro⟩ True.intro ?_
  intro ad0 hsm0 C0
  have hs0 : (i_X3_1 p q0 q1 q2 n h).1[p]? = some (0, 3, [2, 2, 2, 1, 1, 1, n + 3, 2, 2, 2, 0, 0, 0, 0, 0, 0, 0, 0]) := k_nf_at hs
  have hl0 : (i_X3_1 p q0 q1 q2 n h).1.length = n + 1 := by show (k_nf _ _ _ _ _).1.length = _; rw [k_nf_len, hl]
  have he0 : h.1.length ≤ (i_X3_1 p q0 q1 q2 n h).1.length := by rw [hl0, hl]; omega
  have hq0_0 : (i_X3_1 p q0 q1 q2 n h).1[q0]? = some s0 := k_nf_ne hn0 hq0
  have hq1_0 : (i_X3_1 p q0 q1 q2 n h).1[q1]? = some s1 := k_nf_ne hn1 hq1
  have hq2_0 : (i_X3_1 p q0 q1 q2 n h).1[q2]? = some s2 := k_nf_ne hn2 hq2
  refine r_aload_n C0 dX3_init_12 (rfl : 12 + 1 = 13) rfl ?_
  refine r_bipush (v := (6 : Int32)) C0 dX3_init_13 (rfl : 13 + 2 = 15) rfl ?_
  refine g_nfI (sl' := [2, 2, 2, 1, 1, 1, n + 3, n + 1 + 3, 2, 2, 0, 0, 0, 0, 0, 0, 0, 0]) C0 hnm ff_X3_15 hs0 hl0 rfl (Nat.le_of_ble_eq_true rfl) dX3_init_15 dX3_init_17 (rfl : 15 + 5 = 20) (by decide) rfl (by decide) (k_csl hRc hRs rfl rfl) (by omega) ⟨k_okv_of hs0, k_okv_of hq0_0, k_okv_of hq1_0, k_okv_of hq2_0, True.intro⟩ True.intro ?_
  intro ad1 hsm1 C1
  have hs1 : (i_X3_2 p q0 q1 q2 n h).1[p]? = some (0, 3, [2, 2, 2, 1, 1, 1, n + 3, n + 1 + 3, 2, 2, 0, 0, 0, 0, 0, 0, 0, 0]) := k_nf_at hs0
  have hl1 : (i_X3_2 p q0 q1 q2 n h).1.length = n + 2 := by show (k_nf _ _ _ _ _).1.length = _; rw [k_nf_len, hl0]
  have he1 : h.1.length ≤ (i_X3_2 p q0 q1 q2 n h).1.length := by rw [hl1, hl]; omega
  have hq0_1 : (i_X3_2 p q0 q1 q2 n h).1[q0]? = some s0 := k_nf_ne hn0 hq0_0
  have hq1_1 : (i_X3_2 p q0 q1 q2 n h).1[q1]? = some s1 := k_nf_ne hn1 hq1_0
  have hq2_1 : (i_X3_2 p q0 q1 q2 n h).1[q2]? = some s2 := k_nf_ne hn2 hq2_0
  refine r_aload_n C1 dX3_init_20 (rfl : 20 + 1 = 21) rfl ?_
  refine r_bipush (v := (6 : Int32)) C1 dX3_init_21 (rfl : 21 + 2 = 23) rfl ?_
  refine g_nfI (sl' := [2, 2, 2, 1, 1, 1, n + 3, n + 1 + 3, n + 2 + 3, 2, 0, 0, 0, 0, 0, 0, 0, 0]) C1 hnm ff_X3_18 hs1 hl1 rfl (Nat.le_of_ble_eq_true rfl) dX3_init_23 dX3_init_25 (rfl : 23 + 5 = 28) (by decide) rfl (by decide) (k_csl hRc hRs rfl rfl) (by omega) ⟨k_okv_of hs1, k_okv_of hq0_1, k_okv_of hq1_1, k_okv_of hq2_1, True.intro⟩ True.intro ?_
  intro ad2 hsm2 C2
  have hs2 : (i_X3_3 p q0 q1 q2 n h).1[p]? = some (0, 3, [2, 2, 2, 1, 1, 1, n + 3, n + 1 + 3, n + 2 + 3, 2, 0, 0, 0, 0, 0, 0, 0, 0]) := k_nf_at hs1
  have hl2 : (i_X3_3 p q0 q1 q2 n h).1.length = n + 3 := by show (k_nf _ _ _ _ _).1.length = _; rw [k_nf_len, hl1]
  have he2 : h.1.length ≤ (i_X3_3 p q0 q1 q2 n h).1.length := by rw [hl2, hl]; omega
  have hq0_2 : (i_X3_3 p q0 q1 q2 n h).1[q0]? = some s0 := k_nf_ne hn0 hq0_1
  have hq1_2 : (i_X3_3 p q0 q1 q2 n h).1[q1]? = some s1 := k_nf_ne hn1 hq1_1
  have hq2_2 : (i_X3_3 p q0 q1 q2 n h).1[q2]? = some s2 := k_nf_ne hn2 hq2_1
  refine r_aload_n C2 dX3_init_28 (rfl : 28 + 1 = 29) rfl ?_
  refine r_bipush (v := (6 : Int32)) C2 dX3_init_29 (rfl : 29 + 2 = 31) rfl ?_
  refine g_nfI (sl' := [2, 2, 2, 1, 1, 1, n + 3, n + 1 + 3, n + 2 + 3, n + 3 + 3, 0, 0, 0, 0, 0, 0, 0, 0]) C2 hnm ff_X3_21 hs2 hl2 rfl (Nat.le_of_ble_eq_true rfl) dX3_init_31 dX3_init_33 (rfl : 31 + 5 = 36) (by decide) rfl (by decide) (k_csl hRc hRs rfl rfl) (by omega) ⟨k_okv_of hs2, k_okv_of hq0_2, k_okv_of hq1_2, k_okv_of hq2_2, True.intro⟩ True.intro ?_
  intro ad3 hsm3 C3
  have hs3 : (i_X3_4 p q0 q1 q2 n h).1[p]? = some (0, 3, [2, 2, 2, 1, 1, 1, n + 3, n + 1 + 3, n + 2 + 3, n + 3 + 3, 0, 0, 0, 0, 0, 0, 0, 0]) := k_nf_at hs2
  have hl3 : (i_X3_4 p q0 q1 q2 n h).1.length = n + 4 := by show (k_nf _ _ _ _ _).1.length = _; rw [k_nf_len, hl2]
  have he3 : h.1.length ≤ (i_X3_4 p q0 q1 q2 n h).1.length := by rw [hl3, hl]; omega
  have hq0_3 : (i_X3_4 p q0 q1 q2 n h).1[q0]? = some s0 := k_nf_ne hn0 hq0_2
  have hq1_3 : (i_X3_4 p q0 q1 q2 n h).1[q1]? = some s1 := k_nf_ne hn1 hq1_2
  have hq2_3 : (i_X3_4 p q0 q1 q2 n h).1[q2]? = some s2 := k_nf_ne hn2 hq2_2
  refine r_aload_n C3 dX3_init_36 (rfl : 36 + 1 = 37) rfl ?_
  refine r_aload_n C3 dX3_init_37 (rfl : 37 + 1 = 38) rfl ?_
  refine g_setR (sl' := [q0 + 3, 2, 2, 1, 1, 1, n + 3, n + 1 + 3, n + 2 + 3, n + 3 + 3, 0, 0, 0, 0, 0, 0, 0, 0]) C3 hnm dX3_init_38 (rfl : 38 + 3 = 41) ff_X3_24 hs3 (Nat.le_of_ble_eq_true rfl) (k_lt_of hq0_3) rfl ?_
  have hs_r38 : (i_X3_5 p q0 q1 q2 n h).1[p]? = some (0, 3, [q0 + 3, 2, 2, 1, 1, 1, n + 3, n + 1 + 3, n + 2 + 3, n + 3 + 3, 0, 0, 0, 0, 0, 0, 0, 0]) := k_st1_at hs3
  have hl_r38 : (i_X3_5 p q0 q1 q2 n h).1.length = n + 4 := by show (k_st1 _ _ _).1.length = _; rw [k_st1_len, hl3]
  have hq0_r38 : (i_X3_5 p q0 q1 q2 n h).1[q0]? = some s0 := k_st1_ne hn0 hq0_3
  have hq1_r38 : (i_X3_5 p q0 q1 q2 n h).1[q1]? = some s1 := k_st1_ne hn1 hq1_3
  have hq2_r38 : (i_X3_5 p q0 q1 q2 n h).1[q2]? = some s2 := k_st1_ne hn2 hq2_3
  refine r_aload_n C3 dX3_init_41 (rfl : 41 + 1 = 42) rfl ?_
  refine r_aload_n C3 dX3_init_42 (rfl : 42 + 1 = 43) rfl ?_
  refine g_setR (sl' := [q0 + 3, q1 + 3, 2, 1, 1, 1, n + 3, n + 1 + 3, n + 2 + 3, n + 3 + 3, 0, 0, 0, 0, 0, 0, 0, 0]) C3 hnm dX3_init_43 (rfl : 43 + 3 = 46) ff_X3_28 hs_r38 (Nat.le_of_ble_eq_true rfl) (k_lt_of hq1_r38) rfl ?_
  have hs_r43 : (i_X3_6 p q0 q1 q2 n h).1[p]? = some (0, 3, [q0 + 3, q1 + 3, 2, 1, 1, 1, n + 3, n + 1 + 3, n + 2 + 3, n + 3 + 3, 0, 0, 0, 0, 0, 0, 0, 0]) := k_st1_at hs_r38
  have hl_r43 : (i_X3_6 p q0 q1 q2 n h).1.length = n + 4 := by show (k_st1 _ _ _).1.length = _; rw [k_st1_len, hl_r38]
  have hq0_r43 : (i_X3_6 p q0 q1 q2 n h).1[q0]? = some s0 := k_st1_ne hn0 hq0_r38
  have hq1_r43 : (i_X3_6 p q0 q1 q2 n h).1[q1]? = some s1 := k_st1_ne hn1 hq1_r38
  have hq2_r43 : (i_X3_6 p q0 q1 q2 n h).1[q2]? = some s2 := k_st1_ne hn2 hq2_r38
  refine r_aload_n C3 dX3_init_46 (rfl : 46 + 1 = 47) rfl ?_
  refine r_aload_n C3 dX3_init_47 (rfl : 47 + 1 = 48) rfl ?_
  refine g_setR (sl' := [q0 + 3, q1 + 3, q2 + 3, 1, 1, 1, n + 3, n + 1 + 3, n + 2 + 3, n + 3 + 3, 0, 0, 0, 0, 0, 0, 0, 0]) C3 hnm dX3_init_48 (rfl : 48 + 3 = 51) ff_X3_32 hs_r43 (Nat.le_of_ble_eq_true rfl) (k_lt_of hq2_r43) rfl ?_
  have hs_r48 : (i_X3_7 p q0 q1 q2 n h).1[p]? = some (0, 3, [q0 + 3, q1 + 3, q2 + 3, 1, 1, 1, n + 3, n + 1 + 3, n + 2 + 3, n + 3 + 3, 0, 0, 0, 0, 0, 0, 0, 0]) := k_st1_at hs_r43
  have hl_r48 : (i_X3_7 p q0 q1 q2 n h).1.length = n + 4 := by show (k_st1 _ _ _).1.length = _; rw [k_st1_len, hl_r43]
  have hq0_r48 : (i_X3_7 p q0 q1 q2 n h).1[q0]? = some s0 := k_st1_ne hn0 hq0_r43
  have hq1_r48 : (i_X3_7 p q0 q1 q2 n h).1[q1]? = some s1 := k_st1_ne hn1 hq1_r43
  have hq2_r48 : (i_X3_7 p q0 q1 q2 n h).1[q2]? = some s2 := k_st1_ne hn2 hq2_r43
  exact g_vret C3 hr (Nat.le_of_ble_eq_true rfl) (Nat.le_of_ble_eq_true rfl) ⟨rfl, rfl⟩ (k_sm_tr (k_sm_tr (k_sm_tr hsm0 hsm1 he0) hsm2 he1) hsm3 he2) dX3_init_51
