theorem k_csl {X : k_X} {a b mc ms : Nat} (h1 : X.R.cells = mc) (h2 : X.R.slots = ms) (h3 : Nat.ble a mc = true) (h4 : Nat.ble b ms = true) : a ≤ X.R.cells ∧ b ≤ X.R.slots := ⟨by rw [h1]; exact Nat.le_of_ble_eq_true h3, by rw [h2]; exact Nat.le_of_ble_eq_true h4⟩
theorem ff_X8_9 : k_FF RX8 9 8 0 := ⟨_, _, _, tyX8, _, rfl, in_X8, tyX8_ok, nmX8, by decide, rfl, rfl, tyX8_ok 0 (by decide), fun _ => ⟨rfl, rfl⟩, (k_me (tm1 (List.mem_of_getElem? (i := 42) rfl)) rfl)⟩
theorem ff_X1_9 : k_FF RX1 9 1 0 := ⟨_, _, _, tyX1, _, rfl, in_X1, tyX1_ok, nmX1, by decide, rfl, rfl, tyX1_ok 0 (by decide), fun _ => ⟨rfl, rfl⟩, (k_me (tm1 (List.mem_of_getElem? (i := 168) rfl)) rfl)⟩
theorem ff_X1_15 : k_FF RX1 15 1 1 := ⟨_, _, _, tyX1, _, rfl, in_X1, tyX1_ok, nmX1, by decide, rfl, rfl, tyX1_ok 1 (by decide), fun _ => ⟨rfl, rfl⟩, (k_me (tm1 (List.mem_of_getElem? (i := 169) rfl)) rfl)⟩
theorem ff_X2_9 : k_FF RX2 9 2 0 := ⟨_, _, _, tyX2, _, rfl, in_X2, tyX2_ok, nmX2, by decide, rfl, rfl, tyX2_ok 0 (by decide), fun _ => ⟨rfl, rfl⟩, (k_me (tm2 (List.mem_of_getElem? (i := 190) rfl)) rfl)⟩
theorem ff_X6_11 : k_FF RX6 11 6 0 := ⟨_, _, _, tyX6, _, rfl, in_X6, tyX6_ok, nmX6, by decide, rfl, rfl, tyX6_ok 0 (by decide), fun _ => ⟨rfl, rfl⟩, (k_me (tm2 (List.mem_of_getElem? (i := 41) rfl)) rfl)⟩
theorem ff_X6_15 : k_FF RX6 15 6 1 := ⟨_, _, _, tyX6, _, rfl, in_X6, tyX6_ok, nmX6, by decide, rfl, rfl, tyX6_ok 1 (by decide), fun _ => ⟨rfl, rfl⟩, (k_me (tm2 (List.mem_of_getElem? (i := 42) rfl)) rfl)⟩
theorem ff_X6_18 : k_FF RX6 18 6 2 := ⟨_, _, _, tyX6, _, rfl, in_X6, tyX6_ok, nmX6, by decide, rfl, rfl, tyX6_ok 2 (by decide), fun _ => ⟨rfl, rfl⟩, (k_me (tm2 (List.mem_of_getElem? (i := 43) rfl)) rfl)⟩
theorem in_X4 : ∀ w ∈ u_ws RX4 TX4 6, w ∈ k_tb := by decide +kernel
theorem ff_X4_11 : k_FF RX4 11 4 0 := ⟨_, _, _, tyX4, _, rfl, in_X4, tyX4_ok, nmX4, by decide, rfl, rfl, tyX4_ok 0 (by decide), fun _ => ⟨rfl, rfl⟩, (k_me (tm2 (List.mem_of_getElem? (i := 74) rfl)) rfl)⟩
theorem ff_X4_15 : k_FF RX4 15 4 2 := ⟨_, _, _, tyX4, _, rfl, in_X4, tyX4_ok, nmX4, by decide, rfl, rfl, tyX4_ok 2 (by decide), fun _ => ⟨rfl, rfl⟩, (k_me (tm2 (List.mem_of_getElem? (i := 77) rfl)) rfl)⟩
theorem ff_X4_18 : k_FF RX4 18 4 3 := ⟨_, _, _, tyX4, _, rfl, in_X4, tyX4_ok, nmX4, by decide, rfl, rfl, tyX4_ok 3 (by decide), fun _ => ⟨rfl, rfl⟩, (k_me (tm2 (List.mem_of_getElem? (i := 78) rfl)) rfl)⟩
theorem ff_X4_21 : k_FF RX4 21 4 4 := ⟨_, _, _, tyX4, _, rfl, in_X4, tyX4_ok, nmX4, by decide, rfl, rfl, tyX4_ok 4 (by decide), fun _ => ⟨rfl, rfl⟩, (k_me (tm2 (List.mem_of_getElem? (i := 79) rfl)) rfl)⟩
theorem ff_X3_9 : k_FF RX3 9 3 6 := ⟨_, _, _, tyX3, _, rfl, in_X3, tyX3_ok, nmX3, by decide, rfl, rfl, tyX3_ok 6 (by decide), fun _ => ⟨rfl, rfl⟩, (k_me (tm1 (List.mem_of_getElem? (i := 204) rfl)) rfl)⟩
theorem ff_X3_15 : k_FF RX3 15 3 7 := ⟨_, _, _, tyX3, _, rfl, in_X3, tyX3_ok, nmX3, by decide, rfl, rfl, tyX3_ok 7 (by decide), fun _ => ⟨rfl, rfl⟩, (k_me (tm1 (List.mem_of_getElem? (i := 207) rfl)) rfl)⟩
theorem ff_X3_18 : k_FF RX3 18 3 8 := ⟨_, _, _, tyX3, _, rfl, in_X3, tyX3_ok, nmX3, by decide, rfl, rfl, tyX3_ok 8 (by decide), fun _ => ⟨rfl, rfl⟩, (k_me (tm1 (List.mem_of_getElem? (i := 209) rfl)) rfl)⟩
theorem ff_X3_21 : k_FF RX3 21 3 9 := ⟨_, _, _, tyX3, _, rfl, in_X3, tyX3_ok, nmX3, by decide, rfl, rfl, tyX3_ok 9 (by decide), fun _ => ⟨rfl, rfl⟩, (k_me (tm1 (List.mem_of_getElem? (i := 211) rfl)) rfl)⟩
theorem ff_X3_24 : k_FF RX3 24 3 0 := ⟨_, _, _, tyX3, _, rfl, in_X3, tyX3_ok, nmX3, by decide, rfl, rfl, tyX3_ok 0 (by decide), fun _ => ⟨rfl, rfl⟩, (k_me (tm1 (List.mem_of_getElem? (i := 196) rfl)) rfl)⟩
theorem ff_X3_28 : k_FF RX3 28 3 1 := ⟨_, _, _, tyX3, _, rfl, in_X3, tyX3_ok, nmX3, by decide, rfl, rfl, tyX3_ok 1 (by decide), fun _ => ⟨rfl, rfl⟩, (k_me (tm1 (List.mem_of_getElem? (i := 197) rfl)) rfl)⟩
theorem ff_X3_32 : k_FF RX3 32 3 2 := ⟨_, _, _, tyX3, _, rfl, in_X3, tyX3_ok, nmX3, by decide, rfl, rfl, tyX3_ok 2 (by decide), fun _ => ⟨rfl, rfl⟩, (k_me (tm1 (List.mem_of_getElem? (i := 198) rfl)) rfl)⟩
def i_X8 (p : Nat) (h : k_H) : k_H := (k_sI p 6 (-1 : Int32) (k_nf p 8 [2, 0, 0, 0, 0, 0, 0] 0 (2, 600, []) h))
set_option maxRecDepth 10000 in
theorem c_X8_init (l : Launch) (h : k_H) {p : Nat} (hs : h.1[p]? = some (0, 8, [2, 0, 0, 0, 0, 0, 0])) (hlen : h.1.length + 1 ≤ 1000000) : k_CG l yX8_init cX8_init 1 none 2 40 1 600 [.ref p] h (fun v h' => v = none ∧ h' = i_X8 p h) := by
  refine k_ofWG (by decide) (Nat.le_of_ble_eq_true rfl) ?_
  intro X ad hl hR0 hr C hnm
  have hR : X.R.frames = 2 ∧ X.R.locals = 40 := by rw [hR0]; exact ⟨rfl, rfl⟩
  have hRc : X.R.cells = 1 := by rw [hR0]
  have hRs : X.R.slots = 600 := by rw [hR0]
  show k_W X 1 0 0 _ ad h 0 [some (.ref p)] []
  refine r_aload_n C dX8_init_0 (rfl : 0 + 1 = 1) rfl ?_
  refine r_objinit C hR dX8_init_1 (rfl : 1 + 3 = 4) (k_me (tm1 (List.mem_of_getElem? (i := 41) rfl)) rfl) rfl rfl ?_
  refine r_aload_n C dX8_init_4 (rfl : 4 + 1 = 5) rfl ?_
  refine r_sipush (v := (600 : Int32)) C dX8_init_5 (rfl : 5 + 3 = 8) rfl ?_
  refine g_nfB C hnm ff_X8_9 hs (Nat.le_of_ble_eq_true rfl) dX8_init_8 dX8_init_10 (rfl : 8 + 5 = 13) (by decide) rfl (by decide) (k_csl hRc hRs rfl rfl) (by omega) ⟨k_okv_of hs, True.intro⟩ True.intro ?_
  intro ad0 hsm0 C0
  have hs0 := k_nf_at (ci := 8) (kk := 0) (sl := [2, 0, 0, 0, 0, 0, 0]) (s := (2, 600, [])) hs
  refine r_aload_n C0 dX8_init_13 (rfl : 13 + 1 = 14) rfl ?_
  refine r_iconst (v := (-1 : Int32)) C0 dX8_init_14 (rfl : 14 + 1 = 15) rfl ?_
  refine r_putI C0 dX8_init_15 (rfl : 15 + 3 = 18) fp_X8_15 hs0 rfl ?_
  show k_W _ _ _ _ _ _ (k_sI p 6 (-1 : Int32) (k_nf p 8 [2, 0, 0, 0, 0, 0, 0] 0 (2, 600, []) h)) _ _ _
  exact g_vret C0 hr (Nat.le_of_ble_eq_true rfl) (Nat.le_of_ble_eq_true rfl) ⟨rfl, rfl⟩ hsm0 dX8_init_18
def i_X1 (p : Nat) (h : k_H) : k_H := (k_nf p 1 ([2, 2, 0].set 0 ((h.1.length) + 3)) 1 (1, 24, []) (k_nf p 1 [2, 2, 0] 0 (1, 150, []) h))
set_option maxRecDepth 10000 in
theorem c_X1_init (l : Launch) (h : k_H) {p : Nat} (hs : h.1[p]? = some (0, 1, [2, 2, 0])) (hlen : h.1.length + 2 ≤ 1000000) : k_CG l yX1_init cX1_init 1 none 2 40 2 174 [.ref p] h (fun v h' => v = none ∧ h' = i_X1 p h) := by
  refine k_ofWG (by decide) (Nat.le_of_ble_eq_true rfl) ?_
  intro X ad hl hR0 hr C hnm
  have hR : X.R.frames = 2 ∧ X.R.locals = 40 := by rw [hR0]; exact ⟨rfl, rfl⟩
  have hRc : X.R.cells = 2 := by rw [hR0]
  have hRs : X.R.slots = 174 := by rw [hR0]
  show k_W X 1 0 0 _ ad h 0 [some (.ref p)] []
  refine r_aload_n C dX1_init_0 (rfl : 0 + 1 = 1) rfl ?_
  refine r_objinit C hR dX1_init_1 (rfl : 1 + 3 = 4) (k_me (tm1 (List.mem_of_getElem? (i := 167) rfl)) rfl) rfl rfl ?_
  refine r_aload_n C dX1_init_4 (rfl : 4 + 1 = 5) rfl ?_
  refine r_sipush (v := (150 : Int32)) C dX1_init_5 (rfl : 5 + 3 = 8) rfl ?_
  refine g_nfI C hnm ff_X1_9 hs (Nat.le_of_ble_eq_true rfl) dX1_init_8 dX1_init_10 (rfl : 8 + 5 = 13) (by decide) rfl (by decide) (k_csl hRc hRs rfl rfl) (by omega) ⟨k_okv_of hs, True.intro⟩ True.intro ?_
  intro ad0 hsm0 C0
  have hs0 := k_nf_at (ci := 1) (kk := 0) (sl := [2, 2, 0]) (s := (1, 150, [])) hs
  refine r_aload_n C0 dX1_init_13 (rfl : 13 + 1 = 14) rfl ?_
  refine r_bipush (v := (24 : Int32)) C0 dX1_init_14 (rfl : 14 + 2 = 16) rfl ?_
  refine g_nfI C0 hnm ff_X1_15 hs0 (Nat.le_of_ble_eq_true rfl) dX1_init_16 dX1_init_18 (rfl : 16 + 5 = 21) (by decide) rfl (by decide) (k_csl hRc hRs rfl rfl) (by rw [k_nf_len]; omega) ⟨k_okv_of hs0, True.intro⟩ True.intro ?_
  intro ad1 hsm1 C1
  have hs1 := k_nf_at (ci := 1) (kk := 1) (sl := ([2, 2, 0].set 0 ((h.1.length) + 3))) (s := (1, 24, [])) hs0
  exact g_vret C1 hr (Nat.le_of_ble_eq_true rfl) (Nat.le_of_ble_eq_true rfl) ⟨rfl, rfl⟩ (k_sm_tr hsm0 hsm1 (by rw [k_nf_len]; omega)) dX1_init_21
def i_X2 (p : Nat) (h : k_H) : k_H := (k_nf p 2 [2, 0, 0, 0] 0 (1, 21, []) h)
set_option maxRecDepth 10000 in
theorem c_X2_init (l : Launch) (h : k_H) {p : Nat} (hs : h.1[p]? = some (0, 2, [2, 0, 0, 0])) (hlen : h.1.length + 1 ≤ 1000000) : k_CG l yX2_init cX2_init 1 none 2 40 1 21 [.ref p] h (fun v h' => v = none ∧ h' = i_X2 p h) := by
  refine k_ofWG (by decide) (Nat.le_of_ble_eq_true rfl) ?_
  intro X ad hl hR0 hr C hnm
  have hR : X.R.frames = 2 ∧ X.R.locals = 40 := by rw [hR0]; exact ⟨rfl, rfl⟩
  have hRc : X.R.cells = 1 := by rw [hR0]
  have hRs : X.R.slots = 21 := by rw [hR0]
  show k_W X 1 0 0 _ ad h 0 [some (.ref p)] []
  refine r_aload_n C dX2_init_0 (rfl : 0 + 1 = 1) rfl ?_
  refine r_objinit C hR dX2_init_1 (rfl : 1 + 3 = 4) (k_me (tm2 (List.mem_of_getElem? (i := 189) rfl)) rfl) rfl rfl ?_
  refine r_aload_n C dX2_init_4 (rfl : 4 + 1 = 5) rfl ?_
  refine r_bipush (v := (21 : Int32)) C dX2_init_5 (rfl : 5 + 2 = 7) rfl ?_
  refine g_nfI C hnm ff_X2_9 hs (Nat.le_of_ble_eq_true rfl) dX2_init_7 dX2_init_9 (rfl : 7 + 5 = 12) (by decide) rfl (by decide) (k_csl hRc hRs rfl rfl) (by omega) ⟨k_okv_of hs, True.intro⟩ True.intro ?_
  intro ad0 hsm0 C0
  have hs0 := k_nf_at (ci := 2) (kk := 0) (sl := [2, 0, 0, 0]) (s := (1, 21, [])) hs
  exact g_vret C0 hr (Nat.le_of_ble_eq_true rfl) (Nat.le_of_ble_eq_true rfl) ⟨rfl, rfl⟩ hsm0 dX2_init_12
def i_X6 (p : Nat) (h : k_H) : k_H := (k_nf p 6 (([2, 2, 2, 0, 0, 0, 0].set 0 ((h.1.length) + 3)).set 1 ((k_nf p 6 [2, 2, 2, 0, 0, 0, 0] 0 (1, 30, []) h).1.length + 3)) 2 (1, 30, []) (k_nf p 6 ([2, 2, 2, 0, 0, 0, 0].set 0 ((h.1.length) + 3)) 1 (1, 30, []) (k_nf p 6 [2, 2, 2, 0, 0, 0, 0] 0 (1, 30, []) h)))
set_option maxRecDepth 10000 in
theorem c_X6_init (l : Launch) (h : k_H) {p : Nat} (hs : h.1[p]? = some (0, 6, [2, 2, 2, 0, 0, 0, 0])) (hlen : h.1.length + 3 ≤ 1000000) : k_CG l yX6_init cX6_init 1 none 2 40 3 90 [.ref p] h (fun v h' => v = none ∧ h' = i_X6 p h) := by
  refine k_ofWG (by decide) (Nat.le_of_ble_eq_true rfl) ?_
  intro X ad hl hR0 hr C hnm
  have hR : X.R.frames = 2 ∧ X.R.locals = 40 := by rw [hR0]; exact ⟨rfl, rfl⟩
  have hRc : X.R.cells = 3 := by rw [hR0]
  have hRs : X.R.slots = 90 := by rw [hR0]
  show k_W X 1 0 0 _ ad h 0 [some (.ref p)] []
  refine r_aload_n C dX6_init_0 (rfl : 0 + 1 = 1) rfl ?_
  refine r_objinit C hR dX6_init_1 (rfl : 1 + 3 = 4) (k_me (tm2 (List.mem_of_getElem? (i := 40) rfl)) rfl) rfl rfl ?_
  refine r_aload_n C dX6_init_4 (rfl : 4 + 1 = 5) rfl ?_
  refine r_bipush (v := (30 : Int32)) C dX6_init_5 (rfl : 5 + 2 = 7) rfl ?_
  refine g_nfI C hnm ff_X6_11 hs (Nat.le_of_ble_eq_true rfl) dX6_init_7 dX6_init_9 (rfl : 7 + 5 = 12) (by decide) rfl (by decide) (k_csl hRc hRs rfl rfl) (by omega) ⟨k_okv_of hs, True.intro⟩ True.intro ?_
  intro ad0 hsm0 C0
  have hs0 := k_nf_at (ci := 6) (kk := 0) (sl := [2, 2, 2, 0, 0, 0, 0]) (s := (1, 30, [])) hs
  refine r_aload_n C0 dX6_init_12 (rfl : 12 + 1 = 13) rfl ?_
  refine r_bipush (v := (30 : Int32)) C0 dX6_init_13 (rfl : 13 + 2 = 15) rfl ?_
  refine g_nfI C0 hnm ff_X6_15 hs0 (Nat.le_of_ble_eq_true rfl) dX6_init_15 dX6_init_17 (rfl : 15 + 5 = 20) (by decide) rfl (by decide) (k_csl hRc hRs rfl rfl) (by rw [k_nf_len]; omega) ⟨k_okv_of hs0, True.intro⟩ True.intro ?_
  intro ad1 hsm1 C1
  have hs1 := k_nf_at (ci := 6) (kk := 1) (sl := ([2, 2, 2, 0, 0, 0, 0].set 0 ((h.1.length) + 3))) (s := (1, 30, [])) hs0
  refine r_aload_n C1 dX6_init_20 (rfl : 20 + 1 = 21) rfl ?_
  refine r_bipush (v := (30 : Int32)) C1 dX6_init_21 (rfl : 21 + 2 = 23) rfl ?_
  refine g_nfI C1 hnm ff_X6_18 hs1 (Nat.le_of_ble_eq_true rfl) dX6_init_23 dX6_init_25 (rfl : 23 + 5 = 28) (by decide) rfl (by decide) (k_csl hRc hRs rfl rfl) (by rw [k_nf_len, k_nf_len]; omega) ⟨k_okv_of hs1, True.intro⟩ True.intro ?_
  intro ad2 hsm2 C2
  have hs2 := k_nf_at (ci := 6) (kk := 2) (sl := (([2, 2, 2, 0, 0, 0, 0].set 0 ((h.1.length) + 3)).set 1 ((k_nf p 6 [2, 2, 2, 0, 0, 0, 0] 0 (1, 30, []) h).1.length + 3))) (s := (1, 30, [])) hs1
  exact g_vret C2 hr (Nat.le_of_ble_eq_true rfl) (Nat.le_of_ble_eq_true rfl) ⟨rfl, rfl⟩ (k_sm_tr (k_sm_tr hsm0 hsm1 (by rw [k_nf_len]; omega)) hsm2 (by rw [k_nf_len, k_nf_len]; omega)) dX6_init_28
def i_X4 (p : Nat) (h : k_H) : k_H := (k_nf p 4 ((([2, 0, 2, 2, 2, 0].set 0 ((h.1.length) + 3)).set 2 ((k_nf p 4 [2, 0, 2, 2, 2, 0] 0 (5, 16, []) h).1.length + 3)).set 3 ((k_nf p 4 ([2, 0, 2, 2, 2, 0].set 0 ((h.1.length) + 3)) 2 (5, 3, []) (k_nf p 4 [2, 0, 2, 2, 2, 0] 0 (5, 16, []) h)).1.length + 3)) 4 (1, 3, []) (k_nf p 4 (([2, 0, 2, 2, 2, 0].set 0 ((h.1.length) + 3)).set 2 ((k_nf p 4 [2, 0, 2, 2, 2, 0] 0 (5, 16, []) h).1.length + 3)) 3 (5, 48, []) (k_nf p 4 ([2, 0, 2, 2, 2, 0].set 0 ((h.1.length) + 3)) 2 (5, 3, []) (k_nf p 4 [2, 0, 2, 2, 2, 0] 0 (5, 16, []) h))))
set_option maxRecDepth 10000 in
theorem c_X4_init (l : Launch) (h : k_H) {p : Nat} (hs : h.1[p]? = some (0, 4, [2, 0, 2, 2, 2, 0])) (hlen : h.1.length + 4 ≤ 1000000) : k_CG l yX4_init cX4_init 1 none 2 40 4 70 [.ref p] h (fun v h' => v = none ∧ h' = i_X4 p h) := by
  refine k_ofWG (by decide) (Nat.le_of_ble_eq_true rfl) ?_
  intro X ad hl hR0 hr C hnm
  have hR : X.R.frames = 2 ∧ X.R.locals = 40 := by rw [hR0]; exact ⟨rfl, rfl⟩
  have hRc : X.R.cells = 4 := by rw [hR0]
  have hRs : X.R.slots = 70 := by rw [hR0]
  show k_W X 1 0 0 _ ad h 0 [some (.ref p)] []
  refine r_aload_n C dX4_init_0 (rfl : 0 + 1 = 1) rfl ?_
  refine r_objinit C hR dX4_init_1 (rfl : 1 + 3 = 4) (k_me (tm2 (List.mem_of_getElem? (i := 71) rfl)) rfl) rfl rfl ?_
  refine r_aload_n C dX4_init_4 (rfl : 4 + 1 = 5) rfl ?_
  refine r_bipush (v := (16 : Int32)) C dX4_init_5 (rfl : 5 + 2 = 7) rfl ?_
  refine g_nfQ C hnm (k_me (tm2 (List.mem_of_getElem? (i := 72) rfl)) rfl) ff_X4_11 hs (Nat.le_of_ble_eq_true rfl) dX4_init_7 dX4_init_10 (rfl : 7 + 6 = 13) (by decide) rfl (by decide) (k_csl hRc hRs rfl rfl) (by omega) ⟨k_okv_of hs, True.intro⟩ True.intro ?_
  intro ad0 hsm0 C0
  have hs0 := k_nf_at (ci := 4) (kk := 0) (sl := [2, 0, 2, 2, 2, 0]) (s := (5, 16, [])) hs
  refine r_aload_n C0 dX4_init_13 (rfl : 13 + 1 = 14) rfl ?_
  refine r_iconst (v := (3 : Int32)) C0 dX4_init_14 (rfl : 14 + 1 = 15) rfl ?_
  refine g_nfQ C0 hnm (k_me (tm2 (List.mem_of_getElem? (i := 72) rfl)) rfl) ff_X4_15 hs0 (Nat.le_of_ble_eq_true rfl) dX4_init_15 dX4_init_18 (rfl : 15 + 6 = 21) (by decide) rfl (by decide) (k_csl hRc hRs rfl rfl) (by rw [k_nf_len]; omega) ⟨k_okv_of hs0, True.intro⟩ True.intro ?_
  intro ad1 hsm1 C1
  have hs1 := k_nf_at (ci := 4) (kk := 2) (sl := ([2, 0, 2, 2, 2, 0].set 0 ((h.1.length) + 3))) (s := (5, 3, [])) hs0
  refine r_aload_n C1 dX4_init_21 (rfl : 21 + 1 = 22) rfl ?_
  refine r_bipush (v := (48 : Int32)) C1 dX4_init_22 (rfl : 22 + 2 = 24) rfl ?_
  refine g_nfQ C1 hnm (k_me (tm2 (List.mem_of_getElem? (i := 72) rfl)) rfl) ff_X4_18 hs1 (Nat.le_of_ble_eq_true rfl) dX4_init_24 dX4_init_27 (rfl : 24 + 6 = 30) (by decide) rfl (by decide) (k_csl hRc hRs rfl rfl) (by rw [k_nf_len, k_nf_len]; omega) ⟨k_okv_of hs1, True.intro⟩ True.intro ?_
  intro ad2 hsm2 C2
  have hs2 := k_nf_at (ci := 4) (kk := 3) (sl := (([2, 0, 2, 2, 2, 0].set 0 ((h.1.length) + 3)).set 2 ((k_nf p 4 [2, 0, 2, 2, 2, 0] 0 (5, 16, []) h).1.length + 3))) (s := (5, 48, [])) hs1
  refine r_aload_n C2 dX4_init_30 (rfl : 30 + 1 = 31) rfl ?_
  refine r_iconst (v := (3 : Int32)) C2 dX4_init_31 (rfl : 31 + 1 = 32) rfl ?_
  refine g_nfI C2 hnm ff_X4_21 hs2 (Nat.le_of_ble_eq_true rfl) dX4_init_32 dX4_init_34 (rfl : 32 + 5 = 37) (by decide) rfl (by decide) (k_csl hRc hRs rfl rfl) (by rw [k_nf_len, k_nf_len, k_nf_len]; omega) ⟨k_okv_of hs2, True.intro⟩ True.intro ?_
  intro ad3 hsm3 C3
  have hs3 := k_nf_at (ci := 4) (kk := 4) (sl := ((([2, 0, 2, 2, 2, 0].set 0 ((h.1.length) + 3)).set 2 ((k_nf p 4 [2, 0, 2, 2, 2, 0] 0 (5, 16, []) h).1.length + 3)).set 3 ((k_nf p 4 ([2, 0, 2, 2, 2, 0].set 0 ((h.1.length) + 3)) 2 (5, 3, []) (k_nf p 4 [2, 0, 2, 2, 2, 0] 0 (5, 16, []) h)).1.length + 3))) (s := (1, 3, [])) hs2
  exact g_vret C3 hr (Nat.le_of_ble_eq_true rfl) (Nat.le_of_ble_eq_true rfl) ⟨rfl, rfl⟩ (k_sm_tr (k_sm_tr (k_sm_tr hsm0 hsm1 (by rw [k_nf_len]; omega)) hsm2 (by rw [k_nf_len, k_nf_len]; omega)) hsm3 (by rw [k_nf_len, k_nf_len, k_nf_len]; omega)) dX4_init_37
def i_X3 (p q0 q1 q2 : Nat) (h : k_H) : k_H := (k_st1 p (0, 3, (((((([2, 2, 2, 1, 1, 1, 2, 2, 2, 2, 0, 0, 0, 0, 0, 0, 0, 0].set 6 ((h.1.length) + 3)).set 7 ((k_nf p 3 [2, 2, 2, 1, 1, 1, 2, 2, 2, 2, 0, 0, 0, 0, 0, 0, 0, 0] 6 (1, 6, []) h).1.length + 3)).set 8 ((k_nf p 3 ([2, 2, 2, 1, 1, 1, 2, 2, 2, 2, 0, 0, 0, 0, 0, 0, 0, 0].set 6 ((h.1.length) + 3)) 7 (1, 6, []) (k_nf p 3 [2, 2, 2, 1, 1, 1, 2, 2, 2, 2, 0, 0, 0, 0, 0, 0, 0, 0] 6 (1, 6, []) h)).1.length + 3)).set 9 ((k_nf p 3 (([2, 2, 2, 1, 1, 1, 2, 2, 2, 2, 0, 0, 0, 0, 0, 0, 0, 0].set 6 ((h.1.length) + 3)).set 7 ((k_nf p 3 [2, 2, 2, 1, 1, 1, 2, 2, 2, 2, 0, 0, 0, 0, 0, 0, 0, 0] 6 (1, 6, []) h).1.length + 3)) 8 (1, 6, []) (k_nf p 3 ([2, 2, 2, 1, 1, 1, 2, 2, 2, 2, 0, 0, 0, 0, 0, 0, 0, 0].set 6 ((h.1.length) + 3)) 7 (1, 6, []) (k_nf p 3 [2, 2, 2, 1, 1, 1, 2, 2, 2, 2, 0, 0, 0, 0, 0, 0, 0, 0] 6 (1, 6, []) h))).1.length + 3)).set 0 (q0 + 3)).set 1 (q1 + 3)).set 2 (q2 + 3)) (k_st1 p (0, 3, ((((([2, 2, 2, 1, 1, 1, 2, 2, 2, 2, 0, 0, 0, 0, 0, 0, 0, 0].set 6 ((h.1.length) + 3)).set 7 ((k_nf p 3 [2, 2, 2, 1, 1, 1, 2, 2, 2, 2, 0, 0, 0, 0, 0, 0, 0, 0] 6 (1, 6, []) h).1.length + 3)).set 8 ((k_nf p 3 ([2, 2, 2, 1, 1, 1, 2, 2, 2, 2, 0, 0, 0, 0, 0, 0, 0, 0].set 6 ((h.1.length) + 3)) 7 (1, 6, []) (k_nf p 3 [2, 2, 2, 1, 1, 1, 2, 2, 2, 2, 0, 0, 0, 0, 0, 0, 0, 0] 6 (1, 6, []) h)).1.length + 3)).set 9 ((k_nf p 3 (([2, 2, 2, 1, 1, 1, 2, 2, 2, 2, 0, 0, 0, 0, 0, 0, 0, 0].set 6 ((h.1.length) + 3)).set 7 ((k_nf p 3 [2, 2, 2, 1, 1, 1, 2, 2, 2, 2, 0, 0, 0, 0, 0, 0, 0, 0] 6 (1, 6, []) h).1.length + 3)) 8 (1, 6, []) (k_nf p 3 ([2, 2, 2, 1, 1, 1, 2, 2, 2, 2, 0, 0, 0, 0, 0, 0, 0, 0].set 6 ((h.1.length) + 3)) 7 (1, 6, []) (k_nf p 3 [2, 2, 2, 1, 1, 1, 2, 2, 2, 2, 0, 0, 0, 0, 0, 0, 0, 0] 6 (1, 6, []) h))).1.length + 3)).set 0 (q0 + 3)).set 1 (q1 + 3)) (k_st1 p (0, 3, (((([2, 2, 2, 1, 1, 1, 2, 2, 2, 2, 0, 0, 0, 0, 0, 0, 0, 0].set 6 ((h.1.length) + 3)).set 7 ((k_nf p 3 [2, 2, 2, 1, 1, 1, 2, 2, 2, 2, 0, 0, 0, 0, 0, 0, 0, 0] 6 (1, 6, []) h).1.length + 3)).set 8 ((k_nf p 3 ([2, 2, 2, 1, 1, 1, 2, 2, 2, 2, 0, 0, 0, 0, 0, 0, 0, 0].set 6 ((h.1.length) + 3)) 7 (1, 6, []) (k_nf p 3 [2, 2, 2, 1, 1, 1, 2, 2, 2, 2, 0, 0, 0, 0, 0, 0, 0, 0] 6 (1, 6, []) h)).1.length + 3)).set 9 ((k_nf p 3 (([2, 2, 2, 1, 1, 1, 2, 2, 2, 2, 0, 0, 0, 0, 0, 0, 0, 0].set 6 ((h.1.length) + 3)).set 7 ((k_nf p 3 [2, 2, 2, 1, 1, 1, 2, 2, 2, 2, 0, 0, 0, 0, 0, 0, 0, 0] 6 (1, 6, []) h).1.length + 3)) 8 (1, 6, []) (k_nf p 3 ([2, 2, 2, 1, 1, 1, 2, 2, 2, 2, 0, 0, 0, 0, 0, 0, 0, 0].set 6 ((h.1.length) + 3)) 7 (1, 6, []) (k_nf p 3 [2, 2, 2, 1, 1, 1, 2, 2, 2, 2, 0, 0, 0, 0, 0, 0, 0, 0] 6 (1, 6, []) h))).1.length + 3)).set 0 (q0 + 3)) (k_nf p 3 ((([2, 2, 2, 1, 1, 1, 2, 2, 2, 2, 0, 0, 0, 0, 0, 0, 0, 0].set 6 ((h.1.length) + 3)).set 7 ((k_nf p 3 [2, 2, 2, 1, 1, 1, 2, 2, 2, 2, 0, 0, 0, 0, 0, 0, 0, 0] 6 (1, 6, []) h).1.length + 3)).set 8 ((k_nf p 3 ([2, 2, 2, 1, 1, 1, 2, 2, 2, 2, 0, 0, 0, 0, 0, 0, 0, 0].set 6 ((h.1.length) + 3)) 7 (1, 6, []) (k_nf p 3 [2, 2, 2, 1, 1, 1, 2, 2, 2, 2, 0, 0, 0, 0, 0, 0, 0, 0] 6 (1, 6, []) h)).1.length + 3)) 9 (1, 6, []) (k_nf p 3 (([2, 2, 2, 1, 1, 1, 2, 2, 2, 2, 0, 0, 0, 0, 0, 0, 0, 0].set 6 ((h.1.length) + 3)).set 7 ((k_nf p 3 [2, 2, 2, 1, 1, 1, 2, 2, 2, 2, 0, 0, 0, 0, 0, 0, 0, 0] 6 (1, 6, []) h).1.length + 3)) 8 (1, 6, []) (k_nf p 3 ([2, 2, 2, 1, 1, 1, 2, 2, 2, 2, 0, 0, 0, 0, 0, 0, 0, 0].set 6 ((h.1.length) + 3)) 7 (1, 6, []) (k_nf p 3 [2, 2, 2, 1, 1, 1, 2, 2, 2, 2, 0, 0, 0, 0, 0, 0, 0, 0] 6 (1, 6, []) h)))))))
set_option maxRecDepth 10000 in
theorem c_X3_init (l : Launch) (h : k_H) {p : Nat} (hs : h.1[p]? = some (0, 3, [2, 2, 2, 1, 1, 1, 2, 2, 2, 2, 0, 0, 0, 0, 0, 0, 0, 0])) {q0 : Nat} {s0 : k_Sh} (hq0 : h.1[q0]? = some s0) (hn0 : p ≠ q0) {q1 : Nat} {s1 : k_Sh} (hq1 : h.1[q1]? = some s1) (hn1 : p ≠ q1) {q2 : Nat} {s2 : k_Sh} (hq2 : h.1[q2]? = some s2) (hn2 : p ≠ q2) (hlen : h.1.length + 4 ≤ 1000000) : k_CG l yX3_init cX3_init 4 none 2 40 4 24 [.ref p, .ref q0, .ref q1, .ref q2] h (fun v h' => v = none ∧ h' = i_X3 p q0 q1 q2 h) := by
  refine k_ofWG (by decide) (Nat.le_of_ble_eq_true rfl) ?_
  intro X ad hl hR0 hr C hnm
  have hR : X.R.frames = 2 ∧ X.R.locals = 40 := by rw [hR0]; exact ⟨rfl, rfl⟩
  have hRc : X.R.cells = 4 := by rw [hR0]
  have hRs : X.R.slots = 24 := by rw [hR0]
  show k_W X 4 0 0 _ ad h 0 [some (.ref p), some (.ref q0), some (.ref q1), some (.ref q2)] []
  refine r_aload_n C dX3_init_0 (rfl : 0 + 1 = 1) rfl ?_
  refine r_objinit C hR dX3_init_1 (rfl : 1 + 3 = 4) (k_me (tm1 (List.mem_of_getElem? (i := 195) rfl)) rfl) rfl rfl ?_
  refine r_aload_n C dX3_init_4 (rfl : 4 + 1 = 5) rfl ?_
  refine r_bipush (v := (6 : Int32)) C dX3_init_5 (rfl : 5 + 2 = 7) rfl ?_
  refine g_nfI C hnm ff_X3_9 hs (Nat.le_of_ble_eq_true rfl) dX3_init_7 dX3_init_9 (rfl : 7 + 5 = 12) (by decide) rfl (by decide) (k_csl hRc hRs rfl rfl) (by omega) ⟨k_okv_of hs, k_okv_of hq0, k_okv_of hq1, k_okv_of hq2, True.intro⟩ True.intro ?_
  intro ad0 hsm0 C0
  have hs0 := k_nf_at (ci := 3) (kk := 6) (sl := [2, 2, 2, 1, 1, 1, 2, 2, 2, 2, 0, 0, 0, 0, 0, 0, 0, 0]) (s := (1, 6, [])) hs
  have hq0_0 := k_nf_ne (ci := 3) (kk := 6) (sl := [2, 2, 2, 1, 1, 1, 2, 2, 2, 2, 0, 0, 0, 0, 0, 0, 0, 0]) (s := (1, 6, [])) hn0 hq0
  have hq1_0 := k_nf_ne (ci := 3) (kk := 6) (sl := [2, 2, 2, 1, 1, 1, 2, 2, 2, 2, 0, 0, 0, 0, 0, 0, 0, 0]) (s := (1, 6, [])) hn1 hq1
  have hq2_0 := k_nf_ne (ci := 3) (kk := 6) (sl := [2, 2, 2, 1, 1, 1, 2, 2, 2, 2, 0, 0, 0, 0, 0, 0, 0, 0]) (s := (1, 6, [])) hn2 hq2
  refine r_aload_n C0 dX3_init_12 (rfl : 12 + 1 = 13) rfl ?_
  refine r_bipush (v := (6 : Int32)) C0 dX3_init_13 (rfl : 13 + 2 = 15) rfl ?_
  refine g_nfI C0 hnm ff_X3_15 hs0 (Nat.le_of_ble_eq_true rfl) dX3_init_15 dX3_init_17 (rfl : 15 + 5 = 20) (by decide) rfl (by decide) (k_csl hRc hRs rfl rfl) (by rw [k_nf_len]; omega) ⟨k_okv_of hs0, k_okv_of hq0_0, k_okv_of hq1_0, k_okv_of hq2_0, True.intro⟩ True.intro ?_
  intro ad1 hsm1 C1
  have hs1 := k_nf_at (ci := 3) (kk := 7) (sl := ([2, 2, 2, 1, 1, 1, 2, 2, 2, 2, 0, 0, 0, 0, 0, 0, 0, 0].set 6 ((h.1.length) + 3))) (s := (1, 6, [])) hs0
  have hq0_1 := k_nf_ne (ci := 3) (kk := 7) (sl := ([2, 2, 2, 1, 1, 1, 2, 2, 2, 2, 0, 0, 0, 0, 0, 0, 0, 0].set 6 ((h.1.length) + 3))) (s := (1, 6, [])) hn0 hq0_0
  have hq1_1 := k_nf_ne (ci := 3) (kk := 7) (sl := ([2, 2, 2, 1, 1, 1, 2, 2, 2, 2, 0, 0, 0, 0, 0, 0, 0, 0].set 6 ((h.1.length) + 3))) (s := (1, 6, [])) hn1 hq1_0
  have hq2_1 := k_nf_ne (ci := 3) (kk := 7) (sl := ([2, 2, 2, 1, 1, 1, 2, 2, 2, 2, 0, 0, 0, 0, 0, 0, 0, 0].set 6 ((h.1.length) + 3))) (s := (1, 6, [])) hn2 hq2_0
  refine r_aload_n C1 dX3_init_20 (rfl : 20 + 1 = 21) rfl ?_
  refine r_bipush (v := (6 : Int32)) C1 dX3_init_21 (rfl : 21 + 2 = 23) rfl ?_
  refine g_nfI C1 hnm ff_X3_18 hs1 (Nat.le_of_ble_eq_true rfl) dX3_init_23 dX3_init_25 (rfl : 23 + 5 = 28) (by decide) rfl (by decide) (k_csl hRc hRs rfl rfl) (by rw [k_nf_len, k_nf_len]; omega) ⟨k_okv_of hs1, k_okv_of hq0_1, k_okv_of hq1_1, k_okv_of hq2_1, True.intro⟩ True.intro ?_
  intro ad2 hsm2 C2
  have hs2 := k_nf_at (ci := 3) (kk := 8) (sl := (([2, 2, 2, 1, 1, 1, 2, 2, 2, 2, 0, 0, 0, 0, 0, 0, 0, 0].set 6 ((h.1.length) + 3)).set 7 ((k_nf p 3 [2, 2, 2, 1, 1, 1, 2, 2, 2, 2, 0, 0, 0, 0, 0, 0, 0, 0] 6 (1, 6, []) h).1.length + 3))) (s := (1, 6, [])) hs1
  have hq0_2 := k_nf_ne (ci := 3) (kk := 8) (sl := (([2, 2, 2, 1, 1, 1, 2, 2, 2, 2, 0, 0, 0, 0, 0, 0, 0, 0].set 6 ((h.1.length) + 3)).set 7 ((k_nf p 3 [2, 2, 2, 1, 1, 1, 2, 2, 2, 2, 0, 0, 0, 0, 0, 0, 0, 0] 6 (1, 6, []) h).1.length + 3))) (s := (1, 6, [])) hn0 hq0_1
  have hq1_2 := k_nf_ne (ci := 3) (kk := 8) (sl := (([2, 2, 2, 1, 1, 1, 2, 2, 2, 2, 0, 0, 0, 0, 0, 0, 0, 0].set 6 ((h.1.length) + 3)).set 7 ((k_nf p 3 [2, 2, 2, 1, 1, 1, 2, 2, 2, 2, 0, 0, 0, 0, 0, 0, 0, 0] 6 (1, 6, []) h).1.length + 3))) (s := (1, 6, [])) hn1 hq1_1
  have hq2_2 := k_nf_ne (ci := 3) (kk := 8) (sl := (([2, 2, 2, 1, 1, 1, 2, 2, 2, 2, 0, 0, 0, 0, 0, 0, 0, 0].set 6 ((h.1.length) + 3)).set 7 ((k_nf p 3 [2, 2, 2, 1, 1, 1, 2, 2, 2, 2, 0, 0, 0, 0, 0, 0, 0, 0] 6 (1, 6, []) h).1.length + 3))) (s := (1, 6, [])) hn2 hq2_1
  refine r_aload_n C2 dX3_init_28 (rfl : 28 + 1 = 29) rfl ?_
  refine r_bipush (v := (6 : Int32)) C2 dX3_init_29 (rfl : 29 + 2 = 31) rfl ?_
  refine g_nfI C2 hnm ff_X3_21 hs2 (Nat.le_of_ble_eq_true rfl) dX3_init_31 dX3_init_33 (rfl : 31 + 5 = 36) (by decide) rfl (by decide) (k_csl hRc hRs rfl rfl) (by rw [k_nf_len, k_nf_len, k_nf_len]; omega) ⟨k_okv_of hs2, k_okv_of hq0_2, k_okv_of hq1_2, k_okv_of hq2_2, True.intro⟩ True.intro ?_
  intro ad3 hsm3 C3
  have hs3 := k_nf_at (ci := 3) (kk := 9) (sl := ((([2, 2, 2, 1, 1, 1, 2, 2, 2, 2, 0, 0, 0, 0, 0, 0, 0, 0].set 6 ((h.1.length) + 3)).set 7 ((k_nf p 3 [2, 2, 2, 1, 1, 1, 2, 2, 2, 2, 0, 0, 0, 0, 0, 0, 0, 0] 6 (1, 6, []) h).1.length + 3)).set 8 ((k_nf p 3 ([2, 2, 2, 1, 1, 1, 2, 2, 2, 2, 0, 0, 0, 0, 0, 0, 0, 0].set 6 ((h.1.length) + 3)) 7 (1, 6, []) (k_nf p 3 [2, 2, 2, 1, 1, 1, 2, 2, 2, 2, 0, 0, 0, 0, 0, 0, 0, 0] 6 (1, 6, []) h)).1.length + 3))) (s := (1, 6, [])) hs2
  have hq0_3 := k_nf_ne (ci := 3) (kk := 9) (sl := ((([2, 2, 2, 1, 1, 1, 2, 2, 2, 2, 0, 0, 0, 0, 0, 0, 0, 0].set 6 ((h.1.length) + 3)).set 7 ((k_nf p 3 [2, 2, 2, 1, 1, 1, 2, 2, 2, 2, 0, 0, 0, 0, 0, 0, 0, 0] 6 (1, 6, []) h).1.length + 3)).set 8 ((k_nf p 3 ([2, 2, 2, 1, 1, 1, 2, 2, 2, 2, 0, 0, 0, 0, 0, 0, 0, 0].set 6 ((h.1.length) + 3)) 7 (1, 6, []) (k_nf p 3 [2, 2, 2, 1, 1, 1, 2, 2, 2, 2, 0, 0, 0, 0, 0, 0, 0, 0] 6 (1, 6, []) h)).1.length + 3))) (s := (1, 6, [])) hn0 hq0_2
  have hq1_3 := k_nf_ne (ci := 3) (kk := 9) (sl := ((([2, 2, 2, 1, 1, 1, 2, 2, 2, 2, 0, 0, 0, 0, 0, 0, 0, 0].set 6 ((h.1.length) + 3)).set 7 ((k_nf p 3 [2, 2, 2, 1, 1, 1, 2, 2, 2, 2, 0, 0, 0, 0, 0, 0, 0, 0] 6 (1, 6, []) h).1.length + 3)).set 8 ((k_nf p 3 ([2, 2, 2, 1, 1, 1, 2, 2, 2, 2, 0, 0, 0, 0, 0, 0, 0, 0].set 6 ((h.1.length) + 3)) 7 (1, 6, []) (k_nf p 3 [2, 2, 2, 1, 1, 1, 2, 2, 2, 2, 0, 0, 0, 0, 0, 0, 0, 0] 6 (1, 6, []) h)).1.length + 3))) (s := (1, 6, [])) hn1 hq1_2
  have hq2_3 := k_nf_ne (ci := 3) (kk := 9) (sl := ((([2, 2, 2, 1, 1, 1, 2, 2, 2, 2, 0, 0, 0, 0, 0, 0, 0, 0].set 6 ((h.1.length) + 3)).set 7 ((k_nf p 3 [2, 2, 2, 1, 1, 1, 2, 2, 2, 2, 0, 0, 0, 0, 0, 0, 0, 0] 6 (1, 6, []) h).1.length + 3)).set 8 ((k_nf p 3 ([2, 2, 2, 1, 1, 1, 2, 2, 2, 2, 0, 0, 0, 0, 0, 0, 0, 0].set 6 ((h.1.length) + 3)) 7 (1, 6, []) (k_nf p 3 [2, 2, 2, 1, 1, 1, 2, 2, 2, 2, 0, 0, 0, 0, 0, 0, 0, 0] 6 (1, 6, []) h)).1.length + 3))) (s := (1, 6, [])) hn2 hq2_2
  refine r_aload_n C3 dX3_init_36 (rfl : 36 + 1 = 37) rfl ?_
  refine r_aload_n C3 dX3_init_37 (rfl : 37 + 1 = 38) rfl ?_
  refine g_putR C3 hnm dX3_init_38 (rfl : 38 + 3 = 41) ff_X3_24 hs3 (by simp) (k_lt_of hq0_3) ?_
  have hs_r38 := k_st1_at (s := (0, 3, (((([2, 2, 2, 1, 1, 1, 2, 2, 2, 2, 0, 0, 0, 0, 0, 0, 0, 0].set 6 ((h.1.length) + 3)).set 7 ((k_nf p 3 [2, 2, 2, 1, 1, 1, 2, 2, 2, 2, 0, 0, 0, 0, 0, 0, 0, 0] 6 (1, 6, []) h).1.length + 3)).set 8 ((k_nf p 3 ([2, 2, 2, 1, 1, 1, 2, 2, 2, 2, 0, 0, 0, 0, 0, 0, 0, 0].set 6 ((h.1.length) + 3)) 7 (1, 6, []) (k_nf p 3 [2, 2, 2, 1, 1, 1, 2, 2, 2, 2, 0, 0, 0, 0, 0, 0, 0, 0] 6 (1, 6, []) h)).1.length + 3)).set 9 ((k_nf p 3 (([2, 2, 2, 1, 1, 1, 2, 2, 2, 2, 0, 0, 0, 0, 0, 0, 0, 0].set 6 ((h.1.length) + 3)).set 7 ((k_nf p 3 [2, 2, 2, 1, 1, 1, 2, 2, 2, 2, 0, 0, 0, 0, 0, 0, 0, 0] 6 (1, 6, []) h).1.length + 3)) 8 (1, 6, []) (k_nf p 3 ([2, 2, 2, 1, 1, 1, 2, 2, 2, 2, 0, 0, 0, 0, 0, 0, 0, 0].set 6 ((h.1.length) + 3)) 7 (1, 6, []) (k_nf p 3 [2, 2, 2, 1, 1, 1, 2, 2, 2, 2, 0, 0, 0, 0, 0, 0, 0, 0] 6 (1, 6, []) h))).1.length + 3)).set 0 (q0 + 3))) hs3
  have hq0_r38 := k_st1_ne (s := (0, 3, (((([2, 2, 2, 1, 1, 1, 2, 2, 2, 2, 0, 0, 0, 0, 0, 0, 0, 0].set 6 ((h.1.length) + 3)).set 7 ((k_nf p 3 [2, 2, 2, 1, 1, 1, 2, 2, 2, 2, 0, 0, 0, 0, 0, 0, 0, 0] 6 (1, 6, []) h).1.length + 3)).set 8 ((k_nf p 3 ([2, 2, 2, 1, 1, 1, 2, 2, 2, 2, 0, 0, 0, 0, 0, 0, 0, 0].set 6 ((h.1.length) + 3)) 7 (1, 6, []) (k_nf p 3 [2, 2, 2, 1, 1, 1, 2, 2, 2, 2, 0, 0, 0, 0, 0, 0, 0, 0] 6 (1, 6, []) h)).1.length + 3)).set 9 ((k_nf p 3 (([2, 2, 2, 1, 1, 1, 2, 2, 2, 2, 0, 0, 0, 0, 0, 0, 0, 0].set 6 ((h.1.length) + 3)).set 7 ((k_nf p 3 [2, 2, 2, 1, 1, 1, 2, 2, 2, 2, 0, 0, 0, 0, 0, 0, 0, 0] 6 (1, 6, []) h).1.length + 3)) 8 (1, 6, []) (k_nf p 3 ([2, 2, 2, 1, 1, 1, 2, 2, 2, 2, 0, 0, 0, 0, 0, 0, 0, 0].set 6 ((h.1.length) + 3)) 7 (1, 6, []) (k_nf p 3 [2, 2, 2, 1, 1, 1, 2, 2, 2, 2, 0, 0, 0, 0, 0, 0, 0, 0] 6 (1, 6, []) h))).1.length + 3)).set 0 (q0 + 3))) hn0 hq0_3
  have hq1_r38 := k_st1_ne (s := (0, 3, (((([2, 2, 2, 1, 1, 1, 2, 2, 2, 2, 0, 0, 0, 0, 0, 0, 0, 0].set 6 ((h.1.length) + 3)).set 7 ((k_nf p 3 [2, 2, 2, 1, 1, 1, 2, 2, 2, 2, 0, 0, 0, 0, 0, 0, 0, 0] 6 (1, 6, []) h).1.length + 3)).set 8 ((k_nf p 3 ([2, 2, 2, 1, 1, 1, 2, 2, 2, 2, 0, 0, 0, 0, 0, 0, 0, 0].set 6 ((h.1.length) + 3)) 7 (1, 6, []) (k_nf p 3 [2, 2, 2, 1, 1, 1, 2, 2, 2, 2, 0, 0, 0, 0, 0, 0, 0, 0] 6 (1, 6, []) h)).1.length + 3)).set 9 ((k_nf p 3 (([2, 2, 2, 1, 1, 1, 2, 2, 2, 2, 0, 0, 0, 0, 0, 0, 0, 0].set 6 ((h.1.length) + 3)).set 7 ((k_nf p 3 [2, 2, 2, 1, 1, 1, 2, 2, 2, 2, 0, 0, 0, 0, 0, 0, 0, 0] 6 (1, 6, []) h).1.length + 3)) 8 (1, 6, []) (k_nf p 3 ([2, 2, 2, 1, 1, 1, 2, 2, 2, 2, 0, 0, 0, 0, 0, 0, 0, 0].set 6 ((h.1.length) + 3)) 7 (1, 6, []) (k_nf p 3 [2, 2, 2, 1, 1, 1, 2, 2, 2, 2, 0, 0, 0, 0, 0, 0, 0, 0] 6 (1, 6, []) h))).1.length + 3)).set 0 (q0 + 3))) hn1 hq1_3
  have hq2_r38 := k_st1_ne (s := (0, 3, (((([2, 2, 2, 1, 1, 1, 2, 2, 2, 2, 0, 0, 0, 0, 0, 0, 0, 0].set 6 ((h.1.length) + 3)).set 7 ((k_nf p 3 [2, 2, 2, 1, 1, 1, 2, 2, 2, 2, 0, 0, 0, 0, 0, 0, 0, 0] 6 (1, 6, []) h).1.length + 3)).set 8 ((k_nf p 3 ([2, 2, 2, 1, 1, 1, 2, 2, 2, 2, 0, 0, 0, 0, 0, 0, 0, 0].set 6 ((h.1.length) + 3)) 7 (1, 6, []) (k_nf p 3 [2, 2, 2, 1, 1, 1, 2, 2, 2, 2, 0, 0, 0, 0, 0, 0, 0, 0] 6 (1, 6, []) h)).1.length + 3)).set 9 ((k_nf p 3 (([2, 2, 2, 1, 1, 1, 2, 2, 2, 2, 0, 0, 0, 0, 0, 0, 0, 0].set 6 ((h.1.length) + 3)).set 7 ((k_nf p 3 [2, 2, 2, 1, 1, 1, 2, 2, 2, 2, 0, 0, 0, 0, 0, 0, 0, 0] 6 (1, 6, []) h).1.length + 3)) 8 (1, 6, []) (k_nf p 3 ([2, 2, 2, 1, 1, 1, 2, 2, 2, 2, 0, 0, 0, 0, 0, 0, 0, 0].set 6 ((h.1.length) + 3)) 7 (1, 6, []) (k_nf p 3 [2, 2, 2, 1, 1, 1, 2, 2, 2, 2, 0, 0, 0, 0, 0, 0, 0, 0] 6 (1, 6, []) h))).1.length + 3)).set 0 (q0 + 3))) hn2 hq2_3
  refine r_aload_n C3 dX3_init_41 (rfl : 41 + 1 = 42) rfl ?_
  refine r_aload_n C3 dX3_init_42 (rfl : 42 + 1 = 43) rfl ?_
  refine g_putR C3 hnm dX3_init_43 (rfl : 43 + 3 = 46) ff_X3_28 hs_r38 (by simp) (k_lt_of hq1_r38) ?_
  have hs_r43 := k_st1_at (s := (0, 3, ((((([2, 2, 2, 1, 1, 1, 2, 2, 2, 2, 0, 0, 0, 0, 0, 0, 0, 0].set 6 ((h.1.length) + 3)).set 7 ((k_nf p 3 [2, 2, 2, 1, 1, 1, 2, 2, 2, 2, 0, 0, 0, 0, 0, 0, 0, 0] 6 (1, 6, []) h).1.length + 3)).set 8 ((k_nf p 3 ([2, 2, 2, 1, 1, 1, 2, 2, 2, 2, 0, 0, 0, 0, 0, 0, 0, 0].set 6 ((h.1.length) + 3)) 7 (1, 6, []) (k_nf p 3 [2, 2, 2, 1, 1, 1, 2, 2, 2, 2, 0, 0, 0, 0, 0, 0, 0, 0] 6 (1, 6, []) h)).1.length + 3)).set 9 ((k_nf p 3 (([2, 2, 2, 1, 1, 1, 2, 2, 2, 2, 0, 0, 0, 0, 0, 0, 0, 0].set 6 ((h.1.length) + 3)).set 7 ((k_nf p 3 [2, 2, 2, 1, 1, 1, 2, 2, 2, 2, 0, 0, 0, 0, 0, 0, 0, 0] 6 (1, 6, []) h).1.length + 3)) 8 (1, 6, []) (k_nf p 3 ([2, 2, 2, 1, 1, 1, 2, 2, 2, 2, 0, 0, 0, 0, 0, 0, 0, 0].set 6 ((h.1.length) + 3)) 7 (1, 6, []) (k_nf p 3 [2, 2, 2, 1, 1, 1, 2, 2, 2, 2, 0, 0, 0, 0, 0, 0, 0, 0] 6 (1, 6, []) h))).1.length + 3)).set 0 (q0 + 3)).set 1 (q1 + 3))) hs_r38
  have hq0_r43 := k_st1_ne (s := (0, 3, ((((([2, 2, 2, 1, 1, 1, 2, 2, 2, 2, 0, 0, 0, 0, 0, 0, 0, 0].set 6 ((h.1.length) + 3)).set 7 ((k_nf p 3 [2, 2, 2, 1, 1, 1, 2, 2, 2, 2, 0, 0, 0, 0, 0, 0, 0, 0] 6 (1, 6, []) h).1.length + 3)).set 8 ((k_nf p 3 ([2, 2, 2, 1, 1, 1, 2, 2, 2, 2, 0, 0, 0, 0, 0, 0, 0, 0].set 6 ((h.1.length) + 3)) 7 (1, 6, []) (k_nf p 3 [2, 2, 2, 1, 1, 1, 2, 2, 2, 2, 0, 0, 0, 0, 0, 0, 0, 0] 6 (1, 6, []) h)).1.length + 3)).set 9 ((k_nf p 3 (([2, 2, 2, 1, 1, 1, 2, 2, 2, 2, 0, 0, 0, 0, 0, 0, 0, 0].set 6 ((h.1.length) + 3)).set 7 ((k_nf p 3 [2, 2, 2, 1, 1, 1, 2, 2, 2, 2, 0, 0, 0, 0, 0, 0, 0, 0] 6 (1, 6, []) h).1.length + 3)) 8 (1, 6, []) (k_nf p 3 ([2, 2, 2, 1, 1, 1, 2, 2, 2, 2, 0, 0, 0, 0, 0, 0, 0, 0].set 6 ((h.1.length) + 3)) 7 (1, 6, []) (k_nf p 3 [2, 2, 2, 1, 1, 1, 2, 2, 2, 2, 0, 0, 0, 0, 0, 0, 0, 0] 6 (1, 6, []) h))).1.length + 3)).set 0 (q0 + 3)).set 1 (q1 + 3))) hn0 hq0_r38
  have hq1_r43 := k_st1_ne (s := (0, 3, ((((([2, 2, 2, 1, 1, 1, 2, 2, 2, 2, 0, 0, 0, 0, 0, 0, 0, 0].set 6 ((h.1.length) + 3)).set 7 ((k_nf p 3 [2, 2, 2, 1, 1, 1, 2, 2, 2, 2, 0, 0, 0, 0, 0, 0, 0, 0] 6 (1, 6, []) h).1.length + 3)).set 8 ((k_nf p 3 ([2, 2, 2, 1, 1, 1, 2, 2, 2, 2, 0, 0, 0, 0, 0, 0, 0, 0].set 6 ((h.1.length) + 3)) 7 (1, 6, []) (k_nf p 3 [2, 2, 2, 1, 1, 1, 2, 2, 2, 2, 0, 0, 0, 0, 0, 0, 0, 0] 6 (1, 6, []) h)).1.length + 3)).set 9 ((k_nf p 3 (([2, 2, 2, 1, 1, 1, 2, 2, 2, 2, 0, 0, 0, 0, 0, 0, 0, 0].set 6 ((h.1.length) + 3)).set 7 ((k_nf p 3 [2, 2, 2, 1, 1, 1, 2, 2, 2, 2, 0, 0, 0, 0, 0, 0, 0, 0] 6 (1, 6, []) h).1.length + 3)) 8 (1, 6, []) (k_nf p 3 ([2, 2, 2, 1, 1, 1, 2, 2, 2, 2, 0, 0, 0, 0, 0, 0, 0, 0].set 6 ((h.1.length) + 3)) 7 (1, 6, []) (k_nf p 3 [2, 2, 2, 1, 1, 1, 2, 2, 2, 2, 0, 0, 0, 0, 0, 0, 0, 0] 6 (1, 6, []) h))).1.length + 3)).set 0 (q0 + 3)).set 1 (q1 + 3))) hn1 hq1_r38
  have hq2_r43 := k_st1_ne (s := (0, 3, ((((([2, 2, 2, 1, 1, 1, 2, 2, 2, 2, 0, 0, 0, 0, 0, 0, 0, 0].set 6 ((h.1.length) + 3)).set 7 ((k_nf p 3 [2, 2, 2, 1, 1, 1, 2, 2, 2, 2, 0, 0, 0, 0, 0, 0, 0, 0] 6 (1, 6, []) h).1.length + 3)).set 8 ((k_nf p 3 ([2, 2, 2, 1, 1, 1, 2, 2, 2, 2, 0, 0, 0, 0, 0, 0, 0, 0].set 6 ((h.1.length) + 3)) 7 (1, 6, []) (k_nf p 3 [2, 2, 2, 1, 1, 1, 2, 2, 2, 2, 0, 0, 0, 0, 0, 0, 0, 0] 6 (1, 6, []) h)).1.length + 3)).set 9 ((k_nf p 3 (([2, 2, 2, 1, 1, 1, 2, 2, 2, 2, 0, 0, 0, 0, 0, 0, 0, 0].set 6 ((h.1.length) + 3)).set 7 ((k_nf p 3 [2, 2, 2, 1, 1, 1, 2, 2, 2, 2, 0, 0, 0, 0, 0, 0, 0, 0] 6 (1, 6, []) h).1.length + 3)) 8 (1, 6, []) (k_nf p 3 ([2, 2, 2, 1, 1, 1, 2, 2, 2, 2, 0, 0, 0, 0, 0, 0, 0, 0].set 6 ((h.1.length) + 3)) 7 (1, 6, []) (k_nf p 3 [2, 2, 2, 1, 1, 1, 2, 2, 2, 2, 0, 0, 0, 0, 0, 0, 0, 0] 6 (1, 6, []) h))).1.length + 3)).set 0 (q0 + 3)).set 1 (q1 + 3))) hn2 hq2_r38
  refine r_aload_n C3 dX3_init_46 (rfl : 46 + 1 = 47) rfl ?_
  refine r_aload_n C3 dX3_init_47 (rfl : 47 + 1 = 48) rfl ?_
  refine g_putR C3 hnm dX3_init_48 (rfl : 48 + 3 = 51) ff_X3_32 hs_r43 (by simp) (k_lt_of hq2_r43) ?_
  have hs_r48 := k_st1_at (s := (0, 3, (((((([2, 2, 2, 1, 1, 1, 2, 2, 2, 2, 0, 0, 0, 0, 0, 0, 0, 0].set 6 ((h.1.length) + 3)).set 7 ((k_nf p 3 [2, 2, 2, 1, 1, 1, 2, 2, 2, 2, 0, 0, 0, 0, 0, 0, 0, 0] 6 (1, 6, []) h).1.length + 3)).set 8 ((k_nf p 3 ([2, 2, 2, 1, 1, 1, 2, 2, 2, 2, 0, 0, 0, 0, 0, 0, 0, 0].set 6 ((h.1.length) + 3)) 7 (1, 6, []) (k_nf p 3 [2, 2, 2, 1, 1, 1, 2, 2, 2, 2, 0, 0, 0, 0, 0, 0, 0, 0] 6 (1, 6, []) h)).1.length + 3)).set 9 ((k_nf p 3 (([2, 2, 2, 1, 1, 1, 2, 2, 2, 2, 0, 0, 0, 0, 0, 0, 0, 0].set 6 ((h.1.length) + 3)).set 7 ((k_nf p 3 [2, 2, 2, 1, 1, 1, 2, 2, 2, 2, 0, 0, 0, 0, 0, 0, 0, 0] 6 (1, 6, []) h).1.length + 3)) 8 (1, 6, []) (k_nf p 3 ([2, 2, 2, 1, 1, 1, 2, 2, 2, 2, 0, 0, 0, 0, 0, 0, 0, 0].set 6 ((h.1.length) + 3)) 7 (1, 6, []) (k_nf p 3 [2, 2, 2, 1, 1, 1, 2, 2, 2, 2, 0, 0, 0, 0, 0, 0, 0, 0] 6 (1, 6, []) h))).1.length + 3)).set 0 (q0 + 3)).set 1 (q1 + 3)).set 2 (q2 + 3))) hs_r43
  have hq0_r48 := k_st1_ne (s := (0, 3, (((((([2, 2, 2, 1, 1, 1, 2, 2, 2, 2, 0, 0, 0, 0, 0, 0, 0, 0].set 6 ((h.1.length) + 3)).set 7 ((k_nf p 3 [2, 2, 2, 1, 1, 1, 2, 2, 2, 2, 0, 0, 0, 0, 0, 0, 0, 0] 6 (1, 6, []) h).1.length + 3)).set 8 ((k_nf p 3 ([2, 2, 2, 1, 1, 1, 2, 2, 2, 2, 0, 0, 0, 0, 0, 0, 0, 0].set 6 ((h.1.length) + 3)) 7 (1, 6, []) (k_nf p 3 [2, 2, 2, 1, 1, 1, 2, 2, 2, 2, 0, 0, 0, 0, 0, 0, 0, 0] 6 (1, 6, []) h)).1.length + 3)).set 9 ((k_nf p 3 (([2, 2, 2, 1, 1, 1, 2, 2, 2, 2, 0, 0, 0, 0, 0, 0, 0, 0].set 6 ((h.1.length) + 3)).set 7 ((k_nf p 3 [2, 2, 2, 1, 1, 1, 2, 2, 2, 2, 0, 0, 0, 0, 0, 0, 0, 0] 6 (1, 6, []) h).1.length + 3)) 8 (1, 6, []) (k_nf p 3 ([2, 2, 2, 1, 1, 1, 2, 2, 2, 2, 0, 0, 0, 0, 0, 0, 0, 0].set 6 ((h.1.length) + 3)) 7 (1, 6, []) (k_nf p 3 [2, 2, 2, 1, 1, 1, 2, 2, 2, 2, 0, 0, 0, 0, 0, 0, 0, 0] 6 (1, 6, []) h))).1.length + 3)).set 0 (q0 + 3)).set 1 (q1 + 3)).set 2 (q2 + 3))) hn0 hq0_r43
  have hq1_r48 := k_st1_ne (s := (0, 3, (((((([2, 2, 2, 1, 1, 1, 2, 2, 2, 2, 0, 0, 0, 0, 0, 0, 0, 0].set 6 ((h.1.length) + 3)).set 7 ((k_nf p 3 [2, 2, 2, 1, 1, 1, 2, 2, 2, 2, 0, 0, 0, 0, 0, 0, 0, 0] 6 (1, 6, []) h).1.length + 3)).set 8 ((k_nf p 3 ([2, 2, 2, 1, 1, 1, 2, 2, 2, 2, 0, 0, 0, 0, 0, 0, 0, 0].set 6 ((h.1.length) + 3)) 7 (1, 6, []) (k_nf p 3 [2, 2, 2, 1, 1, 1, 2, 2, 2, 2, 0, 0, 0, 0, 0, 0, 0, 0] 6 (1, 6, []) h)).1.length + 3)).set 9 ((k_nf p 3 (([2, 2, 2, 1, 1, 1, 2, 2, 2, 2, 0, 0, 0, 0, 0, 0, 0, 0].set 6 ((h.1.length) + 3)).set 7 ((k_nf p 3 [2, 2, 2, 1, 1, 1, 2, 2, 2, 2, 0, 0, 0, 0, 0, 0, 0, 0] 6 (1, 6, []) h).1.length + 3)) 8 (1, 6, []) (k_nf p 3 ([2, 2, 2, 1, 1, 1, 2, 2, 2, 2, 0, 0, 0, 0, 0, 0, 0, 0].set 6 ((h.1.length) + 3)) 7 (1, 6, []) (k_nf p 3 [2, 2, 2, 1, 1, 1, 2, 2, 2, 2, 0, 0, 0, 0, 0, 0, 0, 0] 6 (1, 6, []) h))).1.length + 3)).set 0 (q0 + 3)).set 1 (q1 + 3)).set 2 (q2 + 3))) hn1 hq1_r43
  have hq2_r48 := k_st1_ne (s := (0, 3, (((((([2, 2, 2, 1, 1, 1, 2, 2, 2, 2, 0, 0, 0, 0, 0, 0, 0, 0].set 6 ((h.1.length) + 3)).set 7 ((k_nf p 3 [2, 2, 2, 1, 1, 1, 2, 2, 2, 2, 0, 0, 0, 0, 0, 0, 0, 0] 6 (1, 6, []) h).1.length + 3)).set 8 ((k_nf p 3 ([2, 2, 2, 1, 1, 1, 2, 2, 2, 2, 0, 0, 0, 0, 0, 0, 0, 0].set 6 ((h.1.length) + 3)) 7 (1, 6, []) (k_nf p 3 [2, 2, 2, 1, 1, 1, 2, 2, 2, 2, 0, 0, 0, 0, 0, 0, 0, 0] 6 (1, 6, []) h)).1.length + 3)).set 9 ((k_nf p 3 (([2, 2, 2, 1, 1, 1, 2, 2, 2, 2, 0, 0, 0, 0, 0, 0, 0, 0].set 6 ((h.1.length) + 3)).set 7 ((k_nf p 3 [2, 2, 2, 1, 1, 1, 2, 2, 2, 2, 0, 0, 0, 0, 0, 0, 0, 0] 6 (1, 6, []) h).1.length + 3)) 8 (1, 6, []) (k_nf p 3 ([2, 2, 2, 1, 1, 1, 2, 2, 2, 2, 0, 0, 0, 0, 0, 0, 0, 0].set 6 ((h.1.length) + 3)) 7 (1, 6, []) (k_nf p 3 [2, 2, 2, 1, 1, 1, 2, 2, 2, 2, 0, 0, 0, 0, 0, 0, 0, 0] 6 (1, 6, []) h))).1.length + 3)).set 0 (q0 + 3)).set 1 (q1 + 3)).set 2 (q2 + 3))) hn2 hq2_r43
  exact g_vret C3 hr (Nat.le_of_ble_eq_true rfl) (Nat.le_of_ble_eq_true rfl) ⟨rfl, rfl⟩ (k_sm_tr (k_sm_tr (k_sm_tr hsm0 hsm1 (by rw [k_nf_len]; omega)) hsm2 (by rw [k_nf_len, k_nf_len]; omega)) hsm3 (by rw [k_nf_len, k_nf_len, k_nf_len]; omega)) dX3_init_51
