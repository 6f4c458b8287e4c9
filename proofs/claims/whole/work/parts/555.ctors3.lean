theorem ff_X5_9 : k_FF RX5 9 5 2 := ⟨_, _, _, tyX5, _, rfl, in_X5, tyX5_ok, nmX5, by decide, rfl, rfl, tyX5_ok 2 (by decide), fun _ => ⟨rfl, rfl⟩, (k_me (tm1 (List.mem_of_getElem? (i := 99) rfl)) rfl)⟩
theorem ff_X5_15 : k_FF RX5 15 5 3 := ⟨_, _, _, tyX5, _, rfl, in_X5, tyX5_ok, nmX5, by decide, rfl, rfl, tyX5_ok 3 (by decide), fun _ => ⟨rfl, rfl⟩, (k_me (tm1 (List.mem_of_getElem? (i := 104) rfl)) rfl)⟩
theorem ff_X5_18 : k_FF RX5 18 5 4 := ⟨_, _, _, tyX5, _, rfl, in_X5, tyX5_ok, nmX5, by decide, rfl, rfl, tyX5_ok 4 (by decide), fun _ => ⟨rfl, rfl⟩, (k_me (tm1 (List.mem_of_getElem? (i := 107) rfl)) rfl)⟩
theorem ff_X5_21 : k_FF RX5 21 5 11 := ⟨_, _, _, tyX5, _, rfl, in_X5, tyX5_ok, nmX5, by decide, rfl, rfl, tyX5_ok 11 (by decide), fun _ => ⟨rfl, rfl⟩, (k_me (tm1 (List.mem_of_getElem? (i := 125) rfl)) rfl)⟩
theorem ff_X5_24 : k_FF RX5 24 5 12 := ⟨_, _, _, tyX5, _, rfl, in_X5, tyX5_ok, nmX5, by decide, rfl, rfl, tyX5_ok 12 (by decide), fun _ => ⟨rfl, rfl⟩, (k_me (tm1 (List.mem_of_getElem? (i := 128) rfl)) rfl)⟩
theorem ff_X5_27 : k_FF RX5 27 5 13 := ⟨_, _, _, tyX5, _, rfl, in_X5, tyX5_ok, nmX5, by decide, rfl, rfl, tyX5_ok 13 (by decide), fun _ => ⟨rfl, rfl⟩, (k_me (tm1 (List.mem_of_getElem? (i := 130) rfl)) rfl)⟩
theorem ff_X7_13 : k_FF RX7 13 7 1 := ⟨_, _, _, tyX7, _, rfl, in_X7, tyX7_ok, nmX7, by decide, rfl, rfl, tyX7_ok 1 (by decide), fun _ => ⟨rfl, rfl⟩, (k_me (tm2 (List.mem_of_getElem? (i := 116) rfl)) rfl)⟩
theorem ff_X7_17 : k_FF RX7 17 7 2 := ⟨_, _, _, tyX7, _, rfl, in_X7, tyX7_ok, nmX7, by decide, rfl, rfl, tyX7_ok 2 (by decide), fun _ => ⟨rfl, rfl⟩, (k_me (tm2 (List.mem_of_getElem? (i := 117) rfl)) rfl)⟩
theorem ff_X7_21 : k_FF RX7 21 7 0 := ⟨_, _, _, tyX7, _, rfl, in_X7, tyX7_ok, nmX7, by decide, rfl, rfl, tyX7_ok 0 (by decide), fun _ => ⟨rfl, rfl⟩, (k_me (tm2 (List.mem_of_getElem? (i := 115) rfl)) rfl)⟩
/-! CONSTRUCTORS THAT CALL: a pit, a survey -/
def k_pi5 (p n : Nat) : List Nat := [p, n, n + 1, n + 2, n + 3, n + 4, n + 5]
theorem k_ck5 {p n : Nat} {sh : List k_Sh} (hp : p < n) (h0 : sh[p]? = some (0, 5, [0, 0, n + 3, n + 1 + 3, n + 2 + 3, 1, 1, 0, 0, 0, 0, n + 3 + 3, n + 4 + 3, n + 5 + 3])) (h1 : sh[n]? = some (1, 48, [])) (h2 : sh[n + 1]? = some (1, 48, [])) (h3 : sh[n + 2]? = some (1, 6, [])) (h4 : sh[n + 3]? = some (1, 6, [])) (h5 : sh[n + 4]? = some (1, 6, [])) (h6 : sh[n + 5]? = some (1, 48, [])) : k_ck (k_pi5 p n) shPit sh = true := by
  refine k_ck_mk rfl rfl ?_ ?_
  · unfold k_pi5
    simp only [va_nd, List.mem_cons, List.not_mem_nil, or_false, not_or, Bool.and_eq_true, decide_eq_true_eq, Bool.and_true, not_false_eq_true, decide_true, and_true]
    omega
  · intro i s hs
    match i, hs with
    | 0, hs => cases hs; exact ⟨h0, rfl⟩
    | 1, hs => cases hs; exact ⟨h1, rfl⟩
    | 2, hs => cases hs; exact ⟨h2, rfl⟩
    | 3, hs => cases hs; exact ⟨h3, rfl⟩
    | 4, hs => cases hs; exact ⟨h4, rfl⟩
    | 5, hs => cases hs; exact ⟨h5, rfl⟩
    | 6, hs => cases hs; exact ⟨h6, rfl⟩
    | i + 7, hs => exact absurd hs (by simp [shPit])
def i_X5_1 (p n : Nat) (h : k_H) : k_H := k_nf p 5 [0, 0, n + 3, 2, 2, 1, 1, 0, 0, 0, 0, 2, 2, 2] (1, 48, []) h
def i_X5_2 (p n : Nat) (h : k_H) : k_H := k_nf p 5 [0, 0, n + 3, n + 1 + 3, 2, 1, 1, 0, 0, 0, 0, 2, 2, 2] (1, 48, []) (i_X5_1 p n h)
def i_X5_3 (p n : Nat) (h : k_H) : k_H := k_nf p 5 [0, 0, n + 3, n + 1 + 3, n + 2 + 3, 1, 1, 0, 0, 0, 0, 2, 2, 2] (1, 6, []) (i_X5_2 p n h)
def i_X5_4 (p n : Nat) (h : k_H) : k_H := k_nf p 5 [0, 0, n + 3, n + 1 + 3, n + 2 + 3, 1, 1, 0, 0, 0, 0, n + 3 + 3, 2, 2] (1, 6, []) (i_X5_3 p n h)
def i_X5_5 (p n : Nat) (h : k_H) : k_H := k_nf p 5 [0, 0, n + 3, n + 1 + 3, n + 2 + 3, 1, 1, 0, 0, 0, 0, n + 3 + 3, n + 4 + 3, 2] (1, 6, []) (i_X5_4 p n h)
def i_X5_6 (p n : Nat) (h : k_H) : k_H := k_nf p 5 [0, 0, n + 3, n + 1 + 3, n + 2 + 3, 1, 1, 0, 0, 0, 0, n + 3 + 3, n + 4 + 3, n + 5 + 3] (1, 48, []) (i_X5_5 p n h)
def i_X5 (p n : Nat) (h : k_H) : k_H := i_X5_6 p n h
def j_X5a (p n : Nat) (o1 : Int32 × Int32 × Int32 × Int32 × Int32 × Int32 × Int64 × (Nat → Int32) × (Nat → Int32) × (Nat → Int32)) (h : k_H) : k_H := k_ap [(p, .inl (0, o1.1)), (p, .inl (1, o1.2.1)), (p, .inl (7, o1.2.2.1)), (p, .inl (8, o1.2.2.2.1)), (p, .inl (9, o1.2.2.2.2.1)), (p, .inl (10, o1.2.2.2.2.2.1)), (p, .inr (.inl (6, o1.2.2.2.2.2.2.1))), (n, .inr (.inr (.inl o1.2.2.2.2.2.2.2.1))), (n + 1, .inr (.inr (.inl o1.2.2.2.2.2.2.2.2.1))), (n + 2, .inr (.inr (.inl o1.2.2.2.2.2.2.2.2.2)))] (i_X5_6 p n h)
def j_X5 (p n : Nat) (o1 : Int32 × Int32 × Int32 × Int32 × Int32 × Int32 × Int64 × (Nat → Int32) × (Nat → Int32) × (Nat → Int32)) (o2 : Int64) (h : k_H) : k_H := k_ap [(p, .inr (.inl (5, o2)))] (j_X5a p n o1 h)
set_option maxRecDepth 10000 in
theorem c_X5_init (l : Launch) (u : Nat) (h : k_H) {p n : Nat} (hs : h.1[p]? = some (0, 5, [0, 0, 2, 2, 2, 1, 1, 0, 0, 0, 0, 2, 2, 2])) (hl : h.1.length = n) (hlen : n + 6 ≤ 1000000) {o1 : Int32 × Int32 × Int32 × Int32 × Int32 × Int32 × Int64 × (Nat → Int32) × (Nat → Int32) × (Nat → Int32)} (o1f : f_X5_clear u ((i_X5_6 p n h).2.1 p 0) ((i_X5_6 p n h).2.1 p 1) ((i_X5_6 p n h).2.1 p 7) ((i_X5_6 p n h).2.1 p 8) ((i_X5_6 p n h).2.1 p 9) ((i_X5_6 p n h).2.1 p 10) ((i_X5_6 p n h).2.2.1 p 6) ((i_X5_6 p n h).2.1 n) ((i_X5_6 p n h).2.1 (n + 1)) ((i_X5_6 p n h).2.1 (n + 2)) = some o1) {o2 : Int64} (o2f : f_X5_tellAll u ((j_X5a p n o1 h).2.1 p 0) ((j_X5a p n o1 h).2.1 p 1) ((j_X5a p n o1 h).2.2.1 p 5) = some o2) : k_CG l yX5_init cX5_init 1 none 4 110 6 162 [.ref p] h (fun v h' => v = none ∧ h' = j_X5 p n o1 o2 h) := by
  refine k_ofWG (by decide) (Nat.le_of_ble_eq_true rfl) ?_
  intro X ad hlX hR0 hr C hnm
  have hR : X.R.frames = 4 ∧ X.R.locals = 110 := by rw [hR0]; exact ⟨rfl, rfl⟩
  have hRc : X.R.cells = 6 := by rw [hR0]
  have hRs : X.R.slots = 162 := by rw [hR0]
  show k_W X 1 0 0 _ ad h 0 [some (.ref p)] []
  refine r_aload_n C dX5_init_0 (rfl : 0 + 1 = 1) rfl ?_
  refine r_objinit C hR dX5_init_1 (rfl : 1 + 3 = 4) (k_me (tm1 (List.mem_of_getElem? (i := 77) rfl)) rfl) rfl rfl ?_
  refine r_aload_n C dX5_init_4 (rfl : 4 + 1 = 5) rfl ?_
  refine r_bipush (v := (48 : Int32)) C dX5_init_5 (rfl : 5 + 2 = 7) rfl ?_
  refine g_nfI (sl' := [0, 0, n + 3, 2, 2, 1, 1, 0, 0, 0, 0, 2, 2, 2]) C hnm ff_X5_9 hs hl rfl (Nat.le_of_ble_eq_true rfl) dX5_init_7 dX5_init_9 (rfl : 7 + 5 = 12) (by decide) rfl (by decide) (k_csl hRc hRs rfl rfl) (by omega) ⟨k_okv_of hs, True.intro⟩ True.intro ?_
  intro ad0 hsm0 C0
  have hs0 : (i_X5_1 p n h).1[p]? = some (0, 5, [0, 0, n + 3, 2, 2, 1, 1, 0, 0, 0, 0, 2, 2, 2]) := k_nf_at hs
  have hl0 : (i_X5_1 p n h).1.length = n + 1 := by show (k_nf _ _ _ _ _).1.length = _; rw [k_nf_len, hl]
  have he0 : h.1.length ≤ (i_X5_1 p n h).1.length := by rw [hl0, hl]; omega
  refine r_aload_n C0 dX5_init_12 (rfl : 12 + 1 = 13) rfl ?_
  refine r_bipush (v := (48 : Int32)) C0 dX5_init_13 (rfl : 13 + 2 = 15) rfl ?_
  refine g_nfI (sl' := [0, 0, n + 3, n + 1 + 3, 2, 1, 1, 0, 0, 0, 0, 2, 2, 2]) C0 hnm ff_X5_15 hs0 hl0 rfl (Nat.le_of_ble_eq_true rfl) dX5_init_15 dX5_init_17 (rfl : 15 + 5 = 20) (by decide) rfl (by decide) (k_csl hRc hRs rfl rfl) (by omega) ⟨k_okv_of hs0, True.intro⟩ True.intro ?_
  intro ad1 hsm1 C1
  have hs1 : (i_X5_2 p n h).1[p]? = some (0, 5, [0, 0, n + 3, n + 1 + 3, 2, 1, 1, 0, 0, 0, 0, 2, 2, 2]) := k_nf_at hs0
  have hl1 : (i_X5_2 p n h).1.length = n + 2 := by show (k_nf _ _ _ _ _).1.length = _; rw [k_nf_len, hl0]
  have he1 : h.1.length ≤ (i_X5_2 p n h).1.length := by rw [hl1, hl]; omega
  refine r_aload_n C1 dX5_init_20 (rfl : 20 + 1 = 21) rfl ?_
  refine r_bipush (v := (6 : Int32)) C1 dX5_init_21 (rfl : 21 + 2 = 23) rfl ?_
  refine g_nfI (sl' := [0, 0, n + 3, n + 1 + 3, n + 2 + 3, 1, 1, 0, 0, 0, 0, 2, 2, 2]) C1 hnm ff_X5_18 hs1 hl1 rfl (Nat.le_of_ble_eq_true rfl) dX5_init_23 dX5_init_25 (rfl : 23 + 5 = 28) (by decide) rfl (by decide) (k_csl hRc hRs rfl rfl) (by omega) ⟨k_okv_of hs1, True.intro⟩ True.intro ?_
  intro ad2 hsm2 C2
  have hs2 : (i_X5_3 p n h).1[p]? = some (0, 5, [0, 0, n + 3, n + 1 + 3, n + 2 + 3, 1, 1, 0, 0, 0, 0, 2, 2, 2]) := k_nf_at hs1
  have hl2 : (i_X5_3 p n h).1.length = n + 3 := by show (k_nf _ _ _ _ _).1.length = _; rw [k_nf_len, hl1]
  have he2 : h.1.length ≤ (i_X5_3 p n h).1.length := by rw [hl2, hl]; omega
  refine r_aload_n C2 dX5_init_28 (rfl : 28 + 1 = 29) rfl ?_
  refine r_bipush (v := (6 : Int32)) C2 dX5_init_29 (rfl : 29 + 2 = 31) rfl ?_
  refine g_nfI (sl' := [0, 0, n + 3, n + 1 + 3, n + 2 + 3, 1, 1, 0, 0, 0, 0, n + 3 + 3, 2, 2]) C2 hnm ff_X5_21 hs2 hl2 rfl (Nat.le_of_ble_eq_true rfl) dX5_init_31 dX5_init_33 (rfl : 31 + 5 = 36) (by decide) rfl (by decide) (k_csl hRc hRs rfl rfl) (by omega) ⟨k_okv_of hs2, True.intro⟩ True.intro ?_
  intro ad3 hsm3 C3
  have hs3 : (i_X5_4 p n h).1[p]? = some (0, 5, [0, 0, n + 3, n + 1 + 3, n + 2 + 3, 1, 1, 0, 0, 0, 0, n + 3 + 3, 2, 2]) := k_nf_at hs2
  have hl3 : (i_X5_4 p n h).1.length = n + 4 := by show (k_nf _ _ _ _ _).1.length = _; rw [k_nf_len, hl2]
  have he3 : h.1.length ≤ (i_X5_4 p n h).1.length := by rw [hl3, hl]; omega
  refine r_aload_n C3 dX5_init_36 (rfl : 36 + 1 = 37) rfl ?_
  refine r_bipush (v := (6 : Int32)) C3 dX5_init_37 (rfl : 37 + 2 = 39) rfl ?_
  refine g_nfI (sl' := [0, 0, n + 3, n + 1 + 3, n + 2 + 3, 1, 1, 0, 0, 0, 0, n + 3 + 3, n + 4 + 3, 2]) C3 hnm ff_X5_24 hs3 hl3 rfl (Nat.le_of_ble_eq_true rfl) dX5_init_39 dX5_init_41 (rfl : 39 + 5 = 44) (by decide) rfl (by decide) (k_csl hRc hRs rfl rfl) (by omega) ⟨k_okv_of hs3, True.intro⟩ True.intro ?_
  intro ad4 hsm4 C4
  have hs4 : (i_X5_5 p n h).1[p]? = some (0, 5, [0, 0, n + 3, n + 1 + 3, n + 2 + 3, 1, 1, 0, 0, 0, 0, n + 3 + 3, n + 4 + 3, 2]) := k_nf_at hs3
  have hl4 : (i_X5_5 p n h).1.length = n + 5 := by show (k_nf _ _ _ _ _).1.length = _; rw [k_nf_len, hl3]
  have he4 : h.1.length ≤ (i_X5_5 p n h).1.length := by rw [hl4, hl]; omega
  refine r_aload_n C4 dX5_init_44 (rfl : 44 + 1 = 45) rfl ?_
  refine r_bipush (v := (48 : Int32)) C4 dX5_init_45 (rfl : 45 + 2 = 47) rfl ?_
  refine g_nfI (sl' := [0, 0, n + 3, n + 1 + 3, n + 2 + 3, 1, 1, 0, 0, 0, 0, n + 3 + 3, n + 4 + 3, n + 5 + 3]) C4 hnm ff_X5_27 hs4 hl4 rfl (Nat.le_of_ble_eq_true rfl) dX5_init_47 dX5_init_49 (rfl : 47 + 5 = 52) (by decide) rfl (by decide) (k_csl hRc hRs rfl rfl) (by omega) ⟨k_okv_of hs4, True.intro⟩ True.intro ?_
  intro ad5 hsm5 C5
  have hs5 : (i_X5_6 p n h).1[p]? = some (0, 5, [0, 0, n + 3, n + 1 + 3, n + 2 + 3, 1, 1, 0, 0, 0, 0, n + 3 + 3, n + 4 + 3, n + 5 + 3]) := k_nf_at hs4
  have hl5 : (i_X5_6 p n h).1.length = n + 6 := by show (k_nf _ _ _ _ _).1.length = _; rw [k_nf_len, hl4]
  have he5 : h.1.length ≤ (i_X5_6 p n h).1.length := by rw [hl5, hl]; omega
  refine r_aload_n C5 dX5_init_52 (rfl : 52 + 1 = 53) rfl ?_
  have hp : p < n := by have := k_lt_of hs; omega
  have hne : p ≠ n ∧ p ≠ n + 1 ∧ p ≠ n + 2 ∧ p ≠ n + 3 ∧ p ≠ n + 4 ∧ p ≠ n + 5 := by omega
  have hA0 : (i_X5_6 p n h).1[n]? = some (1, 48, []) := (k_nf_ne hne.1 (k_nf_ne hne.1 (k_nf_ne hne.1 (k_nf_ne hne.1 (k_nf_ne hne.1 (k_nf_new hl hs))))))
  have hA1 : (i_X5_6 p n h).1[n + 1]? = some (1, 48, []) := (k_nf_ne hne.2.1 (k_nf_ne hne.2.1 (k_nf_ne hne.2.1 (k_nf_ne hne.2.1 (k_nf_new hl0 hs0)))))
  have hA2 : (i_X5_6 p n h).1[n + 2]? = some (1, 6, []) := (k_nf_ne hne.2.2.1 (k_nf_ne hne.2.2.1 (k_nf_ne hne.2.2.1 (k_nf_new hl1 hs1))))
  have hA3 : (i_X5_6 p n h).1[n + 3]? = some (1, 6, []) := (k_nf_ne hne.2.2.2.1 (k_nf_ne hne.2.2.2.1 (k_nf_new hl2 hs2)))
  have hA4 : (i_X5_6 p n h).1[n + 4]? = some (1, 6, []) := (k_nf_ne hne.2.2.2.2.1 (k_nf_new hl3 hs3))
  have hA5 : (i_X5_6 p n h).1[n + 5]? = some (1, 48, []) := (k_nf_new hl4 hs4)
  have ck : k_ck (k_pi5 p n) shPit (i_X5_6 p n h).1 = true := k_ck5 hp hs5 hA0 hA1 hA2 hA3 hA4 hA5
  refine c_Vp (pi := k_pi5 p n) (shl := shPit) (bl := 0) (b := p) (As := []) (Al := []) (st := []) (v := none) (us := [(0, .inl (0, o1.1)), (0, .inl (1, o1.2.1)), (0, .inl (7, o1.2.2.1)), (0, .inl (8, o1.2.2.2.1)), (0, .inl (9, o1.2.2.2.2.1)), (0, .inl (10, o1.2.2.2.2.2.1)), (0, .inr (.inl (6, o1.2.2.2.2.2.2.1))), (1, .inr (.inr (.inl o1.2.2.2.2.2.2.2.1))), (2, .inr (.inr (.inl o1.2.2.2.2.2.2.2.2.1))), (3, .inr (.inr (.inl o1.2.2.2.2.2.2.2.2.2)))]) C5 hR (k_csl hRc hRs rfl rfl) mv_X5_clear lk_X5_30 dX5_init_53 (rfl : 53 + 3 = 56) rfl rfl ck rfl rfl (c_X5_clear X.l u (k_pl (k_pi5 p n) shPit (i_X5_6 p n h)) rfl (k_plI (p := p) rfl rfl) (k_plI (p := p) rfl rfl) (k_plI (p := p) rfl rfl) (k_plI (p := p) rfl rfl) (k_plI (p := p) rfl rfl) (k_plI (p := p) rfl rfl) (k_plL (p := p) rfl rfl) (k_plA (p := n) rfl rfl) (k_plA (p := n + 1) rfl rfl) (k_plA (p := n + 2) rfl rfl) o1f) rfl (fun _ => rfl) rfl (fun _ => rfl) rfl rfl rfl ?_
  change k_W X _ _ _ _ _ (j_X5a p n o1 h) _ _ _
  refine r_aload_n C5 dX5_init_56 (rfl : 56 + 1 = 57) rfl ?_
  refine c_Vp (pi := k_pi5 p n) (shl := shPit) (bl := 0) (b := p) (As := []) (Al := []) (st := []) (v := none) (us := [(0, .inr (.inl (5, o2)))]) C5 hR (k_csl hRc hRs rfl rfl) mv_X5_tellAll lk_X5_33 dX5_init_57 (rfl : 57 + 3 = 60) rfl rfl (k_ckS ck) rfl rfl (c_X5_tellAll X.l u (k_pl (k_pi5 p n) shPit (j_X5a p n o1 h)) rfl (k_plI (p := p) rfl rfl) (k_plI (p := p) rfl rfl) (k_plL (p := p) rfl rfl) o2f) rfl (fun _ => rfl) rfl (fun _ => rfl) rfl rfl rfl ?_
  exact g_vret C5 hr (Nat.le_of_ble_eq_true rfl) (Nat.le_of_ble_eq_true rfl) ⟨rfl, rfl⟩ (k_sm_tr (k_sm_tr (k_sm_tr (k_sm_tr (k_sm_tr hsm0 hsm1 he0) hsm2 he1) hsm3 he2) hsm4 he3) hsm5 he4) dX5_init_60
def i_X7_1 (p q0 q1 n : Nat) (h : k_H) : k_H := k_nf p 7 [2, n + 3, 2, 0, 0, 1] (5, 3, []) h
def i_X7_2 (p q0 q1 n : Nat) (h : k_H) : k_H := k_nf p 7 [2, n + 3, n + 1 + 3, 0, 0, 1] (1, 48, []) (i_X7_1 p q0 q1 n h)
def i_X7_3 (p q0 q1 n : Nat) (h : k_H) : k_H := k_st1 p (0, 7, [q0 + 3, n + 3, n + 1 + 3, 0, 0, 1]) (i_X7_2 p q0 q1 n h)
def i_X7 (p q0 q1 n : Nat) (h : k_H) : k_H := i_X7_3 p q0 q1 n h
/-- a twin of the mine at a into the row q at j -/
def k_twR (q j a : Nat) (h : k_H) : k_H := k_uR q j h.1.length (k_tw a h)
theorem k_twR_ne {q j a r : Nat} {h : k_H} {x : k_Sh} (hs : h.1[r]? = some x) : (k_twR q j a h).1[r]? = some x := by unfold k_twR; rw [k_uR_sh]; exact k_tw_ne hs
theorem k_twR_len (q j a : Nat) (h : k_H) : (k_twR q j a h).1.length = h.1.length + 5 := by unfold k_twR; rw [k_uR_sh]; exact k_tw_len a h
def i_X7w (p q0 q1 n : Nat) (h : k_H) : k_H := k_twR n 2 q1 (k_twR n 1 q1 (k_twR n 0 q1 (i_X7_3 p q0 q1 n h)))
set_option maxRecDepth 10000 in
theorem c_X7_init (l : Launch) (h : k_H) {p n : Nat} (hs : h.1[p]? = some (0, 7, [2, 2, 2, 0, 0, 1])) {q0 : Nat} {s0 : k_Sh} (hq0 : h.1[q0]? = some s0) (hn0 : p ≠ q0) {q1 : Nat} {s1 : k_Sh} (hq1 : h.1[q1]? = some s1) (hn1 : p ≠ q1) (hl : h.1.length = n) (hlen : n + 17 ≤ 1000000) (Bs : k_base h.1) (ha : k_mA h.1 q1) (ha2 : 25 < q1) (hp25 : 25 < p) (hpq : p < q1 ∨ q1 + 4 < p) : k_CG l yX7_init cX7_init 4 none 4 140 17 177 [.ref p, .ref q0, .ref q1] h (fun v h' => v = none ∧ h' = i_X7w p q0 q1 n h) := by
  refine k_ofWG (by decide) (Nat.le_of_ble_eq_true rfl) ?_
  intro X ad hlX hR0 hr C hnm
  have hR : X.R.frames = 4 ∧ X.R.locals = 140 := by rw [hR0]; exact ⟨rfl, rfl⟩
  have hRc : X.R.cells = 17 := by rw [hR0]
  have hRs : X.R.slots = 177 := by rw [hR0]
  show k_W X 4 0 0 _ ad h 0 [some (.ref p), some (.ref q0), some (.ref q1), none] []
  refine r_aload_n C dX7_init_0 (rfl : 0 + 1 = 1) rfl ?_
  refine r_objinit C hR dX7_init_1 (rfl : 1 + 3 = 4) (k_me (tm2 (List.mem_of_getElem? (i := 100) rfl)) rfl) rfl rfl ?_
  refine r_aload_n C dX7_init_4 (rfl : 4 + 1 = 5) rfl ?_
  refine r_iconst (v := (3 : Int32)) C dX7_init_5 (rfl : 5 + 1 = 6) rfl ?_
  refine g_nfQ (sl' := [2, n + 3, 2, 0, 0, 1]) C hnm (k_me (tm2 (List.mem_of_getElem? (i := 101) rfl)) rfl) ff_X7_13 hs hl rfl (Nat.le_of_ble_eq_true rfl) dX7_init_6 dX7_init_9 (rfl : 6 + 6 = 12) (by decide) rfl (by decide) (k_csl hRc hRs rfl rfl) (by omega) ⟨k_okv_of hs, k_okv_of hq0, k_okv_of hq1, True.intro⟩ True.intro ?_
  intro ad0 hsm0 C0
  have hs0 : (i_X7_1 p q0 q1 n h).1[p]? = some (0, 7, [2, n + 3, 2, 0, 0, 1]) := k_nf_at hs
  have hl0 : (i_X7_1 p q0 q1 n h).1.length = n + 1 := by show (k_nf _ _ _ _ _).1.length = _; rw [k_nf_len, hl]
  have he0 : h.1.length ≤ (i_X7_1 p q0 q1 n h).1.length := by rw [hl0, hl]; omega
  have hq0_0 : (i_X7_1 p q0 q1 n h).1[q0]? = some s0 := k_nf_ne hn0 hq0
  have hq1_0 : (i_X7_1 p q0 q1 n h).1[q1]? = some s1 := k_nf_ne hn1 hq1
  refine r_aload_n C0 dX7_init_12 (rfl : 12 + 1 = 13) rfl ?_
  refine r_bipush (v := (48 : Int32)) C0 dX7_init_13 (rfl : 13 + 2 = 15) rfl ?_
  refine g_nfI (sl' := [2, n + 3, n + 1 + 3, 0, 0, 1]) C0 hnm ff_X7_17 hs0 hl0 rfl (Nat.le_of_ble_eq_true rfl) dX7_init_15 dX7_init_17 (rfl : 15 + 5 = 20) (by decide) rfl (by decide) (k_csl hRc hRs rfl rfl) (by omega) ⟨k_okv_of hs0, k_okv_of hq0_0, k_okv_of hq1_0, True.intro⟩ True.intro ?_
  intro ad1 hsm1 C1
  have hs1 : (i_X7_2 p q0 q1 n h).1[p]? = some (0, 7, [2, n + 3, n + 1 + 3, 0, 0, 1]) := k_nf_at hs0
  have hl1 : (i_X7_2 p q0 q1 n h).1.length = n + 2 := by show (k_nf _ _ _ _ _).1.length = _; rw [k_nf_len, hl0]
  have he1 : h.1.length ≤ (i_X7_2 p q0 q1 n h).1.length := by rw [hl1, hl]; omega
  have hq0_1 : (i_X7_2 p q0 q1 n h).1[q0]? = some s0 := k_nf_ne hn0 hq0_0
  have hq1_1 : (i_X7_2 p q0 q1 n h).1[q1]? = some s1 := k_nf_ne hn1 hq1_0
  refine r_aload_n C1 dX7_init_20 (rfl : 20 + 1 = 21) rfl ?_
  refine r_aload_n C1 dX7_init_21 (rfl : 21 + 1 = 22) rfl ?_
  refine g_setR (sl' := [q0 + 3, n + 3, n + 1 + 3, 0, 0, 1]) C1 hnm dX7_init_22 (rfl : 22 + 3 = 25) ff_X7_21 hs1 (Nat.le_of_ble_eq_true rfl) (k_lt_of hq0_1) rfl ?_
  have hs_r22 : (i_X7_3 p q0 q1 n h).1[p]? = some (0, 7, [q0 + 3, n + 3, n + 1 + 3, 0, 0, 1]) := k_st1_at hs1
  have hl_r22 : (i_X7_3 p q0 q1 n h).1.length = n + 2 := by show (k_st1 _ _ _).1.length = _; rw [k_st1_len, hl1]
  have hq0_r22 : (i_X7_3 p q0 q1 n h).1[q0]? = some s0 := k_st1_ne hn0 hq0_1
  have hq1_r22 : (i_X7_3 p q0 q1 n h).1[q1]? = some s1 := k_st1_ne hn1 hq1_1
  refine r_iconst (v := (0 : Int32)) C1 dX7_init_25 (rfl : 25 + 1 = 26) rfl ?_
  have hl_ := hl
  have hp : p < n := by have := k_lt_of hs; omega
  have hQ0 : (i_X7_3 p q0 q1 n h).1[n]? = some (5, 3, []) := k_st1_ne (Nat.ne_of_lt hp) (k_nf_ne (Nat.ne_of_lt hp) (k_nf_new hl hs))
  have nv : ∀ (r : Nat) (x : k_Sh), r ≠ p → h.1[r]? = some x → (i_X7_3 p q0 q1 n h).1[r]? = some x := fun r x hr hx => k_st1_ne (Ne.symm hr) (k_nf_ne (Ne.symm hr) (k_nf_ne (Ne.symm hr) hx))
  have ha3 : k_mA (i_X7_3 p q0 q1 n h).1 q1 := ⟨nv _ _ (by omega) ha.1, nv _ _ (by omega) ha.2.1, nv _ _ (by omega) ha.2.2.1, nv _ _ (by omega) ha.2.2.2.1, nv _ _ (by omega) ha.2.2.2.2⟩
  have Bs3 : k_base (i_X7_3 p q0 q1 n h).1 := fun i s hi hx => nv _ _ (by omega) (Bs i s hi hx)
  refine r_istore_n C1 dX7_init_26 (rfl : 26 + 1 = 27) (by decide) (Nat.le_of_ble_eq_true rfl) ?_
  show k_W X _ _ _ _ _ _ _ [some (.ref p), some (.ref q0), some (.ref q1), some (.int 0)] _
  refine r_iload_n C1 dX7_init_27 (rfl : 27 + 1 = 28) rfl ?_
  refine r_iconst (v := (3 : Int32)) C1 dX7_init_28 (rfl : 28 + 1 = 29) rfl ?_
  refine r_icmp_ge (tgt := 48) C1 dX7_init_29 (by decide) (rfl : 29 + 3 = 32) (fun z => absurd z (by decide)) (fun _ => ?_)
  refine r_aload_n C1 dX7_init_32 (rfl : 32 + 1 = 33) rfl ?_
  refine r_getR (q := n) C1 dX7_init_33 (rfl : 33 + 3 = 36) fl_X7_13 hs_r22 rfl ?_
  refine r_iload_n C1 dX7_init_36 (rfl : 36 + 1 = 37) rfl ?_
  refine r_aload_n C1 dX7_init_37 (rfl : 37 + 1 = 38) rfl ?_
  refine c_VG (As := []) (st := [.int 0, .ref n]) (b := q1) C1 hR (k_csl hRc hRs rfl rfl) mv_X3_twin (k_me (tm2 (List.mem_of_getElem? (i := 102) rfl)) rfl) dX7_init_38 (rfl : 38 + 3 = 41) rfl rfl ha3.1 rfl (c_twin X.l (i_X7_3 p q0 q1 n h) Bs3 ha3 ha2 (by rw [hl_r22]; omega)) rfl rfl rfl ⟨k_okv_of hs_r22, k_okv_of hq0_r22, k_okv_of ha3.1, True.intro, True.intro⟩ ⟨True.intro, k_okv_of hQ0, True.intro⟩ ?_
  rintro v ad10 h1 ⟨rfl, rfl⟩ hsm10 C10
  change k_W X _ _ _ _ ad10 _ _ _ [.ref (i_X7_3 p q0 q1 n h).1.length, .int 0, .ref n]
  refine g_aast (j := 0) C10 dX7_init_41 (rfl : 41 + 1 = 42) (k_tw_ne hQ0) (k_tw_mA q1 (i_X7_3 p q0 q1 n h)).1 (fun z => absurd z (by decide)) rfl ?_
  change k_W X _ _ _ _ _ (k_twR n 0 q1 (i_X7_3 p q0 q1 n h)) _ _ _
  have hsk1 := k_twR_ne (q := n) (j := 0) (a := q1) hs_r22
  have hqk1 := k_twR_ne (q := n) (j := 0) (a := q1) hq0_r22
  have hQk1 := k_twR_ne (q := n) (j := 0) (a := q1) hQ0
  have hak1 : k_mA (k_twR n 0 q1 (i_X7_3 p q0 q1 n h)).1 q1 := k_mA_le ha3 (fun q x hx => k_twR_ne hx)
  have Bsk1 : k_base (k_twR n 0 q1 (i_X7_3 p q0 q1 n h)).1 := k_base_le Bs3 (fun q x hx => k_twR_ne hx)
  have hlk1 : (k_twR n 0 q1 (i_X7_3 p q0 q1 n h)).1.length = n + 7 := by rw [k_twR_len, hl_r22]
  have he_0 : h.1.length ≤ (i_X7_3 p q0 q1 n h).1.length := by rw [hl_r22, hl_]; omega
  have smk1 := k_sm_tr (k_sm_tr hsm0 hsm1 he0) hsm10 he_0
  refine r_iinc (v := (1 : Int32)) C10 dX7_init_42 (rfl : 42 + 3 = 45) rfl rfl (Nat.le_of_ble_eq_true rfl) ?_
  show k_W X _ _ _ _ _ _ _ [some (.ref p), some (.ref q0), some (.ref q1), some (.int 1)] _
  refine r_goto (tgt := 27) C10 dX7_init_45 (by decide) ?_
  refine r_iload_n C10 dX7_init_27 (rfl : 27 + 1 = 28) rfl ?_
  refine r_iconst (v := (3 : Int32)) C10 dX7_init_28 (rfl : 28 + 1 = 29) rfl ?_
  refine r_icmp_ge (tgt := 48) C10 dX7_init_29 (by decide) (rfl : 29 + 3 = 32) (fun z => absurd z (by decide)) (fun _ => ?_)
  refine r_aload_n C10 dX7_init_32 (rfl : 32 + 1 = 33) rfl ?_
  refine r_getR (q := n) C10 dX7_init_33 (rfl : 33 + 3 = 36) fl_X7_13 hsk1 rfl ?_
  refine r_iload_n C10 dX7_init_36 (rfl : 36 + 1 = 37) rfl ?_
  refine r_aload_n C10 dX7_init_37 (rfl : 37 + 1 = 38) rfl ?_
  refine c_VG (As := []) (st := [.int 1, .ref n]) (b := q1) C10 hR (k_csl hRc hRs rfl rfl) mv_X3_twin (k_me (tm2 (List.mem_of_getElem? (i := 102) rfl)) rfl) dX7_init_38 (rfl : 38 + 3 = 41) rfl rfl hak1.1 rfl (c_twin X.l (k_twR n 0 q1 (i_X7_3 p q0 q1 n h)) Bsk1 hak1 ha2 (by rw [hlk1]; omega)) rfl rfl rfl ⟨k_okv_of hsk1, k_okv_of hqk1, k_okv_of hak1.1, True.intro, True.intro⟩ ⟨True.intro, k_okv_of hQk1, True.intro⟩ ?_
  rintro v ad11 h1 ⟨rfl, rfl⟩ hsm11 C11
  change k_W X _ _ _ _ ad11 _ _ _ [.ref (k_twR n 0 q1 (i_X7_3 p q0 q1 n h)).1.length, .int 1, .ref n]
  refine g_aast (j := 1) C11 dX7_init_41 (rfl : 41 + 1 = 42) (k_tw_ne hQk1) (k_tw_mA q1 (k_twR n 0 q1 (i_X7_3 p q0 q1 n h))).1 (fun z => absurd z (by decide)) rfl ?_
  change k_W X _ _ _ _ _ (k_twR n 1 q1 (k_twR n 0 q1 (i_X7_3 p q0 q1 n h))) _ _ _
  have hsk2 := k_twR_ne (q := n) (j := 1) (a := q1) hsk1
  have hqk2 := k_twR_ne (q := n) (j := 1) (a := q1) hqk1
  have hQk2 := k_twR_ne (q := n) (j := 1) (a := q1) hQk1
  have hak2 : k_mA (k_twR n 1 q1 (k_twR n 0 q1 (i_X7_3 p q0 q1 n h))).1 q1 := k_mA_le hak1 (fun q x hx => k_twR_ne hx)
  have Bsk2 : k_base (k_twR n 1 q1 (k_twR n 0 q1 (i_X7_3 p q0 q1 n h))).1 := k_base_le Bsk1 (fun q x hx => k_twR_ne hx)
  have hlk2 : (k_twR n 1 q1 (k_twR n 0 q1 (i_X7_3 p q0 q1 n h))).1.length = n + 12 := by rw [k_twR_len, hlk1]
  have he_1 : h.1.length ≤ (k_twR n 0 q1 (i_X7_3 p q0 q1 n h)).1.length := by rw [hlk1, hl_]; omega
  have smk2 := k_sm_tr smk1 hsm11 he_1
  refine r_iinc (v := (2 : Int32)) C11 dX7_init_42 (rfl : 42 + 3 = 45) rfl rfl (Nat.le_of_ble_eq_true rfl) ?_
  show k_W X _ _ _ _ _ _ _ [some (.ref p), some (.ref q0), some (.ref q1), some (.int 2)] _
  refine r_goto (tgt := 27) C11 dX7_init_45 (by decide) ?_
  refine r_iload_n C11 dX7_init_27 (rfl : 27 + 1 = 28) rfl ?_
  refine r_iconst (v := (3 : Int32)) C11 dX7_init_28 (rfl : 28 + 1 = 29) rfl ?_
  refine r_icmp_ge (tgt := 48) C11 dX7_init_29 (by decide) (rfl : 29 + 3 = 32) (fun z => absurd z (by decide)) (fun _ => ?_)
  refine r_aload_n C11 dX7_init_32 (rfl : 32 + 1 = 33) rfl ?_
  refine r_getR (q := n) C11 dX7_init_33 (rfl : 33 + 3 = 36) fl_X7_13 hsk2 rfl ?_
  refine r_iload_n C11 dX7_init_36 (rfl : 36 + 1 = 37) rfl ?_
  refine r_aload_n C11 dX7_init_37 (rfl : 37 + 1 = 38) rfl ?_
  refine c_VG (As := []) (st := [.int 2, .ref n]) (b := q1) C11 hR (k_csl hRc hRs rfl rfl) mv_X3_twin (k_me (tm2 (List.mem_of_getElem? (i := 102) rfl)) rfl) dX7_init_38 (rfl : 38 + 3 = 41) rfl rfl hak2.1 rfl (c_twin X.l (k_twR n 1 q1 (k_twR n 0 q1 (i_X7_3 p q0 q1 n h))) Bsk2 hak2 ha2 (by rw [hlk2]; omega)) rfl rfl rfl ⟨k_okv_of hsk2, k_okv_of hqk2, k_okv_of hak2.1, True.intro, True.intro⟩ ⟨True.intro, k_okv_of hQk2, True.intro⟩ ?_
  rintro v ad12 h1 ⟨rfl, rfl⟩ hsm12 C12
  change k_W X _ _ _ _ ad12 _ _ _ [.ref (k_twR n 1 q1 (k_twR n 0 q1 (i_X7_3 p q0 q1 n h))).1.length, .int 2, .ref n]
  refine g_aast (j := 2) C12 dX7_init_41 (rfl : 41 + 1 = 42) (k_tw_ne hQk2) (k_tw_mA q1 (k_twR n 1 q1 (k_twR n 0 q1 (i_X7_3 p q0 q1 n h)))).1 (fun z => absurd z (by decide)) rfl ?_
  change k_W X _ _ _ _ _ (k_twR n 2 q1 (k_twR n 1 q1 (k_twR n 0 q1 (i_X7_3 p q0 q1 n h)))) _ _ _
  have hsk3 := k_twR_ne (q := n) (j := 2) (a := q1) hsk2
  have hqk3 := k_twR_ne (q := n) (j := 2) (a := q1) hqk2
  have hQk3 := k_twR_ne (q := n) (j := 2) (a := q1) hQk2
  have hak3 : k_mA (k_twR n 2 q1 (k_twR n 1 q1 (k_twR n 0 q1 (i_X7_3 p q0 q1 n h)))).1 q1 := k_mA_le hak2 (fun q x hx => k_twR_ne hx)
  have Bsk3 : k_base (k_twR n 2 q1 (k_twR n 1 q1 (k_twR n 0 q1 (i_X7_3 p q0 q1 n h)))).1 := k_base_le Bsk2 (fun q x hx => k_twR_ne hx)
  have hlk3 : (k_twR n 2 q1 (k_twR n 1 q1 (k_twR n 0 q1 (i_X7_3 p q0 q1 n h)))).1.length = n + 17 := by rw [k_twR_len, hlk2]
  have he_2 : h.1.length ≤ (k_twR n 1 q1 (k_twR n 0 q1 (i_X7_3 p q0 q1 n h))).1.length := by rw [hlk2, hl_]; omega
  have smk3 := k_sm_tr smk2 hsm12 he_2
  refine r_iinc (v := (3 : Int32)) C12 dX7_init_42 (rfl : 42 + 3 = 45) rfl rfl (Nat.le_of_ble_eq_true rfl) ?_
  show k_W X _ _ _ _ _ _ _ [some (.ref p), some (.ref q0), some (.ref q1), some (.int 3)] _
  refine r_goto (tgt := 27) C12 dX7_init_45 (by decide) ?_
  refine r_iload_n C12 dX7_init_27 (rfl : 27 + 1 = 28) rfl ?_
  refine r_iconst (v := (3 : Int32)) C12 dX7_init_28 (rfl : 28 + 1 = 29) rfl ?_
  refine r_icmp_ge (tgt := 48) C12 dX7_init_29 (by decide) (rfl : 29 + 3 = 32) (fun _ => ?_) (fun z => absurd (by decide : (3 : Int32) ≤ 3) z)
  exact g_vret C12 hr (Nat.le_of_ble_eq_true rfl) (Nat.le_of_ble_eq_true rfl) ⟨rfl, rfl⟩ smk3 dX7_init_48
