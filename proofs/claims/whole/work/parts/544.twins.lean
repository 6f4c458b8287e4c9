theorem mi_X3_init : k_MI yX3_init cX3_init 4 3 := ⟨(k_me (tm1 (List.mem_of_getElem? (i := 193) rfl)) rfl), (k_me (tm1 (List.mem_of_getElem? (i := 6) rfl)) rfl), (k_me (tm1 (List.mem_of_getElem? (i := 194) rfl)) rfl), rfl, by decide, by decide, by decide +kernel⟩
theorem lk_X3_90 : k_lk RX3 90 yX3_init := Or.inl (k_me (tm2 (List.mem_of_getElem? (i := 107) rfl)) rfl)
theorem lk_X3_93 : k_lk RX3 93 yX3_copyFrom := Or.inl (k_me (tm2 (List.mem_of_getElem? (i := 108) rfl)) rfl)
theorem hfs_X3 : ∀ j, j < 18 → defaultValue (tyX3 j) = vp_V ([2, 2, 2, 1, 1, 1, 2, 2, 2, 2, 0, 0, 0, 0, 0, 0, 0, 0].map k_dv) j := by
  intro j hj
  match j, hj with
  | 0, _ => rfl
  | 1, _ => rfl
  | 2, _ => rfl
  | 3, _ => rfl
  | 4, _ => rfl
  | 5, _ => rfl
  | 6, _ => rfl
  | 7, _ => rfl
  | 8, _ => rfl
  | 9, _ => rfl
  | 10, _ => rfl
  | 11, _ => rfl
  | 12, _ => rfl
  | 13, _ => rfl
  | 14, _ => rfl
  | 15, _ => rfl
  | 16, _ => rfl
  | 17, _ => rfl
  | j + 18, hj => omega
theorem hz_X3 : ∀ d ∈ [2, 2, 2, 1, 1, 1, 2, 2, 2, 2, 0, 0, 0, 0, 0, 0, 0, 0], d < 3 := by decide
/-! TWINS -/
theorem i_X3_ne {p q0 q1 q2 n q : Nat} {h : k_H} {x : k_Sh} (hne : p ≠ q) (hs : h.1[q]? = some x) : (i_X3 p q0 q1 q2 n h).1[q]? = some x :=
  k_st1_ne hne (k_st1_ne hne (k_st1_ne hne (k_nf_ne hne (k_nf_ne hne (k_nf_ne hne (k_nf_ne hne hs))))))
theorem i_X3_len {p q0 q1 q2 n : Nat} {h : k_H} : (i_X3 p q0 q1 q2 n h).1.length = h.1.length + 4 := by
  show (k_st1 _ _ (k_st1 _ _ (k_st1 _ _ (k_nf _ _ _ _ (k_nf _ _ _ _ (k_nf _ _ _ _ (k_nf _ _ _ _ h))))))).1.length = _
  rw [k_st1_len, k_st1_len, k_st1_len, k_nf_len, k_nf_len, k_nf_len, k_nf_len]
/-- a new mine at the end -/
def k_nm (h : k_H) : k_H := i_X3 h.1.length 3 17 20 (h.1.length + 1) (k_gr (0, 3, [2, 2, 2, 1, 1, 1, 2, 2, 2, 2, 0, 0, 0, 0, 0, 0, 0, 0]) h)
theorem k_nm_ne {h : k_H} {q : Nat} {x : k_Sh} (hs : h.1[q]? = some x) : (k_nm h).1[q]? = some x := i_X3_ne (Nat.ne_of_gt (k_lt_of hs)) (k_gr_at hs)
theorem k_nm_len (h : k_H) : (k_nm h).1.length = h.1.length + 5 := by unfold k_nm; rw [i_X3_len, k_gr_len]
theorem k_nm_mA (h : k_H) : k_mA (k_nm h).1 h.1.length := by
  have h0 := k_gr_new (0, 3, [2, 2, 2, 1, 1, 1, 2, 2, 2, 2, 0, 0, 0, 0, 0, 0, 0, 0]) h
  have l0 := k_gr_len (0, 3, [2, 2, 2, 1, 1, 1, 2, 2, 2, 2, 0, 0, 0, 0, 0, 0, 0, 0]) h
  refine ⟨?_, ?_, ?_, ?_, ?_⟩
  · exact k_st1_at (k_st1_at (k_st1_at (k_nf_at (k_nf_at (k_nf_at (k_nf_at h0))))))
  · have hne : h.1.length ≠ h.1.length + 1 := by omega
    exact k_st1_ne hne (k_st1_ne hne (k_st1_ne hne (k_nf_ne hne (k_nf_ne hne (k_nf_ne hne (k_nf_new l0 h0))))))
  · have hne : h.1.length ≠ h.1.length + 2 := by omega
    exact k_st1_ne hne (k_st1_ne hne (k_st1_ne hne (k_nf_ne hne (k_nf_ne hne (k_nf_new (by simp only [i_X3_1, i_X3_2, i_X3_3, k_nf_len, l0]) (k_nf_at h0))))))
  · have hne : h.1.length ≠ h.1.length + 3 := by omega
    exact k_st1_ne hne (k_st1_ne hne (k_st1_ne hne (k_nf_ne hne (k_nf_new (by simp only [i_X3_1, i_X3_2, i_X3_3, k_nf_len, l0]) (k_nf_at (k_nf_at h0))))))
  · have hne : h.1.length ≠ h.1.length + 4 := by omega
    exact k_st1_ne hne (k_st1_ne hne (k_st1_ne hne (k_nf_new (by simp only [i_X3_1, i_X3_2, i_X3_3, k_nf_len, l0]) (k_nf_at (k_nf_at (k_nf_at h0))))))
theorem k_base_le {sh sh' : List k_Sh} (B : k_base sh) (h : ∀ (q : Nat) (x : k_Sh), sh[q]? = some x → sh'[q]? = some x) : k_base sh' := fun i s hi hs => h _ _ (B i s hi hs)
theorem k_mA_le {sh sh' : List k_Sh} {a : Nat} (B : k_mA sh a) (h : ∀ (q : Nat) (x : k_Sh), sh[q]? = some x → sh'[q]? = some x) : k_mA sh' a := ⟨h _ _ B.1, h _ _ B.2.1, h _ _ B.2.2.1, h _ _ B.2.2.2.1, h _ _ B.2.2.2.2⟩
theorem k_mA_lt {h : k_H} {a : Nat} (A : k_mA h.1 a) : a + 4 < h.1.length := k_lt_of A.2.2.2.2
theorem k_cpM_sh (b a : Nat) (h : k_H) : (k_cpM b a h).1 = h.1 := k_ap_sh _ _
/-- the twin of the mine at a -/
def k_tw (a : Nat) (h : k_H) : k_H := k_cpM h.1.length a (k_nm h)
theorem k_tw_ne {h : k_H} {q a : Nat} {x : k_Sh} (hs : h.1[q]? = some x) : (k_tw a h).1[q]? = some x := by unfold k_tw; rw [k_cpM_sh]; exact k_nm_ne hs
theorem k_tw_len (a : Nat) (h : k_H) : (k_tw a h).1.length = h.1.length + 5 := by unfold k_tw; rw [k_cpM_sh, k_nm_len]
theorem k_tw_mA (a : Nat) (h : k_H) : k_mA (k_tw a h).1 h.1.length := by unfold k_tw; rw [k_cpM_sh]; exact k_nm_mA h
set_option maxRecDepth 100000 in
theorem c_twin (l : Launch) (h : k_H) {a : Nat} (Bs : k_base h.1) (ha : k_mA h.1 a) (ha2 : 25 < a) (hlen : h.1.length + 5 ≤ 1000000) : k_CG l yX3_twin cX3_twin 2 (some (.object "LullabyPit$Mine")) 3 90 5 42 [.ref a] h (fun v h' => v = some (.ref h.1.length) ∧ h' = k_tw a h) := by
  refine k_ofWG (by decide) (Nat.le_of_ble_eq_true rfl) ?_
  intro X ad hlX hR0 hr C hnm
  have hR : X.R.frames = 3 ∧ X.R.locals = 90 := by rw [hR0]; exact ⟨rfl, rfl⟩
  have hRc : X.R.cells = 5 := by rw [hR0]
  have hRs : X.R.slots = 42 := by rw [hR0]
  have hlt := k_mA_lt ha
  show k_W X 2 0 0 _ ad h 0 [some (.ref a), none] []
  refine g_new (ci := 3) (sl := [2, 2, 2, 1, 1, 1, 2, 2, 2, 2, 0, 0, 0, 0, 0, 0, 0, 0]) C dX3_twin_0 (rfl : 0 + 3 = 3) rfl in_X3 tyX3_ok (k_me (tm2 (List.mem_of_getElem? (i := 106) rfl)) rfl) (k_me (tm1 (List.mem_of_getElem? (i := 191) rfl)) rfl) (k_me (tm1 (List.mem_of_getElem? (i := 6) rfl)) rfl) hfs_X3 hz_X3 (k_csl hRc hRs rfl rfl) (by omega) ⟨k_okv_of ha.1, True.intro⟩ True.intro ?_
  intro ad1 hsm1 C1
  have ha1 := k_gr_at (s := (0, 3, [2, 2, 2, 1, 1, 1, 2, 2, 2, 2, 0, 0, 0, 0, 0, 0, 0, 0])) ha.1
  refine r_dup C1 dX3_twin_3 (rfl : 3 + 1 = 4) rfl ?_
  refine r_aload_n C1 dX3_twin_4 (rfl : 4 + 1 = 5) rfl ?_
  refine r_getR (q := 3) C1 dX3_twin_5 (rfl : 5 + 3 = 8) fl_X3_24 ha1 rfl ?_
  refine r_aload_n C1 dX3_twin_8 (rfl : 8 + 1 = 9) rfl ?_
  refine r_getR (q := 17) C1 dX3_twin_9 (rfl : 9 + 3 = 12) fl_X3_28 ha1 rfl ?_
  refine r_aload_n C1 dX3_twin_12 (rfl : 12 + 1 = 13) rfl ?_
  refine r_getR (q := 20) C1 dX3_twin_13 (rfl : 13 + 3 = 16) fl_X3_32 ha1 rfl ?_
  have h0 := k_gr_new (0, 3, [2, 2, 2, 1, 1, 1, 2, 2, 2, 2, 0, 0, 0, 0, 0, 0, 0, 0]) h
  have l0 := k_gr_len (0, 3, [2, 2, 2, 1, 1, 1, 2, 2, 2, 2, 0, 0, 0, 0, 0, 0, 0, 0]) h
  refine c_IG (As := [.ref 3, .ref 17, .ref 20]) (st := [.ref h.1.length]) (b := h.1.length) C1 hR (k_csl hRc hRs rfl rfl) mi_X3_init lk_X3_90 dX3_twin_16 (rfl : 16 + 3 = 19) rfl rfl (c_X3_init X.l (k_gr (0, 3, [2, 2, 2, 1, 1, 1, 2, 2, 2, 2, 0, 0, 0, 0, 0, 0, 0, 0]) h) h0 (k_gr_at (Bs 0 _ (by decide) rfl)) (by omega) (k_gr_at (Bs 14 _ (by decide) rfl)) (by omega) (k_gr_at (Bs 17 _ (by decide) rfl)) (by omega) l0 (by omega)) rfl rfl rfl ⟨k_okv_of ha1, True.intro⟩ ⟨k_okv_of h0, True.intro⟩ ?_
  rintro v ad2 h2 ⟨rfl, rfl⟩ hsm2 C2
  have hsmA := k_sm_tr hsm1 hsm2 (by rw [l0]; omega)
  have haN : k_mA (k_nm h).1 a := k_mA_le ha (fun q x hx => k_nm_ne hx)
  have hbN := k_nm_mA h
  change k_W X _ _ _ _ ad2 (k_nm h) _ _ [.ref h.1.length]
  refine r_astore_n C2 dX3_twin_19 (rfl : 19 + 1 = 20) (by decide) (Nat.le_of_ble_eq_true rfl) ?_
  show k_W _ _ _ _ _ _ _ _ [some (.ref a), some (.ref h.1.length)] _
  refine r_aload_n C2 dX3_twin_20 (rfl : 20 + 1 = 21) rfl ?_
  refine r_aload_n C2 dX3_twin_21 (rfl : 21 + 1 = 22) rfl ?_
  refine g_copy C2 hR (k_csl hRc hRs rfl rfl) (k_base_le Bs (fun q x hx => k_nm_ne hx)) hbN haN (by omega) ha2 (Or.inr (by omega)) lk_X3_93 dX3_twin_22 (rfl : 22 + 3 = 25) rfl rfl rfl ?_
  refine r_aload_n C2 dX3_twin_25 (rfl : 25 + 1 = 26) rfl ?_
  exact g_aret C2 hr (Nat.le_of_ble_eq_true rfl) (Nat.le_of_ble_eq_true rfl) ⟨rfl, rfl⟩ hsmA dX3_twin_26
