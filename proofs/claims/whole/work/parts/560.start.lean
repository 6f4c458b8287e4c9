theorem mi_X10_init : k_MI yX10_init cX10_init 1 0 := ⟨(k_me (tm1 (List.mem_of_getElem? (i := 31) rfl)) rfl), (k_me (tm1 (List.mem_of_getElem? (i := 1) rfl)) rfl), (k_me (tm1 (List.mem_of_getElem? (i := 32) rfl)) rfl), rfl, by decide, by decide, by decide +kernel⟩
theorem mi_X11_init : k_MI yX11_init cX11_init 1 0 := ⟨(k_me (tm6 (List.mem_of_getElem? (i := 220) rfl)) rfl), (k_me (tm1 (List.mem_of_getElem? (i := 14) rfl)) rfl), (k_me (tm6 (List.mem_of_getElem? (i := 221) rfl)) rfl), rfl, by decide, by decide, by decide +kernel⟩
theorem lk_L_107 : k_lk RL 107 yX10_init := Or.inl (k_me (tm1 (List.mem_of_getElem? (i := 30) rfl)) rfl)
theorem lk_L_110 : k_lk RL 110 yX11_init := Or.inl (k_me (tm6 (List.mem_of_getElem? (i := 219) rfl)) rfl)
theorem hfs_X10 : ∀ j, j < 15 → defaultValue (tyX10 j) = vp_V ([2, 2, 2, 2, 2, 2, 2, 2, 2, 2, 2, 2, 2, 2, 0].map k_dv) j := by
  intro j hj
  match j, hj with
  | 0, _ => rfl
  | 1, _ => rfl
  | 2, _ => rfl
  | 3, _ => rfl
  | 4, _ => rfl
  | 5, _ => rfl
  | 6, _ => rfl
  | 7, _ => rfl
  | 8, _ => rfl
  | 9, _ => rfl
  | 10, _ => rfl
  | 11, _ => rfl
  | 12, _ => rfl
  | 13, _ => rfl
  | 14, _ => rfl
  | j + 15, hj => omega
theorem hz_X10 : ∀ d ∈ [2, 2, 2, 2, 2, 2, 2, 2, 2, 2, 2, 2, 2, 2, 0], d < 3 := by decide

theorem hfs_X11 : ∀ j, j < 66 → defaultValue (tyX11 j) = vp_V (SM_0.map k_dv) j := by
  intro j hj
  match j, hj with
  | 0, _ => rfl
  | 1, _ => rfl
  | 2, _ => rfl
  | 3, _ => rfl
  | 4, _ => rfl
  | 5, _ => rfl
  | 6, _ => rfl
  | 7, _ => rfl
  | 8, _ => rfl
  | 9, _ => rfl
  | 10, _ => rfl
  | 11, _ => rfl
  | 12, _ => rfl
  | 13, _ => rfl
  | 14, _ => rfl
  | 15, _ => rfl
  | 16, _ => rfl
  | 17, _ => rfl
  | 18, _ => rfl
  | 19, _ => rfl
  | 20, _ => rfl
  | 21, _ => rfl
  | 22, _ => rfl
  | 23, _ => rfl
  | 24, _ => rfl
  | 25, _ => rfl
  | 26, _ => rfl
  | 27, _ => rfl
  | 28, _ => rfl
  | 29, _ => rfl
  | 30, _ => rfl
  | 31, _ => rfl
  | 32, _ => rfl
  | 33, _ => rfl
  | 34, _ => rfl
  | 35, _ => rfl
  | 36, _ => rfl
  | 37, _ => rfl
  | 38, _ => rfl
  | 39, _ => rfl
  | 40, _ => rfl
  | 41, _ => rfl
  | 42, _ => rfl
  | 43, _ => rfl
  | 44, _ => rfl
  | 45, _ => rfl
  | 46, _ => rfl
  | 47, _ => rfl
  | 48, _ => rfl
  | 49, _ => rfl
  | 50, _ => rfl
  | 51, _ => rfl
  | 52, _ => rfl
  | 53, _ => rfl
  | 54, _ => rfl
  | 55, _ => rfl
  | 56, _ => rfl
  | 57, _ => rfl
  | 58, _ => rfl
  | 59, _ => rfl
  | 60, _ => rfl
  | 61, _ => rfl
  | 62, _ => rfl
  | 63, _ => rfl
  | 64, _ => rfl
  | 65, _ => rfl
  | j + 66, hj => omega
theorem hz_X11 : ∀ d ∈ SM_0, d < 3 := by decide

/-! THE LAW BEGINS -/
set_option maxHeartbeats 400000 in
set_option maxRecDepth 100000 in
theorem s_law0 (u : Nat) {X : k_X} {ad : Nat → Nat} {h : k_H} {Q : State → Prop} (z : h.1 = []) {oa : Int32 × Int32 × Int32 × Int32 × Int32 × Int32 × Int64 × (Nat → Int32) × (Nat → Int32) × (Nat → Int32)} {ob : Int64} {oc : Int32 × Int32 × Int32 × Int32 × Int32 × Int32 × Int64 × (Nat → Int32) × (Nat → Int32) × (Nat → Int32)} {od : Int64} {oe : Int32 × (Nat → Int32)} {og : Int32 × (Nat → Int32)} {oh : Int32 × Int32 × Int32 × Int32 × Int32 × Int32 × Int32 × Int32 × Int64 × Int64 × Int64 × (Nat → Int32) × (Nat → Int32) × (Nat → Int32) × (Nat → Int32)} {oi : Nat → Int32} {om : Int32 × Int32 × Int32 × Int32 × Int32 × Int32 × Int32 × (Nat → Int32) × (Nat → Int32) × (Nat → Int32)} {on : Int32 × Int32 × Int32 × Int32 × Int32 × Int32 × Int32 × Int32 × Int32 × Int32 × Int32 × (Nat → Int32) × (Nat → Int32) × (Nat → Int32) × (Nat → Int32) × (Nat → Int32) × (Nat → Int32)} (oaf : f_X5_clear u ((i_X5_6 3 4 (q_X10_4 (k_gr (0, 10, [2, 2, 2, 2, 2, 2, 2, 2, 2, 2, 2, 2, 2, 2, 0]) h))).2.1 3 0) ((i_X5_6 3 4 (q_X10_4 (k_gr (0, 10, [2, 2, 2, 2, 2, 2, 2, 2, 2, 2, 2, 2, 2, 2, 0]) h))).2.1 3 1) ((i_X5_6 3 4 (q_X10_4 (k_gr (0, 10, [2, 2, 2, 2, 2, 2, 2, 2, 2, 2, 2, 2, 2, 2, 0]) h))).2.1 3 7) ((i_X5_6 3 4 (q_X10_4 (k_gr (0, 10, [2, 2, 2, 2, 2, 2, 2, 2, 2, 2, 2, 2, 2, 2, 0]) h))).2.1 3 8) ((i_X5_6 3 4 (q_X10_4 (k_gr (0, 10, [2, 2, 2, 2, 2, 2, 2, 2, 2, 2, 2, 2, 2, 2, 0]) h))).2.1 3 9) ((i_X5_6 3 4 (q_X10_4 (k_gr (0, 10, [2, 2, 2, 2, 2, 2, 2, 2, 2, 2, 2, 2, 2, 2, 0]) h))).2.1 3 10) ((i_X5_6 3 4 (q_X10_4 (k_gr (0, 10, [2, 2, 2, 2, 2, 2, 2, 2, 2, 2, 2, 2, 2, 2, 0]) h))).2.2.1 3 6) ((i_X5_6 3 4 (q_X10_4 (k_gr (0, 10, [2, 2, 2, 2, 2, 2, 2, 2, 2, 2, 2, 2, 2, 2, 0]) h))).2.1 4) ((i_X5_6 3 4 (q_X10_4 (k_gr (0, 10, [2, 2, 2, 2, 2, 2, 2, 2, 2, 2, 2, 2, 2, 2, 0]) h))).2.1 (4 + 1)) ((i_X5_6 3 4 (q_X10_4 (k_gr (0, 10, [2, 2, 2, 2, 2, 2, 2, 2, 2, 2, 2, 2, 2, 2, 0]) h))).2.1 (4 + 2)) = some oa) (obf : f_X5_tellAll u ((j_X5a 3 4 oa (q_X10_4 (k_gr (0, 10, [2, 2, 2, 2, 2, 2, 2, 2, 2, 2, 2, 2, 2, 2, 0]) h))).2.1 3 0) ((j_X5a 3 4 oa (q_X10_4 (k_gr (0, 10, [2, 2, 2, 2, 2, 2, 2, 2, 2, 2, 2, 2, 2, 2, 0]) h))).2.1 3 1) ((j_X5a 3 4 oa (q_X10_4 (k_gr (0, 10, [2, 2, 2, 2, 2, 2, 2, 2, 2, 2, 2, 2, 2, 2, 0]) h))).2.2.1 3 5) = some ob) (ocf : f_X5_clear u ((i_X5_6 10 11 (q_X10_7 (k_gr (0, 10, [2, 2, 2, 2, 2, 2, 2, 2, 2, 2, 2, 2, 2, 2, 0]) h) oa ob)).2.1 10 0) ((i_X5_6 10 11 (q_X10_7 (k_gr (0, 10, [2, 2, 2, 2, 2, 2, 2, 2, 2, 2, 2, 2, 2, 2, 0]) h) oa ob)).2.1 10 1) ((i_X5_6 10 11 (q_X10_7 (k_gr (0, 10, [2, 2, 2, 2, 2, 2, 2, 2, 2, 2, 2, 2, 2, 2, 0]) h) oa ob)).2.1 10 7) ((i_X5_6 10 11 (q_X10_7 (k_gr (0, 10, [2, 2, 2, 2, 2, 2, 2, 2, 2, 2, 2, 2, 2, 2, 0]) h) oa ob)).2.1 10 8) ((i_X5_6 10 11 (q_X10_7 (k_gr (0, 10, [2, 2, 2, 2, 2, 2, 2, 2, 2, 2, 2, 2, 2, 2, 0]) h) oa ob)).2.1 10 9) ((i_X5_6 10 11 (q_X10_7 (k_gr (0, 10, [2, 2, 2, 2, 2, 2, 2, 2, 2, 2, 2, 2, 2, 2, 0]) h) oa ob)).2.1 10 10) ((i_X5_6 10 11 (q_X10_7 (k_gr (0, 10, [2, 2, 2, 2, 2, 2, 2, 2, 2, 2, 2, 2, 2, 2, 0]) h) oa ob)).2.2.1 10 6) ((i_X5_6 10 11 (q_X10_7 (k_gr (0, 10, [2, 2, 2, 2, 2, 2, 2, 2, 2, 2, 2, 2, 2, 2, 0]) h) oa ob)).2.1 11) ((i_X5_6 10 11 (q_X10_7 (k_gr (0, 10, [2, 2, 2, 2, 2, 2, 2, 2, 2, 2, 2, 2, 2, 2, 0]) h) oa ob)).2.1 (11 + 1)) ((i_X5_6 10 11 (q_X10_7 (k_gr (0, 10, [2, 2, 2, 2, 2, 2, 2, 2, 2, 2, 2, 2, 2, 2, 0]) h) oa ob)).2.1 (11 + 2)) = some oc) (odf : f_X5_tellAll u ((j_X5a 10 11 oc (q_X10_7 (k_gr (0, 10, [2, 2, 2, 2, 2, 2, 2, 2, 2, 2, 2, 2, 2, 2, 0]) h) oa ob)).2.1 10 0) ((j_X5a 10 11 oc (q_X10_7 (k_gr (0, 10, [2, 2, 2, 2, 2, 2, 2, 2, 2, 2, 2, 2, 2, 2, 0]) h) oa ob)).2.1 10 1) ((j_X5a 10 11 oc (q_X10_7 (k_gr (0, 10, [2, 2, 2, 2, 2, 2, 2, 2, 2, 2, 2, 2, 2, 2, 0]) h) oa ob)).2.2.1 10 5) = some od) (oef : f_X1_beFall u ((q_X10_18 (k_gr (0, 10, [2, 2, 2, 2, 2, 2, 2, 2, 2, 2, 2, 2, 2, 2, 0]) h) oa ob oc od).2.1 17 2) ((q_X10_18 (k_gr (0, 10, [2, 2, 2, 2, 2, 2, 2, 2, 2, 2, 2, 2, 2, 2, 0]) h) oa ob oc od).2.1 18) = some oe) (ogf : f_X1_beHarm u ((q_X10_19 (k_gr (0, 10, [2, 2, 2, 2, 2, 2, 2, 2, 2, 2, 2, 2, 2, 2, 0]) h) oa ob oc od oe).2.1 20 2) ((q_X10_19 (k_gr (0, 10, [2, 2, 2, 2, 2, 2, 2, 2, 2, 2, 2, 2, 2, 2, 0]) h) oa ob oc od oe).2.1 21) = some og) (ohf : f_X3_begin u ((q_X10_23 (k_gr (0, 10, [2, 2, 2, 2, 2, 2, 2, 2, 2, 2, 2, 2, 2, 2, 0]) h) oa ob oc od oe og).2.1 26 10) ((q_X10_23 (k_gr (0, 10, [2, 2, 2, 2, 2, 2, 2, 2, 2, 2, 2, 2, 2, 2, 0]) h) oa ob oc od oe og).2.1 26 11) ((q_X10_23 (k_gr (0, 10, [2, 2, 2, 2, 2, 2, 2, 2, 2, 2, 2, 2, 2, 2, 0]) h) oa ob oc od oe og).2.1 26 12) ((q_X10_23 (k_gr (0, 10, [2, 2, 2, 2, 2, 2, 2, 2, 2, 2, 2, 2, 2, 2, 0]) h) oa ob oc od oe og).2.1 26 13) ((q_X10_23 (k_gr (0, 10, [2, 2, 2, 2, 2, 2, 2, 2, 2, 2, 2, 2, 2, 2, 0]) h) oa ob oc od oe og).2.1 26 14) ((q_X10_23 (k_gr (0, 10, [2, 2, 2, 2, 2, 2, 2, 2, 2, 2, 2, 2, 2, 2, 0]) h) oa ob oc od oe og).2.1 26 15) ((q_X10_23 (k_gr (0, 10, [2, 2, 2, 2, 2, 2, 2, 2, 2, 2, 2, 2, 2, 2, 0]) h) oa ob oc od oe og).2.1 26 16) ((q_X10_23 (k_gr (0, 10, [2, 2, 2, 2, 2, 2, 2, 2, 2, 2, 2, 2, 2, 2, 0]) h) oa ob oc od oe og).2.1 26 17) ((q_X10_23 (k_gr (0, 10, [2, 2, 2, 2, 2, 2, 2, 2, 2, 2, 2, 2, 2, 2, 0]) h) oa ob oc od oe og).2.2.1 26 3) ((q_X10_23 (k_gr (0, 10, [2, 2, 2, 2, 2, 2, 2, 2, 2, 2, 2, 2, 2, 2, 0]) h) oa ob oc od oe og).2.2.1 26 4) ((q_X10_23 (k_gr (0, 10, [2, 2, 2, 2, 2, 2, 2, 2, 2, 2, 2, 2, 2, 2, 0]) h) oa ob oc od oe og).2.2.1 26 5) ((q_X10_23 (k_gr (0, 10, [2, 2, 2, 2, 2, 2, 2, 2, 2, 2, 2, 2, 2, 2, 0]) h) oa ob oc od oe og).2.1 27) ((q_X10_23 (k_gr (0, 10, [2, 2, 2, 2, 2, 2, 2, 2, 2, 2, 2, 2, 2, 2, 0]) h) oa ob oc od oe og).2.1 28) ((q_X10_23 (k_gr (0, 10, [2, 2, 2, 2, 2, 2, 2, 2, 2, 2, 2, 2, 2, 2, 0]) h) oa ob oc od oe og).2.1 29) ((q_X10_23 (k_gr (0, 10, [2, 2, 2, 2, 2, 2, 2, 2, 2, 2, 2, 2, 2, 2, 0]) h) oa ob oc od oe og).2.1 30) ((q_X10_23 (k_gr (0, 10, [2, 2, 2, 2, 2, 2, 2, 2, 2, 2, 2, 2, 2, 2, 0]) h) oa ob oc od oe og).2.1 3 1) ((q_X10_23 (k_gr (0, 10, [2, 2, 2, 2, 2, 2, 2, 2, 2, 2, 2, 2, 2, 2, 0]) h) oa ob oc od oe og).2.1 3 9) = some oh) (oif : f_J7_fill_53178 u 8 ((i_X9_3 58 3 59 (q_X10_37 (q_X10_30 (k_gr (0, 10, [2, 2, 2, 2, 2, 2, 2, 2, 2, 2, 2, 2, 2, 2, 0]) h) oa ob oc od oe og oh))).2.1 59) (-1) = some oi) (omf : f_X11_clears u ((q_M_32 (k_gr (0, 11, SM_0) (q_X10_46 (q_X10_30 (k_gr (0, 10, [2, 2, 2, 2, 2, 2, 2, 2, 2, 2, 2, 2, 2, 2, 0]) h) oa ob oc od oe og oh) oi))).2.1 70 18) ((q_M_32 (k_gr (0, 11, SM_0) (q_X10_46 (q_X10_30 (k_gr (0, 10, [2, 2, 2, 2, 2, 2, 2, 2, 2, 2, 2, 2, 2, 2, 0]) h) oa ob oc od oe og oh) oi))).2.1 70 19) ((q_M_32 (k_gr (0, 11, SM_0) (q_X10_46 (q_X10_30 (k_gr (0, 10, [2, 2, 2, 2, 2, 2, 2, 2, 2, 2, 2, 2, 2, 2, 0]) h) oa ob oc od oe og oh) oi))).2.1 70 20) ((q_M_32 (k_gr (0, 11, SM_0) (q_X10_46 (q_X10_30 (k_gr (0, 10, [2, 2, 2, 2, 2, 2, 2, 2, 2, 2, 2, 2, 2, 2, 0]) h) oa ob oc od oe og oh) oi))).2.1 70 21) ((q_M_32 (k_gr (0, 11, SM_0) (q_X10_46 (q_X10_30 (k_gr (0, 10, [2, 2, 2, 2, 2, 2, 2, 2, 2, 2, 2, 2, 2, 2, 0]) h) oa ob oc od oe og oh) oi))).2.1 70 22) ((q_M_32 (k_gr (0, 11, SM_0) (q_X10_46 (q_X10_30 (k_gr (0, 10, [2, 2, 2, 2, 2, 2, 2, 2, 2, 2, 2, 2, 2, 2, 0]) h) oa ob oc od oe og oh) oi))).2.1 70 23) ((q_M_32 (k_gr (0, 11, SM_0) (q_X10_46 (q_X10_30 (k_gr (0, 10, [2, 2, 2, 2, 2, 2, 2, 2, 2, 2, 2, 2, 2, 2, 0]) h) oa ob oc od oe og oh) oi))).2.1 70 24) ((q_M_32 (k_gr (0, 11, SM_0) (q_X10_46 (q_X10_30 (k_gr (0, 10, [2, 2, 2, 2, 2, 2, 2, 2, 2, 2, 2, 2, 2, 2, 0]) h) oa ob oc od oe og oh) oi))).2.1 73) ((q_M_32 (k_gr (0, 11, SM_0) (q_X10_46 (q_X10_30 (k_gr (0, 10, [2, 2, 2, 2, 2, 2, 2, 2, 2, 2, 2, 2, 2, 2, 0]) h) oa ob oc od oe og oh) oi))).2.1 74) ((q_M_32 (k_gr (0, 11, SM_0) (q_X10_46 (q_X10_30 (k_gr (0, 10, [2, 2, 2, 2, 2, 2, 2, 2, 2, 2, 2, 2, 2, 2, 0]) h) oa ob oc od oe og oh) oi))).2.1 75) = some om) (onf : f_X11_sets u ((q_M_33 (k_gr (0, 11, SM_0) (q_X10_46 (q_X10_30 (k_gr (0, 10, [2, 2, 2, 2, 2, 2, 2, 2, 2, 2, 2, 2, 2, 2, 0]) h) oa ob oc od oe og oh) oi)) om).2.1 70 18) ((q_M_33 (k_gr (0, 11, SM_0) (q_X10_46 (q_X10_30 (k_gr (0, 10, [2, 2, 2, 2, 2, 2, 2, 2, 2, 2, 2, 2, 2, 2, 0]) h) oa ob oc od oe og oh) oi)) om).2.1 70 19) ((q_M_33 (k_gr (0, 11, SM_0) (q_X10_46 (q_X10_30 (k_gr (0, 10, [2, 2, 2, 2, 2, 2, 2, 2, 2, 2, 2, 2, 2, 2, 0]) h) oa ob oc od oe og oh) oi)) om).2.1 70 20) ((q_M_33 (k_gr (0, 11, SM_0) (q_X10_46 (q_X10_30 (k_gr (0, 10, [2, 2, 2, 2, 2, 2, 2, 2, 2, 2, 2, 2, 2, 2, 0]) h) oa ob oc od oe og oh) oi)) om).2.1 70 22) ((q_M_33 (k_gr (0, 11, SM_0) (q_X10_46 (q_X10_30 (k_gr (0, 10, [2, 2, 2, 2, 2, 2, 2, 2, 2, 2, 2, 2, 2, 2, 0]) h) oa ob oc od oe og oh) oi)) om).2.1 70 23) ((q_M_33 (k_gr (0, 11, SM_0) (q_X10_46 (q_X10_30 (k_gr (0, 10, [2, 2, 2, 2, 2, 2, 2, 2, 2, 2, 2, 2, 2, 2, 0]) h) oa ob oc od oe og oh) oi)) om).2.1 70 24) ((q_M_33 (k_gr (0, 11, SM_0) (q_X10_46 (q_X10_30 (k_gr (0, 10, [2, 2, 2, 2, 2, 2, 2, 2, 2, 2, 2, 2, 2, 2, 0]) h) oa ob oc od oe og oh) oi)) om).2.1 70 25) ((q_M_33 (k_gr (0, 11, SM_0) (q_X10_46 (q_X10_30 (k_gr (0, 10, [2, 2, 2, 2, 2, 2, 2, 2, 2, 2, 2, 2, 2, 2, 0]) h) oa ob oc od oe og oh) oi)) om).2.1 70 26) ((q_M_33 (k_gr (0, 11, SM_0) (q_X10_46 (q_X10_30 (k_gr (0, 10, [2, 2, 2, 2, 2, 2, 2, 2, 2, 2, 2, 2, 2, 2, 0]) h) oa ob oc od oe og oh) oi)) om).2.1 70 27) ((q_M_33 (k_gr (0, 11, SM_0) (q_X10_46 (q_X10_30 (k_gr (0, 10, [2, 2, 2, 2, 2, 2, 2, 2, 2, 2, 2, 2, 2, 2, 0]) h) oa ob oc od oe og oh) oi)) om).2.1 70 28) ((q_M_33 (k_gr (0, 11, SM_0) (q_X10_46 (q_X10_30 (k_gr (0, 10, [2, 2, 2, 2, 2, 2, 2, 2, 2, 2, 2, 2, 2, 2, 0]) h) oa ob oc od oe og oh) oi)) om).2.1 70 29) ((q_M_33 (k_gr (0, 11, SM_0) (q_X10_46 (q_X10_30 (k_gr (0, 10, [2, 2, 2, 2, 2, 2, 2, 2, 2, 2, 2, 2, 2, 2, 0]) h) oa ob oc od oe og oh) oi)) om).2.1 70 30) ((q_M_33 (k_gr (0, 11, SM_0) (q_X10_46 (q_X10_30 (k_gr (0, 10, [2, 2, 2, 2, 2, 2, 2, 2, 2, 2, 2, 2, 2, 2, 0]) h) oa ob oc od oe og oh) oi)) om).2.1 70 42) ((q_M_33 (k_gr (0, 11, SM_0) (q_X10_46 (q_X10_30 (k_gr (0, 10, [2, 2, 2, 2, 2, 2, 2, 2, 2, 2, 2, 2, 2, 2, 0]) h) oa ob oc od oe og oh) oi)) om).2.1 70 43) ((q_M_33 (k_gr (0, 11, SM_0) (q_X10_46 (q_X10_30 (k_gr (0, 10, [2, 2, 2, 2, 2, 2, 2, 2, 2, 2, 2, 2, 2, 2, 0]) h) oa ob oc od oe og oh) oi)) om).2.1 70 54) ((q_M_33 (k_gr (0, 11, SM_0) (q_X10_46 (q_X10_30 (k_gr (0, 10, [2, 2, 2, 2, 2, 2, 2, 2, 2, 2, 2, 2, 2, 2, 0]) h) oa ob oc od oe og oh) oi)) om).2.1 70 65) ((q_M_33 (k_gr (0, 11, SM_0) (q_X10_46 (q_X10_30 (k_gr (0, 10, [2, 2, 2, 2, 2, 2, 2, 2, 2, 2, 2, 2, 2, 2, 0]) h) oa ob oc od oe og oh) oi)) om).2.1 73) ((q_M_33 (k_gr (0, 11, SM_0) (q_X10_46 (q_X10_30 (k_gr (0, 10, [2, 2, 2, 2, 2, 2, 2, 2, 2, 2, 2, 2, 2, 2, 0]) h) oa ob oc od oe og oh) oi)) om).2.1 74) ((q_M_33 (k_gr (0, 11, SM_0) (q_X10_46 (q_X10_30 (k_gr (0, 10, [2, 2, 2, 2, 2, 2, 2, 2, 2, 2, 2, 2, 2, 2, 0]) h) oa ob oc od oe og oh) oi)) om).2.1 75) ((q_M_33 (k_gr (0, 11, SM_0) (q_X10_46 (q_X10_30 (k_gr (0, 10, [2, 2, 2, 2, 2, 2, 2, 2, 2, 2, 2, 2, 2, 2, 0]) h) oa ob oc od oe og oh) oi)) om).2.1 76) ((q_M_33 (k_gr (0, 11, SM_0) (q_X10_46 (q_X10_30 (k_gr (0, 10, [2, 2, 2, 2, 2, 2, 2, 2, 2, 2, 2, 2, 2, 2, 0]) h) oa ob oc od oe og oh) oi)) om).2.1 77) ((q_M_33 (k_gr (0, 11, SM_0) (q_X10_46 (q_X10_30 (k_gr (0, 10, [2, 2, 2, 2, 2, 2, 2, 2, 2, 2, 2, 2, 2, 2, 0]) h) oa ob oc od oe og oh) oi)) om).2.1 78) ((q_M_33 (k_gr (0, 11, SM_0) (q_X10_46 (q_X10_30 (k_gr (0, 10, [2, 2, 2, 2, 2, 2, 2, 2, 2, 2, 2, 2, 2, 2, 0]) h) oa ob oc od oe og oh) oi)) om).2.1 79) ((q_M_33 (k_gr (0, 11, SM_0) (q_X10_46 (q_X10_30 (k_gr (0, 10, [2, 2, 2, 2, 2, 2, 2, 2, 2, 2, 2, 2, 2, 2, 0]) h) oa ob oc od oe og oh) oi)) om).2.1 80) ((q_M_33 (k_gr (0, 11, SM_0) (q_X10_46 (q_X10_30 (k_gr (0, 10, [2, 2, 2, 2, 2, 2, 2, 2, 2, 2, 2, 2, 2, 2, 0]) h) oa ob oc od oe og oh) oi)) om).2.1 85) ((q_M_33 (k_gr (0, 11, SM_0) (q_X10_46 (q_X10_30 (k_gr (0, 10, [2, 2, 2, 2, 2, 2, 2, 2, 2, 2, 2, 2, 2, 2, 0]) h) oa ob oc od oe og oh) oi)) om).2.1 90) = some on) (C : k_C X cL_law_ RL 8 ad) (hR : X.R.frames = 2048 ∧ X.R.locals = 84000) (hRc : X.R.cells = 601024) (hRs : X.R.slots = 7293034)
    (kk : ∀ ad1 : Nat → Nat, k_C X cL_law_ RL 8 ad1 → k_sm h.1.length ad ad1 → k_W X 8 124 10756 Q ad1 (k_gr (4, 1, []) (q_M_34 (k_gr (0, 11, SM_0) (q_X10_46 (q_X10_30 (k_gr (0, 10, [2, 2, 2, 2, 2, 2, 2, 2, 2, 2, 2, 2, 2, 2, 0]) h) oa ob oc od oe og oh) oi)) om on)) 23 [some (.ref 5000000), some (.ref 0), some (.ref 70), some (.ref 102), some (.int 0), none, none, none] []) : k_W X 8 0 0 Q ad h 0 [some (.ref 5000000), none, none, none, none, none, none, none] [] := by
  have w0 : h.1.length = 0 := by rw [z]; rfl
  refine g_new (ci := 10) (sl := [2, 2, 2, 2, 2, 2, 2, 2, 2, 2, 2, 2, 2, 2, 0]) C dL_law__0 (rfl : 0 + 3 = 3) rfl in_X10 tyX10_ok (k_me (tm1 (List.mem_of_getElem? (i := 28) rfl)) rfl) (k_me (tm1 (List.mem_of_getElem? (i := 29) rfl)) rfl) (k_me (tm1 (List.mem_of_getElem? (i := 1) rfl)) rfl) hfs_X10 hz_X10 (k_csl hRc hRs rfl rfl) (by rw [w0]; decide) ⟨Or.inr (by decide), True.intro⟩ True.intro ?_
  intro ad0 hsm0 C0
  rw [w0]
  have z1 : (k_gr (0, 10, [2, 2, 2, 2, 2, 2, 2, 2, 2, 2, 2, 2, 2, 2, 0]) h).1 = L_X10_0 := by rw [k_gr_s, z]; rfl
  refine r_dup C0 dL_law__3 (rfl : 3 + 1 = 4) rfl ?_
  refine c_IG (As := []) (st := [.ref 0]) (b := 0) C0 hR (k_csl hRc hRs rfl rfl) mi_X10_init lk_L_107 dL_law__4 (rfl : 4 + 3 = 7) rfl rfl (c_X10_init X.l u (k_gr (0, 10, [2, 2, 2, 2, 2, 2, 2, 2, 2, 2, 2, 2, 2, 2, 0]) h) z1 oaf obf ocf odf oef ogf ohf oif) rfl rfl rfl ⟨Or.inr (by decide), True.intro⟩ ⟨Or.inl (by rw [z1]; decide), True.intro⟩ ?_
  rintro v1 ad1 h1 ⟨rfl, rfl⟩ hsm1 C1
  have z2 : (q_X10_46 (q_X10_30 (k_gr (0, 10, [2, 2, 2, 2, 2, 2, 2, 2, 2, 2, 2, 2, 2, 2, 0]) h) oa ob oc od oe og oh) oi).1 = shX := (sq_X10_46 oi (sq_X10_30 oa ob oc od oe og oh z1)).trans sX_X10
  change k_W X _ _ _ _ ad1 _ _ _ [.ref 0]
  refine r_astore_n C1 dL_law__7 (rfl : 7 + 1 = 8) (by decide) (Nat.le_of_ble_eq_true rfl) ?_
  show k_W X _ _ _ _ _ _ _ [some (.ref 5000000), some (.ref 0), none, none, none, none, none, none] _
  have w2 : (q_X10_46 (q_X10_30 (k_gr (0, 10, [2, 2, 2, 2, 2, 2, 2, 2, 2, 2, 2, 2, 2, 2, 0]) h) oa ob oc od oe og oh) oi).1.length = 70 := by rw [z2]; rfl
  refine g_new (ci := 11) (sl := SM_0) C1 dL_law__8 (rfl : 8 + 3 = 11) rfl in_X11 tyX11_ok (k_me (tm6 (List.mem_of_getElem? (i := 217) rfl)) rfl) (k_me (tm6 (List.mem_of_getElem? (i := 218) rfl)) rfl) (k_me (tm1 (List.mem_of_getElem? (i := 14) rfl)) rfl) hfs_X11 hz_X11 (k_csl hRc hRs rfl rfl) (by rw [w2]; decide) ⟨Or.inr (by decide), Or.inl (by rw [w2]; decide), True.intro⟩ True.intro ?_
  intro ad2 hsm2 C2
  rw [w2]
  have z3 : (k_gr (0, 11, SM_0) (q_X10_46 (q_X10_30 (k_gr (0, 10, [2, 2, 2, 2, 2, 2, 2, 2, 2, 2, 2, 2, 2, 2, 0]) h) oa ob oc od oe og oh) oi)).1 = L_M_0 := by rw [k_gr_s, z2]; rfl
  refine r_dup C2 dL_law__11 (rfl : 11 + 1 = 12) rfl ?_
  refine c_IG (As := []) (st := [.ref 70]) (b := 70) C2 hR (k_csl hRc hRs rfl rfl) mi_X11_init lk_L_110 dL_law__12 (rfl : 12 + 3 = 15) rfl rfl (c_X11_init X.l u (k_gr (0, 11, SM_0) (q_X10_46 (q_X10_30 (k_gr (0, 10, [2, 2, 2, 2, 2, 2, 2, 2, 2, 2, 2, 2, 2, 2, 0]) h) oa ob oc od oe og oh) oi)) z3 omf onf) rfl rfl rfl ⟨Or.inr (by decide), Or.inl (by rw [z3]; decide), True.intro⟩ ⟨Or.inl (by rw [z3]; decide), True.intro⟩ ?_
  rintro v3 ad3 h3 ⟨rfl, rfl⟩ hsm3 C3
  have z4 : (q_M_34 (k_gr (0, 11, SM_0) (q_X10_46 (q_X10_30 (k_gr (0, 10, [2, 2, 2, 2, 2, 2, 2, 2, 2, 2, 2, 2, 2, 2, 0]) h) oa ob oc od oe og oh) oi)) om on).1.length = 102 := by rw [sq_M_34 om on z3]; rfl
  change k_W X _ _ _ _ ad3 _ _ _ [.ref 70]
  refine r_astore_n C3 dL_law__15 (rfl : 15 + 1 = 16) (by decide) (Nat.le_of_ble_eq_true rfl) ?_
  show k_W X _ _ _ _ _ _ _ [some (.ref 5000000), some (.ref 0), some (.ref 70), none, none, none, none, none] _
  refine r_iconst (v := (1 : Int32)) C3 dL_law__16 (rfl : 16 + 1 = 17) rfl ?_
  refine g_newL (N := 1) C3 dL_law__17 (rfl : 17 + 2 = 19) (by decide) rfl (by decide) (k_csl hRc hRs rfl rfl) (by rw [z4]; decide) ⟨Or.inr (by decide), Or.inl (by rw [z4]; decide), Or.inl (by rw [z4]; decide), True.intro⟩ True.intro ?_
  intro ad4 hsm4 C4
  rw [z4]
  refine r_astore_n C4 dL_law__19 (rfl : 19 + 1 = 20) (by decide) (Nat.le_of_ble_eq_true rfl) ?_
  show k_W X _ _ _ _ _ _ _ [some (.ref 5000000), some (.ref 0), some (.ref 70), some (.ref 102), none, none, none, none] _
  refine r_iconst (v := (0 : Int32)) C4 dL_law__20 (rfl : 20 + 1 = 21) rfl ?_
  refine r_istore C4 dL_law__21 (rfl : 21 + 2 = 23) (by decide) (Nat.le_of_ble_eq_true rfl) ?_
  show k_W X _ _ _ _ _ _ _ [some (.ref 5000000), some (.ref 0), some (.ref 70), some (.ref 102), some (.int 0), none, none, none] _
  exact kk _ C4 (k_sm_tr (k_sm_tr (k_sm_tr (k_sm_tr hsm0 hsm1 (by rw [z1, z]; decide)) hsm2 (by rw [z2, z]; decide)) hsm3 (by rw [z3, z]; decide)) hsm4 (by rw [z4, z]; decide))
