theorem mi_X8_init : k_MI yX8_init cX8_init 1 0 := ⟨(k_me (tm1 (List.mem_of_getElem? (i := 39) rfl)) rfl), (k_me (tm1 (List.mem_of_getElem? (i := 2) rfl)) rfl), (k_me (tm1 (List.mem_of_getElem? (i := 40) rfl)) rfl), rfl, by decide, by decide, by decide +kernel⟩
theorem lk_X10_9 : k_lk RX10 9 yX8_init := Or.inr ⟨_, List.mem_of_getElem? (i := 0) rfl⟩
theorem ff_X10_10 : k_FF RX10 10 10 0 := ⟨_, _, _, tyX10, _, rfl, in_X10, tyX10_ok, nmX10, by decide, rfl, rfl, tyX10_ok 0 (by decide), fun _ => ⟨rfl, rfl⟩, (k_me (tm2 (List.mem_of_getElem? (i := 206) rfl)) rfl)⟩
theorem mi_X5_init : k_MI yX5_init cX5_init 1 0 := ⟨(k_me (tm1 (List.mem_of_getElem? (i := 75) rfl)) rfl), (k_me (tm1 (List.mem_of_getElem? (i := 3) rfl)) rfl), (k_me (tm1 (List.mem_of_getElem? (i := 76) rfl)) rfl), rfl, by decide, by decide, by decide +kernel⟩
theorem lk_X10_18 : k_lk RX10 18 yX5_init := Or.inl (k_me (tm1 (List.mem_of_getElem? (i := 74) rfl)) rfl)
theorem ff_X10_19 : k_FF RX10 19 10 1 := ⟨_, _, _, tyX10, _, rfl, in_X10, tyX10_ok, nmX10, by decide, rfl, rfl, tyX10_ok 1 (by decide), fun _ => ⟨rfl, rfl⟩, (k_me (tm2 (List.mem_of_getElem? (i := 207) rfl)) rfl)⟩
theorem ff_X10_23 : k_FF RX10 23 10 2 := ⟨_, _, _, tyX10, _, rfl, in_X10, tyX10_ok, nmX10, by decide, rfl, rfl, tyX10_ok 2 (by decide), fun _ => ⟨rfl, rfl⟩, (k_me (tm2 (List.mem_of_getElem? (i := 208) rfl)) rfl)⟩
theorem mi_X1_init : k_MI yX1_init cX1_init 1 0 := ⟨(k_me (tm1 (List.mem_of_getElem? (i := 165) rfl)) rfl), (k_me (tm1 (List.mem_of_getElem? (i := 5) rfl)) rfl), (k_me (tm1 (List.mem_of_getElem? (i := 166) rfl)) rfl), rfl, by decide, by decide, by decide +kernel⟩
theorem lk_X10_28 : k_lk RX10 28 yX1_init := Or.inr ⟨_, List.mem_of_getElem? (i := 1) rfl⟩
theorem ff_X10_29 : k_FF RX10 29 10 3 := ⟨_, _, _, tyX10, _, rfl, in_X10, tyX10_ok, nmX10, by decide, rfl, rfl, tyX10_ok 3 (by decide), fun _ => ⟨rfl, rfl⟩, (k_me (tm2 (List.mem_of_getElem? (i := 209) rfl)) rfl)⟩
theorem ff_X10_33 : k_FF RX10 33 10 4 := ⟨_, _, _, tyX10, _, rfl, in_X10, tyX10_ok, nmX10, by decide, rfl, rfl, tyX10_ok 4 (by decide), fun _ => ⟨rfl, rfl⟩, (k_me (tm2 (List.mem_of_getElem? (i := 210) rfl)) rfl)⟩
theorem ff_X10_36 : k_FF RX10 36 10 5 := ⟨_, _, _, tyX10, _, rfl, in_X10, tyX10_ok, nmX10, by decide, rfl, rfl, tyX10_ok 5 (by decide), fun _ => ⟨rfl, rfl⟩, (k_me (tm2 (List.mem_of_getElem? (i := 211) rfl)) rfl)⟩
theorem lk_X10_47 : k_lk RX10 47 yX3_init := Or.inl (k_me (tm1 (List.mem_of_getElem? (i := 192) rfl)) rfl)
theorem ff_X10_50 : k_FF RX10 50 10 6 := ⟨_, _, _, tyX10, _, rfl, in_X10, tyX10_ok, nmX10, by decide, rfl, rfl, tyX10_ok 6 (by decide), fun _ => ⟨rfl, rfl⟩, (k_me (tm2 (List.mem_of_getElem? (i := 212) rfl)) rfl)⟩
theorem mi_X6_init : k_MI yX6_init cX6_init 1 0 := ⟨(k_me (tm2 (List.mem_of_getElem? (i := 38) rfl)) rfl), (k_me (tm1 (List.mem_of_getElem? (i := 7) rfl)) rfl), (k_me (tm2 (List.mem_of_getElem? (i := 39) rfl)) rfl), rfl, by decide, by decide, by decide +kernel⟩
theorem lk_X10_59 : k_lk RX10 59 yX6_init := Or.inr ⟨_, List.mem_of_getElem? (i := 2) rfl⟩
theorem ff_X10_60 : k_FF RX10 60 10 7 := ⟨_, _, _, tyX10, _, rfl, in_X10, tyX10_ok, nmX10, by decide, rfl, rfl, tyX10_ok 7 (by decide), fun _ => ⟨rfl, rfl⟩, (k_me (tm2 (List.mem_of_getElem? (i := 213) rfl)) rfl)⟩
theorem mi_X4_init : k_MI yX4_init cX4_init 1 0 := ⟨(k_me (tm2 (List.mem_of_getElem? (i := 69) rfl)) rfl), (k_me (tm1 (List.mem_of_getElem? (i := 8) rfl)) rfl), (k_me (tm2 (List.mem_of_getElem? (i := 70) rfl)) rfl), rfl, by decide, by decide, by decide +kernel⟩
theorem lk_X10_66 : k_lk RX10 66 yX4_init := Or.inr ⟨_, List.mem_of_getElem? (i := 3) rfl⟩
theorem ff_X10_67 : k_FF RX10 67 10 8 := ⟨_, _, _, tyX10, _, rfl, in_X10, tyX10_ok, nmX10, by decide, rfl, rfl, tyX10_ok 8 (by decide), fun _ => ⟨rfl, rfl⟩, (k_me (tm2 (List.mem_of_getElem? (i := 214) rfl)) rfl)⟩
theorem hfs_X8 : ∀ j, j < 7 → defaultValue (tyX8 j) = vp_V ([2, 0, 0, 0, 0, 0, 0].map k_dv) j := by
  intro j hj
  match j, hj with
  | 0, _ => rfl
  | 1, _ => rfl
  | 2, _ => rfl
  | 3, _ => rfl
  | 4, _ => rfl
  | 5, _ => rfl
  | 6, _ => rfl
  | j + 7, hj => omega
theorem hz_X8 : ∀ d ∈ [2, 0, 0, 0, 0, 0, 0], d < 3 := by decide

theorem hfs_X5 : ∀ j, j < 14 → defaultValue (tyX5 j) = vp_V ([0, 0, 2, 2, 2, 1, 1, 0, 0, 0, 0, 2, 2, 2].map k_dv) j := by
  intro j hj
  match j, hj with
  | 0, _ => rfl
  | 1, _ => rfl
  | 2, _ => rfl
  | 3, _ => rfl
  | 4, _ => rfl
  | 5, _ => rfl
  | 6, _ => rfl
  | 7, _ => rfl
  | 8, _ => rfl
  | 9, _ => rfl
  | 10, _ => rfl
  | 11, _ => rfl
  | 12, _ => rfl
  | 13, _ => rfl
  | j + 14, hj => omega
theorem hz_X5 : ∀ d ∈ [0, 0, 2, 2, 2, 1, 1, 0, 0, 0, 0, 2, 2, 2], d < 3 := by decide

theorem hfs_X1 : ∀ j, j < 3 → defaultValue (tyX1 j) = vp_V ([2, 2, 0].map k_dv) j := by
  intro j hj
  match j, hj with
  | 0, _ => rfl
  | 1, _ => rfl
  | 2, _ => rfl
  | j + 3, hj => omega
theorem hz_X1 : ∀ d ∈ [2, 2, 0], d < 3 := by decide

theorem hfs_X6 : ∀ j, j < 7 → defaultValue (tyX6 j) = vp_V ([2, 2, 2, 0, 0, 0, 0].map k_dv) j := by
  intro j hj
  match j, hj with
  | 0, _ => rfl
  | 1, _ => rfl
  | 2, _ => rfl
  | 3, _ => rfl
  | 4, _ => rfl
  | 5, _ => rfl
  | 6, _ => rfl
  | j + 7, hj => omega
theorem hz_X6 : ∀ d ∈ [2, 2, 2, 0, 0, 0, 0], d < 3 := by decide

theorem hfs_X4 : ∀ j, j < 6 → defaultValue (tyX4 j) = vp_V ([2, 0, 2, 2, 2, 0].map k_dv) j := by
  intro j hj
  match j, hj with
  | 0, _ => rfl
  | 1, _ => rfl
  | 2, _ => rfl
  | 3, _ => rfl
  | 4, _ => rfl
  | 5, _ => rfl
  | j + 6, hj => omega
theorem hz_X4 : ∀ d ∈ [2, 0, 2, 2, 2, 0], d < 3 := by decide

/-! THE CLASS'S CONSTRUCTOR -/
theorem k_gr_s (s : k_Sh) (h : k_H) : (k_gr s h).1 = h.1 ++ [s] := rfl
theorem k_st1_s (p : Nat) (s : k_Sh) (h : k_H) : (k_st1 p s h).1 = h.1.set p s := rfl
theorem k_nf_s (p ci : Nat) (sl : List Nat) (s : k_Sh) (h : k_H) : (k_nf p ci sl s h).1 = (h.1 ++ [s]).set p (0, ci, sl) := rfl
def L_X10_0 : List k_Sh := [(0, 10, [2, 2, 2, 2, 2, 2, 2, 2, 2, 2, 2, 2, 2, 2, 0])]
def q_X10_1 (h0 : k_H) : k_H := k_gr (0, 8, [2, 0, 0, 0, 0, 0, 0]) h0
def L_X10_1 : List k_Sh := [(0, 10, [2, 2, 2, 2, 2, 2, 2, 2, 2, 2, 2, 2, 2, 2, 0]), (0, 8, [2, 0, 0, 0, 0, 0, 0])]
set_option maxRecDepth 100000 in
theorem sq_X10_1 {h0 : k_H} (z : h0.1 = L_X10_0) : (q_X10_1 h0).1 = L_X10_1 := by
  simp only [q_X10_1, k_gr_s, k_st1_s, k_nf_s, k_sI_s, k_ap_sh, z]
  first | rfl | decide +kernel
def q_X10_2 (h0 : k_H) : k_H := i_X8 1 2 (q_X10_1 h0)
def L_X10_2 : List k_Sh := [(0, 10, [2, 2, 2, 2, 2, 2, 2, 2, 2, 2, 2, 2, 2, 2, 0]), (0, 8, [5, 0, 0, 0, 0, 0, 0]), (2, 600, [])]
set_option maxRecDepth 100000 in
theorem sq_X10_2 {h0 : k_H} (z : h0.1 = L_X10_0) : (q_X10_2 h0).1 = L_X10_2 := by
  simp only [q_X10_2, k_gr_s, k_st1_s, k_nf_s, k_sI_s, k_ap_sh, i_X8, i_X8_1, i_X8_2, sq_X10_1 z]
  first | rfl | decide +kernel
def q_X10_3 (h0 : k_H) : k_H := k_st1 0 (0, 10, [4, 2, 2, 2, 2, 2, 2, 2, 2, 2, 2, 2, 2, 2, 0]) (q_X10_2 h0)
def L_X10_3 : List k_Sh := [(0, 10, [4, 2, 2, 2, 2, 2, 2, 2, 2, 2, 2, 2, 2, 2, 0]), (0, 8, [5, 0, 0, 0, 0, 0, 0]), (2, 600, [])]
set_option maxRecDepth 100000 in
theorem sq_X10_3 {h0 : k_H} (z : h0.1 = L_X10_0) : (q_X10_3 h0).1 = L_X10_3 := by
  simp only [q_X10_3, k_gr_s, k_st1_s, k_nf_s, k_sI_s, k_ap_sh, sq_X10_2 z]
  first | rfl | decide +kernel
def q_X10_4 (h0 : k_H) : k_H := k_gr (0, 5, [0, 0, 2, 2, 2, 1, 1, 0, 0, 0, 0, 2, 2, 2]) (q_X10_3 h0)
def L_X10_4 : List k_Sh := [(0, 10, [4, 2, 2, 2, 2, 2, 2, 2, 2, 2, 2, 2, 2, 2, 0]), (0, 8, [5, 0, 0, 0, 0, 0, 0]), (2, 600, []), (0, 5, [0, 0, 2, 2, 2, 1, 1, 0, 0, 0, 0, 2, 2, 2])]
set_option maxRecDepth 100000 in
theorem sq_X10_4 {h0 : k_H} (z : h0.1 = L_X10_0) : (q_X10_4 h0).1 = L_X10_4 := by
  simp only [q_X10_4, k_gr_s, k_st1_s, k_nf_s, k_sI_s, k_ap_sh, sq_X10_3 z]
  first | rfl | decide +kernel
def q_X10_5 (h0 : k_H) (oa : Int32 × Int32 × Int32 × Int32 × Int32 × Int32 × Int64 × (Nat → Int32) × (Nat → Int32) × (Nat → Int32)) (ob : Int64) : k_H := j_X5 3 4 oa ob (q_X10_4 h0)
def L_X10_5 : List k_Sh := [(0, 10, [4, 2, 2, 2, 2, 2, 2, 2, 2, 2, 2, 2, 2, 2, 0]), (0, 8, [5, 0, 0, 0, 0, 0, 0]), (2, 600, []), (0, 5, [0, 0, 7, 8, 9, 1, 1, 0, 0, 0, 0, 10, 11, 12]), (1, 48, []), (1, 48, []), (1, 6, []), (1, 6, []), (1, 6, []), (1, 48, [])]
set_option maxRecDepth 100000 in
theorem sq_X10_5 {h0 : k_H} (oa : Int32 × Int32 × Int32 × Int32 × Int32 × Int32 × Int64 × (Nat → Int32) × (Nat → Int32) × (Nat → Int32)) (ob : Int64) (z : h0.1 = L_X10_0) : (q_X10_5 h0 oa ob).1 = L_X10_5 := by
  simp only [q_X10_5, k_gr_s, k_st1_s, k_nf_s, k_sI_s, k_ap_sh, j_X5, j_X5a, i_X5_1, i_X5_2, i_X5_3, i_X5_4, i_X5_5, i_X5_6, sq_X10_4 z]
  first | rfl | decide +kernel
def q_X10_6 (h0 : k_H) (oa : Int32 × Int32 × Int32 × Int32 × Int32 × Int32 × Int64 × (Nat → Int32) × (Nat → Int32) × (Nat → Int32)) (ob : Int64) : k_H := k_st1 0 (0, 10, [4, 6, 2, 2, 2, 2, 2, 2, 2, 2, 2, 2, 2, 2, 0]) (q_X10_5 h0 oa ob)
def L_X10_6 : List k_Sh := [(0, 10, [4, 6, 2, 2, 2, 2, 2, 2, 2, 2, 2, 2, 2, 2, 0]), (0, 8, [5, 0, 0, 0, 0, 0, 0]), (2, 600, []), (0, 5, [0, 0, 7, 8, 9, 1, 1, 0, 0, 0, 0, 10, 11, 12]), (1, 48, []), (1, 48, []), (1, 6, []), (1, 6, []), (1, 6, []), (1, 48, [])]
set_option maxRecDepth 100000 in
theorem sq_X10_6 {h0 : k_H} (oa : Int32 × Int32 × Int32 × Int32 × Int32 × Int32 × Int64 × (Nat → Int32) × (Nat → Int32) × (Nat → Int32)) (ob : Int64) (z : h0.1 = L_X10_0) : (q_X10_6 h0 oa ob).1 = L_X10_6 := by
  simp only [q_X10_6, k_gr_s, k_st1_s, k_nf_s, k_sI_s, k_ap_sh, sq_X10_5 oa ob z]
  first | rfl | decide +kernel
def q_X10_7 (h0 : k_H) (oa : Int32 × Int32 × Int32 × Int32 × Int32 × Int32 × Int64 × (Nat → Int32) × (Nat → Int32) × (Nat → Int32)) (ob : Int64) : k_H := k_gr (0, 5, [0, 0, 2, 2, 2, 1, 1, 0, 0, 0, 0, 2, 2, 2]) (q_X10_6 h0 oa ob)
def L_X10_7 : List k_Sh := [(0, 10, [4, 6, 2, 2, 2, 2, 2, 2, 2, 2, 2, 2, 2, 2, 0]), (0, 8, [5, 0, 0, 0, 0, 0, 0]), (2, 600, []), (0, 5, [0, 0, 7, 8, 9, 1, 1, 0, 0, 0, 0, 10, 11, 12]), (1, 48, []), (1, 48, []), (1, 6, []), (1, 6, []), (1, 6, []), (1, 48, []), (0, 5, [0, 0, 2, 2, 2, 1, 1, 0, 0, 0, 0, 2, 2, 2])]
set_option maxRecDepth 100000 in
theorem sq_X10_7 {h0 : k_H} (oa : Int32 × Int32 × Int32 × Int32 × Int32 × Int32 × Int64 × (Nat → Int32) × (Nat → Int32) × (Nat → Int32)) (ob : Int64) (z : h0.1 = L_X10_0) : (q_X10_7 h0 oa ob).1 = L_X10_7 := by
  simp only [q_X10_7, k_gr_s, k_st1_s, k_nf_s, k_sI_s, k_ap_sh, sq_X10_6 oa ob z]
  first | rfl | decide +kernel
def q_X10_8 (h0 : k_H) (oa : Int32 × Int32 × Int32 × Int32 × Int32 × Int32 × Int64 × (Nat → Int32) × (Nat → Int32) × (Nat → Int32)) (ob : Int64) (oc : Int32 × Int32 × Int32 × Int32 × Int32 × Int32 × Int64 × (Nat → Int32) × (Nat → Int32) × (Nat → Int32)) (od : Int64) : k_H := j_X5 10 11 oc od (q_X10_7 h0 oa ob)
def L_X10_8 : List k_Sh := [(0, 10, [4, 6, 2, 2, 2, 2, 2, 2, 2, 2, 2, 2, 2, 2, 0]), (0, 8, [5, 0, 0, 0, 0, 0, 0]), (2, 600, []), (0, 5, [0, 0, 7, 8, 9, 1, 1, 0, 0, 0, 0, 10, 11, 12]), (1, 48, []), (1, 48, []), (1, 6, []), (1, 6, []), (1, 6, []), (1, 48, []), (0, 5, [0, 0, 14, 15, 16, 1, 1, 0, 0, 0, 0, 17, 18, 19]), (1, 48, []), (1, 48, []), (1, 6, []), (1, 6, []), (1, 6, []), (1, 48, [])]
set_option maxRecDepth 100000 in
theorem sq_X10_8 {h0 : k_H} (oa : Int32 × Int32 × Int32 × Int32 × Int32 × Int32 × Int64 × (Nat → Int32) × (Nat → Int32) × (Nat → Int32)) (ob : Int64) (oc : Int32 × Int32 × Int32 × Int32 × Int32 × Int32 × Int64 × (Nat → Int32) × (Nat → Int32) × (Nat → Int32)) (od : Int64) (z : h0.1 = L_X10_0) : (q_X10_8 h0 oa ob oc od).1 = L_X10_8 := by
  simp only [q_X10_8, k_gr_s, k_st1_s, k_nf_s, k_sI_s, k_ap_sh, j_X5, j_X5a, i_X5_1, i_X5_2, i_X5_3, i_X5_4, i_X5_5, i_X5_6, sq_X10_7 oa ob z]
  first | rfl | decide +kernel
def q_X10_9 (h0 : k_H) (oa : Int32 × Int32 × Int32 × Int32 × Int32 × Int32 × Int64 × (Nat → Int32) × (Nat → Int32) × (Nat → Int32)) (ob : Int64) (oc : Int32 × Int32 × Int32 × Int32 × Int32 × Int32 × Int64 × (Nat → Int32) × (Nat → Int32) × (Nat → Int32)) (od : Int64) : k_H := k_st1 0 (0, 10, [4, 6, 13, 2, 2, 2, 2, 2, 2, 2, 2, 2, 2, 2, 0]) (q_X10_8 h0 oa ob oc od)
def L_X10_9 : List k_Sh := [(0, 10, [4, 6, 13, 2, 2, 2, 2, 2, 2, 2, 2, 2, 2, 2, 0]), (0, 8, [5, 0, 0, 0, 0, 0, 0]), (2, 600, []), (0, 5, [0, 0, 7, 8, 9, 1, 1, 0, 0, 0, 0, 10, 11, 12]), (1, 48, []), (1, 48, []), (1, 6, []), (1, 6, []), (1, 6, []), (1, 48, []), (0, 5, [0, 0, 14, 15, 16, 1, 1, 0, 0, 0, 0, 17, 18, 19]), (1, 48, []), (1, 48, []), (1, 6, []), (1, 6, []), (1, 6, []), (1, 48, [])]
set_option maxRecDepth 100000 in
theorem sq_X10_9 {h0 : k_H} (oa : Int32 × Int32 × Int32 × Int32 × Int32 × Int32 × Int64 × (Nat → Int32) × (Nat → Int32) × (Nat → Int32)) (ob : Int64) (oc : Int32 × Int32 × Int32 × Int32 × Int32 × Int32 × Int64 × (Nat → Int32) × (Nat → Int32) × (Nat → Int32)) (od : Int64) (z : h0.1 = L_X10_0) : (q_X10_9 h0 oa ob oc od).1 = L_X10_9 := by
  simp only [q_X10_9, k_gr_s, k_st1_s, k_nf_s, k_sI_s, k_ap_sh, sq_X10_8 oa ob oc od z]
  first | rfl | decide +kernel
def q_X10_10 (h0 : k_H) (oa : Int32 × Int32 × Int32 × Int32 × Int32 × Int32 × Int64 × (Nat → Int32) × (Nat → Int32) × (Nat → Int32)) (ob : Int64) (oc : Int32 × Int32 × Int32 × Int32 × Int32 × Int32 × Int64 × (Nat → Int32) × (Nat → Int32) × (Nat → Int32)) (od : Int64) : k_H := k_gr (0, 1, [2, 2, 0]) (q_X10_9 h0 oa ob oc od)
def L_X10_10 : List k_Sh := [(0, 10, [4, 6, 13, 2, 2, 2, 2, 2, 2, 2, 2, 2, 2, 2, 0]), (0, 8, [5, 0, 0, 0, 0, 0, 0]), (2, 600, []), (0, 5, [0, 0, 7, 8, 9, 1, 1, 0, 0, 0, 0, 10, 11, 12]), (1, 48, []), (1, 48, []), (1, 6, []), (1, 6, []), (1, 6, []), (1, 48, []), (0, 5, [0, 0, 14, 15, 16, 1, 1, 0, 0, 0, 0, 17, 18, 19]), (1, 48, []), (1, 48, []), (1, 6, []), (1, 6, []), (1, 6, []), (1, 48, []), (0, 1, [2, 2, 0])]
set_option maxRecDepth 100000 in
theorem sq_X10_10 {h0 : k_H} (oa : Int32 × Int32 × Int32 × Int32 × Int32 × Int32 × Int64 × (Nat → Int32) × (Nat → Int32) × (Nat → Int32)) (ob : Int64) (oc : Int32 × Int32 × Int32 × Int32 × Int32 × Int32 × Int64 × (Nat → Int32) × (Nat → Int32) × (Nat → Int32)) (od : Int64) (z : h0.1 = L_X10_0) : (q_X10_10 h0 oa ob oc od).1 = L_X10_10 := by
  simp only [q_X10_10, k_gr_s, k_st1_s, k_nf_s, k_sI_s, k_ap_sh, sq_X10_9 oa ob oc od z]
  first | rfl | decide +kernel
def q_X10_11 (h0 : k_H) (oa : Int32 × Int32 × Int32 × Int32 × Int32 × Int32 × Int64 × (Nat → Int32) × (Nat → Int32) × (Nat → Int32)) (ob : Int64) (oc : Int32 × Int32 × Int32 × Int32 × Int32 × Int32 × Int64 × (Nat → Int32) × (Nat → Int32) × (Nat → Int32)) (od : Int64) : k_H := i_X1 17 18 (q_X10_10 h0 oa ob oc od)
def L_X10_11 : List k_Sh := ((0, 10, [4, 6, 13, 2, 2, 2, 2, 2, 2, 2, 2, 2, 2, 2, 0]) :: (0, 8, [5, 0, 0, 0, 0, 0, 0]) :: (2, 600, []) :: (0, 5, [0, 0, 7, 8, 9, 1, 1, 0, 0, 0, 0, 10, 11, 12]) :: (1, 48, []) :: (1, 48, []) :: (1, 6, []) :: (1, 6, []) :: (1, 6, []) :: (1, 48, []) :: (0, 5, [0, 0, 14, 15, 16, 1, 1, 0, 0, 0, 0, 17, 18, 19]) :: (1, 48, []) :: (1, 48, []) :: (1, 6, []) :: (1, 6, []) :: (1, 6, []) :: (1, 48, []) :: (0, 1, [21, 22, 0]) :: (1, 150, []) :: (1, 24, []) :: [])
set_option maxRecDepth 100000 in
theorem sq_X10_11 {h0 : k_H} (oa : Int32 × Int32 × Int32 × Int32 × Int32 × Int32 × Int64 × (Nat → Int32) × (Nat → Int32) × (Nat → Int32)) (ob : Int64) (oc : Int32 × Int32 × Int32 × Int32 × Int32 × Int32 × Int64 × (Nat → Int32) × (Nat → Int32) × (Nat → Int32)) (od : Int64) (z : h0.1 = L_X10_0) : (q_X10_11 h0 oa ob oc od).1 = L_X10_11 := by
  simp only [q_X10_11, k_gr_s, k_st1_s, k_nf_s, k_sI_s, k_ap_sh, i_X1, i_X1_1, i_X1_2, sq_X10_10 oa ob oc od z]
  first | rfl | decide +kernel
def q_X10_12 (h0 : k_H) (oa : Int32 × Int32 × Int32 × Int32 × Int32 × Int32 × Int64 × (Nat → Int32) × (Nat → Int32) × (Nat → Int32)) (ob : Int64) (oc : Int32 × Int32 × Int32 × Int32 × Int32 × Int32 × Int64 × (Nat → Int32) × (Nat → Int32) × (Nat → Int32)) (od : Int64) : k_H := k_st1 0 (0, 10, [4, 6, 13, 20, 2, 2, 2, 2, 2, 2, 2, 2, 2, 2, 0]) (q_X10_11 h0 oa ob oc od)
def L_X10_12 : List k_Sh := ((0, 10, [4, 6, 13, 20, 2, 2, 2, 2, 2, 2, 2, 2, 2, 2, 0]) :: (0, 8, [5, 0, 0, 0, 0, 0, 0]) :: (2, 600, []) :: (0, 5, [0, 0, 7, 8, 9, 1, 1, 0, 0, 0, 0, 10, 11, 12]) :: (1, 48, []) :: (1, 48, []) :: (1, 6, []) :: (1, 6, []) :: (1, 6, []) :: (1, 48, []) :: (0, 5, [0, 0, 14, 15, 16, 1, 1, 0, 0, 0, 0, 17, 18, 19]) :: (1, 48, []) :: (1, 48, []) :: (1, 6, []) :: (1, 6, []) :: (1, 6, []) :: (1, 48, []) :: (0, 1, [21, 22, 0]) :: (1, 150, []) :: (1, 24, []) :: [])
set_option maxRecDepth 100000 in
theorem sq_X10_12 {h0 : k_H} (oa : Int32 × Int32 × Int32 × Int32 × Int32 × Int32 × Int64 × (Nat → Int32) × (Nat → Int32) × (Nat → Int32)) (ob : Int64) (oc : Int32 × Int32 × Int32 × Int32 × Int32 × Int32 × Int64 × (Nat → Int32) × (Nat → Int32) × (Nat → Int32)) (od : Int64) (z : h0.1 = L_X10_0) : (q_X10_12 h0 oa ob oc od).1 = L_X10_12 := by
  simp only [q_X10_12, k_gr_s, k_st1_s, k_nf_s, k_sI_s, k_ap_sh, sq_X10_11 oa ob oc od z]
  first | rfl | decide +kernel
def q_X10_13 (h0 : k_H) (oa : Int32 × Int32 × Int32 × Int32 × Int32 × Int32 × Int64 × (Nat → Int32) × (Nat → Int32) × (Nat → Int32)) (ob : Int64) (oc : Int32 × Int32 × Int32 × Int32 × Int32 × Int32 × Int64 × (Nat → Int32) × (Nat → Int32) × (Nat → Int32)) (od : Int64) : k_H := k_gr (0, 1, [2, 2, 0]) (q_X10_12 h0 oa ob oc od)
def L_X10_13 : List k_Sh := ((0, 10, [4, 6, 13, 20, 2, 2, 2, 2, 2, 2, 2, 2, 2, 2, 0]) :: (0, 8, [5, 0, 0, 0, 0, 0, 0]) :: (2, 600, []) :: (0, 5, [0, 0, 7, 8, 9, 1, 1, 0, 0, 0, 0, 10, 11, 12]) :: (1, 48, []) :: (1, 48, []) :: (1, 6, []) :: (1, 6, []) :: (1, 6, []) :: (1, 48, []) :: (0, 5, [0, 0, 14, 15, 16, 1, 1, 0, 0, 0, 0, 17, 18, 19]) :: (1, 48, []) :: (1, 48, []) :: (1, 6, []) :: (1, 6, []) :: (1, 6, []) :: (1, 48, []) :: (0, 1, [21, 22, 0]) :: (1, 150, []) :: (1, 24, []) :: (0, 1, [2, 2, 0]) :: [])
set_option maxRecDepth 100000 in
theorem sq_X10_13 {h0 : k_H} (oa : Int32 × Int32 × Int32 × Int32 × Int32 × Int32 × Int64 × (Nat → Int32) × (Nat → Int32) × (Nat → Int32)) (ob : Int64) (oc : Int32 × Int32 × Int32 × Int32 × Int32 × Int32 × Int64 × (Nat → Int32) × (Nat → Int32) × (Nat → Int32)) (od : Int64) (z : h0.1 = L_X10_0) : (q_X10_13 h0 oa ob oc od).1 = L_X10_13 := by
  simp only [q_X10_13, k_gr_s, k_st1_s, k_nf_s, k_sI_s, k_ap_sh, sq_X10_12 oa ob oc od z]
  first | rfl | decide +kernel
def q_X10_14 (h0 : k_H) (oa : Int32 × Int32 × Int32 × Int32 × Int32 × Int32 × Int64 × (Nat → Int32) × (Nat → Int32) × (Nat → Int32)) (ob : Int64) (oc : Int32 × Int32 × Int32 × Int32 × Int32 × Int32 × Int64 × (Nat → Int32) × (Nat → Int32) × (Nat → Int32)) (od : Int64) : k_H := i_X1 20 21 (q_X10_13 h0 oa ob oc od)
def L_X10_14 : List k_Sh := ((0, 10, [4, 6, 13, 20, 2, 2, 2, 2, 2, 2, 2, 2, 2, 2, 0]) :: (0, 8, [5, 0, 0, 0, 0, 0, 0]) :: (2, 600, []) :: (0, 5, [0, 0, 7, 8, 9, 1, 1, 0, 0, 0, 0, 10, 11, 12]) :: (1, 48, []) :: (1, 48, []) :: (1, 6, []) :: (1, 6, []) :: (1, 6, []) :: (1, 48, []) :: (0, 5, [0, 0, 14, 15, 16, 1, 1, 0, 0, 0, 0, 17, 18, 19]) :: (1, 48, []) :: (1, 48, []) :: (1, 6, []) :: (1, 6, []) :: (1, 6, []) :: (1, 48, []) :: (0, 1, [21, 22, 0]) :: (1, 150, []) :: (1, 24, []) :: (0, 1, [24, 25, 0]) :: (1, 150, []) :: (1, 24, []) :: [])
set_option maxRecDepth 100000 in
theorem sq_X10_14 {h0 : k_H} (oa : Int32 × Int32 × Int32 × Int32 × Int32 × Int32 × Int64 × (Nat → Int32) × (Nat → Int32) × (Nat → Int32)) (ob : Int64) (oc : Int32 × Int32 × Int32 × Int32 × Int32 × Int32 × Int64 × (Nat → Int32) × (Nat → Int32) × (Nat → Int32)) (od : Int64) (z : h0.1 = L_X10_0) : (q_X10_14 h0 oa ob oc od).1 = L_X10_14 := by
  simp only [q_X10_14, k_gr_s, k_st1_s, k_nf_s, k_sI_s, k_ap_sh, i_X1, i_X1_1, i_X1_2, sq_X10_13 oa ob oc od z]
  first | rfl | decide +kernel
def q_X10_15 (h0 : k_H) (oa : Int32 × Int32 × Int32 × Int32 × Int32 × Int32 × Int64 × (Nat → Int32) × (Nat → Int32) × (Nat → Int32)) (ob : Int64) (oc : Int32 × Int32 × Int32 × Int32 × Int32 × Int32 × Int64 × (Nat → Int32) × (Nat → Int32) × (Nat → Int32)) (od : Int64) : k_H := k_st1 0 (0, 10, [4, 6, 13, 20, 23, 2, 2, 2, 2, 2, 2, 2, 2, 2, 0]) (q_X10_14 h0 oa ob oc od)
def L_X10_15 : List k_Sh := ((0, 10, [4, 6, 13, 20, 23, 2, 2, 2, 2, 2, 2, 2, 2, 2, 0]) :: (0, 8, [5, 0, 0, 0, 0, 0, 0]) :: (2, 600, []) :: (0, 5, [0, 0, 7, 8, 9, 1, 1, 0, 0, 0, 0, 10, 11, 12]) :: (1, 48, []) :: (1, 48, []) :: (1, 6, []) :: (1, 6, []) :: (1, 6, []) :: (1, 48, []) :: (0, 5, [0, 0, 14, 15, 16, 1, 1, 0, 0, 0, 0, 17, 18, 19]) :: (1, 48, []) :: (1, 48, []) :: (1, 6, []) :: (1, 6, []) :: (1, 6, []) :: (1, 48, []) :: (0, 1, [21, 22, 0]) :: (1, 150, []) :: (1, 24, []) :: (0, 1, [24, 25, 0]) :: (1, 150, []) :: (1, 24, []) :: [])
set_option maxRecDepth 100000 in
theorem sq_X10_15 {h0 : k_H} (oa : Int32 × Int32 × Int32 × Int32 × Int32 × Int32 × Int64 × (Nat → Int32) × (Nat → Int32) × (Nat → Int32)) (ob : Int64) (oc : Int32 × Int32 × Int32 × Int32 × Int32 × Int32 × Int64 × (Nat → Int32) × (Nat → Int32) × (Nat → Int32)) (od : Int64) (z : h0.1 = L_X10_0) : (q_X10_15 h0 oa ob oc od).1 = L_X10_15 := by
  simp only [q_X10_15, k_gr_s, k_st1_s, k_nf_s, k_sI_s, k_ap_sh, sq_X10_14 oa ob oc od z]
  first | rfl | decide +kernel
def q_X10_16 (h0 : k_H) (oa : Int32 × Int32 × Int32 × Int32 × Int32 × Int32 × Int64 × (Nat → Int32) × (Nat → Int32) × (Nat → Int32)) (ob : Int64) (oc : Int32 × Int32 × Int32 × Int32 × Int32 × Int32 × Int64 × (Nat → Int32) × (Nat → Int32) × (Nat → Int32)) (od : Int64) : k_H := k_gr (0, 1, [2, 2, 0]) (q_X10_15 h0 oa ob oc od)
def L_X10_16 : List k_Sh := ((0, 10, [4, 6, 13, 20, 23, 2, 2, 2, 2, 2, 2, 2, 2, 2, 0]) :: (0, 8, [5, 0, 0, 0, 0, 0, 0]) :: (2, 600, []) :: (0, 5, [0, 0, 7, 8, 9, 1, 1, 0, 0, 0, 0, 10, 11, 12]) :: (1, 48, []) :: (1, 48, []) :: (1, 6, []) :: (1, 6, []) :: (1, 6, []) :: (1, 48, []) :: (0, 5, [0, 0, 14, 15, 16, 1, 1, 0, 0, 0, 0, 17, 18, 19]) :: (1, 48, []) :: (1, 48, []) :: (1, 6, []) :: (1, 6, []) :: (1, 6, []) :: (1, 48, []) :: (0, 1, [21, 22, 0]) :: (1, 150, []) :: (1, 24, []) :: (0, 1, [24, 25, 0]) :: (1, 150, []) :: (1, 24, []) :: (0, 1, [2, 2, 0]) :: [])
set_option maxRecDepth 100000 in
theorem sq_X10_16 {h0 : k_H} (oa : Int32 × Int32 × Int32 × Int32 × Int32 × Int32 × Int64 × (Nat → Int32) × (Nat → Int32) × (Nat → Int32)) (ob : Int64) (oc : Int32 × Int32 × Int32 × Int32 × Int32 × Int32 × Int64 × (Nat → Int32) × (Nat → Int32) × (Nat → Int32)) (od : Int64) (z : h0.1 = L_X10_0) : (q_X10_16 h0 oa ob oc od).1 = L_X10_16 := by
  simp only [q_X10_16, k_gr_s, k_st1_s, k_nf_s, k_sI_s, k_ap_sh, sq_X10_15 oa ob oc od z]
  first | rfl | decide +kernel
def q_X10_17 (h0 : k_H) (oa : Int32 × Int32 × Int32 × Int32 × Int32 × Int32 × Int64 × (Nat → Int32) × (Nat → Int32) × (Nat → Int32)) (ob : Int64) (oc : Int32 × Int32 × Int32 × Int32 × Int32 × Int32 × Int64 × (Nat → Int32) × (Nat → Int32) × (Nat → Int32)) (od : Int64) : k_H := i_X1 23 24 (q_X10_16 h0 oa ob oc od)
def L_X10_17 : List k_Sh := ((0, 10, [4, 6, 13, 20, 23, 2, 2, 2, 2, 2, 2, 2, 2, 2, 0]) :: (0, 8, [5, 0, 0, 0, 0, 0, 0]) :: (2, 600, []) :: (0, 5, [0, 0, 7, 8, 9, 1, 1, 0, 0, 0, 0, 10, 11, 12]) :: (1, 48, []) :: (1, 48, []) :: (1, 6, []) :: (1, 6, []) :: (1, 6, []) :: (1, 48, []) :: (0, 5, [0, 0, 14, 15, 16, 1, 1, 0, 0, 0, 0, 17, 18, 19]) :: (1, 48, []) :: (1, 48, []) :: (1, 6, []) :: (1, 6, []) :: (1, 6, []) :: (1, 48, []) :: (0, 1, [21, 22, 0]) :: (1, 150, []) :: (1, 24, []) :: (0, 1, [24, 25, 0]) :: (1, 150, []) :: (1, 24, []) :: (0, 1, [27, 28, 0]) :: (1, 150, []) :: (1, 24, []) :: [])
set_option maxRecDepth 100000 in
theorem sq_X10_17 {h0 : k_H} (oa : Int32 × Int32 × Int32 × Int32 × Int32 × Int32 × Int64 × (Nat → Int32) × (Nat → Int32) × (Nat → Int32)) (ob : Int64) (oc : Int32 × Int32 × Int32 × Int32 × Int32 × Int32 × Int64 × (Nat → Int32) × (Nat → Int32) × (Nat → Int32)) (od : Int64) (z : h0.1 = L_X10_0) : (q_X10_17 h0 oa ob oc od).1 = L_X10_17 := by
  simp only [q_X10_17, k_gr_s, k_st1_s, k_nf_s, k_sI_s, k_ap_sh, i_X1, i_X1_1, i_X1_2, sq_X10_16 oa ob oc od z]
  first | rfl | decide +kernel
def q_X10_18 (h0 : k_H) (oa : Int32 × Int32 × Int32 × Int32 × Int32 × Int32 × Int64 × (Nat → Int32) × (Nat → Int32) × (Nat → Int32)) (ob : Int64) (oc : Int32 × Int32 × Int32 × Int32 × Int32 × Int32 × Int64 × (Nat → Int32) × (Nat → Int32) × (Nat → Int32)) (od : Int64) : k_H := k_st1 0 (0, 10, [4, 6, 13, 20, 23, 26, 2, 2, 2, 2, 2, 2, 2, 2, 0]) (q_X10_17 h0 oa ob oc od)
def L_X10_18 : List k_Sh := ((0, 10, [4, 6, 13, 20, 23, 26, 2, 2, 2, 2, 2, 2, 2, 2, 0]) :: (0, 8, [5, 0, 0, 0, 0, 0, 0]) :: (2, 600, []) :: (0, 5, [0, 0, 7, 8, 9, 1, 1, 0, 0, 0, 0, 10, 11, 12]) :: (1, 48, []) :: (1, 48, []) :: (1, 6, []) :: (1, 6, []) :: (1, 6, []) :: (1, 48, []) :: (0, 5, [0, 0, 14, 15, 16, 1, 1, 0, 0, 0, 0, 17, 18, 19]) :: (1, 48, []) :: (1, 48, []) :: (1, 6, []) :: (1, 6, []) :: (1, 6, []) :: (1, 48, []) :: (0, 1, [21, 22, 0]) :: (1, 150, []) :: (1, 24, []) :: (0, 1, [24, 25, 0]) :: (1, 150, []) :: (1, 24, []) :: (0, 1, [27, 28, 0]) :: (1, 150, []) :: (1, 24, []) :: [])
set_option maxRecDepth 100000 in
theorem sq_X10_18 {h0 : k_H} (oa : Int32 × Int32 × Int32 × Int32 × Int32 × Int32 × Int64 × (Nat → Int32) × (Nat → Int32) × (Nat → Int32)) (ob : Int64) (oc : Int32 × Int32 × Int32 × Int32 × Int32 × Int32 × Int64 × (Nat → Int32) × (Nat → Int32) × (Nat → Int32)) (od : Int64) (z : h0.1 = L_X10_0) : (q_X10_18 h0 oa ob oc od).1 = L_X10_18 := by
  simp only [q_X10_18, k_gr_s, k_st1_s, k_nf_s, k_sI_s, k_ap_sh, sq_X10_17 oa ob oc od z]
  first | rfl | decide +kernel
def q_X10_19 (h0 : k_H) (oa : Int32 × Int32 × Int32 × Int32 × Int32 × Int32 × Int64 × (Nat → Int32) × (Nat → Int32) × (Nat → Int32)) (ob : Int64) (oc : Int32 × Int32 × Int32 × Int32 × Int32 × Int32 × Int64 × (Nat → Int32) × (Nat → Int32) × (Nat → Int32)) (od : Int64) (oe : Int32 × (Nat → Int32)) : k_H := k_ap [(17, .inl (2, oe.1)), (18, .inr (.inr (.inl oe.2)))] (q_X10_18 h0 oa ob oc od)
def L_X10_19 : List k_Sh := ((0, 10, [4, 6, 13, 20, 23, 26, 2, 2, 2, 2, 2, 2, 2, 2, 0]) :: (0, 8, [5, 0, 0, 0, 0, 0, 0]) :: (2, 600, []) :: (0, 5, [0, 0, 7, 8, 9, 1, 1, 0, 0, 0, 0, 10, 11, 12]) :: (1, 48, []) :: (1, 48, []) :: (1, 6, []) :: (1, 6, []) :: (1, 6, []) :: (1, 48, []) :: (0, 5, [0, 0, 14, 15, 16, 1, 1, 0, 0, 0, 0, 17, 18, 19]) :: (1, 48, []) :: (1, 48, []) :: (1, 6, []) :: (1, 6, []) :: (1, 6, []) :: (1, 48, []) :: (0, 1, [21, 22, 0]) :: (1, 150, []) :: (1, 24, []) :: (0, 1, [24, 25, 0]) :: (1, 150, []) :: (1, 24, []) :: (0, 1, [27, 28, 0]) :: (1, 150, []) :: (1, 24, []) :: [])
set_option maxRecDepth 100000 in
theorem sq_X10_19 {h0 : k_H} (oa : Int32 × Int32 × Int32 × Int32 × Int32 × Int32 × Int64 × (Nat → Int32) × (Nat → Int32) × (Nat → Int32)) (ob : Int64) (oc : Int32 × Int32 × Int32 × Int32 × Int32 × Int32 × Int64 × (Nat → Int32) × (Nat → Int32) × (Nat → Int32)) (od : Int64) (oe : Int32 × (Nat → Int32)) (z : h0.1 = L_X10_0) : (q_X10_19 h0 oa ob oc od oe).1 = L_X10_19 := by
  simp only [q_X10_19, k_gr_s, k_st1_s, k_nf_s, k_sI_s, k_ap_sh, sq_X10_18 oa ob oc od z]
  first | rfl | decide +kernel
def q_X10_20 (h0 : k_H) (oa : Int32 × Int32 × Int32 × Int32 × Int32 × Int32 × Int64 × (Nat → Int32) × (Nat → Int32) × (Nat → Int32)) (ob : Int64) (oc : Int32 × Int32 × Int32 × Int32 × Int32 × Int32 × Int64 × (Nat → Int32) × (Nat → Int32) × (Nat → Int32)) (od : Int64) (oe : Int32 × (Nat → Int32)) (og : Int32 × (Nat → Int32)) : k_H := k_ap [(20, .inl (2, og.1)), (21, .inr (.inr (.inl og.2)))] (q_X10_19 h0 oa ob oc od oe)
def L_X10_20 : List k_Sh := ((0, 10, [4, 6, 13, 20, 23, 26, 2, 2, 2, 2, 2, 2, 2, 2, 0]) :: (0, 8, [5, 0, 0, 0, 0, 0, 0]) :: (2, 600, []) :: (0, 5, [0, 0, 7, 8, 9, 1, 1, 0, 0, 0, 0, 10, 11, 12]) :: (1, 48, []) :: (1, 48, []) :: (1, 6, []) :: (1, 6, []) :: (1, 6, []) :: (1, 48, []) :: (0, 5, [0, 0, 14, 15, 16, 1, 1, 0, 0, 0, 0, 17, 18, 19]) :: (1, 48, []) :: (1, 48, []) :: (1, 6, []) :: (1, 6, []) :: (1, 6, []) :: (1, 48, []) :: (0, 1, [21, 22, 0]) :: (1, 150, []) :: (1, 24, []) :: (0, 1, [24, 25, 0]) :: (1, 150, []) :: (1, 24, []) :: (0, 1, [27, 28, 0]) :: (1, 150, []) :: (1, 24, []) :: [])
set_option maxRecDepth 100000 in
theorem sq_X10_20 {h0 : k_H} (oa : Int32 × Int32 × Int32 × Int32 × Int32 × Int32 × Int64 × (Nat → Int32) × (Nat → Int32) × (Nat → Int32)) (ob : Int64) (oc : Int32 × Int32 × Int32 × Int32 × Int32 × Int32 × Int64 × (Nat → Int32) × (Nat → Int32) × (Nat → Int32)) (od : Int64) (oe : Int32 × (Nat → Int32)) (og : Int32 × (Nat → Int32)) (z : h0.1 = L_X10_0) : (q_X10_20 h0 oa ob oc od oe og).1 = L_X10_20 := by
  simp only [q_X10_20, k_gr_s, k_st1_s, k_nf_s, k_sI_s, k_ap_sh, sq_X10_19 oa ob oc od oe z]
  first | rfl | decide +kernel
def q_X10_21 (h0 : k_H) (oa : Int32 × Int32 × Int32 × Int32 × Int32 × Int32 × Int64 × (Nat → Int32) × (Nat → Int32) × (Nat → Int32)) (ob : Int64) (oc : Int32 × Int32 × Int32 × Int32 × Int32 × Int32 × Int64 × (Nat → Int32) × (Nat → Int32) × (Nat → Int32)) (od : Int64) (oe : Int32 × (Nat → Int32)) (og : Int32 × (Nat → Int32)) : k_H := k_gr (0, 3, [2, 2, 2, 1, 1, 1, 2, 2, 2, 2, 0, 0, 0, 0, 0, 0, 0, 0]) (q_X10_20 h0 oa ob oc od oe og)
def L_X10_21 : List k_Sh := ((0, 10, [4, 6, 13, 20, 23, 26, 2, 2, 2, 2, 2, 2, 2, 2, 0]) :: (0, 8, [5, 0, 0, 0, 0, 0, 0]) :: (2, 600, []) :: (0, 5, [0, 0, 7, 8, 9, 1, 1, 0, 0, 0, 0, 10, 11, 12]) :: (1, 48, []) :: (1, 48, []) :: (1, 6, []) :: (1, 6, []) :: (1, 6, []) :: (1, 48, []) :: (0, 5, [0, 0, 14, 15, 16, 1, 1, 0, 0, 0, 0, 17, 18, 19]) :: (1, 48, []) :: (1, 48, []) :: (1, 6, []) :: (1, 6, []) :: (1, 6, []) :: (1, 48, []) :: (0, 1, [21, 22, 0]) :: (1, 150, []) :: (1, 24, []) :: (0, 1, [24, 25, 0]) :: (1, 150, []) :: (1, 24, []) :: (0, 1, [27, 28, 0]) :: (1, 150, []) :: (1, 24, []) :: (0, 3, [2, 2, 2, 1, 1, 1, 2, 2, 2, 2, 0, 0, 0, 0, 0, 0, 0, 0]) :: [])
set_option maxRecDepth 100000 in
theorem sq_X10_21 {h0 : k_H} (oa : Int32 × Int32 × Int32 × Int32 × Int32 × Int32 × Int64 × (Nat → Int32) × (Nat → Int32) × (Nat → Int32)) (ob : Int64) (oc : Int32 × Int32 × Int32 × Int32 × Int32 × Int32 × Int64 × (Nat → Int32) × (Nat → Int32) × (Nat → Int32)) (od : Int64) (oe : Int32 × (Nat → Int32)) (og : Int32 × (Nat → Int32)) (z : h0.1 = L_X10_0) : (q_X10_21 h0 oa ob oc od oe og).1 = L_X10_21 := by
  simp only [q_X10_21, k_gr_s, k_st1_s, k_nf_s, k_sI_s, k_ap_sh, sq_X10_20 oa ob oc od oe og z]
  first | rfl | decide +kernel
def q_X10_22 (h0 : k_H) (oa : Int32 × Int32 × Int32 × Int32 × Int32 × Int32 × Int64 × (Nat → Int32) × (Nat → Int32) × (Nat → Int32)) (ob : Int64) (oc : Int32 × Int32 × Int32 × Int32 × Int32 × Int32 × Int64 × (Nat → Int32) × (Nat → Int32) × (Nat → Int32)) (od : Int64) (oe : Int32 × (Nat → Int32)) (og : Int32 × (Nat → Int32)) : k_H := i_X3 26 3 17 20 27 (q_X10_21 h0 oa ob oc od oe og)
def L_X10_22 : List k_Sh := ((0, 10, [4, 6, 13, 20, 23, 26, 2, 2, 2, 2, 2, 2, 2, 2, 0]) :: (0, 8, [5, 0, 0, 0, 0, 0, 0]) :: (2, 600, []) :: (0, 5, [0, 0, 7, 8, 9, 1, 1, 0, 0, 0, 0, 10, 11, 12]) :: (1, 48, []) :: (1, 48, []) :: (1, 6, []) :: (1, 6, []) :: (1, 6, []) :: (1, 48, []) :: (0, 5, [0, 0, 14, 15, 16, 1, 1, 0, 0, 0, 0, 17, 18, 19]) :: (1, 48, []) :: (1, 48, []) :: (1, 6, []) :: (1, 6, []) :: (1, 6, []) :: (1, 48, []) :: (0, 1, [21, 22, 0]) :: (1, 150, []) :: (1, 24, []) :: (0, 1, [24, 25, 0]) :: (1, 150, []) :: (1, 24, []) :: (0, 1, [27, 28, 0]) :: (1, 150, []) :: (1, 24, []) :: (0, 3, [6, 20, 23, 1, 1, 1, 30, 31, 32, 33, 0, 0, 0, 0, 0, 0, 0, 0]) :: (1, 6, []) :: (1, 6, []) :: (1, 6, []) :: (1, 6, []) :: [])
set_option maxRecDepth 100000 in
theorem sq_X10_22 {h0 : k_H} (oa : Int32 × Int32 × Int32 × Int32 × Int32 × Int32 × Int64 × (Nat → Int32) × (Nat → Int32) × (Nat → Int32)) (ob : Int64) (oc : Int32 × Int32 × Int32 × Int32 × Int32 × Int32 × Int64 × (Nat → Int32) × (Nat → Int32) × (Nat → Int32)) (od : Int64) (oe : Int32 × (Nat → Int32)) (og : Int32 × (Nat → Int32)) (z : h0.1 = L_X10_0) : (q_X10_22 h0 oa ob oc od oe og).1 = L_X10_22 := by
  simp only [q_X10_22, k_gr_s, k_st1_s, k_nf_s, k_sI_s, k_ap_sh, i_X3, i_X3_1, i_X3_2, i_X3_3, i_X3_4, i_X3_5, i_X3_6, i_X3_7, sq_X10_21 oa ob oc od oe og z]
  first | rfl | decide +kernel
def q_X10_23 (h0 : k_H) (oa : Int32 × Int32 × Int32 × Int32 × Int32 × Int32 × Int64 × (Nat → Int32) × (Nat → Int32) × (Nat → Int32)) (ob : Int64) (oc : Int32 × Int32 × Int32 × Int32 × Int32 × Int32 × Int64 × (Nat → Int32) × (Nat → Int32) × (Nat → Int32)) (od : Int64) (oe : Int32 × (Nat → Int32)) (og : Int32 × (Nat → Int32)) : k_H := k_st1 0 (0, 10, [4, 6, 13, 20, 23, 26, 29, 2, 2, 2, 2, 2, 2, 2, 0]) (q_X10_22 h0 oa ob oc od oe og)
def L_X10_23 : List k_Sh := ((0, 10, [4, 6, 13, 20, 23, 26, 29, 2, 2, 2, 2, 2, 2, 2, 0]) :: (0, 8, [5, 0, 0, 0, 0, 0, 0]) :: (2, 600, []) :: (0, 5, [0, 0, 7, 8, 9, 1, 1, 0, 0, 0, 0, 10, 11, 12]) :: (1, 48, []) :: (1, 48, []) :: (1, 6, []) :: (1, 6, []) :: (1, 6, []) :: (1, 48, []) :: (0, 5, [0, 0, 14, 15, 16, 1, 1, 0, 0, 0, 0, 17, 18, 19]) :: (1, 48, []) :: (1, 48, []) :: (1, 6, []) :: (1, 6, []) :: (1, 6, []) :: (1, 48, []) :: (0, 1, [21, 22, 0]) :: (1, 150, []) :: (1, 24, []) :: (0, 1, [24, 25, 0]) :: (1, 150, []) :: (1, 24, []) :: (0, 1, [27, 28, 0]) :: (1, 150, []) :: (1, 24, []) :: (0, 3, [6, 20, 23, 1, 1, 1, 30, 31, 32, 33, 0, 0, 0, 0, 0, 0, 0, 0]) :: (1, 6, []) :: (1, 6, []) :: (1, 6, []) :: (1, 6, []) :: [])
set_option maxRecDepth 100000 in
theorem sq_X10_23 {h0 : k_H} (oa : Int32 × Int32 × Int32 × Int32 × Int32 × Int32 × Int64 × (Nat → Int32) × (Nat → Int32) × (Nat → Int32)) (ob : Int64) (oc : Int32 × Int32 × Int32 × Int32 × Int32 × Int32 × Int64 × (Nat → Int32) × (Nat → Int32) × (Nat → Int32)) (od : Int64) (oe : Int32 × (Nat → Int32)) (og : Int32 × (Nat → Int32)) (z : h0.1 = L_X10_0) : (q_X10_23 h0 oa ob oc od oe og).1 = L_X10_23 := by
  simp only [q_X10_23, k_gr_s, k_st1_s, k_nf_s, k_sI_s, k_ap_sh, sq_X10_22 oa ob oc od oe og z]
  first | rfl | decide +kernel
def q_X10_24 (h0 : k_H) (oa : Int32 × Int32 × Int32 × Int32 × Int32 × Int32 × Int64 × (Nat → Int32) × (Nat → Int32) × (Nat → Int32)) (ob : Int64) (oc : Int32 × Int32 × Int32 × Int32 × Int32 × Int32 × Int64 × (Nat → Int32) × (Nat → Int32) × (Nat → Int32)) (od : Int64) (oe : Int32 × (Nat → Int32)) (og : Int32 × (Nat → Int32)) (oh : Int32 × Int32 × Int32 × Int32 × Int32 × Int32 × Int32 × Int32 × Int64 × Int64 × Int64 × (Nat → Int32) × (Nat → Int32) × (Nat → Int32) × (Nat → Int32)) : k_H := k_ap [(26, .inl (10, oh.1)), (26, .inl (11, oh.2.1)), (26, .inl (12, oh.2.2.1)), (26, .inl (13, oh.2.2.2.1)), (26, .inl (14, oh.2.2.2.2.1)), (26, .inl (15, oh.2.2.2.2.2.1)), (26, .inl (16, oh.2.2.2.2.2.2.1)), (26, .inl (17, oh.2.2.2.2.2.2.2.1)), (26, .inr (.inl (3, oh.2.2.2.2.2.2.2.2.1))), (26, .inr (.inl (4, oh.2.2.2.2.2.2.2.2.2.1))), (26, .inr (.inl (5, oh.2.2.2.2.2.2.2.2.2.2.1))), (27, .inr (.inr (.inl oh.2.2.2.2.2.2.2.2.2.2.2.1))), (28, .inr (.inr (.inl oh.2.2.2.2.2.2.2.2.2.2.2.2.1))), (29, .inr (.inr (.inl oh.2.2.2.2.2.2.2.2.2.2.2.2.2.1))), (30, .inr (.inr (.inl oh.2.2.2.2.2.2.2.2.2.2.2.2.2.2)))] (q_X10_23 h0 oa ob oc od oe og)
def L_X10_24 : List k_Sh := ((0, 10, [4, 6, 13, 20, 23, 26, 29, 2, 2, 2, 2, 2, 2, 2, 0]) :: (0, 8, [5, 0, 0, 0, 0, 0, 0]) :: (2, 600, []) :: (0, 5, [0, 0, 7, 8, 9, 1, 1, 0, 0, 0, 0, 10, 11, 12]) :: (1, 48, []) :: (1, 48, []) :: (1, 6, []) :: (1, 6, []) :: (1, 6, []) :: (1, 48, []) :: (0, 5, [0, 0, 14, 15, 16, 1, 1, 0, 0, 0, 0, 17, 18, 19]) :: (1, 48, []) :: (1, 48, []) :: (1, 6, []) :: (1, 6, []) :: (1, 6, []) :: (1, 48, []) :: (0, 1, [21, 22, 0]) :: (1, 150, []) :: (1, 24, []) :: (0, 1, [24, 25, 0]) :: (1, 150, []) :: (1, 24, []) :: (0, 1, [27, 28, 0]) :: (1, 150, []) :: (1, 24, []) :: (0, 3, [6, 20, 23, 1, 1, 1, 30, 31, 32, 33, 0, 0, 0, 0, 0, 0, 0, 0]) :: (1, 6, []) :: (1, 6, []) :: (1, 6, []) :: (1, 6, []) :: [])
set_option maxRecDepth 100000 in
theorem sq_X10_24 {h0 : k_H} (oa : Int32 × Int32 × Int32 × Int32 × Int32 × Int32 × Int64 × (Nat → Int32) × (Nat → Int32) × (Nat → Int32)) (ob : Int64) (oc : Int32 × Int32 × Int32 × Int32 × Int32 × Int32 × Int64 × (Nat → Int32) × (Nat → Int32) × (Nat → Int32)) (od : Int64) (oe : Int32 × (Nat → Int32)) (og : Int32 × (Nat → Int32)) (oh : Int32 × Int32 × Int32 × Int32 × Int32 × Int32 × Int32 × Int32 × Int64 × Int64 × Int64 × (Nat → Int32) × (Nat → Int32) × (Nat → Int32) × (Nat → Int32)) (z : h0.1 = L_X10_0) : (q_X10_24 h0 oa ob oc od oe og oh).1 = L_X10_24 := by
  simp only [q_X10_24, k_gr_s, k_st1_s, k_nf_s, k_sI_s, k_ap_sh, sq_X10_23 oa ob oc od oe og z]
  first | rfl | decide +kernel
def q_X10_25 (h0 : k_H) (oa : Int32 × Int32 × Int32 × Int32 × Int32 × Int32 × Int64 × (Nat → Int32) × (Nat → Int32) × (Nat → Int32)) (ob : Int64) (oc : Int32 × Int32 × Int32 × Int32 × Int32 × Int32 × Int64 × (Nat → Int32) × (Nat → Int32) × (Nat → Int32)) (od : Int64) (oe : Int32 × (Nat → Int32)) (og : Int32 × (Nat → Int32)) (oh : Int32 × Int32 × Int32 × Int32 × Int32 × Int32 × Int32 × Int32 × Int64 × Int64 × Int64 × (Nat → Int32) × (Nat → Int32) × (Nat → Int32) × (Nat → Int32)) : k_H := k_gr (0, 6, [2, 2, 2, 0, 0, 0, 0]) (q_X10_24 h0 oa ob oc od oe og oh)
def L_X10_25 : List k_Sh := ((0, 10, [4, 6, 13, 20, 23, 26, 29, 2, 2, 2, 2, 2, 2, 2, 0]) :: (0, 8, [5, 0, 0, 0, 0, 0, 0]) :: (2, 600, []) :: (0, 5, [0, 0, 7, 8, 9, 1, 1, 0, 0, 0, 0, 10, 11, 12]) :: (1, 48, []) :: (1, 48, []) :: (1, 6, []) :: (1, 6, []) :: (1, 6, []) :: (1, 48, []) :: (0, 5, [0, 0, 14, 15, 16, 1, 1, 0, 0, 0, 0, 17, 18, 19]) :: (1, 48, []) :: (1, 48, []) :: (1, 6, []) :: (1, 6, []) :: (1, 6, []) :: (1, 48, []) :: (0, 1, [21, 22, 0]) :: (1, 150, []) :: (1, 24, []) :: (0, 1, [24, 25, 0]) :: (1, 150, []) :: (1, 24, []) :: (0, 1, [27, 28, 0]) :: (1, 150, []) :: (1, 24, []) :: (0, 3, [6, 20, 23, 1, 1, 1, 30, 31, 32, 33, 0, 0, 0, 0, 0, 0, 0, 0]) :: (1, 6, []) :: (1, 6, []) :: (1, 6, []) :: (1, 6, []) :: (0, 6, [2, 2, 2, 0, 0, 0, 0]) :: [])
set_option maxRecDepth 100000 in
theorem sq_X10_25 {h0 : k_H} (oa : Int32 × Int32 × Int32 × Int32 × Int32 × Int32 × Int64 × (Nat → Int32) × (Nat → Int32) × (Nat → Int32)) (ob : Int64) (oc : Int32 × Int32 × Int32 × Int32 × Int32 × Int32 × Int64 × (Nat → Int32) × (Nat → Int32) × (Nat → Int32)) (od : Int64) (oe : Int32 × (Nat → Int32)) (og : Int32 × (Nat → Int32)) (oh : Int32 × Int32 × Int32 × Int32 × Int32 × Int32 × Int32 × Int32 × Int64 × Int64 × Int64 × (Nat → Int32) × (Nat → Int32) × (Nat → Int32) × (Nat → Int32)) (z : h0.1 = L_X10_0) : (q_X10_25 h0 oa ob oc od oe og oh).1 = L_X10_25 := by
  simp only [q_X10_25, k_gr_s, k_st1_s, k_nf_s, k_sI_s, k_ap_sh, sq_X10_24 oa ob oc od oe og oh z]
  first | rfl | decide +kernel
def q_X10_26 (h0 : k_H) (oa : Int32 × Int32 × Int32 × Int32 × Int32 × Int32 × Int64 × (Nat → Int32) × (Nat → Int32) × (Nat → Int32)) (ob : Int64) (oc : Int32 × Int32 × Int32 × Int32 × Int32 × Int32 × Int64 × (Nat → Int32) × (Nat → Int32) × (Nat → Int32)) (od : Int64) (oe : Int32 × (Nat → Int32)) (og : Int32 × (Nat → Int32)) (oh : Int32 × Int32 × Int32 × Int32 × Int32 × Int32 × Int32 × Int32 × Int64 × Int64 × Int64 × (Nat → Int32) × (Nat → Int32) × (Nat → Int32) × (Nat → Int32)) : k_H := i_X6 31 32 (q_X10_25 h0 oa ob oc od oe og oh)
def L_X10_26 : List k_Sh := ((0, 10, [4, 6, 13, 20, 23, 26, 29, 2, 2, 2, 2, 2, 2, 2, 0]) :: (0, 8, [5, 0, 0, 0, 0, 0, 0]) :: (2, 600, []) :: (0, 5, [0, 0, 7, 8, 9, 1, 1, 0, 0, 0, 0, 10, 11, 12]) :: (1, 48, []) :: (1, 48, []) :: (1, 6, []) :: (1, 6, []) :: (1, 6, []) :: (1, 48, []) :: (0, 5, [0, 0, 14, 15, 16, 1, 1, 0, 0, 0, 0, 17, 18, 19]) :: (1, 48, []) :: (1, 48, []) :: (1, 6, []) :: (1, 6, []) :: (1, 6, []) :: (1, 48, []) :: (0, 1, [21, 22, 0]) :: (1, 150, []) :: (1, 24, []) :: (0, 1, [24, 25, 0]) :: (1, 150, []) :: (1, 24, []) :: (0, 1, [27, 28, 0]) :: (1, 150, []) :: (1, 24, []) :: (0, 3, [6, 20, 23, 1, 1, 1, 30, 31, 32, 33, 0, 0, 0, 0, 0, 0, 0, 0]) :: (1, 6, []) :: (1, 6, []) :: (1, 6, []) :: (1, 6, []) :: (0, 6, [35, 36, 37, 0, 0, 0, 0]) :: (1, 30, []) :: (1, 30, []) :: (1, 30, []) :: [])
set_option maxRecDepth 100000 in
theorem sq_X10_26 {h0 : k_H} (oa : Int32 × Int32 × Int32 × Int32 × Int32 × Int32 × Int64 × (Nat → Int32) × (Nat → Int32) × (Nat → Int32)) (ob : Int64) (oc : Int32 × Int32 × Int32 × Int32 × Int32 × Int32 × Int64 × (Nat → Int32) × (Nat → Int32) × (Nat → Int32)) (od : Int64) (oe : Int32 × (Nat → Int32)) (og : Int32 × (Nat → Int32)) (oh : Int32 × Int32 × Int32 × Int32 × Int32 × Int32 × Int32 × Int32 × Int64 × Int64 × Int64 × (Nat → Int32) × (Nat → Int32) × (Nat → Int32) × (Nat → Int32)) (z : h0.1 = L_X10_0) : (q_X10_26 h0 oa ob oc od oe og oh).1 = L_X10_26 := by
  simp only [q_X10_26, k_gr_s, k_st1_s, k_nf_s, k_sI_s, k_ap_sh, i_X6, i_X6_1, i_X6_2, i_X6_3, sq_X10_25 oa ob oc od oe og oh z]
  first | rfl | decide +kernel
def q_X10_27 (h0 : k_H) (oa : Int32 × Int32 × Int32 × Int32 × Int32 × Int32 × Int64 × (Nat → Int32) × (Nat → Int32) × (Nat → Int32)) (ob : Int64) (oc : Int32 × Int32 × Int32 × Int32 × Int32 × Int32 × Int64 × (Nat → Int32) × (Nat → Int32) × (Nat → Int32)) (od : Int64) (oe : Int32 × (Nat → Int32)) (og : Int32 × (Nat → Int32)) (oh : Int32 × Int32 × Int32 × Int32 × Int32 × Int32 × Int32 × Int32 × Int64 × Int64 × Int64 × (Nat → Int32) × (Nat → Int32) × (Nat → Int32) × (Nat → Int32)) : k_H := k_st1 0 (0, 10, [4, 6, 13, 20, 23, 26, 29, 34, 2, 2, 2, 2, 2, 2, 0]) (q_X10_26 h0 oa ob oc od oe og oh)
def L_X10_27 : List k_Sh := ((0, 10, [4, 6, 13, 20, 23, 26, 29, 34, 2, 2, 2, 2, 2, 2, 0]) :: (0, 8, [5, 0, 0, 0, 0, 0, 0]) :: (2, 600, []) :: (0, 5, [0, 0, 7, 8, 9, 1, 1, 0, 0, 0, 0, 10, 11, 12]) :: (1, 48, []) :: (1, 48, []) :: (1, 6, []) :: (1, 6, []) :: (1, 6, []) :: (1, 48, []) :: (0, 5, [0, 0, 14, 15, 16, 1, 1, 0, 0, 0, 0, 17, 18, 19]) :: (1, 48, []) :: (1, 48, []) :: (1, 6, []) :: (1, 6, []) :: (1, 6, []) :: (1, 48, []) :: (0, 1, [21, 22, 0]) :: (1, 150, []) :: (1, 24, []) :: (0, 1, [24, 25, 0]) :: (1, 150, []) :: (1, 24, []) :: (0, 1, [27, 28, 0]) :: (1, 150, []) :: (1, 24, []) :: (0, 3, [6, 20, 23, 1, 1, 1, 30, 31, 32, 33, 0, 0, 0, 0, 0, 0, 0, 0]) :: (1, 6, []) :: (1, 6, []) :: (1, 6, []) :: (1, 6, []) :: (0, 6, [35, 36, 37, 0, 0, 0, 0]) :: (1, 30, []) :: (1, 30, []) :: (1, 30, []) :: [])
set_option maxRecDepth 100000 in
theorem sq_X10_27 {h0 : k_H} (oa : Int32 × Int32 × Int32 × Int32 × Int32 × Int32 × Int64 × (Nat → Int32) × (Nat → Int32) × (Nat → Int32)) (ob : Int64) (oc : Int32 × Int32 × Int32 × Int32 × Int32 × Int32 × Int64 × (Nat → Int32) × (Nat → Int32) × (Nat → Int32)) (od : Int64) (oe : Int32 × (Nat → Int32)) (og : Int32 × (Nat → Int32)) (oh : Int32 × Int32 × Int32 × Int32 × Int32 × Int32 × Int32 × Int32 × Int64 × Int64 × Int64 × (Nat → Int32) × (Nat → Int32) × (Nat → Int32) × (Nat → Int32)) (z : h0.1 = L_X10_0) : (q_X10_27 h0 oa ob oc od oe og oh).1 = L_X10_27 := by
  simp only [q_X10_27, k_gr_s, k_st1_s, k_nf_s, k_sI_s, k_ap_sh, sq_X10_26 oa ob oc od oe og oh z]
  first | rfl | decide +kernel
def q_X10_28 (h0 : k_H) (oa : Int32 × Int32 × Int32 × Int32 × Int32 × Int32 × Int64 × (Nat → Int32) × (Nat → Int32) × (Nat → Int32)) (ob : Int64) (oc : Int32 × Int32 × Int32 × Int32 × Int32 × Int32 × Int64 × (Nat → Int32) × (Nat → Int32) × (Nat → Int32)) (od : Int64) (oe : Int32 × (Nat → Int32)) (og : Int32 × (Nat → Int32)) (oh : Int32 × Int32 × Int32 × Int32 × Int32 × Int32 × Int32 × Int32 × Int64 × Int64 × Int64 × (Nat → Int32) × (Nat → Int32) × (Nat → Int32) × (Nat → Int32)) : k_H := k_gr (0, 4, [2, 0, 2, 2, 2, 0]) (q_X10_27 h0 oa ob oc od oe og oh)
def L_X10_28 : List k_Sh := ((0, 10, [4, 6, 13, 20, 23, 26, 29, 34, 2, 2, 2, 2, 2, 2, 0]) :: (0, 8, [5, 0, 0, 0, 0, 0, 0]) :: (2, 600, []) :: (0, 5, [0, 0, 7, 8, 9, 1, 1, 0, 0, 0, 0, 10, 11, 12]) :: (1, 48, []) :: (1, 48, []) :: (1, 6, []) :: (1, 6, []) :: (1, 6, []) :: (1, 48, []) :: (0, 5, [0, 0, 14, 15, 16, 1, 1, 0, 0, 0, 0, 17, 18, 19]) :: (1, 48, []) :: (1, 48, []) :: (1, 6, []) :: (1, 6, []) :: (1, 6, []) :: (1, 48, []) :: (0, 1, [21, 22, 0]) :: (1, 150, []) :: (1, 24, []) :: (0, 1, [24, 25, 0]) :: (1, 150, []) :: (1, 24, []) :: (0, 1, [27, 28, 0]) :: (1, 150, []) :: (1, 24, []) :: (0, 3, [6, 20, 23, 1, 1, 1, 30, 31, 32, 33, 0, 0, 0, 0, 0, 0, 0, 0]) :: (1, 6, []) :: (1, 6, []) :: (1, 6, []) :: (1, 6, []) :: (0, 6, [35, 36, 37, 0, 0, 0, 0]) :: (1, 30, []) :: (1, 30, []) :: (1, 30, []) :: (0, 4, [2, 0, 2, 2, 2, 0]) :: [])
set_option maxRecDepth 100000 in
theorem sq_X10_28 {h0 : k_H} (oa : Int32 × Int32 × Int32 × Int32 × Int32 × Int32 × Int64 × (Nat → Int32) × (Nat → Int32) × (Nat → Int32)) (ob : Int64) (oc : Int32 × Int32 × Int32 × Int32 × Int32 × Int32 × Int64 × (Nat → Int32) × (Nat → Int32) × (Nat → Int32)) (od : Int64) (oe : Int32 × (Nat → Int32)) (og : Int32 × (Nat → Int32)) (oh : Int32 × Int32 × Int32 × Int32 × Int32 × Int32 × Int32 × Int32 × Int64 × Int64 × Int64 × (Nat → Int32) × (Nat → Int32) × (Nat → Int32) × (Nat → Int32)) (z : h0.1 = L_X10_0) : (q_X10_28 h0 oa ob oc od oe og oh).1 = L_X10_28 := by
  simp only [q_X10_28, k_gr_s, k_st1_s, k_nf_s, k_sI_s, k_ap_sh, sq_X10_27 oa ob oc od oe og oh z]
  first | rfl | decide +kernel
def q_X10_29 (h0 : k_H) (oa : Int32 × Int32 × Int32 × Int32 × Int32 × Int32 × Int64 × (Nat → Int32) × (Nat → Int32) × (Nat → Int32)) (ob : Int64) (oc : Int32 × Int32 × Int32 × Int32 × Int32 × Int32 × Int64 × (Nat → Int32) × (Nat → Int32) × (Nat → Int32)) (od : Int64) (oe : Int32 × (Nat → Int32)) (og : Int32 × (Nat → Int32)) (oh : Int32 × Int32 × Int32 × Int32 × Int32 × Int32 × Int32 × Int32 × Int64 × Int64 × Int64 × (Nat → Int32) × (Nat → Int32) × (Nat → Int32) × (Nat → Int32)) : k_H := i_X4 35 36 (q_X10_28 h0 oa ob oc od oe og oh)
def L_X10_29 : List k_Sh := ((0, 10, [4, 6, 13, 20, 23, 26, 29, 34, 2, 2, 2, 2, 2, 2, 0]) :: (0, 8, [5, 0, 0, 0, 0, 0, 0]) :: (2, 600, []) :: (0, 5, [0, 0, 7, 8, 9, 1, 1, 0, 0, 0, 0, 10, 11, 12]) :: (1, 48, []) :: (1, 48, []) :: (1, 6, []) :: (1, 6, []) :: (1, 6, []) :: (1, 48, []) :: (0, 5, [0, 0, 14, 15, 16, 1, 1, 0, 0, 0, 0, 17, 18, 19]) :: (1, 48, []) :: (1, 48, []) :: (1, 6, []) :: (1, 6, []) :: (1, 6, []) :: (1, 48, []) :: (0, 1, [21, 22, 0]) :: (1, 150, []) :: (1, 24, []) :: (0, 1, [24, 25, 0]) :: (1, 150, []) :: (1, 24, []) :: (0, 1, [27, 28, 0]) :: (1, 150, []) :: (1, 24, []) :: (0, 3, [6, 20, 23, 1, 1, 1, 30, 31, 32, 33, 0, 0, 0, 0, 0, 0, 0, 0]) :: (1, 6, []) :: (1, 6, []) :: (1, 6, []) :: (1, 6, []) :: (0, 6, [35, 36, 37, 0, 0, 0, 0]) :: (1, 30, []) :: (1, 30, []) :: (1, 30, []) :: (0, 4, [39, 0, 40, 41, 42, 0]) :: (5, 16, []) :: (5, 3, []) :: (5, 48, []) :: (1, 3, []) :: [])
set_option maxRecDepth 100000 in
theorem sq_X10_29 {h0 : k_H} (oa : Int32 × Int32 × Int32 × Int32 × Int32 × Int32 × Int64 × (Nat → Int32) × (Nat → Int32) × (Nat → Int32)) (ob : Int64) (oc : Int32 × Int32 × Int32 × Int32 × Int32 × Int32 × Int64 × (Nat → Int32) × (Nat → Int32) × (Nat → Int32)) (od : Int64) (oe : Int32 × (Nat → Int32)) (og : Int32 × (Nat → Int32)) (oh : Int32 × Int32 × Int32 × Int32 × Int32 × Int32 × Int32 × Int32 × Int64 × Int64 × Int64 × (Nat → Int32) × (Nat → Int32) × (Nat → Int32) × (Nat → Int32)) (z : h0.1 = L_X10_0) : (q_X10_29 h0 oa ob oc od oe og oh).1 = L_X10_29 := by
  simp only [q_X10_29, k_gr_s, k_st1_s, k_nf_s, k_sI_s, k_ap_sh, i_X4, i_X4_1, i_X4_2, i_X4_3, i_X4_4, sq_X10_28 oa ob oc od oe og oh z]
  first | rfl | decide +kernel
def q_X10_30 (h0 : k_H) (oa : Int32 × Int32 × Int32 × Int32 × Int32 × Int32 × Int64 × (Nat → Int32) × (Nat → Int32) × (Nat → Int32)) (ob : Int64) (oc : Int32 × Int32 × Int32 × Int32 × Int32 × Int32 × Int64 × (Nat → Int32) × (Nat → Int32) × (Nat → Int32)) (od : Int64) (oe : Int32 × (Nat → Int32)) (og : Int32 × (Nat → Int32)) (oh : Int32 × Int32 × Int32 × Int32 × Int32 × Int32 × Int32 × Int32 × Int64 × Int64 × Int64 × (Nat → Int32) × (Nat → Int32) × (Nat → Int32) × (Nat → Int32)) : k_H := k_st1 0 (0, 10, [4, 6, 13, 20, 23, 26, 29, 34, 38, 2, 2, 2, 2, 2, 0]) (q_X10_29 h0 oa ob oc od oe og oh)
def L_X10_30 : List k_Sh := ((0, 10, [4, 6, 13, 20, 23, 26, 29, 34, 38, 2, 2, 2, 2, 2, 0]) :: (0, 8, [5, 0, 0, 0, 0, 0, 0]) :: (2, 600, []) :: (0, 5, [0, 0, 7, 8, 9, 1, 1, 0, 0, 0, 0, 10, 11, 12]) :: (1, 48, []) :: (1, 48, []) :: (1, 6, []) :: (1, 6, []) :: (1, 6, []) :: (1, 48, []) :: (0, 5, [0, 0, 14, 15, 16, 1, 1, 0, 0, 0, 0, 17, 18, 19]) :: (1, 48, []) :: (1, 48, []) :: (1, 6, []) :: (1, 6, []) :: (1, 6, []) :: (1, 48, []) :: (0, 1, [21, 22, 0]) :: (1, 150, []) :: (1, 24, []) :: (0, 1, [24, 25, 0]) :: (1, 150, []) :: (1, 24, []) :: (0, 1, [27, 28, 0]) :: (1, 150, []) :: (1, 24, []) :: (0, 3, [6, 20, 23, 1, 1, 1, 30, 31, 32, 33, 0, 0, 0, 0, 0, 0, 0, 0]) :: (1, 6, []) :: (1, 6, []) :: (1, 6, []) :: (1, 6, []) :: (0, 6, [35, 36, 37, 0, 0, 0, 0]) :: (1, 30, []) :: (1, 30, []) :: (1, 30, []) :: (0, 4, [39, 0, 40, 41, 42, 0]) :: (5, 16, []) :: (5, 3, []) :: (5, 48, []) :: (1, 3, []) :: [])
set_option maxRecDepth 100000 in
theorem sq_X10_30 {h0 : k_H} (oa : Int32 × Int32 × Int32 × Int32 × Int32 × Int32 × Int64 × (Nat → Int32) × (Nat → Int32) × (Nat → Int32)) (ob : Int64) (oc : Int32 × Int32 × Int32 × Int32 × Int32 × Int32 × Int64 × (Nat → Int32) × (Nat → Int32) × (Nat → Int32)) (od : Int64) (oe : Int32 × (Nat → Int32)) (og : Int32 × (Nat → Int32)) (oh : Int32 × Int32 × Int32 × Int32 × Int32 × Int32 × Int32 × Int32 × Int64 × Int64 × Int64 × (Nat → Int32) × (Nat → Int32) × (Nat → Int32) × (Nat → Int32)) (z : h0.1 = L_X10_0) : (q_X10_30 h0 oa ob oc od oe og oh).1 = L_X10_30 := by
  simp only [q_X10_30, k_gr_s, k_st1_s, k_nf_s, k_sI_s, k_ap_sh, sq_X10_29 oa ob oc od oe og oh z]
  first | rfl | decide +kernel
set_option maxHeartbeats 400000 in
set_option maxRecDepth 100000 in
theorem s_X10_init1 (u : Nat) {X : k_X} {ad : Nat → Nat} {h0 : k_H} {Q : State → Prop} (z : h0.1 = L_X10_0) {oa : Int32 × Int32 × Int32 × Int32 × Int32 × Int32 × Int64 × (Nat → Int32) × (Nat → Int32) × (Nat → Int32)} {ob : Int64} {oc : Int32 × Int32 × Int32 × Int32 × Int32 × Int32 × Int64 × (Nat → Int32) × (Nat → Int32) × (Nat → Int32)} {od : Int64} {oe : Int32 × (Nat → Int32)} {og : Int32 × (Nat → Int32)} {oh : Int32 × Int32 × Int32 × Int32 × Int32 × Int32 × Int32 × Int32 × Int64 × Int64 × Int64 × (Nat → Int32) × (Nat → Int32) × (Nat → Int32) × (Nat → Int32)} (oaf : f_X5_clear u ((i_X5_6 3 4 (q_X10_4 h0)).2.1 3 0) ((i_X5_6 3 4 (q_X10_4 h0)).2.1 3 1) ((i_X5_6 3 4 (q_X10_4 h0)).2.1 3 7) ((i_X5_6 3 4 (q_X10_4 h0)).2.1 3 8) ((i_X5_6 3 4 (q_X10_4 h0)).2.1 3 9) ((i_X5_6 3 4 (q_X10_4 h0)).2.1 3 10) ((i_X5_6 3 4 (q_X10_4 h0)).2.2.1 3 6) ((i_X5_6 3 4 (q_X10_4 h0)).2.1 4) ((i_X5_6 3 4 (q_X10_4 h0)).2.1 (4 + 1)) ((i_X5_6 3 4 (q_X10_4 h0)).2.1 (4 + 2)) = some oa) (obf : f_X5_tellAll u ((j_X5a 3 4 oa (q_X10_4 h0)).2.1 3 0) ((j_X5a 3 4 oa (q_X10_4 h0)).2.1 3 1) ((j_X5a 3 4 oa (q_X10_4 h0)).2.2.1 3 5) = some ob) (ocf : f_X5_clear u ((i_X5_6 10 11 (q_X10_7 h0 oa ob)).2.1 10 0) ((i_X5_6 10 11 (q_X10_7 h0 oa ob)).2.1 10 1) ((i_X5_6 10 11 (q_X10_7 h0 oa ob)).2.1 10 7) ((i_X5_6 10 11 (q_X10_7 h0 oa ob)).2.1 10 8) ((i_X5_6 10 11 (q_X10_7 h0 oa ob)).2.1 10 9) ((i_X5_6 10 11 (q_X10_7 h0 oa ob)).2.1 10 10) ((i_X5_6 10 11 (q_X10_7 h0 oa ob)).2.2.1 10 6) ((i_X5_6 10 11 (q_X10_7 h0 oa ob)).2.1 11) ((i_X5_6 10 11 (q_X10_7 h0 oa ob)).2.1 (11 + 1)) ((i_X5_6 10 11 (q_X10_7 h0 oa ob)).2.1 (11 + 2)) = some oc) (odf : f_X5_tellAll u ((j_X5a 10 11 oc (q_X10_7 h0 oa ob)).2.1 10 0) ((j_X5a 10 11 oc (q_X10_7 h0 oa ob)).2.1 10 1) ((j_X5a 10 11 oc (q_X10_7 h0 oa ob)).2.2.1 10 5) = some od) (oef : f_X1_beFall u ((q_X10_18 h0 oa ob oc od).2.1 17 2) ((q_X10_18 h0 oa ob oc od).2.1 18) = some oe) (ogf : f_X1_beHarm u ((q_X10_19 h0 oa ob oc od oe).2.1 20 2) ((q_X10_19 h0 oa ob oc od oe).2.1 21) = some og) (ohf : f_X3_begin u ((q_X10_23 h0 oa ob oc od oe og).2.1 26 10) ((q_X10_23 h0 oa ob oc od oe og).2.1 26 11) ((q_X10_23 h0 oa ob oc od oe og).2.1 26 12) ((q_X10_23 h0 oa ob oc od oe og).2.1 26 13) ((q_X10_23 h0 oa ob oc od oe og).2.1 26 14) ((q_X10_23 h0 oa ob oc od oe og).2.1 26 15) ((q_X10_23 h0 oa ob oc od oe og).2.1 26 16) ((q_X10_23 h0 oa ob oc od oe og).2.1 26 17) ((q_X10_23 h0 oa ob oc od oe og).2.2.1 26 3) ((q_X10_23 h0 oa ob oc od oe og).2.2.1 26 4) ((q_X10_23 h0 oa ob oc od oe og).2.2.1 26 5) ((q_X10_23 h0 oa ob oc od oe og).2.1 27) ((q_X10_23 h0 oa ob oc od oe og).2.1 28) ((q_X10_23 h0 oa ob oc od oe og).2.1 29) ((q_X10_23 h0 oa ob oc od oe og).2.1 30) ((q_X10_23 h0 oa ob oc od oe og).2.1 3 1) ((q_X10_23 h0 oa ob oc od oe og).2.1 3 9) = some oh) (C : k_C X cX10_init RX10 1 ad) (hnm : X.meth.name = "<init>") (hR : X.R.frames = 6 ∧ X.R.locals = 190) (hRc : X.R.cells = 90) (hRs : X.R.slots = 2500)
    (kk : ∀ ad1 : Nat → Nat, k_C X cX10_init RX10 1 ad1 → k_sm h0.1.length ad ad1 → k_W X 1 39 1705 Q ad1 (q_X10_30 h0 oa ob oc od oe og oh) 136 [some (.ref 0)] []) : k_W X 1 0 0 Q ad h0 0 [some (.ref 0)] [] := by
  refine r_aload_n C dX10_init_0 (rfl : 0 + 1 = 1) rfl ?_
  refine r_objinit C hR dX10_init_1 (rfl : 1 + 3 = 4) (k_me (tm1 (List.mem_of_getElem? (i := 33) rfl)) rfl) rfl rfl ?_
  refine r_aload_n C dX10_init_4 (rfl : 4 + 1 = 5) rfl ?_
  have hln0 : h0.1.length = 1 := by rw [z]; rfl
  refine g_new (ci := 8) (sl := [2, 0, 0, 0, 0, 0, 0]) C dX10_init_5 (rfl : 5 + 3 = 8) rfl in_X8 tyX8_ok (k_me (tm1 (List.mem_of_getElem? (i := 36) rfl)) rfl) (k_me (tm1 (List.mem_of_getElem? (i := 37) rfl)) rfl) (k_me (tm1 (List.mem_of_getElem? (i := 2) rfl)) rfl) hfs_X8 hz_X8 (k_csl hRc hRs rfl rfl) (by rw [hln0]; decide) ⟨k_okv_of (show h0.1[0]? = some (0, 10, [2, 2, 2, 2, 2, 2, 2, 2, 2, 2, 2, 2, 2, 2, 0]) by rw [z]; rfl), True.intro⟩ ⟨k_okv_of (show h0.1[0]? = some (0, 10, [2, 2, 2, 2, 2, 2, 2, 2, 2, 2, 2, 2, 2, 2, 0]) by rw [z]; rfl), True.intro⟩ ?_
  intro ad0 hsm0 C0
  rw [hln0]
  change k_W X _ _ _ _ _ (q_X10_1 h0) _ _ _
  refine r_dup C0 dX10_init_8 (rfl : 8 + 1 = 9) rfl ?_
  refine c_IG (As := []) (st := [.ref 1, .ref 0]) (b := 1) C0 hR (k_csl hRc hRs rfl rfl) mi_X8_init lk_X10_9 dX10_init_9 (rfl : 9 + 3 = 12) rfl rfl (c_X8_init X.l (q_X10_1 h0) (show (q_X10_1 h0).1[1]? = some (0, 8, [2, 0, 0, 0, 0, 0, 0]) by rw [(sq_X10_1 z)]; rfl) (by rw [(sq_X10_1 z)]; first | done | rfl) (by decide)) rfl rfl rfl ⟨k_okv_of (show (q_X10_1 h0).1[0]? = some (0, 10, [2, 2, 2, 2, 2, 2, 2, 2, 2, 2, 2, 2, 2, 2, 0]) by rw [(sq_X10_1 z)]; rfl), True.intro⟩ ⟨k_okv_of (show (q_X10_1 h0).1[1]? = some (0, 8, [2, 0, 0, 0, 0, 0, 0]) by rw [(sq_X10_1 z)]; rfl), k_okv_of (show (q_X10_1 h0).1[0]? = some (0, 10, [2, 2, 2, 2, 2, 2, 2, 2, 2, 2, 2, 2, 2, 2, 0]) by rw [(sq_X10_1 z)]; rfl), True.intro⟩ ?_
  rintro v1 ad1 h2 ⟨rfl, rfl⟩ hsm1 C1
  change k_W X _ _ _ _ _ (q_X10_2 h0) _ _ [.ref 1, .ref 0]
  refine g_setR (sl' := [4, 2, 2, 2, 2, 2, 2, 2, 2, 2, 2, 2, 2, 2, 0]) C1 hnm dX10_init_12 (rfl : 12 + 3 = 15) ff_X10_10 (show (q_X10_2 h0).1[0]? = some (0, 10, [2, 2, 2, 2, 2, 2, 2, 2, 2, 2, 2, 2, 2, 2, 0]) by rw [(sq_X10_2 z)]; rfl) (Nat.le_of_ble_eq_true rfl) (k_lt_of (show (q_X10_2 h0).1[1]? = some (0, 8, [5, 0, 0, 0, 0, 0, 0]) by rw [(sq_X10_2 z)]; rfl)) rfl ?_
  change k_W X _ _ _ _ _ (q_X10_3 h0) _ _ _
  refine r_aload_n C1 dX10_init_15 (rfl : 15 + 1 = 16) rfl ?_
  have hln2 : (q_X10_3 h0).1.length = 3 := by rw [(sq_X10_3 z)]; rfl
  refine g_new (ci := 5) (sl := [0, 0, 2, 2, 2, 1, 1, 0, 0, 0, 0, 2, 2, 2]) C1 dX10_init_16 (rfl : 16 + 3 = 19) rfl in_X5 tyX5_ok (k_me (tm1 (List.mem_of_getElem? (i := 72) rfl)) rfl) (k_me (tm1 (List.mem_of_getElem? (i := 73) rfl)) rfl) (k_me (tm1 (List.mem_of_getElem? (i := 3) rfl)) rfl) hfs_X5 hz_X5 (k_csl hRc hRs rfl rfl) (by rw [hln2]; decide) ⟨k_okv_of (show (q_X10_3 h0).1[0]? = some (0, 10, [4, 2, 2, 2, 2, 2, 2, 2, 2, 2, 2, 2, 2, 2, 0]) by rw [(sq_X10_3 z)]; rfl), True.intro⟩ ⟨k_okv_of (show (q_X10_3 h0).1[0]? = some (0, 10, [4, 2, 2, 2, 2, 2, 2, 2, 2, 2, 2, 2, 2, 2, 0]) by rw [(sq_X10_3 z)]; rfl), True.intro⟩ ?_
  intro ad2 hsm2 C2
  rw [hln2]
  change k_W X _ _ _ _ _ (q_X10_4 h0) _ _ _
  refine r_dup C2 dX10_init_19 (rfl : 19 + 1 = 20) rfl ?_
  refine c_IG (As := []) (st := [.ref 3, .ref 0]) (b := 3) C2 hR (k_csl hRc hRs rfl rfl) mi_X5_init lk_X10_18 dX10_init_20 (rfl : 20 + 3 = 23) rfl rfl (c_X5_init X.l u (q_X10_4 h0) (show (q_X10_4 h0).1[3]? = some (0, 5, [0, 0, 2, 2, 2, 1, 1, 0, 0, 0, 0, 2, 2, 2]) by rw [(sq_X10_4 z)]; rfl) (by rw [(sq_X10_4 z)]; first | done | rfl) (by decide) oaf obf) rfl rfl rfl ⟨k_okv_of (show (q_X10_4 h0).1[0]? = some (0, 10, [4, 2, 2, 2, 2, 2, 2, 2, 2, 2, 2, 2, 2, 2, 0]) by rw [(sq_X10_4 z)]; rfl), True.intro⟩ ⟨k_okv_of (show (q_X10_4 h0).1[3]? = some (0, 5, [0, 0, 2, 2, 2, 1, 1, 0, 0, 0, 0, 2, 2, 2]) by rw [(sq_X10_4 z)]; rfl), k_okv_of (show (q_X10_4 h0).1[0]? = some (0, 10, [4, 2, 2, 2, 2, 2, 2, 2, 2, 2, 2, 2, 2, 2, 0]) by rw [(sq_X10_4 z)]; rfl), True.intro⟩ ?_
  rintro v3 ad3 h4 ⟨rfl, rfl⟩ hsm3 C3
  change k_W X _ _ _ _ _ (q_X10_5 h0 oa ob) _ _ [.ref 3, .ref 0]
  refine g_setR (sl' := [4, 6, 2, 2, 2, 2, 2, 2, 2, 2, 2, 2, 2, 2, 0]) C3 hnm dX10_init_23 (rfl : 23 + 3 = 26) ff_X10_19 (show (q_X10_5 h0 oa ob).1[0]? = some (0, 10, [4, 2, 2, 2, 2, 2, 2, 2, 2, 2, 2, 2, 2, 2, 0]) by rw [(sq_X10_5 oa ob z)]; rfl) (Nat.le_of_ble_eq_true rfl) (k_lt_of (show (q_X10_5 h0 oa ob).1[3]? = some (0, 5, [0, 0, 7, 8, 9, 1, 1, 0, 0, 0, 0, 10, 11, 12]) by rw [(sq_X10_5 oa ob z)]; rfl)) rfl ?_
  change k_W X _ _ _ _ _ (q_X10_6 h0 oa ob) _ _ _
  refine r_aload_n C3 dX10_init_26 (rfl : 26 + 1 = 27) rfl ?_
  have hln4 : (q_X10_6 h0 oa ob).1.length = 10 := by rw [(sq_X10_6 oa ob z)]; rfl
  refine g_new (ci := 5) (sl := [0, 0, 2, 2, 2, 1, 1, 0, 0, 0, 0, 2, 2, 2]) C3 dX10_init_27 (rfl : 27 + 3 = 30) rfl in_X5 tyX5_ok (k_me (tm1 (List.mem_of_getElem? (i := 72) rfl)) rfl) (k_me (tm1 (List.mem_of_getElem? (i := 73) rfl)) rfl) (k_me (tm1 (List.mem_of_getElem? (i := 3) rfl)) rfl) hfs_X5 hz_X5 (k_csl hRc hRs rfl rfl) (by rw [hln4]; decide) ⟨k_okv_of (show (q_X10_6 h0 oa ob).1[0]? = some (0, 10, [4, 6, 2, 2, 2, 2, 2, 2, 2, 2, 2, 2, 2, 2, 0]) by rw [(sq_X10_6 oa ob z)]; rfl), True.intro⟩ ⟨k_okv_of (show (q_X10_6 h0 oa ob).1[0]? = some (0, 10, [4, 6, 2, 2, 2, 2, 2, 2, 2, 2, 2, 2, 2, 2, 0]) by rw [(sq_X10_6 oa ob z)]; rfl), True.intro⟩ ?_
  intro ad4 hsm4 C4
  rw [hln4]
  change k_W X _ _ _ _ _ (q_X10_7 h0 oa ob) _ _ _
  refine r_dup C4 dX10_init_30 (rfl : 30 + 1 = 31) rfl ?_
  refine c_IG (As := []) (st := [.ref 10, .ref 0]) (b := 10) C4 hR (k_csl hRc hRs rfl rfl) mi_X5_init lk_X10_18 dX10_init_31 (rfl : 31 + 3 = 34) rfl rfl (c_X5_init X.l u (q_X10_7 h0 oa ob) (show (q_X10_7 h0 oa ob).1[10]? = some (0, 5, [0, 0, 2, 2, 2, 1, 1, 0, 0, 0, 0, 2, 2, 2]) by rw [(sq_X10_7 oa ob z)]; rfl) (by rw [(sq_X10_7 oa ob z)]; first | done | rfl) (by decide) ocf odf) rfl rfl rfl ⟨k_okv_of (show (q_X10_7 h0 oa ob).1[0]? = some (0, 10, [4, 6, 2, 2, 2, 2, 2, 2, 2, 2, 2, 2, 2, 2, 0]) by rw [(sq_X10_7 oa ob z)]; rfl), True.intro⟩ ⟨k_okv_of (show (q_X10_7 h0 oa ob).1[10]? = some (0, 5, [0, 0, 2, 2, 2, 1, 1, 0, 0, 0, 0, 2, 2, 2]) by rw [(sq_X10_7 oa ob z)]; rfl), k_okv_of (show (q_X10_7 h0 oa ob).1[0]? = some (0, 10, [4, 6, 2, 2, 2, 2, 2, 2, 2, 2, 2, 2, 2, 2, 0]) by rw [(sq_X10_7 oa ob z)]; rfl), True.intro⟩ ?_
  rintro v5 ad5 h6 ⟨rfl, rfl⟩ hsm5 C5
  change k_W X _ _ _ _ _ (q_X10_8 h0 oa ob oc od) _ _ [.ref 10, .ref 0]
  refine g_setR (sl' := [4, 6, 13, 2, 2, 2, 2, 2, 2, 2, 2, 2, 2, 2, 0]) C5 hnm dX10_init_34 (rfl : 34 + 3 = 37) ff_X10_23 (show (q_X10_8 h0 oa ob oc od).1[0]? = some (0, 10, [4, 6, 2, 2, 2, 2, 2, 2, 2, 2, 2, 2, 2, 2, 0]) by rw [(sq_X10_8 oa ob oc od z)]; rfl) (Nat.le_of_ble_eq_true rfl) (k_lt_of (show (q_X10_8 h0 oa ob oc od).1[10]? = some (0, 5, [0, 0, 14, 15, 16, 1, 1, 0, 0, 0, 0, 17, 18, 19]) by rw [(sq_X10_8 oa ob oc od z)]; rfl)) rfl ?_
  change k_W X _ _ _ _ _ (q_X10_9 h0 oa ob oc od) _ _ _
  refine r_aload_n C5 dX10_init_37 (rfl : 37 + 1 = 38) rfl ?_
  have hln6 : (q_X10_9 h0 oa ob oc od).1.length = 17 := by rw [(sq_X10_9 oa ob oc od z)]; rfl
  refine g_new (ci := 1) (sl := [2, 2, 0]) C5 dX10_init_38 (rfl : 38 + 3 = 41) rfl in_X1 tyX1_ok (k_me (tm1 (List.mem_of_getElem? (i := 162) rfl)) rfl) (k_me (tm1 (List.mem_of_getElem? (i := 163) rfl)) rfl) (k_me (tm1 (List.mem_of_getElem? (i := 5) rfl)) rfl) hfs_X1 hz_X1 (k_csl hRc hRs rfl rfl) (by rw [hln6]; decide) ⟨k_okv_of (show (q_X10_9 h0 oa ob oc od).1[0]? = some (0, 10, [4, 6, 13, 2, 2, 2, 2, 2, 2, 2, 2, 2, 2, 2, 0]) by rw [(sq_X10_9 oa ob oc od z)]; rfl), True.intro⟩ ⟨k_okv_of (show (q_X10_9 h0 oa ob oc od).1[0]? = some (0, 10, [4, 6, 13, 2, 2, 2, 2, 2, 2, 2, 2, 2, 2, 2, 0]) by rw [(sq_X10_9 oa ob oc od z)]; rfl), True.intro⟩ ?_
  intro ad6 hsm6 C6
  rw [hln6]
  change k_W X _ _ _ _ _ (q_X10_10 h0 oa ob oc od) _ _ _
  refine r_dup C6 dX10_init_41 (rfl : 41 + 1 = 42) rfl ?_
  refine c_IG (As := []) (st := [.ref 17, .ref 0]) (b := 17) C6 hR (k_csl hRc hRs rfl rfl) mi_X1_init lk_X10_28 dX10_init_42 (rfl : 42 + 3 = 45) rfl rfl (c_X1_init X.l (q_X10_10 h0 oa ob oc od) (show (q_X10_10 h0 oa ob oc od).1[17]? = some (0, 1, [2, 2, 0]) by rw [(sq_X10_10 oa ob oc od z)]; rfl) (by rw [(sq_X10_10 oa ob oc od z)]; first | done | rfl) (by decide)) rfl rfl rfl ⟨k_okv_of (show (q_X10_10 h0 oa ob oc od).1[0]? = some (0, 10, [4, 6, 13, 2, 2, 2, 2, 2, 2, 2, 2, 2, 2, 2, 0]) by rw [(sq_X10_10 oa ob oc od z)]; rfl), True.intro⟩ ⟨k_okv_of (show (q_X10_10 h0 oa ob oc od).1[17]? = some (0, 1, [2, 2, 0]) by rw [(sq_X10_10 oa ob oc od z)]; rfl), k_okv_of (show (q_X10_10 h0 oa ob oc od).1[0]? = some (0, 10, [4, 6, 13, 2, 2, 2, 2, 2, 2, 2, 2, 2, 2, 2, 0]) by rw [(sq_X10_10 oa ob oc od z)]; rfl), True.intro⟩ ?_
  rintro v7 ad7 h8 ⟨rfl, rfl⟩ hsm7 C7
  change k_W X _ _ _ _ _ (q_X10_11 h0 oa ob oc od) _ _ [.ref 17, .ref 0]
  refine g_setR (sl' := [4, 6, 13, 20, 2, 2, 2, 2, 2, 2, 2, 2, 2, 2, 0]) C7 hnm dX10_init_45 (rfl : 45 + 3 = 48) ff_X10_29 (show (q_X10_11 h0 oa ob oc od).1[0]? = some (0, 10, [4, 6, 13, 2, 2, 2, 2, 2, 2, 2, 2, 2, 2, 2, 0]) by rw [(sq_X10_11 oa ob oc od z)]; rfl) (Nat.le_of_ble_eq_true rfl) (k_lt_of (show (q_X10_11 h0 oa ob oc od).1[17]? = some (0, 1, [21, 22, 0]) by rw [(sq_X10_11 oa ob oc od z)]; rfl)) rfl ?_
  change k_W X _ _ _ _ _ (q_X10_12 h0 oa ob oc od) _ _ _
  refine r_aload_n C7 dX10_init_48 (rfl : 48 + 1 = 49) rfl ?_
  have hln8 : (q_X10_12 h0 oa ob oc od).1.length = 20 := by rw [(sq_X10_12 oa ob oc od z)]; rfl
  refine g_new (ci := 1) (sl := [2, 2, 0]) C7 dX10_init_49 (rfl : 49 + 3 = 52) rfl in_X1 tyX1_ok (k_me (tm1 (List.mem_of_getElem? (i := 162) rfl)) rfl) (k_me (tm1 (List.mem_of_getElem? (i := 163) rfl)) rfl) (k_me (tm1 (List.mem_of_getElem? (i := 5) rfl)) rfl) hfs_X1 hz_X1 (k_csl hRc hRs rfl rfl) (by rw [hln8]; decide) ⟨k_okv_of (show (q_X10_12 h0 oa ob oc od).1[0]? = some (0, 10, [4, 6, 13, 20, 2, 2, 2, 2, 2, 2, 2, 2, 2, 2, 0]) by rw [(sq_X10_12 oa ob oc od z)]; rfl), True.intro⟩ ⟨k_okv_of (show (q_X10_12 h0 oa ob oc od).1[0]? = some (0, 10, [4, 6, 13, 20, 2, 2, 2, 2, 2, 2, 2, 2, 2, 2, 0]) by rw [(sq_X10_12 oa ob oc od z)]; rfl), True.intro⟩ ?_
  intro ad8 hsm8 C8
  rw [hln8]
  change k_W X _ _ _ _ _ (q_X10_13 h0 oa ob oc od) _ _ _
  refine r_dup C8 dX10_init_52 (rfl : 52 + 1 = 53) rfl ?_
  refine c_IG (As := []) (st := [.ref 20, .ref 0]) (b := 20) C8 hR (k_csl hRc hRs rfl rfl) mi_X1_init lk_X10_28 dX10_init_53 (rfl : 53 + 3 = 56) rfl rfl (c_X1_init X.l (q_X10_13 h0 oa ob oc od) (show (q_X10_13 h0 oa ob oc od).1[20]? = some (0, 1, [2, 2, 0]) by rw [(sq_X10_13 oa ob oc od z)]; rfl) (by rw [(sq_X10_13 oa ob oc od z)]; first | done | rfl) (by decide)) rfl rfl rfl ⟨k_okv_of (show (q_X10_13 h0 oa ob oc od).1[0]? = some (0, 10, [4, 6, 13, 20, 2, 2, 2, 2, 2, 2, 2, 2, 2, 2, 0]) by rw [(sq_X10_13 oa ob oc od z)]; rfl), True.intro⟩ ⟨k_okv_of (show (q_X10_13 h0 oa ob oc od).1[20]? = some (0, 1, [2, 2, 0]) by rw [(sq_X10_13 oa ob oc od z)]; rfl), k_okv_of (show (q_X10_13 h0 oa ob oc od).1[0]? = some (0, 10, [4, 6, 13, 20, 2, 2, 2, 2, 2, 2, 2, 2, 2, 2, 0]) by rw [(sq_X10_13 oa ob oc od z)]; rfl), True.intro⟩ ?_
  rintro v9 ad9 h10 ⟨rfl, rfl⟩ hsm9 C9
  change k_W X _ _ _ _ _ (q_X10_14 h0 oa ob oc od) _ _ [.ref 20, .ref 0]
  refine g_setR (sl' := [4, 6, 13, 20, 23, 2, 2, 2, 2, 2, 2, 2, 2, 2, 0]) C9 hnm dX10_init_56 (rfl : 56 + 3 = 59) ff_X10_33 (show (q_X10_14 h0 oa ob oc od).1[0]? = some (0, 10, [4, 6, 13, 20, 2, 2, 2, 2, 2, 2, 2, 2, 2, 2, 0]) by rw [(sq_X10_14 oa ob oc od z)]; rfl) (Nat.le_of_ble_eq_true rfl) (k_lt_of (show (q_X10_14 h0 oa ob oc od).1[20]? = some (0, 1, [24, 25, 0]) by rw [(sq_X10_14 oa ob oc od z)]; rfl)) rfl ?_
  change k_W X _ _ _ _ _ (q_X10_15 h0 oa ob oc od) _ _ _
  refine r_aload_n C9 dX10_init_59 (rfl : 59 + 1 = 60) rfl ?_
  have hln10 : (q_X10_15 h0 oa ob oc od).1.length = 23 := by rw [(sq_X10_15 oa ob oc od z)]; rfl
  refine g_new (ci := 1) (sl := [2, 2, 0]) C9 dX10_init_60 (rfl : 60 + 3 = 63) rfl in_X1 tyX1_ok (k_me (tm1 (List.mem_of_getElem? (i := 162) rfl)) rfl) (k_me (tm1 (List.mem_of_getElem? (i := 163) rfl)) rfl) (k_me (tm1 (List.mem_of_getElem? (i := 5) rfl)) rfl) hfs_X1 hz_X1 (k_csl hRc hRs rfl rfl) (by rw [hln10]; decide) ⟨k_okv_of (show (q_X10_15 h0 oa ob oc od).1[0]? = some (0, 10, [4, 6, 13, 20, 23, 2, 2, 2, 2, 2, 2, 2, 2, 2, 0]) by rw [(sq_X10_15 oa ob oc od z)]; rfl), True.intro⟩ ⟨k_okv_of (show (q_X10_15 h0 oa ob oc od).1[0]? = some (0, 10, [4, 6, 13, 20, 23, 2, 2, 2, 2, 2, 2, 2, 2, 2, 0]) by rw [(sq_X10_15 oa ob oc od z)]; rfl), True.intro⟩ ?_
  intro ad10 hsm10 C10
  rw [hln10]
  change k_W X _ _ _ _ _ (q_X10_16 h0 oa ob oc od) _ _ _
  refine r_dup C10 dX10_init_63 (rfl : 63 + 1 = 64) rfl ?_
  refine c_IG (As := []) (st := [.ref 23, .ref 0]) (b := 23) C10 hR (k_csl hRc hRs rfl rfl) mi_X1_init lk_X10_28 dX10_init_64 (rfl : 64 + 3 = 67) rfl rfl (c_X1_init X.l (q_X10_16 h0 oa ob oc od) (show (q_X10_16 h0 oa ob oc od).1[23]? = some (0, 1, [2, 2, 0]) by rw [(sq_X10_16 oa ob oc od z)]; rfl) (by rw [(sq_X10_16 oa ob oc od z)]; first | done | rfl) (by decide)) rfl rfl rfl ⟨k_okv_of (show (q_X10_16 h0 oa ob oc od).1[0]? = some (0, 10, [4, 6, 13, 20, 23, 2, 2, 2, 2, 2, 2, 2, 2, 2, 0]) by rw [(sq_X10_16 oa ob oc od z)]; rfl), True.intro⟩ ⟨k_okv_of (show (q_X10_16 h0 oa ob oc od).1[23]? = some (0, 1, [2, 2, 0]) by rw [(sq_X10_16 oa ob oc od z)]; rfl), k_okv_of (show (q_X10_16 h0 oa ob oc od).1[0]? = some (0, 10, [4, 6, 13, 20, 23, 2, 2, 2, 2, 2, 2, 2, 2, 2, 0]) by rw [(sq_X10_16 oa ob oc od z)]; rfl), True.intro⟩ ?_
  rintro v11 ad11 h12 ⟨rfl, rfl⟩ hsm11 C11
  change k_W X _ _ _ _ _ (q_X10_17 h0 oa ob oc od) _ _ [.ref 23, .ref 0]
  refine g_setR (sl' := [4, 6, 13, 20, 23, 26, 2, 2, 2, 2, 2, 2, 2, 2, 0]) C11 hnm dX10_init_67 (rfl : 67 + 3 = 70) ff_X10_36 (show (q_X10_17 h0 oa ob oc od).1[0]? = some (0, 10, [4, 6, 13, 20, 23, 2, 2, 2, 2, 2, 2, 2, 2, 2, 0]) by rw [(sq_X10_17 oa ob oc od z)]; rfl) (Nat.le_of_ble_eq_true rfl) (k_lt_of (show (q_X10_17 h0 oa ob oc od).1[23]? = some (0, 1, [27, 28, 0]) by rw [(sq_X10_17 oa ob oc od z)]; rfl)) rfl ?_
  change k_W X _ _ _ _ _ (q_X10_18 h0 oa ob oc od) _ _ _
  refine r_aload_n C11 dX10_init_70 (rfl : 70 + 1 = 71) rfl ?_
  refine r_getR (q := 17) C11 dX10_init_71 (rfl : 71 + 3 = 74) fl_X10_29 (show (q_X10_18 h0 oa ob oc od).1[0]? = some (0, 10, [4, 6, 13, 20, 23, 26, 2, 2, 2, 2, 2, 2, 2, 2, 0]) by rw [(sq_X10_18 oa ob oc od z)]; rfl) rfl ?_
  refine c_Vp (pi := [17, 18, 19]) (shl := shLaw) (bl := 0) (b := 17) (As := []) (Al := []) (st := []) (v := none) (us := [(0, .inl (2, oe.1)), (1, .inr (.inr (.inl oe.2)))]) C11 hR (k_csl hRc hRs rfl rfl) mv_X1_beFall lk_X10_39 dX10_init_74 (rfl : 74 + 3 = 77) rfl rfl (show k_ck [17, 18, 19] shLaw (q_X10_18 h0 oa ob oc od).1 = true by rw [(sq_X10_18 oa ob oc od z)]; decide +kernel) rfl rfl (c_X1_beFall X.l u (k_pl [17, 18, 19] shLaw (q_X10_18 h0 oa ob oc od)) rfl (k_plI (p := 17) rfl rfl) (k_plA (p := 18) rfl rfl) oef) rfl (fun _ => rfl) rfl (fun _ => rfl) rfl rfl rfl ?_
  change k_W X _ _ _ _ _ (q_X10_19 h0 oa ob oc od oe) _ _ _
  refine r_aload_n C11 dX10_init_77 (rfl : 77 + 1 = 78) rfl ?_
  refine r_getR (q := 20) C11 dX10_init_78 (rfl : 78 + 3 = 81) fl_X10_33 (show (q_X10_19 h0 oa ob oc od oe).1[0]? = some (0, 10, [4, 6, 13, 20, 23, 26, 2, 2, 2, 2, 2, 2, 2, 2, 0]) by rw [(sq_X10_19 oa ob oc od oe z)]; rfl) rfl ?_
  refine c_Vp (pi := [20, 21, 22]) (shl := shLaw) (bl := 0) (b := 20) (As := []) (Al := []) (st := []) (v := none) (us := [(0, .inl (2, og.1)), (1, .inr (.inr (.inl og.2)))]) C11 hR (k_csl hRc hRs rfl rfl) mv_X1_beHarm lk_X10_42 dX10_init_81 (rfl : 81 + 3 = 84) rfl rfl (show k_ck [20, 21, 22] shLaw (q_X10_19 h0 oa ob oc od oe).1 = true by rw [(sq_X10_19 oa ob oc od oe z)]; decide +kernel) rfl rfl (c_X1_beHarm X.l u (k_pl [20, 21, 22] shLaw (q_X10_19 h0 oa ob oc od oe)) rfl (k_plI (p := 20) rfl rfl) (k_plA (p := 21) rfl rfl) ogf) rfl (fun _ => rfl) rfl (fun _ => rfl) rfl rfl rfl ?_
  change k_W X _ _ _ _ _ (q_X10_20 h0 oa ob oc od oe og) _ _ _
  refine r_aload_n C11 dX10_init_84 (rfl : 84 + 1 = 85) rfl ?_
  have hln12 : (q_X10_20 h0 oa ob oc od oe og).1.length = 26 := by rw [(sq_X10_20 oa ob oc od oe og z)]; rfl
  refine g_new (ci := 3) (sl := [2, 2, 2, 1, 1, 1, 2, 2, 2, 2, 0, 0, 0, 0, 0, 0, 0, 0]) C11 dX10_init_85 (rfl : 85 + 3 = 88) rfl in_X3 tyX3_ok (k_me (tm1 (List.mem_of_getElem? (i := 190) rfl)) rfl) (k_me (tm1 (List.mem_of_getElem? (i := 191) rfl)) rfl) (k_me (tm1 (List.mem_of_getElem? (i := 6) rfl)) rfl) hfs_X3 hz_X3 (k_csl hRc hRs rfl rfl) (by rw [hln12]; decide) ⟨k_okv_of (show (q_X10_20 h0 oa ob oc od oe og).1[0]? = some (0, 10, [4, 6, 13, 20, 23, 26, 2, 2, 2, 2, 2, 2, 2, 2, 0]) by rw [(sq_X10_20 oa ob oc od oe og z)]; rfl), True.intro⟩ ⟨k_okv_of (show (q_X10_20 h0 oa ob oc od oe og).1[0]? = some (0, 10, [4, 6, 13, 20, 23, 26, 2, 2, 2, 2, 2, 2, 2, 2, 0]) by rw [(sq_X10_20 oa ob oc od oe og z)]; rfl), True.intro⟩ ?_
  intro ad12 hsm12 C12
  rw [hln12]
  change k_W X _ _ _ _ _ (q_X10_21 h0 oa ob oc od oe og) _ _ _
  refine r_dup C12 dX10_init_88 (rfl : 88 + 1 = 89) rfl ?_
  refine r_aload_n C12 dX10_init_89 (rfl : 89 + 1 = 90) rfl ?_
  refine r_getR (q := 3) C12 dX10_init_90 (rfl : 90 + 3 = 93) fl_X10_19 (show (q_X10_21 h0 oa ob oc od oe og).1[0]? = some (0, 10, [4, 6, 13, 20, 23, 26, 2, 2, 2, 2, 2, 2, 2, 2, 0]) by rw [(sq_X10_21 oa ob oc od oe og z)]; rfl) rfl ?_
  refine r_aload_n C12 dX10_init_93 (rfl : 93 + 1 = 94) rfl ?_
  refine r_getR (q := 17) C12 dX10_init_94 (rfl : 94 + 3 = 97) fl_X10_29 (show (q_X10_21 h0 oa ob oc od oe og).1[0]? = some (0, 10, [4, 6, 13, 20, 23, 26, 2, 2, 2, 2, 2, 2, 2, 2, 0]) by rw [(sq_X10_21 oa ob oc od oe og z)]; rfl) rfl ?_
  refine r_aload_n C12 dX10_init_97 (rfl : 97 + 1 = 98) rfl ?_
  refine r_getR (q := 20) C12 dX10_init_98 (rfl : 98 + 3 = 101) fl_X10_33 (show (q_X10_21 h0 oa ob oc od oe og).1[0]? = some (0, 10, [4, 6, 13, 20, 23, 26, 2, 2, 2, 2, 2, 2, 2, 2, 0]) by rw [(sq_X10_21 oa ob oc od oe og z)]; rfl) rfl ?_
  refine c_IG (As := [.ref 3, .ref 17, .ref 20]) (st := [.ref 26, .ref 0]) (b := 26) C12 hR (k_csl hRc hRs rfl rfl) mi_X3_init lk_X10_47 dX10_init_101 (rfl : 101 + 3 = 104) rfl rfl (c_X3_init X.l (q_X10_21 h0 oa ob oc od oe og) (show (q_X10_21 h0 oa ob oc od oe og).1[26]? = some (0, 3, [2, 2, 2, 1, 1, 1, 2, 2, 2, 2, 0, 0, 0, 0, 0, 0, 0, 0]) by rw [(sq_X10_21 oa ob oc od oe og z)]; rfl) (show (q_X10_21 h0 oa ob oc od oe og).1[3]? = some (0, 5, [0, 0, 7, 8, 9, 1, 1, 0, 0, 0, 0, 10, 11, 12]) by rw [(sq_X10_21 oa ob oc od oe og z)]; rfl) (by decide) (show (q_X10_21 h0 oa ob oc od oe og).1[17]? = some (0, 1, [21, 22, 0]) by rw [(sq_X10_21 oa ob oc od oe og z)]; rfl) (by decide) (show (q_X10_21 h0 oa ob oc od oe og).1[20]? = some (0, 1, [24, 25, 0]) by rw [(sq_X10_21 oa ob oc od oe og z)]; rfl) (by decide) (by rw [(sq_X10_21 oa ob oc od oe og z)]; first | done | rfl) (by decide)) rfl rfl rfl ⟨k_okv_of (show (q_X10_21 h0 oa ob oc od oe og).1[0]? = some (0, 10, [4, 6, 13, 20, 23, 26, 2, 2, 2, 2, 2, 2, 2, 2, 0]) by rw [(sq_X10_21 oa ob oc od oe og z)]; rfl), True.intro⟩ ⟨k_okv_of (show (q_X10_21 h0 oa ob oc od oe og).1[26]? = some (0, 3, [2, 2, 2, 1, 1, 1, 2, 2, 2, 2, 0, 0, 0, 0, 0, 0, 0, 0]) by rw [(sq_X10_21 oa ob oc od oe og z)]; rfl), k_okv_of (show (q_X10_21 h0 oa ob oc od oe og).1[0]? = some (0, 10, [4, 6, 13, 20, 23, 26, 2, 2, 2, 2, 2, 2, 2, 2, 0]) by rw [(sq_X10_21 oa ob oc od oe og z)]; rfl), True.intro⟩ ?_
  rintro v13 ad13 h14 ⟨rfl, rfl⟩ hsm13 C13
  change k_W X _ _ _ _ _ (q_X10_22 h0 oa ob oc od oe og) _ _ [.ref 26, .ref 0]
  refine g_setR (sl' := [4, 6, 13, 20, 23, 26, 29, 2, 2, 2, 2, 2, 2, 2, 0]) C13 hnm dX10_init_104 (rfl : 104 + 3 = 107) ff_X10_50 (show (q_X10_22 h0 oa ob oc od oe og).1[0]? = some (0, 10, [4, 6, 13, 20, 23, 26, 2, 2, 2, 2, 2, 2, 2, 2, 0]) by rw [(sq_X10_22 oa ob oc od oe og z)]; rfl) (Nat.le_of_ble_eq_true rfl) (k_lt_of (show (q_X10_22 h0 oa ob oc od oe og).1[26]? = some (0, 3, [6, 20, 23, 1, 1, 1, 30, 31, 32, 33, 0, 0, 0, 0, 0, 0, 0, 0]) by rw [(sq_X10_22 oa ob oc od oe og z)]; rfl)) rfl ?_
  change k_W X _ _ _ _ _ (q_X10_23 h0 oa ob oc od oe og) _ _ _
  refine r_aload_n C13 dX10_init_107 (rfl : 107 + 1 = 108) rfl ?_
  refine r_getR (q := 26) C13 dX10_init_108 (rfl : 108 + 3 = 111) fl_X10_50 (show (q_X10_23 h0 oa ob oc od oe og).1[0]? = some (0, 10, [4, 6, 13, 20, 23, 26, 29, 2, 2, 2, 2, 2, 2, 2, 0]) by rw [(sq_X10_23 oa ob oc od oe og z)]; rfl) rfl ?_
  refine c_Vp (pi := [26, 27, 28, 29, 30, 3, 4, 5, 6, 7, 8, 9, 17, 18, 19, 20, 21, 22]) (shl := shMine) (bl := 0) (b := 26) (As := []) (Al := []) (st := []) (v := none) (us := [(0, .inl (10, oh.1)), (0, .inl (11, oh.2.1)), (0, .inl (12, oh.2.2.1)), (0, .inl (13, oh.2.2.2.1)), (0, .inl (14, oh.2.2.2.2.1)), (0, .inl (15, oh.2.2.2.2.2.1)), (0, .inl (16, oh.2.2.2.2.2.2.1)), (0, .inl (17, oh.2.2.2.2.2.2.2.1)), (0, .inr (.inl (3, oh.2.2.2.2.2.2.2.2.1))), (0, .inr (.inl (4, oh.2.2.2.2.2.2.2.2.2.1))), (0, .inr (.inl (5, oh.2.2.2.2.2.2.2.2.2.2.1))), (1, .inr (.inr (.inl oh.2.2.2.2.2.2.2.2.2.2.2.1))), (2, .inr (.inr (.inl oh.2.2.2.2.2.2.2.2.2.2.2.2.1))), (3, .inr (.inr (.inl oh.2.2.2.2.2.2.2.2.2.2.2.2.2.1))), (4, .inr (.inr (.inl oh.2.2.2.2.2.2.2.2.2.2.2.2.2.2)))]) C13 hR (k_csl hRc hRs rfl rfl) mv_X3_begin lk_X10_54 dX10_init_111 (rfl : 111 + 3 = 114) rfl rfl (show k_ck [26, 27, 28, 29, 30, 3, 4, 5, 6, 7, 8, 9, 17, 18, 19, 20, 21, 22] shMine (q_X10_23 h0 oa ob oc od oe og).1 = true by rw [(sq_X10_23 oa ob oc od oe og z)]; decide +kernel) rfl rfl (c_X3_begin X.l u (k_pl [26, 27, 28, 29, 30, 3, 4, 5, 6, 7, 8, 9, 17, 18, 19, 20, 21, 22] shMine (q_X10_23 h0 oa ob oc od oe og)) rfl (k_plI (p := 26) rfl rfl) (k_plI (p := 26) rfl rfl) (k_plI (p := 26) rfl rfl) (k_plI (p := 26) rfl rfl) (k_plI (p := 26) rfl rfl) (k_plI (p := 26) rfl rfl) (k_plI (p := 26) rfl rfl) (k_plI (p := 26) rfl rfl) (k_plL (p := 26) rfl rfl) (k_plL (p := 26) rfl rfl) (k_plL (p := 26) rfl rfl) (k_plA (p := 27) rfl rfl) (k_plA (p := 28) rfl rfl) (k_plA (p := 29) rfl rfl) (k_plA (p := 30) rfl rfl) (k_plI (p := 3) rfl rfl) (k_plI (p := 3) rfl rfl) ohf) rfl (fun _ => rfl) rfl (fun _ => rfl) rfl rfl rfl ?_
  change k_W X _ _ _ _ _ (q_X10_24 h0 oa ob oc od oe og oh) _ _ _
  refine r_aload_n C13 dX10_init_114 (rfl : 114 + 1 = 115) rfl ?_
  have hln14 : (q_X10_24 h0 oa ob oc od oe og oh).1.length = 31 := by rw [(sq_X10_24 oa ob oc od oe og oh z)]; rfl
  refine g_new (ci := 6) (sl := [2, 2, 2, 0, 0, 0, 0]) C13 dX10_init_115 (rfl : 115 + 3 = 118) rfl in_X6 tyX6_ok (k_me (tm2 (List.mem_of_getElem? (i := 35) rfl)) rfl) (k_me (tm2 (List.mem_of_getElem? (i := 36) rfl)) rfl) (k_me (tm1 (List.mem_of_getElem? (i := 7) rfl)) rfl) hfs_X6 hz_X6 (k_csl hRc hRs rfl rfl) (by rw [hln14]; decide) ⟨k_okv_of (show (q_X10_24 h0 oa ob oc od oe og oh).1[0]? = some (0, 10, [4, 6, 13, 20, 23, 26, 29, 2, 2, 2, 2, 2, 2, 2, 0]) by rw [(sq_X10_24 oa ob oc od oe og oh z)]; rfl), True.intro⟩ ⟨k_okv_of (show (q_X10_24 h0 oa ob oc od oe og oh).1[0]? = some (0, 10, [4, 6, 13, 20, 23, 26, 29, 2, 2, 2, 2, 2, 2, 2, 0]) by rw [(sq_X10_24 oa ob oc od oe og oh z)]; rfl), True.intro⟩ ?_
  intro ad14 hsm14 C14
  rw [hln14]
  change k_W X _ _ _ _ _ (q_X10_25 h0 oa ob oc od oe og oh) _ _ _
  refine r_dup C14 dX10_init_118 (rfl : 118 + 1 = 119) rfl ?_
  refine c_IG (As := []) (st := [.ref 31, .ref 0]) (b := 31) C14 hR (k_csl hRc hRs rfl rfl) mi_X6_init lk_X10_59 dX10_init_119 (rfl : 119 + 3 = 122) rfl rfl (c_X6_init X.l (q_X10_25 h0 oa ob oc od oe og oh) (show (q_X10_25 h0 oa ob oc od oe og oh).1[31]? = some (0, 6, [2, 2, 2, 0, 0, 0, 0]) by rw [(sq_X10_25 oa ob oc od oe og oh z)]; rfl) (by rw [(sq_X10_25 oa ob oc od oe og oh z)]; first | done | rfl) (by decide)) rfl rfl rfl ⟨k_okv_of (show (q_X10_25 h0 oa ob oc od oe og oh).1[0]? = some (0, 10, [4, 6, 13, 20, 23, 26, 29, 2, 2, 2, 2, 2, 2, 2, 0]) by rw [(sq_X10_25 oa ob oc od oe og oh z)]; rfl), True.intro⟩ ⟨k_okv_of (show (q_X10_25 h0 oa ob oc od oe og oh).1[31]? = some (0, 6, [2, 2, 2, 0, 0, 0, 0]) by rw [(sq_X10_25 oa ob oc od oe og oh z)]; rfl), k_okv_of (show (q_X10_25 h0 oa ob oc od oe og oh).1[0]? = some (0, 10, [4, 6, 13, 20, 23, 26, 29, 2, 2, 2, 2, 2, 2, 2, 0]) by rw [(sq_X10_25 oa ob oc od oe og oh z)]; rfl), True.intro⟩ ?_
  rintro v15 ad15 h16 ⟨rfl, rfl⟩ hsm15 C15
  change k_W X _ _ _ _ _ (q_X10_26 h0 oa ob oc od oe og oh) _ _ [.ref 31, .ref 0]
  refine g_setR (sl' := [4, 6, 13, 20, 23, 26, 29, 34, 2, 2, 2, 2, 2, 2, 0]) C15 hnm dX10_init_122 (rfl : 122 + 3 = 125) ff_X10_60 (show (q_X10_26 h0 oa ob oc od oe og oh).1[0]? = some (0, 10, [4, 6, 13, 20, 23, 26, 29, 2, 2, 2, 2, 2, 2, 2, 0]) by rw [(sq_X10_26 oa ob oc od oe og oh z)]; rfl) (Nat.le_of_ble_eq_true rfl) (k_lt_of (show (q_X10_26 h0 oa ob oc od oe og oh).1[31]? = some (0, 6, [35, 36, 37, 0, 0, 0, 0]) by rw [(sq_X10_26 oa ob oc od oe og oh z)]; rfl)) rfl ?_
  change k_W X _ _ _ _ _ (q_X10_27 h0 oa ob oc od oe og oh) _ _ _
  refine r_aload_n C15 dX10_init_125 (rfl : 125 + 1 = 126) rfl ?_
  have hln16 : (q_X10_27 h0 oa ob oc od oe og oh).1.length = 35 := by rw [(sq_X10_27 oa ob oc od oe og oh z)]; rfl
  refine g_new (ci := 4) (sl := [2, 0, 2, 2, 2, 0]) C15 dX10_init_126 (rfl : 126 + 3 = 129) rfl in_X4 tyX4_ok (k_me (tm2 (List.mem_of_getElem? (i := 66) rfl)) rfl) (k_me (tm2 (List.mem_of_getElem? (i := 67) rfl)) rfl) (k_me (tm1 (List.mem_of_getElem? (i := 8) rfl)) rfl) hfs_X4 hz_X4 (k_csl hRc hRs rfl rfl) (by rw [hln16]; decide) ⟨k_okv_of (show (q_X10_27 h0 oa ob oc od oe og oh).1[0]? = some (0, 10, [4, 6, 13, 20, 23, 26, 29, 34, 2, 2, 2, 2, 2, 2, 0]) by rw [(sq_X10_27 oa ob oc od oe og oh z)]; rfl), True.intro⟩ ⟨k_okv_of (show (q_X10_27 h0 oa ob oc od oe og oh).1[0]? = some (0, 10, [4, 6, 13, 20, 23, 26, 29, 34, 2, 2, 2, 2, 2, 2, 0]) by rw [(sq_X10_27 oa ob oc od oe og oh z)]; rfl), True.intro⟩ ?_
  intro ad16 hsm16 C16
  rw [hln16]
  change k_W X _ _ _ _ _ (q_X10_28 h0 oa ob oc od oe og oh) _ _ _
  refine r_dup C16 dX10_init_129 (rfl : 129 + 1 = 130) rfl ?_
  refine c_IG (As := []) (st := [.ref 35, .ref 0]) (b := 35) C16 hR (k_csl hRc hRs rfl rfl) mi_X4_init lk_X10_66 dX10_init_130 (rfl : 130 + 3 = 133) rfl rfl (c_X4_init X.l (q_X10_28 h0 oa ob oc od oe og oh) (show (q_X10_28 h0 oa ob oc od oe og oh).1[35]? = some (0, 4, [2, 0, 2, 2, 2, 0]) by rw [(sq_X10_28 oa ob oc od oe og oh z)]; rfl) (by rw [(sq_X10_28 oa ob oc od oe og oh z)]; first | done | rfl) (by decide)) rfl rfl rfl ⟨k_okv_of (show (q_X10_28 h0 oa ob oc od oe og oh).1[0]? = some (0, 10, [4, 6, 13, 20, 23, 26, 29, 34, 2, 2, 2, 2, 2, 2, 0]) by rw [(sq_X10_28 oa ob oc od oe og oh z)]; rfl), True.intro⟩ ⟨k_okv_of (show (q_X10_28 h0 oa ob oc od oe og oh).1[35]? = some (0, 4, [2, 0, 2, 2, 2, 0]) by rw [(sq_X10_28 oa ob oc od oe og oh z)]; rfl), k_okv_of (show (q_X10_28 h0 oa ob oc od oe og oh).1[0]? = some (0, 10, [4, 6, 13, 20, 23, 26, 29, 34, 2, 2, 2, 2, 2, 2, 0]) by rw [(sq_X10_28 oa ob oc od oe og oh z)]; rfl), True.intro⟩ ?_
  rintro v17 ad17 h18 ⟨rfl, rfl⟩ hsm17 C17
  change k_W X _ _ _ _ _ (q_X10_29 h0 oa ob oc od oe og oh) _ _ [.ref 35, .ref 0]
  refine g_setR (sl' := [4, 6, 13, 20, 23, 26, 29, 34, 38, 2, 2, 2, 2, 2, 0]) C17 hnm dX10_init_133 (rfl : 133 + 3 = 136) ff_X10_67 (show (q_X10_29 h0 oa ob oc od oe og oh).1[0]? = some (0, 10, [4, 6, 13, 20, 23, 26, 29, 34, 2, 2, 2, 2, 2, 2, 0]) by rw [(sq_X10_29 oa ob oc od oe og oh z)]; rfl) (Nat.le_of_ble_eq_true rfl) (k_lt_of (show (q_X10_29 h0 oa ob oc od oe og oh).1[35]? = some (0, 4, [39, 0, 40, 41, 42, 0]) by rw [(sq_X10_29 oa ob oc od oe og oh z)]; rfl)) rfl ?_
  change k_W X _ _ _ _ _ (q_X10_30 h0 oa ob oc od oe og oh) _ _ _
  exact kk _ C17 (k_sm_tr (k_sm_tr (k_sm_tr (k_sm_tr (k_sm_tr (k_sm_tr (k_sm_tr (k_sm_tr (k_sm_tr (k_sm_tr (k_sm_tr (k_sm_tr (k_sm_tr (k_sm_tr (k_sm_tr (k_sm_tr (k_sm_tr hsm0 hsm1 (by rw [z, (sq_X10_1 z)]; decide)) hsm2 (by rw [z, (sq_X10_3 z)]; decide)) hsm3 (by rw [z, (sq_X10_4 z)]; decide)) hsm4 (by rw [z, (sq_X10_6 oa ob z)]; decide)) hsm5 (by rw [z, (sq_X10_7 oa ob z)]; decide)) hsm6 (by rw [z, (sq_X10_9 oa ob oc od z)]; decide)) hsm7 (by rw [z, (sq_X10_10 oa ob oc od z)]; decide)) hsm8 (by rw [z, (sq_X10_12 oa ob oc od z)]; decide)) hsm9 (by rw [z, (sq_X10_13 oa ob oc od z)]; decide)) hsm10 (by rw [z, (sq_X10_15 oa ob oc od z)]; decide)) hsm11 (by rw [z, (sq_X10_16 oa ob oc od z)]; decide)) hsm12 (by rw [z, (sq_X10_20 oa ob oc od oe og z)]; decide)) hsm13 (by rw [z, (sq_X10_21 oa ob oc od oe og z)]; decide)) hsm14 (by rw [z, (sq_X10_24 oa ob oc od oe og oh z)]; decide)) hsm15 (by rw [z, (sq_X10_25 oa ob oc od oe og oh z)]; decide)) hsm16 (by rw [z, (sq_X10_27 oa ob oc od oe og oh z)]; decide)) hsm17 (by rw [z, (sq_X10_28 oa ob oc od oe og oh z)]; decide))
