/-! LullabyPit$Program.isDone(LLullabyPit$Mine;III)Z -/
theorem ds_X6_isDone : k_ds [(0, 0, 10), (0, 0, 11), (0, 0, 12), (0, 0, 13), (0, 0, 14), (0, 0, 15), (0, 0, 16), (0, 0, 17), (0, 1, 3), (0, 1, 4), (0, 1, 5), (1, 2, 0), (2, 2, 0), (3, 2, 0), (4, 2, 0), (14, 2, 0), (17, 2, 0)] = true := by decide +kernel
set_option maxHeartbeats 1000000 in
set_option maxRecDepth 100000 in
theorem sX6_isDone_0 (u : Nat) {X : k_X} {ad : Nat → Nat} (C : k_C X cX6_isDone RX6 4 ad) (hr : X.meth.sig.returnType = (some .boolean)) (hR : X.R.frames = 5 ∧ X.R.locals = 121) {I : Nat → Nat → Int32} {L : Nat → Nat → Int64} {Rf : Nat → Nat → Option Nat} {c5_1 : Int32} (ec5_1 : I 5 1 = c5_1) {c5_8 : Int32} (ec5_8 : I 5 8 = c5_8) {c5_10 : Int32} (ec5_10 : I 5 10 = c5_10) {c5_5 : Int64} (ec5_5 : L 5 5 = c5_5) {c5_6 : Int64} (ec5_6 : L 5 6 = c5_6) {a6 : (Nat → Int32)} (ea6 : I 6 = a6) {a7 : (Nat → Int32)} (ea7 : I 7 = a7) {a8 : (Nat → Int32)} (ea8 : I 8 = a8) {a9 : (Nat → Int32)} (ea9 : I 9 = a9) {a10 : (Nat → Int32)} (ea10 : I 10 = a10) {a11 : (Nat → Int32)} (ea11 : I 11 = a11) {c12_2 : Int32} (ec12_2 : I 12 2 = c12_2) {a13 : (Nat → Int32)} (ea13 : I 13 = a13) {c15_2 : Int32} (ec15_2 : I 15 2 = c15_2) {a16 : (Nat → Int32)} (ea16 : I 16 = a16) {out : Int32 × Int32 × Int32 × Int32 × Int32 × Int32 × Int32 × Int32 × Int32 × Int64 × Int64 × Int64 × (Nat → Int32) × (Nat → Int32) × (Nat → Int32) × (Nat → Int32) × (Nat → Int32) × (Nat → Int32)} : ∀ (c0_10 : Int32) (c0_11 : Int32) (c0_12 : Int32) (c0_13 : Int32) (c0_14 : Int32) (c0_15 : Int32) (c0_16 : Int32) (c0_17 : Int32) (c0_3 : Int64) (c0_4 : Int64) (c0_5 : Int64) (a1 : (Nat → Int32)) (a2 : (Nat → Int32)) (a3 : (Nat → Int32)) (a4 : (Nat → Int32)) (a14 : (Nat → Int32)) (a17 : (Nat → Int32)) (v1 : Int32) (v2 : Int32) (v3 : Int32), bX6_isDone_0 u c5_1 c5_8 c5_10 c5_5 c5_6 a6 a7 a8 a9 a10 a11 c12_2 a13 c15_2 a16 c0_10 c0_11 c0_12 c0_13 c0_14 c0_15 c0_16 c0_17 c0_3 c0_4 c0_5 a1 a2 a3 a4 a14 a17 v1 v2 v3 = some out → k_W X 4 0 0 (k_Q X ad (some (.int out.1)) (k_ap [(0, .inl (10, out.2.1)), (0, .inl (11, out.2.2.1)), (0, .inl (12, out.2.2.2.1)), (0, .inl (13, out.2.2.2.2.1)), (0, .inl (14, out.2.2.2.2.2.1)), (0, .inl (15, out.2.2.2.2.2.2.1)), (0, .inl (16, out.2.2.2.2.2.2.2.1)), (0, .inl (17, out.2.2.2.2.2.2.2.2.1)), (0, .inr (.inl (3, out.2.2.2.2.2.2.2.2.2.1))), (0, .inr (.inl (4, out.2.2.2.2.2.2.2.2.2.2.1))), (0, .inr (.inl (5, out.2.2.2.2.2.2.2.2.2.2.2.1))), (1, .inr (.inr (.inl out.2.2.2.2.2.2.2.2.2.2.2.2.1))), (2, .inr (.inr (.inl out.2.2.2.2.2.2.2.2.2.2.2.2.2.1))), (3, .inr (.inr (.inl out.2.2.2.2.2.2.2.2.2.2.2.2.2.2.1))), (4, .inr (.inr (.inl out.2.2.2.2.2.2.2.2.2.2.2.2.2.2.2.1))), (14, .inr (.inr (.inl out.2.2.2.2.2.2.2.2.2.2.2.2.2.2.2.2.1))), (17, .inr (.inr (.inl out.2.2.2.2.2.2.2.2.2.2.2.2.2.2.2.2.2)))] (shMine, I, L, Rf))) ad (k_ap [(0, .inl (10, c0_10)), (0, .inl (11, c0_11)), (0, .inl (12, c0_12)), (0, .inl (13, c0_13)), (0, .inl (14, c0_14)), (0, .inl (15, c0_15)), (0, .inl (16, c0_16)), (0, .inl (17, c0_17)), (0, .inr (.inl (3, c0_3))), (0, .inr (.inl (4, c0_4))), (0, .inr (.inl (5, c0_5))), (1, .inr (.inr (.inl a1))), (2, .inr (.inr (.inl a2))), (3, .inr (.inr (.inl a3))), (4, .inr (.inr (.inl a4))), (14, .inr (.inr (.inl a14))), (17, .inr (.inr (.inl a17)))] (shMine, I, L, Rf)) 0 [some (.ref 0), some (.int v1), some (.int v2), some (.int v3)] [] := by
  intro c0_10 c0_11 c0_12 c0_13 c0_14 c0_15 c0_16 c0_17 c0_3 c0_4 c0_5 a1 a2 a3 a4 a14 a17 v1 v2 v3 h
  unfold bX6_isDone_0 at h
  refine r_iload_n C dX6_isDone_0 (rfl : 0 + 1 = 1) rfl ?_
  by_cases c1_0 : v1 = (0 : Int32)
  · have h := k_t c1_0 h
    refine r_tabIn (off := 31) (tgt := 32) C dX6_isDone_1 (by rw [c1_0]; decide) (by rw [c1_0]; decide) (by rw [c1_0]; rfl) (by decide) ?_
    refine r_aload_n C dX6_isDone_32 (rfl : 32 + 1 = 33) rfl ?_
    refine r_iload_n C dX6_isDone_33 (rfl : 33 + 1 = 34) rfl ?_
    obtain ⟨r34, q34, h⟩ := k_b_of h
    refine d_V (As := [.int v2]) (st := []) (st' := [.int r34]) (h' := k_ap [(0, .inl (10, c0_10)), (0, .inl (11, c0_11)), (0, .inl (12, c0_12)), (0, .inl (13, c0_13)), (0, .inl (14, c0_14)), (0, .inl (15, c0_15)), (0, .inl (16, c0_16)), (0, .inl (17, c0_17)), (0, .inr (.inl (3, c0_3))), (0, .inr (.inl (4, c0_4))), (0, .inr (.inl (5, c0_5))), (1, .inr (.inr (.inl a1))), (2, .inr (.inr (.inl a2))), (3, .inr (.inr (.inl a3))), (4, .inr (.inr (.inl a4))), (14, .inr (.inr (.inl a14))), (17, .inr (.inr (.inl a17)))] (shMine, I, L, Rf)) C hR ⟨Nat.zero_le _, Nat.zero_le _⟩ mv_X3_obstacle lk_X6_95 dX6_isDone_34 (rfl : 34 + 3 = 37) rfl rfl (k_gS rfl) rfl (c_X3_obstacle X.l u (k_ap [(0, .inl (10, c0_10)), (0, .inl (11, c0_11)), (0, .inl (12, c0_12)), (0, .inl (13, c0_13)), (0, .inl (14, c0_14)), (0, .inl (15, c0_15)), (0, .inl (16, c0_16)), (0, .inl (17, c0_17)), (0, .inr (.inl (3, c0_3))), (0, .inr (.inl (4, c0_4))), (0, .inr (.inl (5, c0_5))), (1, .inr (.inr (.inl a1))), (2, .inr (.inr (.inl a2))), (3, .inr (.inr (.inl a3))), (4, .inr (.inr (.inl a4))), (14, .inr (.inr (.inl a14))), (17, .inr (.inr (.inl a17)))] (shMine, I, L, Rf)) (k_gH rfl) (k_gI ds_X6_isDone rfl 1 rfl) (k_gI ds_X6_isDone rfl 5 rfl) (k_gL ds_X6_isDone rfl 8 rfl) (k_gL ds_X6_isDone rfl 9 rfl) (k_gOI (ks := [(0, 0, 10), (0, 0, 11), (0, 0, 12), (0, 0, 13), (0, 0, 14), (0, 0, 15), (0, 0, 16), (0, 0, 17), (0, 1, 3), (0, 1, 4), (0, 1, 5), (1, 2, 0), (2, 2, 0), (3, 2, 0), (4, 2, 0), (14, 2, 0), (17, 2, 0)]) rfl (by decide +kernel) ec5_8) (k_gOL (ks := [(0, 0, 10), (0, 0, 11), (0, 0, 12), (0, 0, 13), (0, 0, 14), (0, 0, 15), (0, 0, 16), (0, 0, 17), (0, 1, 3), (0, 1, 4), (0, 1, 5), (1, 2, 0), (2, 2, 0), (3, 2, 0), (4, 2, 0), (14, 2, 0), (17, 2, 0)]) rfl (by decide +kernel) ec5_5) (k_gOL (ks := [(0, 0, 10), (0, 0, 11), (0, 0, 12), (0, 0, 13), (0, 0, 14), (0, 0, 15), (0, 0, 16), (0, 0, 17), (0, 1, 3), (0, 1, 4), (0, 1, 5), (1, 2, 0), (2, 2, 0), (3, 2, 0), (4, 2, 0), (14, 2, 0), (17, 2, 0)]) rfl (by decide +kernel) ec5_6) q34) rfl rfl rfl rfl rfl ?_
    refine r_if_eq (tgt := 42) C dX6_isDone_37 (by decide) (rfl : 37 + 3 = 40) (fun c37 => ?_) (fun c37 => ?_)
    · have h := k_t c37 h
      refine r_aload_n C dX6_isDone_42 (rfl : 42 + 1 = 43) rfl ?_
      refine r_iload_n C dX6_isDone_43 (rfl : 43 + 1 = 44) rfl ?_
      obtain ⟨r44, q44, h⟩ := k_b_of h
      refine d_V (As := [.int v2]) (st := []) (st' := []) (h' := k_ap [(0, .inl (10, c0_10)), (0, .inl (11, r44.1)), (0, .inl (12, c0_12)), (0, .inl (13, c0_13)), (0, .inl (14, r44.2.1)), (0, .inl (15, r44.2.2.1)), (0, .inl (16, r44.2.2.2.1)), (0, .inl (17, r44.2.2.2.2.1)), (0, .inr (.inl (3, r44.2.2.2.2.2.1))), (0, .inr (.inl (4, c0_4))), (0, .inr (.inl (5, r44.2.2.2.2.2.2.1))), (1, .inr (.inr (.inl r44.2.2.2.2.2.2.2.1))), (2, .inr (.inr (.inl a2))), (3, .inr (.inr (.inl a3))), (4, .inr (.inr (.inl a4))), (14, .inr (.inr (.inl r44.2.2.2.2.2.2.2.2.1))), (17, .inr (.inr (.inl r44.2.2.2.2.2.2.2.2.2)))] (shMine, I, L, Rf)) C hR ⟨Nat.zero_le _, Nat.zero_le _⟩ mv_X3_breakOpen lk_X6_101 dX6_isDone_44 (rfl : 44 + 3 = 47) rfl rfl (k_gS rfl) rfl (c_X3_breakOpen X.l u (k_ap [(0, .inl (10, c0_10)), (0, .inl (11, c0_11)), (0, .inl (12, c0_12)), (0, .inl (13, c0_13)), (0, .inl (14, c0_14)), (0, .inl (15, c0_15)), (0, .inl (16, c0_16)), (0, .inl (17, c0_17)), (0, .inr (.inl (3, c0_3))), (0, .inr (.inl (4, c0_4))), (0, .inr (.inl (5, c0_5))), (1, .inr (.inr (.inl a1))), (2, .inr (.inr (.inl a2))), (3, .inr (.inr (.inl a3))), (4, .inr (.inr (.inl a4))), (14, .inr (.inr (.inl a14))), (17, .inr (.inr (.inl a17)))] (shMine, I, L, Rf)) (k_gH rfl) (k_gI ds_X6_isDone rfl 0 rfl) (k_gI ds_X6_isDone rfl 1 rfl) (k_gI ds_X6_isDone rfl 4 rfl) (k_gI ds_X6_isDone rfl 5 rfl) (k_gI ds_X6_isDone rfl 6 rfl) (k_gI ds_X6_isDone rfl 7 rfl) (k_gL ds_X6_isDone rfl 8 rfl) (k_gL ds_X6_isDone rfl 9 rfl) (k_gL ds_X6_isDone rfl 10 rfl) (k_gA ds_X6_isDone rfl 11 rfl) (k_gOA (ks := [(0, 0, 10), (0, 0, 11), (0, 0, 12), (0, 0, 13), (0, 0, 14), (0, 0, 15), (0, 0, 16), (0, 0, 17), (0, 1, 3), (0, 1, 4), (0, 1, 5), (1, 2, 0), (2, 2, 0), (3, 2, 0), (4, 2, 0), (14, 2, 0), (17, 2, 0)]) rfl (by decide +kernel) ea6) (k_gOA (ks := [(0, 0, 10), (0, 0, 11), (0, 0, 12), (0, 0, 13), (0, 0, 14), (0, 0, 15), (0, 0, 16), (0, 0, 17), (0, 1, 3), (0, 1, 4), (0, 1, 5), (1, 2, 0), (2, 2, 0), (3, 2, 0), (4, 2, 0), (14, 2, 0), (17, 2, 0)]) rfl (by decide +kernel) ea7) (k_gOI (ks := [(0, 0, 10), (0, 0, 11), (0, 0, 12), (0, 0, 13), (0, 0, 14), (0, 0, 15), (0, 0, 16), (0, 0, 17), (0, 1, 3), (0, 1, 4), (0, 1, 5), (1, 2, 0), (2, 2, 0), (3, 2, 0), (4, 2, 0), (14, 2, 0), (17, 2, 0)]) rfl (by decide +kernel) ec12_2) (k_gOA (ks := [(0, 0, 10), (0, 0, 11), (0, 0, 12), (0, 0, 13), (0, 0, 14), (0, 0, 15), (0, 0, 16), (0, 0, 17), (0, 1, 3), (0, 1, 4), (0, 1, 5), (1, 2, 0), (2, 2, 0), (3, 2, 0), (4, 2, 0), (14, 2, 0), (17, 2, 0)]) rfl (by decide +kernel) ea13) (k_gA ds_X6_isDone rfl 15 rfl) (k_gOI (ks := [(0, 0, 10), (0, 0, 11), (0, 0, 12), (0, 0, 13), (0, 0, 14), (0, 0, 15), (0, 0, 16), (0, 0, 17), (0, 1, 3), (0, 1, 4), (0, 1, 5), (1, 2, 0), (2, 2, 0), (3, 2, 0), (4, 2, 0), (14, 2, 0), (17, 2, 0)]) rfl (by decide +kernel) ec15_2) (k_gOA (ks := [(0, 0, 10), (0, 0, 11), (0, 0, 12), (0, 0, 13), (0, 0, 14), (0, 0, 15), (0, 0, 16), (0, 0, 17), (0, 1, 3), (0, 1, 4), (0, 1, 5), (1, 2, 0), (2, 2, 0), (3, 2, 0), (4, 2, 0), (14, 2, 0), (17, 2, 0)]) rfl (by decide +kernel) ea16) (k_gA ds_X6_isDone rfl 16 rfl) q44) rfl rfl rfl (k_jn2 (us' := [(0, .inl (10, c0_10)), (0, .inl (11, r44.1)), (0, .inl (12, c0_12)), (0, .inl (13, c0_13)), (0, .inl (14, r44.2.1)), (0, .inl (15, r44.2.2.1)), (0, .inl (16, r44.2.2.2.1)), (0, .inl (17, r44.2.2.2.2.1)), (0, .inr (.inl (3, r44.2.2.2.2.2.1))), (0, .inr (.inl (4, c0_4))), (0, .inr (.inl (5, r44.2.2.2.2.2.2.1))), (1, .inr (.inr (.inl r44.2.2.2.2.2.2.2.1))), (2, .inr (.inr (.inl a2))), (3, .inr (.inr (.inl a3))), (4, .inr (.inr (.inl a4))), (14, .inr (.inr (.inl r44.2.2.2.2.2.2.2.2.1))), (17, .inr (.inr (.inl r44.2.2.2.2.2.2.2.2.2)))]) (vks := [(0, 0, 11), (0, 0, 14), (0, 0, 15), (0, 0, 16), (0, 0, 17), (0, 1, 3), (0, 1, 5), (1, 2, 0), (14, 2, 0), (17, 2, 0)]) (js := [1, 4, 5, 6, 7, 8, 10, 11, 15, 16]) ds_X6_isDone rfl rfl (by decide +kernel) rfl) rfl ?_
      refine r_iconst (v := (1 : Int32)) C dX6_isDone_47 (rfl : 47 + 1 = 48) rfl ?_
      cases h
      exact r_zret C hr (Or.inr rfl) dX6_isDone_48
    · have h := k_f c37 h
      refine r_iconst (v := (0 : Int32)) C dX6_isDone_40 (rfl : 40 + 1 = 41) rfl ?_
      cases h
      exact r_zret C hr (Or.inl rfl) dX6_isDone_41
  · have h := k_f c1_0 h
    by_cases c1_1 : v1 = (1 : Int32)
    · have h := k_t c1_1 h
      refine r_tabIn (off := 48) (tgt := 49) C dX6_isDone_1 (by rw [c1_1]; decide) (by rw [c1_1]; decide) (by rw [c1_1]; rfl) (by decide) ?_
      refine r_aload_n C dX6_isDone_49 (rfl : 49 + 1 = 50) rfl ?_
      refine r_iload_n C dX6_isDone_50 (rfl : 50 + 1 = 51) rfl ?_
      obtain ⟨r51, q51, h⟩ := k_b_of h
      refine d_V (As := [.int v2]) (st := []) (st' := [.int r51.1]) (h' := k_ap [(0, .inl (10, c0_10)), (0, .inl (11, c0_11)), (0, .inl (12, r51.2.1)), (0, .inl (13, c0_13)), (0, .inl (14, c0_14)), (0, .inl (15, c0_15)), (0, .inl (16, c0_16)), (0, .inl (17, c0_17)), (0, .inr (.inl (3, r51.2.2.1))), (0, .inr (.inl (4, r51.2.2.2))), (0, .inr (.inl (5, c0_5))), (1, .inr (.inr (.inl a1))), (2, .inr (.inr (.inl a2))), (3, .inr (.inr (.inl a3))), (4, .inr (.inr (.inl a4))), (14, .inr (.inr (.inl a14))), (17, .inr (.inr (.inl a17)))] (shMine, I, L, Rf)) C hR ⟨Nat.zero_le _, Nat.zero_le _⟩ mv_X3_propUp lk_X6_105 dX6_isDone_51 (rfl : 51 + 3 = 54) rfl rfl (k_gS rfl) rfl (c_X3_propUp X.l u (k_ap [(0, .inl (10, c0_10)), (0, .inl (11, c0_11)), (0, .inl (12, c0_12)), (0, .inl (13, c0_13)), (0, .inl (14, c0_14)), (0, .inl (15, c0_15)), (0, .inl (16, c0_16)), (0, .inl (17, c0_17)), (0, .inr (.inl (3, c0_3))), (0, .inr (.inl (4, c0_4))), (0, .inr (.inl (5, c0_5))), (1, .inr (.inr (.inl a1))), (2, .inr (.inr (.inl a2))), (3, .inr (.inr (.inl a3))), (4, .inr (.inr (.inl a4))), (14, .inr (.inr (.inl a14))), (17, .inr (.inr (.inl a17)))] (shMine, I, L, Rf)) (k_gH rfl) (k_gI ds_X6_isDone rfl 2 rfl) (k_gI ds_X6_isDone rfl 5 rfl) (k_gL ds_X6_isDone rfl 8 rfl) (k_gL ds_X6_isDone rfl 9 rfl) (k_gOL (ks := [(0, 0, 10), (0, 0, 11), (0, 0, 12), (0, 0, 13), (0, 0, 14), (0, 0, 15), (0, 0, 16), (0, 0, 17), (0, 1, 3), (0, 1, 4), (0, 1, 5), (1, 2, 0), (2, 2, 0), (3, 2, 0), (4, 2, 0), (14, 2, 0), (17, 2, 0)]) rfl (by decide +kernel) ec5_5) q51) rfl rfl rfl (k_jn2 (us' := [(0, .inl (10, c0_10)), (0, .inl (11, c0_11)), (0, .inl (12, r51.2.1)), (0, .inl (13, c0_13)), (0, .inl (14, c0_14)), (0, .inl (15, c0_15)), (0, .inl (16, c0_16)), (0, .inl (17, c0_17)), (0, .inr (.inl (3, r51.2.2.1))), (0, .inr (.inl (4, r51.2.2.2))), (0, .inr (.inl (5, c0_5))), (1, .inr (.inr (.inl a1))), (2, .inr (.inr (.inl a2))), (3, .inr (.inr (.inl a3))), (4, .inr (.inr (.inl a4))), (14, .inr (.inr (.inl a14))), (17, .inr (.inr (.inl a17)))]) (vks := [(0, 0, 12), (0, 1, 3), (0, 1, 4)]) (js := [2, 8, 9]) ds_X6_isDone rfl rfl (by decide +kernel) rfl) rfl ?_
      obtain ⟨hz, h⟩ := k_z_of h
      cases h
      exact r_zret C hr hz dX6_isDone_54
    · have h := k_f c1_1 h
      by_cases c1_2 : v1 = (2 : Int32)
      · have h := k_t c1_2 h
        refine r_tabIn (off := 54) (tgt := 55) C dX6_isDone_1 (by rw [c1_2]; decide) (by rw [c1_2]; decide) (by rw [c1_2]; rfl) (by decide) ?_
        refine r_aload_n C dX6_isDone_55 (rfl : 55 + 1 = 56) rfl ?_
        obtain ⟨r56, q56, h⟩ := k_b_of h
        refine d_V (As := []) (st := []) (st' := [.int r56.1]) (h' := k_ap [(0, .inl (10, c0_10)), (0, .inl (11, r56.2.1)), (0, .inl (12, c0_12)), (0, .inl (13, c0_13)), (0, .inl (14, c0_14)), (0, .inl (15, r56.2.2)), (0, .inl (16, c0_16)), (0, .inl (17, c0_17)), (0, .inr (.inl (3, c0_3))), (0, .inr (.inl (4, c0_4))), (0, .inr (.inl (5, c0_5))), (1, .inr (.inr (.inl a1))), (2, .inr (.inr (.inl a2))), (3, .inr (.inr (.inl a3))), (4, .inr (.inr (.inl a4))), (14, .inr (.inr (.inl a14))), (17, .inr (.inr (.inl a17)))] (shMine, I, L, Rf)) C hR ⟨Nat.zero_le _, Nat.zero_le _⟩ mv_X3_pumpDry lk_X6_109 dX6_isDone_56 (rfl : 56 + 3 = 59) rfl rfl (k_gS rfl) rfl (c_X3_pumpDry X.l u (k_ap [(0, .inl (10, c0_10)), (0, .inl (11, c0_11)), (0, .inl (12, c0_12)), (0, .inl (13, c0_13)), (0, .inl (14, c0_14)), (0, .inl (15, c0_15)), (0, .inl (16, c0_16)), (0, .inl (17, c0_17)), (0, .inr (.inl (3, c0_3))), (0, .inr (.inl (4, c0_4))), (0, .inr (.inl (5, c0_5))), (1, .inr (.inr (.inl a1))), (2, .inr (.inr (.inl a2))), (3, .inr (.inr (.inl a3))), (4, .inr (.inr (.inl a4))), (14, .inr (.inr (.inl a14))), (17, .inr (.inr (.inl a17)))] (shMine, I, L, Rf)) (k_gH rfl) (k_gI ds_X6_isDone rfl 1 rfl) (k_gI ds_X6_isDone rfl 5 rfl) (k_gOI (ks := [(0, 0, 10), (0, 0, 11), (0, 0, 12), (0, 0, 13), (0, 0, 14), (0, 0, 15), (0, 0, 16), (0, 0, 17), (0, 1, 3), (0, 1, 4), (0, 1, 5), (1, 2, 0), (2, 2, 0), (3, 2, 0), (4, 2, 0), (14, 2, 0), (17, 2, 0)]) rfl (by decide +kernel) ec5_1) (k_gOI (ks := [(0, 0, 10), (0, 0, 11), (0, 0, 12), (0, 0, 13), (0, 0, 14), (0, 0, 15), (0, 0, 16), (0, 0, 17), (0, 1, 3), (0, 1, 4), (0, 1, 5), (1, 2, 0), (2, 2, 0), (3, 2, 0), (4, 2, 0), (14, 2, 0), (17, 2, 0)]) rfl (by decide +kernel) ec5_8) q56) rfl rfl rfl (k_jn2 (us' := [(0, .inl (10, c0_10)), (0, .inl (11, r56.2.1)), (0, .inl (12, c0_12)), (0, .inl (13, c0_13)), (0, .inl (14, c0_14)), (0, .inl (15, r56.2.2)), (0, .inl (16, c0_16)), (0, .inl (17, c0_17)), (0, .inr (.inl (3, c0_3))), (0, .inr (.inl (4, c0_4))), (0, .inr (.inl (5, c0_5))), (1, .inr (.inr (.inl a1))), (2, .inr (.inr (.inl a2))), (3, .inr (.inr (.inl a3))), (4, .inr (.inr (.inl a4))), (14, .inr (.inr (.inl a14))), (17, .inr (.inr (.inl a17)))]) (vks := [(0, 0, 11), (0, 0, 15)]) (js := [1, 5]) ds_X6_isDone rfl rfl (by decide +kernel) rfl) rfl ?_
        obtain ⟨hz, h⟩ := k_z_of h
        cases h
        exact r_zret C hr hz dX6_isDone_59
      · have h := k_f c1_2 h
        by_cases c1_3 : v1 = (3 : Int32)
        · have h := k_t c1_3 h
          refine r_tabIn (off := 59) (tgt := 60) C dX6_isDone_1 (by rw [c1_3]; decide) (by rw [c1_3]; decide) (by rw [c1_3]; rfl) (by decide) ?_
          refine r_aload_n C dX6_isDone_60 (rfl : 60 + 1 = 61) rfl ?_
          obtain ⟨r61, q61, h⟩ := k_b_of h
          refine d_V (As := []) (st := []) (st' := [.int r61.1]) (h' := k_ap [(0, .inl (10, r61.2.1)), (0, .inl (11, r61.2.2.1)), (0, .inl (12, c0_12)), (0, .inl (13, r61.2.2.2.1)), (0, .inl (14, c0_14)), (0, .inl (15, c0_15)), (0, .inl (16, c0_16)), (0, .inl (17, c0_17)), (0, .inr (.inl (3, c0_3))), (0, .inr (.inl (4, c0_4))), (0, .inr (.inl (5, c0_5))), (1, .inr (.inr (.inl r61.2.2.2.2.1))), (2, .inr (.inr (.inl a2))), (3, .inr (.inr (.inl r61.2.2.2.2.2.1))), (4, .inr (.inr (.inl r61.2.2.2.2.2.2))), (14, .inr (.inr (.inl a14))), (17, .inr (.inr (.inl a17)))] (shMine, I, L, Rf)) C hR ⟨Nat.zero_le _, Nat.zero_le _⟩ mv_X3_endShift lk_X6_112 dX6_isDone_61 (rfl : 61 + 3 = 64) rfl rfl (k_gS rfl) rfl (c_X3_endShift X.l u (k_ap [(0, .inl (10, c0_10)), (0, .inl (11, c0_11)), (0, .inl (12, c0_12)), (0, .inl (13, c0_13)), (0, .inl (14, c0_14)), (0, .inl (15, c0_15)), (0, .inl (16, c0_16)), (0, .inl (17, c0_17)), (0, .inr (.inl (3, c0_3))), (0, .inr (.inl (4, c0_4))), (0, .inr (.inl (5, c0_5))), (1, .inr (.inr (.inl a1))), (2, .inr (.inr (.inl a2))), (3, .inr (.inr (.inl a3))), (4, .inr (.inr (.inl a4))), (14, .inr (.inr (.inl a14))), (17, .inr (.inr (.inl a17)))] (shMine, I, L, Rf)) (k_gH rfl) (k_gI ds_X6_isDone rfl 0 rfl) (k_gI ds_X6_isDone rfl 1 rfl) (k_gI ds_X6_isDone rfl 3 rfl) (k_gA ds_X6_isDone rfl 11 rfl) (k_gA ds_X6_isDone rfl 13 rfl) (k_gA ds_X6_isDone rfl 14 rfl) (k_gOI (ks := [(0, 0, 10), (0, 0, 11), (0, 0, 12), (0, 0, 13), (0, 0, 14), (0, 0, 15), (0, 0, 16), (0, 0, 17), (0, 1, 3), (0, 1, 4), (0, 1, 5), (1, 2, 0), (2, 2, 0), (3, 2, 0), (4, 2, 0), (14, 2, 0), (17, 2, 0)]) rfl (by decide +kernel) ec5_10) (k_gOA (ks := [(0, 0, 10), (0, 0, 11), (0, 0, 12), (0, 0, 13), (0, 0, 14), (0, 0, 15), (0, 0, 16), (0, 0, 17), (0, 1, 3), (0, 1, 4), (0, 1, 5), (1, 2, 0), (2, 2, 0), (3, 2, 0), (4, 2, 0), (14, 2, 0), (17, 2, 0)]) rfl (by decide +kernel) ea8) (k_gOA (ks := [(0, 0, 10), (0, 0, 11), (0, 0, 12), (0, 0, 13), (0, 0, 14), (0, 0, 15), (0, 0, 16), (0, 0, 17), (0, 1, 3), (0, 1, 4), (0, 1, 5), (1, 2, 0), (2, 2, 0), (3, 2, 0), (4, 2, 0), (14, 2, 0), (17, 2, 0)]) rfl (by decide +kernel) ea9) (k_gOA (ks := [(0, 0, 10), (0, 0, 11), (0, 0, 12), (0, 0, 13), (0, 0, 14), (0, 0, 15), (0, 0, 16), (0, 0, 17), (0, 1, 3), (0, 1, 4), (0, 1, 5), (1, 2, 0), (2, 2, 0), (3, 2, 0), (4, 2, 0), (14, 2, 0), (17, 2, 0)]) rfl (by decide +kernel) ea10) (k_gOA (ks := [(0, 0, 10), (0, 0, 11), (0, 0, 12), (0, 0, 13), (0, 0, 14), (0, 0, 15), (0, 0, 16), (0, 0, 17), (0, 1, 3), (0, 1, 4), (0, 1, 5), (1, 2, 0), (2, 2, 0), (3, 2, 0), (4, 2, 0), (14, 2, 0), (17, 2, 0)]) rfl (by decide +kernel) ea11) q61) rfl rfl rfl (k_jn2 (us' := [(0, .inl (10, r61.2.1)), (0, .inl (11, r61.2.2.1)), (0, .inl (12, c0_12)), (0, .inl (13, r61.2.2.2.1)), (0, .inl (14, c0_14)), (0, .inl (15, c0_15)), (0, .inl (16, c0_16)), (0, .inl (17, c0_17)), (0, .inr (.inl (3, c0_3))), (0, .inr (.inl (4, c0_4))), (0, .inr (.inl (5, c0_5))), (1, .inr (.inr (.inl r61.2.2.2.2.1))), (2, .inr (.inr (.inl a2))), (3, .inr (.inr (.inl r61.2.2.2.2.2.1))), (4, .inr (.inr (.inl r61.2.2.2.2.2.2))), (14, .inr (.inr (.inl a14))), (17, .inr (.inr (.inl a17)))]) (vks := [(0, 0, 10), (0, 0, 11), (0, 0, 13), (1, 2, 0), (3, 2, 0), (4, 2, 0)]) (js := [0, 1, 3, 11, 13, 14]) ds_X6_isDone rfl rfl (by decide +kernel) rfl) rfl ?_
          obtain ⟨hz, h⟩ := k_z_of h
          cases h
          exact r_zret C hr hz dX6_isDone_64
        · have h := k_f c1_3 h
          have hsw : (v1 : Int32).toInt < 0 ∨ 3 < (v1 : Int32).toInt := k_sw [(0 : Int32), (1 : Int32), (2 : Int32), (3 : Int32)] (by decide) (by intro v hv; simp only [List.mem_cons, List.not_mem_nil, or_false] at hv; rcases hv with rfl | rfl | rfl | rfl <;> assumption)
          refine r_tabOut (tgt := 65) C dX6_isDone_1 hsw (by decide) ?_
          refine r_aload_n C dX6_isDone_65 (rfl : 65 + 1 = 66) rfl ?_
          refine r_iload_n C dX6_isDone_66 (rfl : 66 + 1 = 67) rfl ?_
          refine r_iload_n C dX6_isDone_67 (rfl : 67 + 1 = 68) rfl ?_
          obtain ⟨r68, q68, h⟩ := k_b_of h
          refine d_V (As := [.int v2, .int v3]) (st := []) (st' := [.int r68.1]) (h' := k_ap [(0, .inl (10, c0_10)), (0, .inl (11, c0_11)), (0, .inl (12, c0_12)), (0, .inl (13, r68.2.1)), (0, .inl (14, c0_14)), (0, .inl (15, c0_15)), (0, .inl (16, c0_16)), (0, .inl (17, c0_17)), (0, .inr (.inl (3, c0_3))), (0, .inr (.inl (4, c0_4))), (0, .inr (.inl (5, c0_5))), (1, .inr (.inr (.inl r68.2.2.1))), (2, .inr (.inr (.inl r68.2.2.2))), (3, .inr (.inr (.inl a3))), (4, .inr (.inr (.inl a4))), (14, .inr (.inr (.inl a14))), (17, .inr (.inr (.inl a17)))] (shMine, I, L, Rf)) C hR ⟨Nat.zero_le _, Nat.zero_le _⟩ mv_X3_sellBars lk_X6_115 dX6_isDone_68 (rfl : 68 + 3 = 71) rfl rfl (k_gS rfl) rfl (c_X3_sellBars X.l u (k_ap [(0, .inl (10, c0_10)), (0, .inl (11, c0_11)), (0, .inl (12, c0_12)), (0, .inl (13, c0_13)), (0, .inl (14, c0_14)), (0, .inl (15, c0_15)), (0, .inl (16, c0_16)), (0, .inl (17, c0_17)), (0, .inr (.inl (3, c0_3))), (0, .inr (.inl (4, c0_4))), (0, .inr (.inl (5, c0_5))), (1, .inr (.inr (.inl a1))), (2, .inr (.inr (.inl a2))), (3, .inr (.inr (.inl a3))), (4, .inr (.inr (.inl a4))), (14, .inr (.inr (.inl a14))), (17, .inr (.inr (.inl a17)))] (shMine, I, L, Rf)) (k_gH rfl) (k_gI ds_X6_isDone rfl 3 rfl) (k_gA ds_X6_isDone rfl 11 rfl) (k_gA ds_X6_isDone rfl 12 rfl) (k_gOA (ks := [(0, 0, 10), (0, 0, 11), (0, 0, 12), (0, 0, 13), (0, 0, 14), (0, 0, 15), (0, 0, 16), (0, 0, 17), (0, 1, 3), (0, 1, 4), (0, 1, 5), (1, 2, 0), (2, 2, 0), (3, 2, 0), (4, 2, 0), (14, 2, 0), (17, 2, 0)]) rfl (by decide +kernel) ea8) q68) rfl rfl rfl (k_jn2 (us' := [(0, .inl (10, c0_10)), (0, .inl (11, c0_11)), (0, .inl (12, c0_12)), (0, .inl (13, r68.2.1)), (0, .inl (14, c0_14)), (0, .inl (15, c0_15)), (0, .inl (16, c0_16)), (0, .inl (17, c0_17)), (0, .inr (.inl (3, c0_3))), (0, .inr (.inl (4, c0_4))), (0, .inr (.inl (5, c0_5))), (1, .inr (.inr (.inl r68.2.2.1))), (2, .inr (.inr (.inl r68.2.2.2))), (3, .inr (.inr (.inl a3))), (4, .inr (.inr (.inl a4))), (14, .inr (.inr (.inl a14))), (17, .inr (.inr (.inl a17)))]) (vks := [(0, 0, 13), (1, 2, 0), (2, 2, 0)]) (js := [3, 11, 12]) ds_X6_isDone rfl rfl (by decide +kernel) rfl) rfl ?_
          obtain ⟨hz, h⟩ := k_z_of h
          cases h
          exact r_zret C hr hz dX6_isDone_71
set_option maxHeartbeats 1000000 in
set_option maxRecDepth 100000 in
theorem c_X6_isDone (l : Launch) (u : Nat) (h : k_H) (hsh : h.1 = shMine) {c0_10 : Int32} (ec0_10 : h.2.1 0 10 = c0_10) {c0_11 : Int32} (ec0_11 : h.2.1 0 11 = c0_11) {c0_12 : Int32} (ec0_12 : h.2.1 0 12 = c0_12) {c0_13 : Int32} (ec0_13 : h.2.1 0 13 = c0_13) {c0_14 : Int32} (ec0_14 : h.2.1 0 14 = c0_14) {c0_15 : Int32} (ec0_15 : h.2.1 0 15 = c0_15) {c0_16 : Int32} (ec0_16 : h.2.1 0 16 = c0_16) {c0_17 : Int32} (ec0_17 : h.2.1 0 17 = c0_17) {c0_3 : Int64} (ec0_3 : h.2.2.1 0 3 = c0_3) {c0_4 : Int64} (ec0_4 : h.2.2.1 0 4 = c0_4) {c0_5 : Int64} (ec0_5 : h.2.2.1 0 5 = c0_5) {a1 : (Nat → Int32)} (ea1 : h.2.1 1 = a1) {a2 : (Nat → Int32)} (ea2 : h.2.1 2 = a2) {a3 : (Nat → Int32)} (ea3 : h.2.1 3 = a3) {a4 : (Nat → Int32)} (ea4 : h.2.1 4 = a4) {c5_1 : Int32} (ec5_1 : h.2.1 5 1 = c5_1) {c5_8 : Int32} (ec5_8 : h.2.1 5 8 = c5_8) {c5_10 : Int32} (ec5_10 : h.2.1 5 10 = c5_10) {c5_5 : Int64} (ec5_5 : h.2.2.1 5 5 = c5_5) {c5_6 : Int64} (ec5_6 : h.2.2.1 5 6 = c5_6) {a6 : (Nat → Int32)} (ea6 : h.2.1 6 = a6) {a7 : (Nat → Int32)} (ea7 : h.2.1 7 = a7) {a8 : (Nat → Int32)} (ea8 : h.2.1 8 = a8) {a9 : (Nat → Int32)} (ea9 : h.2.1 9 = a9) {a10 : (Nat → Int32)} (ea10 : h.2.1 10 = a10) {a11 : (Nat → Int32)} (ea11 : h.2.1 11 = a11) {c12_2 : Int32} (ec12_2 : h.2.1 12 2 = c12_2) {a13 : (Nat → Int32)} (ea13 : h.2.1 13 = a13) {a14 : (Nat → Int32)} (ea14 : h.2.1 14 = a14) {c15_2 : Int32} (ec15_2 : h.2.1 15 2 = c15_2) {a16 : (Nat → Int32)} (ea16 : h.2.1 16 = a16) {a17 : (Nat → Int32)} (ea17 : h.2.1 17 = a17) {x1 : Int32} {x2 : Int32} {x3 : Int32} {out : Int32 × Int32 × Int32 × Int32 × Int32 × Int32 × Int32 × Int32 × Int32 × Int64 × Int64 × Int64 × (Nat → Int32) × (Nat → Int32) × (Nat → Int32) × (Nat → Int32) × (Nat → Int32) × (Nat → Int32)} (hf : f_X6_isDone u c0_10 c0_11 c0_12 c0_13 c0_14 c0_15 c0_16 c0_17 c0_3 c0_4 c0_5 a1 a2 a3 a4 c5_1 c5_8 c5_10 c5_5 c5_6 a6 a7 a8 a9 a10 a11 c12_2 a13 a14 c15_2 a16 a17 x1 x2 x3 = some out) : k_CT l yX6_isDone cX6_isDone 4 (some .boolean) 5 121 [.ref 0, .int x1, .int x2, .int x3] h (some (.int out.1)) [(0, .inl (10, out.2.1)), (0, .inl (11, out.2.2.1)), (0, .inl (12, out.2.2.2.1)), (0, .inl (13, out.2.2.2.2.1)), (0, .inl (14, out.2.2.2.2.2.1)), (0, .inl (15, out.2.2.2.2.2.2.1)), (0, .inl (16, out.2.2.2.2.2.2.2.1)), (0, .inl (17, out.2.2.2.2.2.2.2.2.1)), (0, .inr (.inl (3, out.2.2.2.2.2.2.2.2.2.1))), (0, .inr (.inl (4, out.2.2.2.2.2.2.2.2.2.2.1))), (0, .inr (.inl (5, out.2.2.2.2.2.2.2.2.2.2.2.1))), (1, .inr (.inr (.inl out.2.2.2.2.2.2.2.2.2.2.2.2.1))), (2, .inr (.inr (.inl out.2.2.2.2.2.2.2.2.2.2.2.2.2.1))), (3, .inr (.inr (.inl out.2.2.2.2.2.2.2.2.2.2.2.2.2.2.1))), (4, .inr (.inr (.inl out.2.2.2.2.2.2.2.2.2.2.2.2.2.2.2.1))), (14, .inr (.inr (.inl out.2.2.2.2.2.2.2.2.2.2.2.2.2.2.2.2.1))), (17, .inr (.inr (.inl out.2.2.2.2.2.2.2.2.2.2.2.2.2.2.2.2.2)))] := by
  obtain ⟨sh, I, L, Rf⟩ := h
  try dsimp only
  obtain rfl : sh = shMine := hsh
  refine k_ofW (by decide) (Nat.le_of_ble_eq_true rfl) ?_
  intro X ad hl hR0 hr C
  have hR : X.R.frames = 5 ∧ X.R.locals = 121 := by rw [hR0]; exact ⟨rfl, rfl⟩
  have h := hf
  unfold f_X6_isDone at h
  refine k_start (us := [(0, .inl (10, c0_10)), (0, .inl (11, c0_11)), (0, .inl (12, c0_12)), (0, .inl (13, c0_13)), (0, .inl (14, c0_14)), (0, .inl (15, c0_15)), (0, .inl (16, c0_16)), (0, .inl (17, c0_17)), (0, .inr (.inl (3, c0_3))), (0, .inr (.inl (4, c0_4))), (0, .inr (.inl (5, c0_5))), (1, .inr (.inr (.inl a1))), (2, .inr (.inr (.inl a2))), (3, .inr (.inr (.inl a3))), (4, .inr (.inr (.inl a4))), (14, .inr (.inr (.inl a14))), (17, .inr (.inr (.inl a17)))]) (k_ao_I ec0_10 (k_ao_I ec0_11 (k_ao_I ec0_12 (k_ao_I ec0_13 (k_ao_I ec0_14 (k_ao_I ec0_15 (k_ao_I ec0_16 (k_ao_I ec0_17 (k_ao_L ec0_3 (k_ao_L ec0_4 (k_ao_L ec0_5 (k_ao_A ea1 (k_ao_A ea2 (k_ao_A ea3 (k_ao_A ea4 (k_ao_A ea14 (k_ao_A ea17 k_ap_0))))))))))))))))) ?_
  show k_W X 4 0 0 _ ad (k_ap [(0, .inl (10, c0_10)), (0, .inl (11, c0_11)), (0, .inl (12, c0_12)), (0, .inl (13, c0_13)), (0, .inl (14, c0_14)), (0, .inl (15, c0_15)), (0, .inl (16, c0_16)), (0, .inl (17, c0_17)), (0, .inr (.inl (3, c0_3))), (0, .inr (.inl (4, c0_4))), (0, .inr (.inl (5, c0_5))), (1, .inr (.inr (.inl a1))), (2, .inr (.inr (.inl a2))), (3, .inr (.inr (.inl a3))), (4, .inr (.inr (.inl a4))), (14, .inr (.inr (.inl a14))), (17, .inr (.inr (.inl a17)))] (shMine, I, L, Rf)) 0 [some (.ref 0), some (.int x1), some (.int x2), some (.int x3)] []
  refine k_mask [true, true, true, true] ?_
  exact sX6_isDone_0 u C hr hR ec5_1 ec5_8 ec5_10 ec5_5 ec5_6 ea6 ea7 ea8 ea9 ea10 ea11 ec12_2 ea13 ec15_2 ea16 c0_10 c0_11 c0_12 c0_13 c0_14 c0_15 c0_16 c0_17 c0_3 c0_4 c0_5 a1 a2 a3 a4 a14 a17 x1 x2 x3 h
/-! LullabyPit$Survey.mirrored(I)I -/
theorem ds_X7_mirrored : k_ds [] = true := by decide +kernel
set_option maxHeartbeats 400000 in
set_option maxRecDepth 100000 in
theorem sX7_mirrored_4 (u : Nat) {X : k_X} {ad : Nat → Nat} {sh : List k_Sh} (C : k_C X cX7_mirrored RX7 3 ad) (hr : X.meth.sig.returnType = (some .int)) (hR : X.R.frames = 0 ∧ X.R.locals = 0) {I : Nat → Nat → Int32} {L : Nat → Nat → Int64} {Rf : Nat → Nat → Option Nat} {out : Int32} : ∀ (n : Nat) (v0 : Int32) (v1 : Int32) (v2 : Int32), bX7_mirrored_4 u n v0 v1 v2 = some out → k_W X 3 0 0 (k_Q X ad (some (.int out)) (k_ap [] (sh, I, L, Rf))) ad (k_ap [] (sh, I, L, Rf)) 4 [some (.int v0), some (.int v1), some (.int v2)] [] := by
  intro n
  induction n with
  | zero => intro v0 v1 v2 h; cases h
  | succ n ih =>
    intro v0 v1 v2 h
    refine r_iload_n C dX7_mirrored_4 (rfl : 4 + 1 = 5) rfl ?_
    refine r_bipush (v := (8 : Int32)) C dX7_mirrored_5 (rfl : 5 + 2 = 7) rfl ?_
    refine r_icmp_ge (tgt := 29) C dX7_mirrored_7 (by decide) (rfl : 7 + 3 = 10) (fun c7 => ?_) (fun c7 => ?_)
    · have h := k_t c7 h
      refine r_iload_n C dX7_mirrored_29 (rfl : 29 + 1 = 30) rfl ?_
      cases h
      exact r_iret C hr dX7_mirrored_30
    · have h := k_f c7 h
      refine r_iload_n C dX7_mirrored_10 (rfl : 10 + 1 = 11) rfl ?_
      refine r_iload_n C dX7_mirrored_11 (rfl : 11 + 1 = 12) rfl ?_
      refine r_iload_n C dX7_mirrored_12 (rfl : 12 + 1 = 13) rfl ?_
      refine r_iushr C dX7_mirrored_13 (rfl : 13 + 1 = 14) ?_
      refine r_iconst (v := (1 : Int32)) C dX7_mirrored_14 (rfl : 14 + 1 = 15) rfl ?_
      refine r_iand C dX7_mirrored_15 (rfl : 15 + 1 = 16) ?_
      refine r_bipush (v := (7 : Int32)) C dX7_mirrored_16 (rfl : 16 + 2 = 18) rfl ?_
      refine r_iload_n C dX7_mirrored_18 (rfl : 18 + 1 = 19) rfl ?_
      refine r_isub C dX7_mirrored_19 (rfl : 19 + 1 = 20) ?_
      refine r_ishl C dX7_mirrored_20 (rfl : 20 + 1 = 21) ?_
      refine r_ior C dX7_mirrored_21 (rfl : 21 + 1 = 22) ?_
      refine r_istore_n C dX7_mirrored_22 (rfl : 22 + 1 = 23) (by decide) (Nat.le_of_ble_eq_true rfl) ?_
      show k_W _ _ _ _ _ _ _ _ [some (.int v0), some (.int (v1 ||| ((((v0).toUInt32 >>> ((v2).toUInt32 &&& Int32.toUInt32 31)).toInt32 &&& (1 : Int32)) <<< (((7 : Int32) - v2) &&& 31)))), some (.int v2)] _
      refine r_iinc (v := (v2 + (1 : Int32))) C dX7_mirrored_23 (rfl : 23 + 3 = 26) rfl rfl (by decide) ?_
      show k_W _ _ _ _ _ _ _ _ [some (.int v0), some (.int (v1 ||| ((((v0).toUInt32 >>> ((v2).toUInt32 &&& Int32.toUInt32 31)).toInt32 &&& (1 : Int32)) <<< (((7 : Int32) - v2) &&& 31)))), some (.int (v2 + (1 : Int32)))] _
      refine r_goto (tgt := 4) C dX7_mirrored_26 (by decide) ?_
      refine k_mask [true, true, true] ?_
      exact ih v0 (v1 ||| ((((v0).toUInt32 >>> ((v2).toUInt32 &&& Int32.toUInt32 31)).toInt32 &&& (1 : Int32)) <<< (((7 : Int32) - v2) &&& 31))) (v2 + (1 : Int32)) h
set_option maxHeartbeats 400000 in
set_option maxRecDepth 100000 in
theorem sX7_mirrored_0 (u : Nat) {X : k_X} {ad : Nat → Nat} {sh : List k_Sh} (C : k_C X cX7_mirrored RX7 3 ad) (hr : X.meth.sig.returnType = (some .int)) (hR : X.R.frames = 0 ∧ X.R.locals = 0) {I : Nat → Nat → Int32} {L : Nat → Nat → Int64} {Rf : Nat → Nat → Option Nat} {out : Int32} : ∀ (v0 : Int32), bX7_mirrored_0 u v0 = some out → k_W X 3 0 0 (k_Q X ad (some (.int out)) (k_ap [] (sh, I, L, Rf))) ad (k_ap [] (sh, I, L, Rf)) 0 [some (.int v0), none, none] [] := by
  intro v0 h
  unfold bX7_mirrored_0 at h
  refine r_iconst (v := (0 : Int32)) C dX7_mirrored_0 (rfl : 0 + 1 = 1) rfl ?_
  refine r_istore_n C dX7_mirrored_1 (rfl : 1 + 1 = 2) (by decide) (Nat.le_of_ble_eq_true rfl) ?_
  show k_W _ _ _ _ _ _ _ _ [some (.int v0), some (.int (0 : Int32)), none] _
  refine r_iconst (v := (0 : Int32)) C dX7_mirrored_2 (rfl : 2 + 1 = 3) rfl ?_
  refine r_istore_n C dX7_mirrored_3 (rfl : 3 + 1 = 4) (by decide) (Nat.le_of_ble_eq_true rfl) ?_
  show k_W _ _ _ _ _ _ _ _ [some (.int v0), some (.int (0 : Int32)), some (.int (0 : Int32))] _
  refine k_mask [true, true, true] ?_
  exact sX7_mirrored_4 u C hr hR u v0 (0 : Int32) (0 : Int32) h
set_option maxHeartbeats 400000 in
set_option maxRecDepth 100000 in
theorem c_X7_mirrored (l : Launch) (u : Nat) (h : k_H)  {x0 : Int32} {out : Int32} (hf : f_X7_mirrored u x0 = some out) : k_CT l yX7_mirrored cX7_mirrored 3 (some .int) 0 0 [.int x0] h (some (.int out)) [] := by
  obtain ⟨sh, I, L, Rf⟩ := h
  try dsimp only
  refine k_ofW (by decide) (Nat.le_of_ble_eq_true rfl) ?_
  intro X ad hl hR0 hr C
  have hR : X.R.frames = 0 ∧ X.R.locals = 0 := by rw [hR0]; exact ⟨rfl, rfl⟩
  have h := hf
  unfold f_X7_mirrored at h
  refine k_start (us := []) k_ap_0 ?_
  show k_W X 3 0 0 _ ad (k_ap [] (sh, I, L, Rf)) 0 [some (.int x0), none, none] []
  refine k_mask [true, false, false] ?_
  exact sX7_mirrored_0 u C hr hR x0 h
/-! LullabyPit.rowOf(JI)I -/
theorem ds_X10_rowOf : k_ds [] = true := by decide +kernel
set_option maxHeartbeats 400000 in
set_option maxRecDepth 100000 in
theorem sX10_rowOf_0 (u : Nat) {X : k_X} {ad : Nat → Nat} {sh : List k_Sh} (C : k_C X cX10_rowOf RX10 3 ad) (hr : X.meth.sig.returnType = (some .int)) (hR : X.R.frames = 0 ∧ X.R.locals = 0) {I : Nat → Nat → Int32} {L : Nat → Nat → Int64} {Rf : Nat → Nat → Option Nat} {out : Int32} : ∀ (v0 : Int64) (v2 : Int32), bX10_rowOf_0 u v0 v2 = some out → k_W X 3 0 0 (k_Q X ad (some (.int out)) (k_ap [] (sh, I, L, Rf))) ad (k_ap [] (sh, I, L, Rf)) 0 [some (.long v0), none, some (.int v2)] [] := by
  intro v0 v2 h
  unfold bX10_rowOf_0 at h
  refine r_lload_n C dX10_rowOf_0 (rfl : 0 + 1 = 1) rfl ?_
  refine r_bipush (v := (8 : Int32)) C dX10_rowOf_1 (rfl : 1 + 2 = 3) rfl ?_
  refine r_iload_n C dX10_rowOf_3 (rfl : 3 + 1 = 4) rfl ?_
  refine r_imul C dX10_rowOf_4 (rfl : 4 + 1 = 5) ?_
  refine r_lushr C dX10_rowOf_5 (rfl : 5 + 1 = 6) ?_
  refine r_l2i C dX10_rowOf_6 (rfl : 6 + 1 = 7) ?_
  refine r_sipush (v := (255 : Int32)) C dX10_rowOf_7 (rfl : 7 + 3 = 10) rfl ?_
  refine r_iand C dX10_rowOf_10 (rfl : 10 + 1 = 11) ?_
  cases h
  exact r_iret C hr dX10_rowOf_11
set_option maxHeartbeats 400000 in
set_option maxRecDepth 100000 in
theorem c_X10_rowOf (l : Launch) (u : Nat) (h : k_H)  {x0 : Int64} {x1 : Int32} {out : Int32} (hf : f_X10_rowOf u x0 x1 = some out) : k_CT l yX10_rowOf cX10_rowOf 3 (some .int) 0 0 [.long x0, .int x1] h (some (.int out)) [] := by
  obtain ⟨sh, I, L, Rf⟩ := h
  try dsimp only
  refine k_ofW (by decide) (Nat.le_of_ble_eq_true rfl) ?_
  intro X ad hl hR0 hr C
  have hR : X.R.frames = 0 ∧ X.R.locals = 0 := by rw [hR0]; exact ⟨rfl, rfl⟩
  have h := hf
  unfold f_X10_rowOf at h
  refine k_start (us := []) k_ap_0 ?_
  show k_W X 3 0 0 _ ad (k_ap [] (sh, I, L, Rf)) 0 [some (.long x0), none, some (.int x1)] []
  refine k_mask [true, false, true] ?_
  exact sX10_rowOf_0 u C hr hR x0 x1 h
/-! java/lang/Integer.bitCount(I)I -/
theorem ds_J6_bitCount_0f7a4 : k_ds [] = true := by decide +kernel
set_option maxHeartbeats 400000 in
set_option maxRecDepth 100000 in
theorem sJ6_bitCount_0f7a4_0 (u : Nat) {X : k_X} {ad : Nat → Nat} {sh : List k_Sh} (C : k_C X cJ6_bitCount_0f7a4 RJ6 1 ad) (hr : X.meth.sig.returnType = (some .int)) (hR : X.R.frames = 0 ∧ X.R.locals = 0) {I : Nat → Nat → Int32} {L : Nat → Nat → Int64} {Rf : Nat → Nat → Option Nat} {out : Int32} : ∀ (v0 : Int32), bJ6_bitCount_0f7a4_0 u v0 = some out → k_W X 1 0 0 (k_Q X ad (some (.int out)) (k_ap [] (sh, I, L, Rf))) ad (k_ap [] (sh, I, L, Rf)) 0 [some (.int v0)] [] := by
  intro v0 h
  unfold bJ6_bitCount_0f7a4_0 at h
  refine r_iload_n C dJ6_bitCount_0f7a4_0 (rfl : 0 + 1 = 1) rfl ?_
  refine r_iload_n C dJ6_bitCount_0f7a4_1 (rfl : 1 + 1 = 2) rfl ?_
  refine r_iconst (v := (1 : Int32)) C dJ6_bitCount_0f7a4_2 (rfl : 2 + 1 = 3) rfl ?_
  refine r_iushr C dJ6_bitCount_0f7a4_3 (rfl : 3 + 1 = 4) ?_
  refine r_ldcw C dJ6_bitCount_0f7a4_4 (rfl : 4 + 3 = 7) ct_J6_265 ?_
  refine r_iand C dJ6_bitCount_0f7a4_7 (rfl : 7 + 1 = 8) ?_
  refine r_isub C dJ6_bitCount_0f7a4_8 (rfl : 8 + 1 = 9) ?_
  refine r_istore_n C dJ6_bitCount_0f7a4_9 (rfl : 9 + 1 = 10) (by decide) (Nat.le_of_ble_eq_true rfl) ?_
  show k_W _ _ _ _ _ _ _ _ [some (.int (v0 - (((v0).toUInt32 >>> (((1 : Int32)).toUInt32 &&& Int32.toUInt32 31)).toInt32 &&& (1431655765 : Int32))))] _
  refine r_iload_n C dJ6_bitCount_0f7a4_10 (rfl : 10 + 1 = 11) rfl ?_
  refine r_ldcw C dJ6_bitCount_0f7a4_11 (rfl : 11 + 3 = 14) ct_J6_266 ?_
  refine r_iand C dJ6_bitCount_0f7a4_14 (rfl : 14 + 1 = 15) ?_
  refine r_iload_n C dJ6_bitCount_0f7a4_15 (rfl : 15 + 1 = 16) rfl ?_
  refine r_iconst (v := (2 : Int32)) C dJ6_bitCount_0f7a4_16 (rfl : 16 + 1 = 17) rfl ?_
  refine r_iushr C dJ6_bitCount_0f7a4_17 (rfl : 17 + 1 = 18) ?_
  refine r_ldcw C dJ6_bitCount_0f7a4_18 (rfl : 18 + 3 = 21) ct_J6_266 ?_
  refine r_iand C dJ6_bitCount_0f7a4_21 (rfl : 21 + 1 = 22) ?_
  refine r_iadd C dJ6_bitCount_0f7a4_22 (rfl : 22 + 1 = 23) ?_
  refine r_istore_n C dJ6_bitCount_0f7a4_23 (rfl : 23 + 1 = 24) (by decide) (Nat.le_of_ble_eq_true rfl) ?_
  show k_W _ _ _ _ _ _ _ _ [some (.int (((v0 - (((v0).toUInt32 >>> (((1 : Int32)).toUInt32 &&& Int32.toUInt32 31)).toInt32 &&& (1431655765 : Int32))) &&& (858993459 : Int32)) + ((((v0 - (((v0).toUInt32 >>> (((1 : Int32)).toUInt32 &&& Int32.toUInt32 31)).toInt32 &&& (1431655765 : Int32)))).toUInt32 >>> (((2 : Int32)).toUInt32 &&& Int32.toUInt32 31)).toInt32 &&& (858993459 : Int32))))] _
  refine r_iload_n C dJ6_bitCount_0f7a4_24 (rfl : 24 + 1 = 25) rfl ?_
  refine r_iload_n C dJ6_bitCount_0f7a4_25 (rfl : 25 + 1 = 26) rfl ?_
  refine r_iconst (v := (4 : Int32)) C dJ6_bitCount_0f7a4_26 (rfl : 26 + 1 = 27) rfl ?_
  refine r_iushr C dJ6_bitCount_0f7a4_27 (rfl : 27 + 1 = 28) ?_
  refine r_iadd C dJ6_bitCount_0f7a4_28 (rfl : 28 + 1 = 29) ?_
  refine r_ldcw C dJ6_bitCount_0f7a4_29 (rfl : 29 + 3 = 32) ct_J6_267 ?_
  refine r_iand C dJ6_bitCount_0f7a4_32 (rfl : 32 + 1 = 33) ?_
  refine r_istore_n C dJ6_bitCount_0f7a4_33 (rfl : 33 + 1 = 34) (by decide) (Nat.le_of_ble_eq_true rfl) ?_
  show k_W _ _ _ _ _ _ _ _ [some (.int (((((v0 - (((v0).toUInt32 >>> (((1 : Int32)).toUInt32 &&& Int32.toUInt32 31)).toInt32 &&& (1431655765 : Int32))) &&& (858993459 : Int32)) + ((((v0 - (((v0).toUInt32 >>> (((1 : Int32)).toUInt32 &&& Int32.toUInt32 31)).toInt32 &&& (1431655765 : Int32)))).toUInt32 >>> (((2 : Int32)).toUInt32 &&& Int32.toUInt32 31)).toInt32 &&& (858993459 : Int32))) + (((((v0 - (((v0).toUInt32 >>> (((1 : Int32)).toUInt32 &&& Int32.toUInt32 31)).toInt32 &&& (1431655765 : Int32))) &&& (858993459 : Int32)) + ((((v0 - (((v0).toUInt32 >>> (((1 : Int32)).toUInt32 &&& Int32.toUInt32 31)).toInt32 &&& (1431655765 : Int32)))).toUInt32 >>> (((2 : Int32)).toUInt32 &&& Int32.toUInt32 31)).toInt32 &&& (858993459 : Int32)))).toUInt32 >>> (((4 : Int32)).toUInt32 &&& Int32.toUInt32 31)).toInt32) &&& (252645135 : Int32)))] _
  refine r_iload_n C dJ6_bitCount_0f7a4_34 (rfl : 34 + 1 = 35) rfl ?_
  refine r_iload_n C dJ6_bitCount_0f7a4_35 (rfl : 35 + 1 = 36) rfl ?_
  refine r_bipush (v := (8 : Int32)) C dJ6_bitCount_0f7a4_36 (rfl : 36 + 2 = 38) rfl ?_
  refine r_iushr C dJ6_bitCount_0f7a4_38 (rfl : 38 + 1 = 39) ?_
  refine r_iadd C dJ6_bitCount_0f7a4_39 (rfl : 39 + 1 = 40) ?_
  refine r_istore_n C dJ6_bitCount_0f7a4_40 (rfl : 40 + 1 = 41) (by decide) (Nat.le_of_ble_eq_true rfl) ?_
  show k_W _ _ _ _ _ _ _ _ [some (.int ((((((v0 - (((v0).toUInt32 >>> (((1 : Int32)).toUInt32 &&& Int32.toUInt32 31)).toInt32 &&& (1431655765 : Int32))) &&& (858993459 : Int32)) + ((((v0 - (((v0).toUInt32 >>> (((1 : Int32)).toUInt32 &&& Int32.toUInt32 31)).toInt32 &&& (1431655765 : Int32)))).toUInt32 >>> (((2 : Int32)).toUInt32 &&& Int32.toUInt32 31)).toInt32 &&& (858993459 : Int32))) + (((((v0 - (((v0).toUInt32 >>> (((1 : Int32)).toUInt32 &&& Int32.toUInt32 31)).toInt32 &&& (1431655765 : Int32))) &&& (858993459 : Int32)) + ((((v0 - (((v0).toUInt32 >>> (((1 : Int32)).toUInt32 &&& Int32.toUInt32 31)).toInt32 &&& (1431655765 : Int32)))).toUInt32 >>> (((2 : Int32)).toUInt32 &&& Int32.toUInt32 31)).toInt32 &&& (858993459 : Int32)))).toUInt32 >>> (((4 : Int32)).toUInt32 &&& Int32.toUInt32 31)).toInt32) &&& (252645135 : Int32)) + (((((((v0 - (((v0).toUInt32 >>> (((1 : Int32)).toUInt32 &&& Int32.toUInt32 31)).toInt32 &&& (1431655765 : Int32))) &&& (858993459 : Int32)) + ((((v0 - (((v0).toUInt32 >>> (((1 : Int32)).toUInt32 &&& Int32.toUInt32 31)).toInt32 &&& (1431655765 : Int32)))).toUInt32 >>> (((2 : Int32)).toUInt32 &&& Int32.toUInt32 31)).toInt32 &&& (858993459 : Int32))) + (((((v0 - (((v0).toUInt32 >>> (((1 : Int32)).toUInt32 &&& Int32.toUInt32 31)).toInt32 &&& (1431655765 : Int32))) &&& (858993459 : Int32)) + ((((v0 - (((v0).toUInt32 >>> (((1 : Int32)).toUInt32 &&& Int32.toUInt32 31)).toInt32 &&& (1431655765 : Int32)))).toUInt32 >>> (((2 : Int32)).toUInt32 &&& Int32.toUInt32 31)).toInt32 &&& (858993459 : Int32)))).toUInt32 >>> (((4 : Int32)).toUInt32 &&& Int32.toUInt32 31)).toInt32) &&& (252645135 : Int32))).toUInt32 >>> (((8 : Int32)).toUInt32 &&& Int32.toUInt32 31)).toInt32))] _
  refine r_iload_n C dJ6_bitCount_0f7a4_41 (rfl : 41 + 1 = 42) rfl ?_
  refine r_iload_n C dJ6_bitCount_0f7a4_42 (rfl : 42 + 1 = 43) rfl ?_
  refine r_bipush (v := (16 : Int32)) C dJ6_bitCount_0f7a4_43 (rfl : 43 + 2 = 45) rfl ?_
  refine r_iushr C dJ6_bitCount_0f7a4_45 (rfl : 45 + 1 = 46) ?_
  refine r_iadd C dJ6_bitCount_0f7a4_46 (rfl : 46 + 1 = 47) ?_
  refine r_istore_n C dJ6_bitCount_0f7a4_47 (rfl : 47 + 1 = 48) (by decide) (Nat.le_of_ble_eq_true rfl) ?_
  show k_W _ _ _ _ _ _ _ _ [some (.int (((((((v0 - (((v0).toUInt32 >>> (((1 : Int32)).toUInt32 &&& Int32.toUInt32 31)).toInt32 &&& (1431655765 : Int32))) &&& (858993459 : Int32)) + ((((v0 - (((v0).toUInt32 >>> (((1 : Int32)).toUInt32 &&& Int32.toUInt32 31)).toInt32 &&& (1431655765 : Int32)))).toUInt32 >>> (((2 : Int32)).toUInt32 &&& Int32.toUInt32 31)).toInt32 &&& (858993459 : Int32))) + (((((v0 - (((v0).toUInt32 >>> (((1 : Int32)).toUInt32 &&& Int32.toUInt32 31)).toInt32 &&& (1431655765 : Int32))) &&& (858993459 : Int32)) + ((((v0 - (((v0).toUInt32 >>> (((1 : Int32)).toUInt32 &&& Int32.toUInt32 31)).toInt32 &&& (1431655765 : Int32)))).toUInt32 >>> (((2 : Int32)).toUInt32 &&& Int32.toUInt32 31)).toInt32 &&& (858993459 : Int32)))).toUInt32 >>> (((4 : Int32)).toUInt32 &&& Int32.toUInt32 31)).toInt32) &&& (252645135 : Int32)) + (((((((v0 - (((v0).toUInt32 >>> (((1 : Int32)).toUInt32 &&& Int32.toUInt32 31)).toInt32 &&& (1431655765 : Int32))) &&& (858993459 : Int32)) + ((((v0 - (((v0).toUInt32 >>> (((1 : Int32)).toUInt32 &&& Int32.toUInt32 31)).toInt32 &&& (1431655765 : Int32)))).toUInt32 >>> (((2 : Int32)).toUInt32 &&& Int32.toUInt32 31)).toInt32 &&& (858993459 : Int32))) + (((((v0 - (((v0).toUInt32 >>> (((1 : Int32)).toUInt32 &&& Int32.toUInt32 31)).toInt32 &&& (1431655765 : Int32))) &&& (858993459 : Int32)) + ((((v0 - (((v0).toUInt32 >>> (((1 : Int32)).toUInt32 &&& Int32.toUInt32 31)).toInt32 &&& (1431655765 : Int32)))).toUInt32 >>> (((2 : Int32)).toUInt32 &&& Int32.toUInt32 31)).toInt32 &&& (858993459 : Int32)))).toUInt32 >>> (((4 : Int32)).toUInt32 &&& Int32.toUInt32 31)).toInt32) &&& (252645135 : Int32))).toUInt32 >>> (((8 : Int32)).toUInt32 &&& Int32.toUInt32 31)).toInt32) + ((((((((v0 - (((v0).toUInt32 >>> (((1 : Int32)).toUInt32 &&& Int32.toUInt32 31)).toInt32 &&& (1431655765 : Int32))) &&& (858993459 : Int32)) + ((((v0 - (((v0).toUInt32 >>> (((1 : Int32)).toUInt32 &&& Int32.toUInt32 31)).toInt32 &&& (1431655765 : Int32)))).toUInt32 >>> (((2 : Int32)).toUInt32 &&& Int32.toUInt32 31)).toInt32 &&& (858993459 : Int32))) + (((((v0 - (((v0).toUInt32 >>> (((1 : Int32)).toUInt32 &&& Int32.toUInt32 31)).toInt32 &&& (1431655765 : Int32))) &&& (858993459 : Int32)) + ((((v0 - (((v0).toUInt32 >>> (((1 : Int32)).toUInt32 &&& Int32.toUInt32 31)).toInt32 &&& (1431655765 : Int32)))).toUInt32 >>> (((2 : Int32)).toUInt32 &&& Int32.toUInt32 31)).toInt32 &&& (858993459 : Int32)))).toUInt32 >>> (((4 : Int32)).toUInt32 &&& Int32.toUInt32 31)).toInt32) &&& (252645135 : Int32)) + (((((((v0 - (((v0).toUInt32 >>> (((1 : Int32)).toUInt32 &&& Int32.toUInt32 31)).toInt32 &&& (1431655765 : Int32))) &&& (858993459 : Int32)) + ((((v0 - (((v0).toUInt32 >>> (((1 : Int32)).toUInt32 &&& Int32.toUInt32 31)).toInt32 &&& (1431655765 : Int32)))).toUInt32 >>> (((2 : Int32)).toUInt32 &&& Int32.toUInt32 31)).toInt32 &&& (858993459 : Int32))) + (((((v0 - (((v0).toUInt32 >>> (((1 : Int32)).toUInt32 &&& Int32.toUInt32 31)).toInt32 &&& (1431655765 : Int32))) &&& (858993459 : Int32)) + ((((v0 - (((v0).toUInt32 >>> (((1 : Int32)).toUInt32 &&& Int32.toUInt32 31)).toInt32 &&& (1431655765 : Int32)))).toUInt32 >>> (((2 : Int32)).toUInt32 &&& Int32.toUInt32 31)).toInt32 &&& (858993459 : Int32)))).toUInt32 >>> (((4 : Int32)).toUInt32 &&& Int32.toUInt32 31)).toInt32) &&& (252645135 : Int32))).toUInt32 >>> (((8 : Int32)).toUInt32 &&& Int32.toUInt32 31)).toInt32)).toUInt32 >>> (((16 : Int32)).toUInt32 &&& Int32.toUInt32 31)).toInt32))] _
  refine r_iload_n C dJ6_bitCount_0f7a4_48 (rfl : 48 + 1 = 49) rfl ?_
  refine r_bipush (v := (63 : Int32)) C dJ6_bitCount_0f7a4_49 (rfl : 49 + 2 = 51) rfl ?_
  refine r_iand C dJ6_bitCount_0f7a4_51 (rfl : 51 + 1 = 52) ?_
  cases h
  exact r_iret C hr dJ6_bitCount_0f7a4_52
set_option maxHeartbeats 400000 in
set_option maxRecDepth 100000 in
theorem c_J6_bitCount_0f7a4 (l : Launch) (u : Nat) (h : k_H)  {x0 : Int32} {out : Int32} (hf : f_J6_bitCount_0f7a4 u x0 = some out) : k_CT l yJ6_bitCount_0f7a4 cJ6_bitCount_0f7a4 1 (some .int) 0 0 [.int x0] h (some (.int out)) [] := by
  obtain ⟨sh, I, L, Rf⟩ := h
  try dsimp only
  refine k_ofW (by decide) (Nat.le_of_ble_eq_true rfl) ?_
  intro X ad hl hR0 hr C
  have hR : X.R.frames = 0 ∧ X.R.locals = 0 := by rw [hR0]; exact ⟨rfl, rfl⟩
  have h := hf
  unfold f_J6_bitCount_0f7a4 at h
  refine k_start (us := []) k_ap_0 ?_
  show k_W X 1 0 0 _ ad (k_ap [] (sh, I, L, Rf)) 0 [some (.int x0)] []
  refine k_mask [true] ?_
  exact sJ6_bitCount_0f7a4_0 u C hr hR x0 h
