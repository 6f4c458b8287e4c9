/-! LullabyPit.hold(I)J -/
theorem ds_X10_hold : k_ds [(19, 2, 0), (43, 0, 10), (43, 0, 11), (43, 0, 12), (43, 0, 13), (43, 0, 14), (43, 0, 15), (43, 0, 16), (43, 0, 17), (43, 1, 3), (43, 1, 4), (43, 1, 5), (44, 2, 0), (45, 2, 0), (46, 2, 0), (47, 2, 0), (69, 2, 0)] = true := by decide +kernel
set_option maxHeartbeats 1000000 in
set_option maxRecDepth 100000 in
theorem sX10_hold_26 (u : Nat) {X : k_X} {ad0 ad : Nat → Nat} {rest : List k_Sh} (C : k_C X cX10_hold RX10 2 ad) (hr : X.meth.sig.returnType = (some .long)) (hR : X.R.frames = 7 ∧ X.R.locals = 175) (hx : ∀ x ∈ X.c.exceptionTable.toList, False) (hRc : X.R.cells = 1) (hRs : X.R.slots = 6) (hT : X.l.stackTraces = false) (hsm : k_sm (shX ++ rest).length ad0 ad) {I : Nat → Nat → Int32} {L : Nat → Nat → Int64} {Rf : Nat → Nat → Option Nat} (eR41_0 : Rf 41 0 = some 43) {c3_1 : Int32} (ec3_1 : I 3 1 = c3_1) {a4 : (Nat → Int32)} (ea4 : I 4 = a4) {a5 : (Nat → Int32)} (ea5 : I 5 = a5) {c17_2 : Int32} (ec17_2 : I 17 2 = c17_2) {a18 : (Nat → Int32)} (ea18 : I 18 = a18) {c26_10 : Int32} (ec26_10 : I 26 10 = c26_10) {c26_11 : Int32} (ec26_11 : I 26 11 = c26_11) {c26_12 : Int32} (ec26_12 : I 26 12 = c26_12) {c26_13 : Int32} (ec26_13 : I 26 13 = c26_13) {c26_14 : Int32} (ec26_14 : I 26 14 = c26_14) {c26_15 : Int32} (ec26_15 : I 26 15 = c26_15) {c26_16 : Int32} (ec26_16 : I 26 16 = c26_16) {c26_17 : Int32} (ec26_17 : I 26 17 = c26_17) {c26_3 : Int64} (ec26_3 : L 26 3 = c26_3) {c26_4 : Int64} (ec26_4 : L 26 4 = c26_4) {c26_5 : Int64} (ec26_5 : L 26 5 = c26_5) {a27 : (Nat → Int32)} (ea27 : I 27 = a27) {a28 : (Nat → Int32)} (ea28 : I 28 = a28) {a29 : (Nat → Int32)} (ea29 : I 29 = a29) {a30 : (Nat → Int32)} (ea30 : I 30 = a30) {out : Int32 × Int64 × (Nat → Int32) × Int32 × Int32 × Int32 × Int32 × Int32 × Int32 × Int32 × Int32 × Int64 × Int64 × Int64 × (Nat → Int32) × (Nat → Int32) × (Nat → Int32) × (Nat → Int32) × (Nat → Int32)} : ∀ (a19 : (Nat → Int32)) (c43_10 : Int32) (c43_11 : Int32) (c43_12 : Int32) (c43_13 : Int32) (c43_14 : Int32) (c43_15 : Int32) (c43_16 : Int32) (c43_17 : Int32) (c43_3 : Int64) (c43_4 : Int64) (c43_5 : Int64) (a44 : (Nat → Int32)) (a45 : (Nat → Int32)) (a46 : (Nat → Int32)) (a47 : (Nat → Int32)) (a69 : (Nat → Int32)) (w0 : Int32), bX10_hold_26 u c3_1 a4 a5 c17_2 a18 c26_10 c26_11 c26_12 c26_13 c26_14 c26_15 c26_16 c26_17 c26_3 c26_4 c26_5 a27 a28 a29 a30 a19 c43_10 c43_11 c43_12 c43_13 c43_14 c43_15 c43_16 c43_17 c43_3 c43_4 c43_5 a44 a45 a46 a47 a69 w0 = some out → k_W X 2 1 6 (k_QX X ad0 (shX ++ rest).length (k_R1 out.1 (some (.long out.2.1)) (k_ap [(19, .inr (.inr (.inl out.2.2.1))), (43, .inl (10, out.2.2.2.1)), (43, .inl (11, out.2.2.2.2.1)), (43, .inl (12, out.2.2.2.2.2.1)), (43, .inl (13, out.2.2.2.2.2.2.1)), (43, .inl (14, out.2.2.2.2.2.2.2.1)), (43, .inl (15, out.2.2.2.2.2.2.2.2.1)), (43, .inl (16, out.2.2.2.2.2.2.2.2.2.1)), (43, .inl (17, out.2.2.2.2.2.2.2.2.2.2.1)), (43, .inr (.inl (3, out.2.2.2.2.2.2.2.2.2.2.2.1))), (43, .inr (.inl (4, out.2.2.2.2.2.2.2.2.2.2.2.2.1))), (43, .inr (.inl (5, out.2.2.2.2.2.2.2.2.2.2.2.2.2.1))), (44, .inr (.inr (.inl out.2.2.2.2.2.2.2.2.2.2.2.2.2.2.1))), (45, .inr (.inr (.inl out.2.2.2.2.2.2.2.2.2.2.2.2.2.2.2.1))), (46, .inr (.inr (.inl out.2.2.2.2.2.2.2.2.2.2.2.2.2.2.2.2.1))), (47, .inr (.inr (.inl out.2.2.2.2.2.2.2.2.2.2.2.2.2.2.2.2.2.1))), (69, .inr (.inr (.inl out.2.2.2.2.2.2.2.2.2.2.2.2.2.2.2.2.2.2)))] ((shX ++ rest), I, L, Rf))) (k_R2 out.1 (k_ap [(19, .inr (.inr (.inl out.2.2.1))), (43, .inl (10, out.2.2.2.1)), (43, .inl (11, out.2.2.2.2.1)), (43, .inl (12, out.2.2.2.2.2.1)), (43, .inl (13, out.2.2.2.2.2.2.1)), (43, .inl (14, out.2.2.2.2.2.2.2.1)), (43, .inl (15, out.2.2.2.2.2.2.2.2.1)), (43, .inl (16, out.2.2.2.2.2.2.2.2.2.1)), (43, .inl (17, out.2.2.2.2.2.2.2.2.2.2.1)), (43, .inr (.inl (3, out.2.2.2.2.2.2.2.2.2.2.2.1))), (43, .inr (.inl (4, out.2.2.2.2.2.2.2.2.2.2.2.2.1))), (43, .inr (.inl (5, out.2.2.2.2.2.2.2.2.2.2.2.2.2.1))), (44, .inr (.inr (.inl out.2.2.2.2.2.2.2.2.2.2.2.2.2.2.1))), (45, .inr (.inr (.inl out.2.2.2.2.2.2.2.2.2.2.2.2.2.2.2.1))), (46, .inr (.inr (.inl out.2.2.2.2.2.2.2.2.2.2.2.2.2.2.2.2.1))), (47, .inr (.inr (.inl out.2.2.2.2.2.2.2.2.2.2.2.2.2.2.2.2.2.1))), (69, .inr (.inr (.inl out.2.2.2.2.2.2.2.2.2.2.2.2.2.2.2.2.2.2)))] ((shX ++ rest), I, L, Rf))) 1 6) ad (k_ap [(19, .inr (.inr (.inl a19))), (43, .inl (10, c43_10)), (43, .inl (11, c43_11)), (43, .inl (12, c43_12)), (43, .inl (13, c43_13)), (43, .inl (14, c43_14)), (43, .inl (15, c43_15)), (43, .inl (16, c43_16)), (43, .inl (17, c43_17)), (43, .inr (.inl (3, c43_3))), (43, .inr (.inl (4, c43_4))), (43, .inr (.inl (5, c43_5))), (44, .inr (.inr (.inl a44))), (45, .inr (.inr (.inl a45))), (46, .inr (.inr (.inl a46))), (47, .inr (.inr (.inl a47))), (69, .inr (.inr (.inl a69)))] ((shX ++ rest), I, L, Rf)) 26 [none, none] [.int w0, .ref 26, .ref 40] := by
  intro a19 c43_10 c43_11 c43_12 c43_13 c43_14 c43_15 c43_16 c43_17 c43_3 c43_4 c43_5 a44 a45 a46 a47 a69 w0 h
  unfold bX10_hold_26 at h
  obtain ⟨r26, q26, h⟩ := k_b_of h
  refine d_V (As := [.ref 26, .int w0]) (st := []) (st' := [.long r26.1]) (h' := k_ap [(19, .inr (.inr (.inl r26.2.1))), (43, .inl (10, r26.2.2.1)), (43, .inl (11, r26.2.2.2.1)), (43, .inl (12, r26.2.2.2.2.1)), (43, .inl (13, r26.2.2.2.2.2.1)), (43, .inl (14, r26.2.2.2.2.2.2.1)), (43, .inl (15, r26.2.2.2.2.2.2.2.1)), (43, .inl (16, r26.2.2.2.2.2.2.2.2.1)), (43, .inl (17, r26.2.2.2.2.2.2.2.2.2.1)), (43, .inr (.inl (3, r26.2.2.2.2.2.2.2.2.2.2.1))), (43, .inr (.inl (4, r26.2.2.2.2.2.2.2.2.2.2.2.1))), (43, .inr (.inl (5, r26.2.2.2.2.2.2.2.2.2.2.2.2.1))), (44, .inr (.inr (.inl r26.2.2.2.2.2.2.2.2.2.2.2.2.2.1))), (45, .inr (.inr (.inl r26.2.2.2.2.2.2.2.2.2.2.2.2.2.2.1))), (46, .inr (.inr (.inl r26.2.2.2.2.2.2.2.2.2.2.2.2.2.2.2.1))), (47, .inr (.inr (.inl r26.2.2.2.2.2.2.2.2.2.2.2.2.2.2.2.2))), (69, .inr (.inr (.inl a69)))] ((shX ++ rest), I, L, Rf)) C hR (k_csl hRc hRs rfl rfl) mv_X7_propsToHold lk_X10_307 dX10_hold_26 (rfl : 26 + 3 = 29) rfl rfl (k_gS rfl) rfl (c_X7_propsToHold X.l u (k_ap [(19, .inr (.inr (.inl a19))), (43, .inl (10, c43_10)), (43, .inl (11, c43_11)), (43, .inl (12, c43_12)), (43, .inl (13, c43_13)), (43, .inl (14, c43_14)), (43, .inl (15, c43_15)), (43, .inl (16, c43_16)), (43, .inl (17, c43_17)), (43, .inr (.inl (3, c43_3))), (43, .inr (.inl (4, c43_4))), (43, .inr (.inl (5, c43_5))), (44, .inr (.inr (.inl a44))), (45, .inr (.inr (.inl a45))), (46, .inr (.inr (.inl a46))), (47, .inr (.inr (.inl a47))), (69, .inr (.inr (.inl a69)))] ((shX ++ rest), I, L, Rf)) (k_gH rfl) eR41_0 (k_gOI (ks := [(19, 2, 0), (43, 0, 10), (43, 0, 11), (43, 0, 12), (43, 0, 13), (43, 0, 14), (43, 0, 15), (43, 0, 16), (43, 0, 17), (43, 1, 3), (43, 1, 4), (43, 1, 5), (44, 2, 0), (45, 2, 0), (46, 2, 0), (47, 2, 0), (69, 2, 0)]) rfl (by decide +kernel) ec3_1) (k_gOA (ks := [(19, 2, 0), (43, 0, 10), (43, 0, 11), (43, 0, 12), (43, 0, 13), (43, 0, 14), (43, 0, 15), (43, 0, 16), (43, 0, 17), (43, 1, 3), (43, 1, 4), (43, 1, 5), (44, 2, 0), (45, 2, 0), (46, 2, 0), (47, 2, 0), (69, 2, 0)]) rfl (by decide +kernel) ea4) (k_gOA (ks := [(19, 2, 0), (43, 0, 10), (43, 0, 11), (43, 0, 12), (43, 0, 13), (43, 0, 14), (43, 0, 15), (43, 0, 16), (43, 0, 17), (43, 1, 3), (43, 1, 4), (43, 1, 5), (44, 2, 0), (45, 2, 0), (46, 2, 0), (47, 2, 0), (69, 2, 0)]) rfl (by decide +kernel) ea5) (k_gOI (ks := [(19, 2, 0), (43, 0, 10), (43, 0, 11), (43, 0, 12), (43, 0, 13), (43, 0, 14), (43, 0, 15), (43, 0, 16), (43, 0, 17), (43, 1, 3), (43, 1, 4), (43, 1, 5), (44, 2, 0), (45, 2, 0), (46, 2, 0), (47, 2, 0), (69, 2, 0)]) rfl (by decide +kernel) ec17_2) (k_gOA (ks := [(19, 2, 0), (43, 0, 10), (43, 0, 11), (43, 0, 12), (43, 0, 13), (43, 0, 14), (43, 0, 15), (43, 0, 16), (43, 0, 17), (43, 1, 3), (43, 1, 4), (43, 1, 5), (44, 2, 0), (45, 2, 0), (46, 2, 0), (47, 2, 0), (69, 2, 0)]) rfl (by decide +kernel) ea18) (k_gA ds_X10_hold rfl 0 rfl) (k_gOI (ks := [(19, 2, 0), (43, 0, 10), (43, 0, 11), (43, 0, 12), (43, 0, 13), (43, 0, 14), (43, 0, 15), (43, 0, 16), (43, 0, 17), (43, 1, 3), (43, 1, 4), (43, 1, 5), (44, 2, 0), (45, 2, 0), (46, 2, 0), (47, 2, 0), (69, 2, 0)]) rfl (by decide +kernel) ec26_10) (k_gOI (ks := [(19, 2, 0), (43, 0, 10), (43, 0, 11), (43, 0, 12), (43, 0, 13), (43, 0, 14), (43, 0, 15), (43, 0, 16), (43, 0, 17), (43, 1, 3), (43, 1, 4), (43, 1, 5), (44, 2, 0), (45, 2, 0), (46, 2, 0), (47, 2, 0), (69, 2, 0)]) rfl (by decide +kernel) ec26_11) (k_gOI (ks := [(19, 2, 0), (43, 0, 10), (43, 0, 11), (43, 0, 12), (43, 0, 13), (43, 0, 14), (43, 0, 15), (43, 0, 16), (43, 0, 17), (43, 1, 3), (43, 1, 4), (43, 1, 5), (44, 2, 0), (45, 2, 0), (46, 2, 0), (47, 2, 0), (69, 2, 0)]) rfl (by decide +kernel) ec26_12) (k_gOI (ks := [(19, 2, 0), (43, 0, 10), (43, 0, 11), (43, 0, 12), (43, 0, 13), (43, 0, 14), (43, 0, 15), (43, 0, 16), (43, 0, 17), (43, 1, 3), (43, 1, 4), (43, 1, 5), (44, 2, 0), (45, 2, 0), (46, 2, 0), (47, 2, 0), (69, 2, 0)]) rfl (by decide +kernel) ec26_13) (k_gOI (ks := [(19, 2, 0), (43, 0, 10), (43, 0, 11), (43, 0, 12), (43, 0, 13), (43, 0, 14), (43, 0, 15), (43, 0, 16), (43, 0, 17), (43, 1, 3), (43, 1, 4), (43, 1, 5), (44, 2, 0), (45, 2, 0), (46, 2, 0), (47, 2, 0), (69, 2, 0)]) rfl (by decide +kernel) ec26_14) (k_gOI (ks := [(19, 2, 0), (43, 0, 10), (43, 0, 11), (43, 0, 12), (43, 0, 13), (43, 0, 14), (43, 0, 15), (43, 0, 16), (43, 0, 17), (43, 1, 3), (43, 1, 4), (43, 1, 5), (44, 2, 0), (45, 2, 0), (46, 2, 0), (47, 2, 0), (69, 2, 0)]) rfl (by decide +kernel) ec26_15) (k_gOI (ks := [(19, 2, 0), (43, 0, 10), (43, 0, 11), (43, 0, 12), (43, 0, 13), (43, 0, 14), (43, 0, 15), (43, 0, 16), (43, 0, 17), (43, 1, 3), (43, 1, 4), (43, 1, 5), (44, 2, 0), (45, 2, 0), (46, 2, 0), (47, 2, 0), (69, 2, 0)]) rfl (by decide +kernel) ec26_16) (k_gOI (ks := [(19, 2, 0), (43, 0, 10), (43, 0, 11), (43, 0, 12), (43, 0, 13), (43, 0, 14), (43, 0, 15), (43, 0, 16), (43, 0, 17), (43, 1, 3), (43, 1, 4), (43, 1, 5), (44, 2, 0), (45, 2, 0), (46, 2, 0), (47, 2, 0), (69, 2, 0)]) rfl (by decide +kernel) ec26_17) (k_gOL (ks := [(19, 2, 0), (43, 0, 10), (43, 0, 11), (43, 0, 12), (43, 0, 13), (43, 0, 14), (43, 0, 15), (43, 0, 16), (43, 0, 17), (43, 1, 3), (43, 1, 4), (43, 1, 5), (44, 2, 0), (45, 2, 0), (46, 2, 0), (47, 2, 0), (69, 2, 0)]) rfl (by decide +kernel) ec26_3) (k_gOL (ks := [(19, 2, 0), (43, 0, 10), (43, 0, 11), (43, 0, 12), (43, 0, 13), (43, 0, 14), (43, 0, 15), (43, 0, 16), (43, 0, 17), (43, 1, 3), (43, 1, 4), (43, 1, 5), (44, 2, 0), (45, 2, 0), (46, 2, 0), (47, 2, 0), (69, 2, 0)]) rfl (by decide +kernel) ec26_4) (k_gOL (ks := [(19, 2, 0), (43, 0, 10), (43, 0, 11), (43, 0, 12), (43, 0, 13), (43, 0, 14), (43, 0, 15), (43, 0, 16), (43, 0, 17), (43, 1, 3), (43, 1, 4), (43, 1, 5), (44, 2, 0), (45, 2, 0), (46, 2, 0), (47, 2, 0), (69, 2, 0)]) rfl (by decide +kernel) ec26_5) (k_gOA (ks := [(19, 2, 0), (43, 0, 10), (43, 0, 11), (43, 0, 12), (43, 0, 13), (43, 0, 14), (43, 0, 15), (43, 0, 16), (43, 0, 17), (43, 1, 3), (43, 1, 4), (43, 1, 5), (44, 2, 0), (45, 2, 0), (46, 2, 0), (47, 2, 0), (69, 2, 0)]) rfl (by decide +kernel) ea27) (k_gOA (ks := [(19, 2, 0), (43, 0, 10), (43, 0, 11), (43, 0, 12), (43, 0, 13), (43, 0, 14), (43, 0, 15), (43, 0, 16), (43, 0, 17), (43, 1, 3), (43, 1, 4), (43, 1, 5), (44, 2, 0), (45, 2, 0), (46, 2, 0), (47, 2, 0), (69, 2, 0)]) rfl (by decide +kernel) ea28) (k_gOA (ks := [(19, 2, 0), (43, 0, 10), (43, 0, 11), (43, 0, 12), (43, 0, 13), (43, 0, 14), (43, 0, 15), (43, 0, 16), (43, 0, 17), (43, 1, 3), (43, 1, 4), (43, 1, 5), (44, 2, 0), (45, 2, 0), (46, 2, 0), (47, 2, 0), (69, 2, 0)]) rfl (by decide +kernel) ea29) (k_gOA (ks := [(19, 2, 0), (43, 0, 10), (43, 0, 11), (43, 0, 12), (43, 0, 13), (43, 0, 14), (43, 0, 15), (43, 0, 16), (43, 0, 17), (43, 1, 3), (43, 1, 4), (43, 1, 5), (44, 2, 0), (45, 2, 0), (46, 2, 0), (47, 2, 0), (69, 2, 0)]) rfl (by decide +kernel) ea30) (k_gI ds_X10_hold rfl 1 rfl) (k_gI ds_X10_hold rfl 2 rfl) (k_gI ds_X10_hold rfl 3 rfl) (k_gI ds_X10_hold rfl 4 rfl) (k_gI ds_X10_hold rfl 5 rfl) (k_gI ds_X10_hold rfl 6 rfl) (k_gI ds_X10_hold rfl 7 rfl) (k_gI ds_X10_hold rfl 8 rfl) (k_gL ds_X10_hold rfl 9 rfl) (k_gL ds_X10_hold rfl 10 rfl) (k_gL ds_X10_hold rfl 11 rfl) (k_gA ds_X10_hold rfl 12 rfl) (k_gA ds_X10_hold rfl 13 rfl) (k_gA ds_X10_hold rfl 14 rfl) (k_gA ds_X10_hold rfl 15 rfl) q26) rfl rfl rfl (k_jn2 (us' := [(19, .inr (.inr (.inl r26.2.1))), (43, .inl (10, r26.2.2.1)), (43, .inl (11, r26.2.2.2.1)), (43, .inl (12, r26.2.2.2.2.1)), (43, .inl (13, r26.2.2.2.2.2.1)), (43, .inl (14, r26.2.2.2.2.2.2.1)), (43, .inl (15, r26.2.2.2.2.2.2.2.1)), (43, .inl (16, r26.2.2.2.2.2.2.2.2.1)), (43, .inl (17, r26.2.2.2.2.2.2.2.2.2.1)), (43, .inr (.inl (3, r26.2.2.2.2.2.2.2.2.2.2.1))), (43, .inr (.inl (4, r26.2.2.2.2.2.2.2.2.2.2.2.1))), (43, .inr (.inl (5, r26.2.2.2.2.2.2.2.2.2.2.2.2.1))), (44, .inr (.inr (.inl r26.2.2.2.2.2.2.2.2.2.2.2.2.2.1))), (45, .inr (.inr (.inl r26.2.2.2.2.2.2.2.2.2.2.2.2.2.2.1))), (46, .inr (.inr (.inl r26.2.2.2.2.2.2.2.2.2.2.2.2.2.2.2.1))), (47, .inr (.inr (.inl r26.2.2.2.2.2.2.2.2.2.2.2.2.2.2.2.2))), (69, .inr (.inr (.inl a69)))]) (vks := [(19, 2, 0), (43, 0, 10), (43, 0, 11), (43, 0, 12), (43, 0, 13), (43, 0, 14), (43, 0, 15), (43, 0, 16), (43, 0, 17), (43, 1, 3), (43, 1, 4), (43, 1, 5), (44, 2, 0), (45, 2, 0), (46, 2, 0), (47, 2, 0)]) (js := [0, 1, 2, 3, 4, 5, 6, 7, 8, 9, 10, 11, 12, 13, 14, 15]) ds_X10_hold rfl rfl (by decide +kernel) rfl) rfl ?_
  cases h
  exact x_of_g (g_lret C hr (Nat.le_of_ble_eq_true rfl) (Nat.le_of_ble_eq_true rfl) ⟨rfl, rfl, rfl⟩ hsm dX10_hold_29)
set_option maxHeartbeats 1000000 in
set_option maxRecDepth 100000 in
theorem sX10_hold_0 (u : Nat) {X : k_X} {ad0 ad : Nat → Nat} {rest : List k_Sh} (C : k_C X cX10_hold RX10 2 ad) (hr : X.meth.sig.returnType = (some .long)) (hR : X.R.frames = 7 ∧ X.R.locals = 175) (hx : ∀ x ∈ X.c.exceptionTable.toList, False) (hRc : X.R.cells = 1) (hRs : X.R.slots = 6) (hT : X.l.stackTraces = false) (hsm : k_sm (shX ++ rest).length ad0 ad) {I : Nat → Nat → Int32} {L : Nat → Nat → Int64} {Rf : Nat → Nat → Option Nat} (eR41_0 : Rf 41 0 = some 43) {c3_1 : Int32} (ec3_1 : I 3 1 = c3_1) {a4 : (Nat → Int32)} (ea4 : I 4 = a4) {a5 : (Nat → Int32)} (ea5 : I 5 = a5) {c17_2 : Int32} (ec17_2 : I 17 2 = c17_2) {a18 : (Nat → Int32)} (ea18 : I 18 = a18) {c26_10 : Int32} (ec26_10 : I 26 10 = c26_10) {c26_11 : Int32} (ec26_11 : I 26 11 = c26_11) {c26_12 : Int32} (ec26_12 : I 26 12 = c26_12) {c26_13 : Int32} (ec26_13 : I 26 13 = c26_13) {c26_14 : Int32} (ec26_14 : I 26 14 = c26_14) {c26_15 : Int32} (ec26_15 : I 26 15 = c26_15) {c26_16 : Int32} (ec26_16 : I 26 16 = c26_16) {c26_17 : Int32} (ec26_17 : I 26 17 = c26_17) {c26_3 : Int64} (ec26_3 : L 26 3 = c26_3) {c26_4 : Int64} (ec26_4 : L 26 4 = c26_4) {c26_5 : Int64} (ec26_5 : L 26 5 = c26_5) {a27 : (Nat → Int32)} (ea27 : I 27 = a27) {a28 : (Nat → Int32)} (ea28 : I 28 = a28) {a29 : (Nat → Int32)} (ea29 : I 29 = a29) {a30 : (Nat → Int32)} (ea30 : I 30 = a30) {out : Int32 × Int64 × (Nat → Int32) × Int32 × Int32 × Int32 × Int32 × Int32 × Int32 × Int32 × Int32 × Int64 × Int64 × Int64 × (Nat → Int32) × (Nat → Int32) × (Nat → Int32) × (Nat → Int32) × (Nat → Int32)} : ∀ (a19 : (Nat → Int32)) (c43_10 : Int32) (c43_11 : Int32) (c43_12 : Int32) (c43_13 : Int32) (c43_14 : Int32) (c43_15 : Int32) (c43_16 : Int32) (c43_17 : Int32) (c43_3 : Int64) (c43_4 : Int64) (c43_5 : Int64) (a44 : (Nat → Int32)) (a45 : (Nat → Int32)) (a46 : (Nat → Int32)) (a47 : (Nat → Int32)) (a69 : (Nat → Int32)) (v1 : Int32), bX10_hold_0 u c3_1 a4 a5 c17_2 a18 c26_10 c26_11 c26_12 c26_13 c26_14 c26_15 c26_16 c26_17 c26_3 c26_4 c26_5 a27 a28 a29 a30 a19 c43_10 c43_11 c43_12 c43_13 c43_14 c43_15 c43_16 c43_17 c43_3 c43_4 c43_5 a44 a45 a46 a47 a69 v1 = some out → k_W X 2 0 0 (k_QX X ad0 (shX ++ rest).length (k_R1 out.1 (some (.long out.2.1)) (k_ap [(19, .inr (.inr (.inl out.2.2.1))), (43, .inl (10, out.2.2.2.1)), (43, .inl (11, out.2.2.2.2.1)), (43, .inl (12, out.2.2.2.2.2.1)), (43, .inl (13, out.2.2.2.2.2.2.1)), (43, .inl (14, out.2.2.2.2.2.2.2.1)), (43, .inl (15, out.2.2.2.2.2.2.2.2.1)), (43, .inl (16, out.2.2.2.2.2.2.2.2.2.1)), (43, .inl (17, out.2.2.2.2.2.2.2.2.2.2.1)), (43, .inr (.inl (3, out.2.2.2.2.2.2.2.2.2.2.2.1))), (43, .inr (.inl (4, out.2.2.2.2.2.2.2.2.2.2.2.2.1))), (43, .inr (.inl (5, out.2.2.2.2.2.2.2.2.2.2.2.2.2.1))), (44, .inr (.inr (.inl out.2.2.2.2.2.2.2.2.2.2.2.2.2.2.1))), (45, .inr (.inr (.inl out.2.2.2.2.2.2.2.2.2.2.2.2.2.2.2.1))), (46, .inr (.inr (.inl out.2.2.2.2.2.2.2.2.2.2.2.2.2.2.2.2.1))), (47, .inr (.inr (.inl out.2.2.2.2.2.2.2.2.2.2.2.2.2.2.2.2.2.1))), (69, .inr (.inr (.inl out.2.2.2.2.2.2.2.2.2.2.2.2.2.2.2.2.2.2)))] ((shX ++ rest), I, L, Rf))) (k_R2 out.1 (k_ap [(19, .inr (.inr (.inl out.2.2.1))), (43, .inl (10, out.2.2.2.1)), (43, .inl (11, out.2.2.2.2.1)), (43, .inl (12, out.2.2.2.2.2.1)), (43, .inl (13, out.2.2.2.2.2.2.1)), (43, .inl (14, out.2.2.2.2.2.2.2.1)), (43, .inl (15, out.2.2.2.2.2.2.2.2.1)), (43, .inl (16, out.2.2.2.2.2.2.2.2.2.1)), (43, .inl (17, out.2.2.2.2.2.2.2.2.2.2.1)), (43, .inr (.inl (3, out.2.2.2.2.2.2.2.2.2.2.2.1))), (43, .inr (.inl (4, out.2.2.2.2.2.2.2.2.2.2.2.2.1))), (43, .inr (.inl (5, out.2.2.2.2.2.2.2.2.2.2.2.2.2.1))), (44, .inr (.inr (.inl out.2.2.2.2.2.2.2.2.2.2.2.2.2.2.1))), (45, .inr (.inr (.inl out.2.2.2.2.2.2.2.2.2.2.2.2.2.2.2.1))), (46, .inr (.inr (.inl out.2.2.2.2.2.2.2.2.2.2.2.2.2.2.2.2.1))), (47, .inr (.inr (.inl out.2.2.2.2.2.2.2.2.2.2.2.2.2.2.2.2.2.1))), (69, .inr (.inr (.inl out.2.2.2.2.2.2.2.2.2.2.2.2.2.2.2.2.2.2)))] ((shX ++ rest), I, L, Rf))) 1 6) ad (k_ap [(19, .inr (.inr (.inl a19))), (43, .inl (10, c43_10)), (43, .inl (11, c43_11)), (43, .inl (12, c43_12)), (43, .inl (13, c43_13)), (43, .inl (14, c43_14)), (43, .inl (15, c43_15)), (43, .inl (16, c43_16)), (43, .inl (17, c43_17)), (43, .inr (.inl (3, c43_3))), (43, .inr (.inl (4, c43_4))), (43, .inr (.inl (5, c43_5))), (44, .inr (.inr (.inl a44))), (45, .inr (.inr (.inl a45))), (46, .inr (.inr (.inl a46))), (47, .inr (.inr (.inl a47))), (69, .inr (.inr (.inl a69)))] ((shX ++ rest), I, L, Rf)) 0 [some (.ref 0), some (.int v1)] [] := by
  intro a19 c43_10 c43_11 c43_12 c43_13 c43_14 c43_15 c43_16 c43_17 c43_3 c43_4 c43_5 a44 a45 a46 a47 a69 v1 h
  unfold bX10_hold_0 at h
  refine r_aload_n C dX10_hold_0 (rfl : 0 + 1 = 1) rfl ?_
  refine r_iload_n C dX10_hold_1 (rfl : 1 + 1 = 2) rfl ?_
  obtain ⟨r2, q2, h⟩ := k_b_of h
  refine d_S (As := [.int v1]) (st := [.ref 0]) (st' := [.int r2, .ref 0]) (h' := k_ap [(19, .inr (.inr (.inl a19))), (43, .inl (10, c43_10)), (43, .inl (11, c43_11)), (43, .inl (12, c43_12)), (43, .inl (13, c43_13)), (43, .inl (14, c43_14)), (43, .inl (15, c43_15)), (43, .inl (16, c43_16)), (43, .inl (17, c43_17)), (43, .inr (.inl (3, c43_3))), (43, .inr (.inl (4, c43_4))), (43, .inr (.inl (5, c43_5))), (44, .inr (.inr (.inl a44))), (45, .inr (.inr (.inl a45))), (46, .inr (.inr (.inl a46))), (47, .inr (.inr (.inl a47))), (69, .inr (.inr (.inl a69)))] ((shX ++ rest), I, L, Rf)) C hR (k_csl hRc hRs rfl rfl) ms_X10_isEither lk_X10_289 dX10_hold_2 (rfl : 2 + 3 = 5) rfl rfl (c_X10_isEither X.l u (k_ap [(19, .inr (.inr (.inl a19))), (43, .inl (10, c43_10)), (43, .inl (11, c43_11)), (43, .inl (12, c43_12)), (43, .inl (13, c43_13)), (43, .inl (14, c43_14)), (43, .inl (15, c43_15)), (43, .inl (16, c43_16)), (43, .inl (17, c43_17)), (43, .inr (.inl (3, c43_3))), (43, .inr (.inl (4, c43_4))), (43, .inr (.inl (5, c43_5))), (44, .inr (.inr (.inl a44))), (45, .inr (.inr (.inl a45))), (46, .inr (.inr (.inl a46))), (47, .inr (.inr (.inl a47))), (69, .inr (.inr (.inl a69)))] ((shX ++ rest), I, L, Rf))  q2) rfl rfl rfl rfl rfl ?_
  obtain ⟨r5, q5, h⟩ := k_b_of h
  refine c_VX (As := [.int r2]) (st := []) C hR (k_csl hRc hRs rfl rfl) mv_X10_need (k_me (tm3 (List.mem_of_getElem? (i := 141) rfl)) rfl) dX10_hold_5 (rfl : 5 + 3 = 8) rfl rfl (k_gS rfl) rfl (c_X10_need X.l u hT (k_ap [(19, .inr (.inr (.inl a19))), (43, .inl (10, c43_10)), (43, .inl (11, c43_11)), (43, .inl (12, c43_12)), (43, .inl (13, c43_13)), (43, .inl (14, c43_14)), (43, .inl (15, c43_15)), (43, .inl (16, c43_16)), (43, .inl (17, c43_17)), (43, .inr (.inl (3, c43_3))), (43, .inr (.inl (4, c43_4))), (43, .inr (.inl (5, c43_5))), (44, .inr (.inr (.inl a44))), (45, .inr (.inr (.inl a45))), (46, .inr (.inr (.inl a46))), (47, .inr (.inr (.inl a47))), (69, .inr (.inr (.inl a69)))] ((shX ++ rest), I, L, Rf)) (k_gH rfl) (k_gA ds_X10_hold rfl 16 rfl) q5) rfl rfl rfl ⟨(k_ox 0 rfl), True.intro, True.intro⟩ True.intro ?_ ?_
  · rintro E ad1 h1 ⟨hk0, rfl, rfl⟩ hsm1 C1
    have h := k_f hk0 h
    cases h
    exact x_out C1 hx (Nat.le_of_ble_eq_true rfl) (Nat.le_of_ble_eq_true rfl) ⟨hk0, rfl, (k_jn2 (us' := [(19, .inr (.inr (.inl a19))), (43, .inl (10, c43_10)), (43, .inl (11, c43_11)), (43, .inl (12, c43_12)), (43, .inl (13, c43_13)), (43, .inl (14, c43_14)), (43, .inl (15, c43_15)), (43, .inl (16, c43_16)), (43, .inl (17, c43_17)), (43, .inr (.inl (3, c43_3))), (43, .inr (.inl (4, c43_4))), (43, .inr (.inl (5, c43_5))), (44, .inr (.inr (.inl a44))), (45, .inr (.inr (.inl a45))), (46, .inr (.inr (.inl a46))), (47, .inr (.inr (.inl a47))), (69, .inr (.inr (.inl r5.2)))]) (vks := [(69, 2, 0)]) (js := [16]) ds_X10_hold rfl rfl (by decide +kernel) rfl)⟩ (k_sm_tr hsm hsm1 (Nat.le_of_eq (by rw [k_ap_sh])))
  rintro v ad5 h1 ⟨hk0, rfl, rfl⟩ hsm1 C
  have h := k_t hk0 h
  have hsm := k_sm_tr hsm hsm1 (Nat.le_of_eq (by rw [k_ap_sh]))
  refine k_eqh (k_jn2 (us' := [(19, .inr (.inr (.inl a19))), (43, .inl (10, c43_10)), (43, .inl (11, c43_11)), (43, .inl (12, c43_12)), (43, .inl (13, c43_13)), (43, .inl (14, c43_14)), (43, .inl (15, c43_15)), (43, .inl (16, c43_16)), (43, .inl (17, c43_17)), (43, .inr (.inl (3, c43_3))), (43, .inr (.inl (4, c43_4))), (43, .inr (.inl (5, c43_5))), (44, .inr (.inr (.inl a44))), (45, .inr (.inr (.inl a45))), (46, .inr (.inr (.inl a46))), (47, .inr (.inr (.inl a47))), (69, .inr (.inr (.inl r5.2)))]) (vks := [(69, 2, 0)]) (js := [16]) ds_X10_hold rfl rfl (by decide +kernel) rfl) ?_
  show k_W _ _ _ _ _ _ _ _ _ []
  refine r_aload_n C dX10_hold_8 (rfl : 8 + 1 = 9) rfl ?_
  refine r_getR (q := 40) C dX10_hold_9 (rfl : 9 + 3 = 12) fl_X10_76 (k_gS rfl) rfl ?_
  refine r_aload_n C dX10_hold_12 (rfl : 12 + 1 = 13) rfl ?_
  refine r_getR (q := 26) C dX10_hold_13 (rfl : 13 + 3 = 16) fl_X10_50 (k_gS rfl) rfl ?_
  refine r_iload_n C dX10_hold_16 (rfl : 16 + 1 = 17) rfl ?_
  refine r_iconst (v := (1 : Int32)) C dX10_hold_17 (rfl : 17 + 1 = 18) rfl ?_
  refine r_icmp_ne (tgt := 25) C dX10_hold_18 (by decide) (rfl : 18 + 3 = 21) (fun c18 => ?_) (fun c18 => ?_)
  · have h := k_f c18 h
    refine r_iconst (v := (0 : Int32)) C dX10_hold_25 (rfl : 25 + 1 = 26) rfl ?_
    refine k_mask [false, false] ?_
    exact sX10_hold_26 u C hr hR hx hRc hRs hT hsm eR41_0 ec3_1 ea4 ea5 ec17_2 ea18 ec26_10 ec26_11 ec26_12 ec26_13 ec26_14 ec26_15 ec26_16 ec26_17 ec26_3 ec26_4 ec26_5 ea27 ea28 ea29 ea30 a19 c43_10 c43_11 c43_12 c43_13 c43_14 c43_15 c43_16 c43_17 c43_3 c43_4 c43_5 a44 a45 a46 a47 r5.2 (0 : Int32) h
  · have h := k_t c18 h
    refine r_iconst (v := (1 : Int32)) C dX10_hold_21 (rfl : 21 + 1 = 22) rfl ?_
    refine r_goto (tgt := 26) C dX10_hold_22 (by decide) ?_
    refine k_mask [false, false] ?_
    exact sX10_hold_26 u C hr hR hx hRc hRs hT hsm eR41_0 ec3_1 ea4 ea5 ec17_2 ea18 ec26_10 ec26_11 ec26_12 ec26_13 ec26_14 ec26_15 ec26_16 ec26_17 ec26_3 ec26_4 ec26_5 ea27 ea28 ea29 ea30 a19 c43_10 c43_11 c43_12 c43_13 c43_14 c43_15 c43_16 c43_17 c43_3 c43_4 c43_5 a44 a45 a46 a47 r5.2 (1 : Int32) h
set_option maxHeartbeats 1000000 in
set_option maxRecDepth 100000 in
theorem c_X10_hold (l : Launch) (u : Nat) (hT : l.stackTraces = false) (h : k_H) {rest : List k_Sh} (hsh : h.1 = shX ++ rest) (eR41_0 : h.2.2.2 41 0 = some 43) {c3_1 : Int32} (ec3_1 : h.2.1 3 1 = c3_1) {a4 : (Nat → Int32)} (ea4 : h.2.1 4 = a4) {a5 : (Nat → Int32)} (ea5 : h.2.1 5 = a5) {c17_2 : Int32} (ec17_2 : h.2.1 17 2 = c17_2) {a18 : (Nat → Int32)} (ea18 : h.2.1 18 = a18) {a19 : (Nat → Int32)} (ea19 : h.2.1 19 = a19) {c26_10 : Int32} (ec26_10 : h.2.1 26 10 = c26_10) {c26_11 : Int32} (ec26_11 : h.2.1 26 11 = c26_11) {c26_12 : Int32} (ec26_12 : h.2.1 26 12 = c26_12) {c26_13 : Int32} (ec26_13 : h.2.1 26 13 = c26_13) {c26_14 : Int32} (ec26_14 : h.2.1 26 14 = c26_14) {c26_15 : Int32} (ec26_15 : h.2.1 26 15 = c26_15) {c26_16 : Int32} (ec26_16 : h.2.1 26 16 = c26_16) {c26_17 : Int32} (ec26_17 : h.2.1 26 17 = c26_17) {c26_3 : Int64} (ec26_3 : h.2.2.1 26 3 = c26_3) {c26_4 : Int64} (ec26_4 : h.2.2.1 26 4 = c26_4) {c26_5 : Int64} (ec26_5 : h.2.2.1 26 5 = c26_5) {a27 : (Nat → Int32)} (ea27 : h.2.1 27 = a27) {a28 : (Nat → Int32)} (ea28 : h.2.1 28 = a28) {a29 : (Nat → Int32)} (ea29 : h.2.1 29 = a29) {a30 : (Nat → Int32)} (ea30 : h.2.1 30 = a30) {c43_10 : Int32} (ec43_10 : h.2.1 43 10 = c43_10) {c43_11 : Int32} (ec43_11 : h.2.1 43 11 = c43_11) {c43_12 : Int32} (ec43_12 : h.2.1 43 12 = c43_12) {c43_13 : Int32} (ec43_13 : h.2.1 43 13 = c43_13) {c43_14 : Int32} (ec43_14 : h.2.1 43 14 = c43_14) {c43_15 : Int32} (ec43_15 : h.2.1 43 15 = c43_15) {c43_16 : Int32} (ec43_16 : h.2.1 43 16 = c43_16) {c43_17 : Int32} (ec43_17 : h.2.1 43 17 = c43_17) {c43_3 : Int64} (ec43_3 : h.2.2.1 43 3 = c43_3) {c43_4 : Int64} (ec43_4 : h.2.2.1 43 4 = c43_4) {c43_5 : Int64} (ec43_5 : h.2.2.1 43 5 = c43_5) {a44 : (Nat → Int32)} (ea44 : h.2.1 44 = a44) {a45 : (Nat → Int32)} (ea45 : h.2.1 45 = a45) {a46 : (Nat → Int32)} (ea46 : h.2.1 46 = a46) {a47 : (Nat → Int32)} (ea47 : h.2.1 47 = a47) {a69 : (Nat → Int32)} (ea69 : h.2.1 69 = a69) {x0 : Int32} {out : Int32 × Int64 × (Nat → Int32) × Int32 × Int32 × Int32 × Int32 × Int32 × Int32 × Int32 × Int32 × Int64 × Int64 × Int64 × (Nat → Int32) × (Nat → Int32) × (Nat → Int32) × (Nat → Int32) × (Nat → Int32)} (hf : f_X10_hold u c3_1 a4 a5 c17_2 a18 a19 c26_10 c26_11 c26_12 c26_13 c26_14 c26_15 c26_16 c26_17 c26_3 c26_4 c26_5 a27 a28 a29 a30 c43_10 c43_11 c43_12 c43_13 c43_14 c43_15 c43_16 c43_17 c43_3 c43_4 c43_5 a44 a45 a46 a47 a69 x0 = some out) : k_CX l yX10_hold cX10_hold 2 (some .long) 7 175 1 6 [.ref 0, .int x0] h (k_R1 out.1 (some (.long out.2.1)) (k_ap [(19, .inr (.inr (.inl out.2.2.1))), (43, .inl (10, out.2.2.2.1)), (43, .inl (11, out.2.2.2.2.1)), (43, .inl (12, out.2.2.2.2.2.1)), (43, .inl (13, out.2.2.2.2.2.2.1)), (43, .inl (14, out.2.2.2.2.2.2.2.1)), (43, .inl (15, out.2.2.2.2.2.2.2.2.1)), (43, .inl (16, out.2.2.2.2.2.2.2.2.2.1)), (43, .inl (17, out.2.2.2.2.2.2.2.2.2.2.1)), (43, .inr (.inl (3, out.2.2.2.2.2.2.2.2.2.2.2.1))), (43, .inr (.inl (4, out.2.2.2.2.2.2.2.2.2.2.2.2.1))), (43, .inr (.inl (5, out.2.2.2.2.2.2.2.2.2.2.2.2.2.1))), (44, .inr (.inr (.inl out.2.2.2.2.2.2.2.2.2.2.2.2.2.2.1))), (45, .inr (.inr (.inl out.2.2.2.2.2.2.2.2.2.2.2.2.2.2.2.1))), (46, .inr (.inr (.inl out.2.2.2.2.2.2.2.2.2.2.2.2.2.2.2.2.1))), (47, .inr (.inr (.inl out.2.2.2.2.2.2.2.2.2.2.2.2.2.2.2.2.2.1))), (69, .inr (.inr (.inl out.2.2.2.2.2.2.2.2.2.2.2.2.2.2.2.2.2.2)))] h)) (k_R2 out.1 (k_ap [(19, .inr (.inr (.inl out.2.2.1))), (43, .inl (10, out.2.2.2.1)), (43, .inl (11, out.2.2.2.2.1)), (43, .inl (12, out.2.2.2.2.2.1)), (43, .inl (13, out.2.2.2.2.2.2.1)), (43, .inl (14, out.2.2.2.2.2.2.2.1)), (43, .inl (15, out.2.2.2.2.2.2.2.2.1)), (43, .inl (16, out.2.2.2.2.2.2.2.2.2.1)), (43, .inl (17, out.2.2.2.2.2.2.2.2.2.2.1)), (43, .inr (.inl (3, out.2.2.2.2.2.2.2.2.2.2.2.1))), (43, .inr (.inl (4, out.2.2.2.2.2.2.2.2.2.2.2.2.1))), (43, .inr (.inl (5, out.2.2.2.2.2.2.2.2.2.2.2.2.2.1))), (44, .inr (.inr (.inl out.2.2.2.2.2.2.2.2.2.2.2.2.2.2.1))), (45, .inr (.inr (.inl out.2.2.2.2.2.2.2.2.2.2.2.2.2.2.2.1))), (46, .inr (.inr (.inl out.2.2.2.2.2.2.2.2.2.2.2.2.2.2.2.2.1))), (47, .inr (.inr (.inl out.2.2.2.2.2.2.2.2.2.2.2.2.2.2.2.2.2.1))), (69, .inr (.inr (.inl out.2.2.2.2.2.2.2.2.2.2.2.2.2.2.2.2.2.2)))] h)) := by
  obtain ⟨sh, I, L, Rf⟩ := h
  try dsimp only
  obtain rfl : sh = shX ++ rest := hsh
  refine k_ofWX (by decide) (Nat.le_of_ble_eq_true rfl) ?_
  intro X ad hl hR0 hr C hx
  have hR : X.R.frames = 7 ∧ X.R.locals = 175 := by rw [hR0]; exact ⟨rfl, rfl⟩
  have hRc : X.R.cells = 1 := by rw [hR0]
  have hRs : X.R.slots = 6 := by rw [hR0]
  have hT : X.l.stackTraces = false := by rw [hl]; exact hT
  have hsm := k_sm_rf (shX ++ rest).length ad
  have h := hf
  unfold f_X10_hold at h
  refine k_start (us := [(19, .inr (.inr (.inl a19))), (43, .inl (10, c43_10)), (43, .inl (11, c43_11)), (43, .inl (12, c43_12)), (43, .inl (13, c43_13)), (43, .inl (14, c43_14)), (43, .inl (15, c43_15)), (43, .inl (16, c43_16)), (43, .inl (17, c43_17)), (43, .inr (.inl (3, c43_3))), (43, .inr (.inl (4, c43_4))), (43, .inr (.inl (5, c43_5))), (44, .inr (.inr (.inl a44))), (45, .inr (.inr (.inl a45))), (46, .inr (.inr (.inl a46))), (47, .inr (.inr (.inl a47))), (69, .inr (.inr (.inl a69)))]) (k_ao_A ea19 (k_ao_I ec43_10 (k_ao_I ec43_11 (k_ao_I ec43_12 (k_ao_I ec43_13 (k_ao_I ec43_14 (k_ao_I ec43_15 (k_ao_I ec43_16 (k_ao_I ec43_17 (k_ao_L ec43_3 (k_ao_L ec43_4 (k_ao_L ec43_5 (k_ao_A ea44 (k_ao_A ea45 (k_ao_A ea46 (k_ao_A ea47 (k_ao_A ea69 k_ap_0))))))))))))))))) ?_
  show k_W X 2 0 0 (k_QX X ad (shX ++ rest).length (k_R1 out.1 (some (.long out.2.1)) (k_ap [(19, .inr (.inr (.inl out.2.2.1))), (43, .inl (10, out.2.2.2.1)), (43, .inl (11, out.2.2.2.2.1)), (43, .inl (12, out.2.2.2.2.2.1)), (43, .inl (13, out.2.2.2.2.2.2.1)), (43, .inl (14, out.2.2.2.2.2.2.2.1)), (43, .inl (15, out.2.2.2.2.2.2.2.2.1)), (43, .inl (16, out.2.2.2.2.2.2.2.2.2.1)), (43, .inl (17, out.2.2.2.2.2.2.2.2.2.2.1)), (43, .inr (.inl (3, out.2.2.2.2.2.2.2.2.2.2.2.1))), (43, .inr (.inl (4, out.2.2.2.2.2.2.2.2.2.2.2.2.1))), (43, .inr (.inl (5, out.2.2.2.2.2.2.2.2.2.2.2.2.2.1))), (44, .inr (.inr (.inl out.2.2.2.2.2.2.2.2.2.2.2.2.2.2.1))), (45, .inr (.inr (.inl out.2.2.2.2.2.2.2.2.2.2.2.2.2.2.2.1))), (46, .inr (.inr (.inl out.2.2.2.2.2.2.2.2.2.2.2.2.2.2.2.2.1))), (47, .inr (.inr (.inl out.2.2.2.2.2.2.2.2.2.2.2.2.2.2.2.2.2.1))), (69, .inr (.inr (.inl out.2.2.2.2.2.2.2.2.2.2.2.2.2.2.2.2.2.2)))] ((shX ++ rest), I, L, Rf))) (k_R2 out.1 (k_ap [(19, .inr (.inr (.inl out.2.2.1))), (43, .inl (10, out.2.2.2.1)), (43, .inl (11, out.2.2.2.2.1)), (43, .inl (12, out.2.2.2.2.2.1)), (43, .inl (13, out.2.2.2.2.2.2.1)), (43, .inl (14, out.2.2.2.2.2.2.2.1)), (43, .inl (15, out.2.2.2.2.2.2.2.2.1)), (43, .inl (16, out.2.2.2.2.2.2.2.2.2.1)), (43, .inl (17, out.2.2.2.2.2.2.2.2.2.2.1)), (43, .inr (.inl (3, out.2.2.2.2.2.2.2.2.2.2.2.1))), (43, .inr (.inl (4, out.2.2.2.2.2.2.2.2.2.2.2.2.1))), (43, .inr (.inl (5, out.2.2.2.2.2.2.2.2.2.2.2.2.2.1))), (44, .inr (.inr (.inl out.2.2.2.2.2.2.2.2.2.2.2.2.2.2.1))), (45, .inr (.inr (.inl out.2.2.2.2.2.2.2.2.2.2.2.2.2.2.2.1))), (46, .inr (.inr (.inl out.2.2.2.2.2.2.2.2.2.2.2.2.2.2.2.2.1))), (47, .inr (.inr (.inl out.2.2.2.2.2.2.2.2.2.2.2.2.2.2.2.2.2.1))), (69, .inr (.inr (.inl out.2.2.2.2.2.2.2.2.2.2.2.2.2.2.2.2.2.2)))] ((shX ++ rest), I, L, Rf))) 1 6) ad (k_ap [(19, .inr (.inr (.inl a19))), (43, .inl (10, c43_10)), (43, .inl (11, c43_11)), (43, .inl (12, c43_12)), (43, .inl (13, c43_13)), (43, .inl (14, c43_14)), (43, .inl (15, c43_15)), (43, .inl (16, c43_16)), (43, .inl (17, c43_17)), (43, .inr (.inl (3, c43_3))), (43, .inr (.inl (4, c43_4))), (43, .inr (.inl (5, c43_5))), (44, .inr (.inr (.inl a44))), (45, .inr (.inr (.inl a45))), (46, .inr (.inr (.inl a46))), (47, .inr (.inr (.inl a47))), (69, .inr (.inr (.inl a69)))] ((shX ++ rest), I, L, Rf)) 0 [some (.ref 0), some (.int x0)] []
  refine k_mask [true, true] ?_
  exact sX10_hold_0 u C hr hR hx hRc hRs hT hsm eR41_0 ec3_1 ea4 ea5 ec17_2 ea18 ec26_10 ec26_11 ec26_12 ec26_13 ec26_14 ec26_15 ec26_16 ec26_17 ec26_3 ec26_4 ec26_5 ea27 ea28 ea29 ea30 a19 c43_10 c43_11 c43_12 c43_13 c43_14 c43_15 c43_16 c43_17 c43_3 c43_4 c43_5 a44 a45 a46 a47 a69 x0 h
/-! LullabyPit.law(II)I -/
theorem ds_X10_law : k_ds [(1, 0, 1), (1, 0, 2), (1, 0, 3), (1, 0, 4), (1, 0, 5), (1, 0, 6), (17, 0, 2), (18, 2, 0), (20, 0, 2), (21, 2, 0), (23, 0, 2), (24, 2, 0), (69, 2, 0)] = true := by decide +kernel
set_option maxHeartbeats 1000000 in
set_option maxRecDepth 100000 in
theorem sX10_law_15 (u : Nat) {X : k_X} {ad0 ad : Nat → Nat} {rest : List k_Sh} (C : k_C X cX10_law RX10 3 ad) (hr : X.meth.sig.returnType = (some .int)) (hR : X.R.frames = 74 ∧ X.R.locals = 1665) (hx : ∀ x ∈ X.c.exceptionTable.toList, False) (hRc : X.R.cells = 2) (hRs : X.R.slots = 12) (hT : X.l.stackTraces = false) (hsm : k_sm (shX ++ rest).length ad0 ad) {I : Nat → Nat → Int32} {L : Nat → Nat → Int64} {Rf : Nat → Nat → Option Nat} {a2 : (Nat → Int32)} (ea2 : I 2 = a2) {out : Int32 × Int32 × Int32 × Int32 × Int32 × Int32 × Int32 × Int32 × Int32 × (Nat → Int32) × Int32 × (Nat → Int32) × Int32 × (Nat → Int32) × (Nat → Int32)} : ∀ (c1_1 : Int32) (c1_2 : Int32) (c1_3 : Int32) (c1_4 : Int32) (c1_5 : Int32) (c1_6 : Int32) (c17_2 : Int32) (a18 : (Nat → Int32)) (c20_2 : Int32) (a21 : (Nat → Int32)) (c23_2 : Int32) (a24 : (Nat → Int32)) (a69 : (Nat → Int32)) (v1 : Int32) (v2 : Int32) (w0 : Int32), bX10_law_15 u a2 c1_1 c1_2 c1_3 c1_4 c1_5 c1_6 c17_2 a18 c20_2 a21 c23_2 a24 a69 v1 v2 w0 = some out → k_W X 3 0 0 (k_QX X ad0 (shX ++ rest).length (k_R1 out.1 (some (.int out.2.1)) (k_ap [(1, .inl (1, out.2.2.1)), (1, .inl (2, out.2.2.2.1)), (1, .inl (3, out.2.2.2.2.1)), (1, .inl (4, out.2.2.2.2.2.1)), (1, .inl (5, out.2.2.2.2.2.2.1)), (1, .inl (6, out.2.2.2.2.2.2.2.1)), (17, .inl (2, out.2.2.2.2.2.2.2.2.1)), (18, .inr (.inr (.inl out.2.2.2.2.2.2.2.2.2.1))), (20, .inl (2, out.2.2.2.2.2.2.2.2.2.2.1)), (21, .inr (.inr (.inl out.2.2.2.2.2.2.2.2.2.2.2.1))), (23, .inl (2, out.2.2.2.2.2.2.2.2.2.2.2.2.1)), (24, .inr (.inr (.inl out.2.2.2.2.2.2.2.2.2.2.2.2.2.1))), (69, .inr (.inr (.inl out.2.2.2.2.2.2.2.2.2.2.2.2.2.2)))] ((shX ++ rest), I, L, Rf))) (k_R2 out.1 (k_ap [(1, .inl (1, out.2.2.1)), (1, .inl (2, out.2.2.2.1)), (1, .inl (3, out.2.2.2.2.1)), (1, .inl (4, out.2.2.2.2.2.1)), (1, .inl (5, out.2.2.2.2.2.2.1)), (1, .inl (6, out.2.2.2.2.2.2.2.1)), (17, .inl (2, out.2.2.2.2.2.2.2.2.1)), (18, .inr (.inr (.inl out.2.2.2.2.2.2.2.2.2.1))), (20, .inl (2, out.2.2.2.2.2.2.2.2.2.2.1)), (21, .inr (.inr (.inl out.2.2.2.2.2.2.2.2.2.2.2.1))), (23, .inl (2, out.2.2.2.2.2.2.2.2.2.2.2.2.1)), (24, .inr (.inr (.inl out.2.2.2.2.2.2.2.2.2.2.2.2.2.1))), (69, .inr (.inr (.inl out.2.2.2.2.2.2.2.2.2.2.2.2.2.2)))] ((shX ++ rest), I, L, Rf))) 2 12) ad (k_ap [(1, .inl (1, c1_1)), (1, .inl (2, c1_2)), (1, .inl (3, c1_3)), (1, .inl (4, c1_4)), (1, .inl (5, c1_5)), (1, .inl (6, c1_6)), (17, .inl (2, c17_2)), (18, .inr (.inr (.inl a18))), (20, .inl (2, c20_2)), (21, .inr (.inr (.inl a21))), (23, .inl (2, c23_2)), (24, .inr (.inr (.inl a24))), (69, .inr (.inr (.inl a69)))] ((shX ++ rest), I, L, Rf)) 15 [some (.ref 0), some (.int v1), some (.int v2)] [.int w0, .ref 0] := by
  intro c1_1 c1_2 c1_3 c1_4 c1_5 c1_6 c17_2 a18 c20_2 a21 c23_2 a24 a69 v1 v2 w0 h
  unfold bX10_law_15 at h
  obtain ⟨r15, q15, h⟩ := k_b_of h
  refine c_VX (As := [.int w0]) (st := []) C hR (k_csl hRc hRs rfl rfl) mv_X10_need (k_me (tm3 (List.mem_of_getElem? (i := 141) rfl)) rfl) dX10_law_15 (rfl : 15 + 3 = 18) rfl rfl (k_gS rfl) rfl (c_X10_need X.l u hT (k_ap [(1, .inl (1, c1_1)), (1, .inl (2, c1_2)), (1, .inl (3, c1_3)), (1, .inl (4, c1_4)), (1, .inl (5, c1_5)), (1, .inl (6, c1_6)), (17, .inl (2, c17_2)), (18, .inr (.inr (.inl a18))), (20, .inl (2, c20_2)), (21, .inr (.inr (.inl a21))), (23, .inl (2, c23_2)), (24, .inr (.inr (.inl a24))), (69, .inr (.inr (.inl a69)))] ((shX ++ rest), I, L, Rf)) (k_gH rfl) (k_gA ds_X10_law rfl 12 rfl) q15) rfl rfl rfl ⟨(k_ox 0 rfl), True.intro, True.intro, True.intro⟩ True.intro ?_ ?_
  · rintro E ad1 h1 ⟨hk0, rfl, rfl⟩ hsm1 C1
    have h := k_f hk0 h
    cases h
    exact x_out C1 hx (Nat.le_of_ble_eq_true rfl) (Nat.le_of_ble_eq_true rfl) ⟨hk0, rfl, (k_jn2 (us' := [(1, .inl (1, c1_1)), (1, .inl (2, c1_2)), (1, .inl (3, c1_3)), (1, .inl (4, c1_4)), (1, .inl (5, c1_5)), (1, .inl (6, c1_6)), (17, .inl (2, c17_2)), (18, .inr (.inr (.inl a18))), (20, .inl (2, c20_2)), (21, .inr (.inr (.inl a21))), (23, .inl (2, c23_2)), (24, .inr (.inr (.inl a24))), (69, .inr (.inr (.inl r15.2)))]) (vks := [(69, 2, 0)]) (js := [12]) ds_X10_law rfl rfl (by decide +kernel) rfl)⟩ (k_sm_tr hsm hsm1 (Nat.le_of_eq (by rw [k_ap_sh])))
  rintro v ad15 h1 ⟨hk0, rfl, rfl⟩ hsm1 C
  have h := k_t hk0 h
  have hsm := k_sm_tr hsm hsm1 (Nat.le_of_eq (by rw [k_ap_sh]))
  refine k_eqh (k_jn2 (us' := [(1, .inl (1, c1_1)), (1, .inl (2, c1_2)), (1, .inl (3, c1_3)), (1, .inl (4, c1_4)), (1, .inl (5, c1_5)), (1, .inl (6, c1_6)), (17, .inl (2, c17_2)), (18, .inr (.inr (.inl a18))), (20, .inl (2, c20_2)), (21, .inr (.inr (.inl a21))), (23, .inl (2, c23_2)), (24, .inr (.inr (.inl a24))), (69, .inr (.inr (.inl r15.2)))]) (vks := [(69, 2, 0)]) (js := [12]) ds_X10_law rfl rfl (by decide +kernel) rfl) ?_
  show k_W _ _ _ _ _ _ _ _ _ []
  refine r_aload_n C dX10_law_18 (rfl : 18 + 1 = 19) rfl ?_
  refine r_iload_n C dX10_law_19 (rfl : 19 + 1 = 20) rfl ?_
  refine r_sipush (v := (150 : Int32)) C dX10_law_20 (rfl : 20 + 3 = 23) rfl ?_
  obtain ⟨r23, q23, h⟩ := k_b_of h
  refine c_VX (As := [.int v2, .int (150 : Int32)]) (st := []) C hR (k_csl hRc hRs rfl rfl) mv_X10_takeText (k_me (tm3 (List.mem_of_getElem? (i := 137) rfl)) rfl) dX10_law_23 (rfl : 23 + 3 = 26) rfl rfl (k_gS rfl) rfl (c_X10_takeText X.l u hT (k_ap [(1, .inl (1, c1_1)), (1, .inl (2, c1_2)), (1, .inl (3, c1_3)), (1, .inl (4, c1_4)), (1, .inl (5, c1_5)), (1, .inl (6, c1_6)), (17, .inl (2, c17_2)), (18, .inr (.inr (.inl a18))), (20, .inl (2, c20_2)), (21, .inr (.inr (.inl a21))), (23, .inl (2, c23_2)), (24, .inr (.inr (.inl a24))), (69, .inr (.inr (.inl r15.2)))] ((shX ++ rest), I, L, Rf)) (k_gH rfl) (k_gI ds_X10_law rfl 0 rfl) (k_gI ds_X10_law rfl 1 rfl) (k_gI ds_X10_law rfl 2 rfl) (k_gI ds_X10_law rfl 3 rfl) (k_gI ds_X10_law rfl 4 rfl) (k_gI ds_X10_law rfl 5 rfl) (k_gA ds_X10_law rfl 12 rfl) q23) rfl rfl rfl ⟨(k_ox 0 rfl), True.intro, True.intro, True.intro⟩ True.intro ?_ ?_
  · rintro E ad1 h1 ⟨hk0, rfl, rfl⟩ hsm1 C1
    have h := k_f hk0 h
    cases h
    exact x_out C1 hx (Nat.le_of_ble_eq_true rfl) (Nat.le_of_ble_eq_true rfl) ⟨hk0, rfl, (k_jn2 (us' := [(1, .inl (1, r23.2.1)), (1, .inl (2, r23.2.2.1)), (1, .inl (3, r23.2.2.2.1)), (1, .inl (4, r23.2.2.2.2.1)), (1, .inl (5, r23.2.2.2.2.2.1)), (1, .inl (6, r23.2.2.2.2.2.2.1)), (17, .inl (2, c17_2)), (18, .inr (.inr (.inl a18))), (20, .inl (2, c20_2)), (21, .inr (.inr (.inl a21))), (23, .inl (2, c23_2)), (24, .inr (.inr (.inl a24))), (69, .inr (.inr (.inl r23.2.2.2.2.2.2.2)))]) (vks := [(1, 0, 1), (1, 0, 2), (1, 0, 3), (1, 0, 4), (1, 0, 5), (1, 0, 6), (69, 2, 0)]) (js := [0, 1, 2, 3, 4, 5, 12]) ds_X10_law rfl rfl (by decide +kernel) rfl)⟩ (k_sm_tr hsm hsm1 (Nat.le_of_eq (by rw [k_ap_sh])))
  rintro v ad23 h1 ⟨hk0, rfl, rfl⟩ hsm1 C
  have h := k_t hk0 h
  have hsm := k_sm_tr hsm hsm1 (Nat.le_of_eq (by rw [k_ap_sh]))
  refine k_eqh (k_jn2 (us' := [(1, .inl (1, r23.2.1)), (1, .inl (2, r23.2.2.1)), (1, .inl (3, r23.2.2.2.1)), (1, .inl (4, r23.2.2.2.2.1)), (1, .inl (5, r23.2.2.2.2.2.1)), (1, .inl (6, r23.2.2.2.2.2.2.1)), (17, .inl (2, c17_2)), (18, .inr (.inr (.inl a18))), (20, .inl (2, c20_2)), (21, .inr (.inr (.inl a21))), (23, .inl (2, c23_2)), (24, .inr (.inr (.inl a24))), (69, .inr (.inr (.inl r23.2.2.2.2.2.2.2)))]) (vks := [(1, 0, 1), (1, 0, 2), (1, 0, 3), (1, 0, 4), (1, 0, 5), (1, 0, 6), (69, 2, 0)]) (js := [0, 1, 2, 3, 4, 5, 12]) ds_X10_law rfl rfl (by decide +kernel) rfl) ?_
  show k_W _ _ _ _ _ _ _ _ _ []
  refine r_aload_n C dX10_law_26 (rfl : 26 + 1 = 27) rfl ?_
  refine r_getR (q := 23) C dX10_law_27 (rfl : 27 + 3 = 30) fl_X10_36 (k_gS rfl) rfl ?_
  refine r_aload_n C dX10_law_30 (rfl : 30 + 1 = 31) rfl ?_
  refine r_getR (q := 1) C dX10_law_31 (rfl : 31 + 3 = 34) fl_X10_10 (k_gS rfl) rfl ?_
  obtain ⟨r34, q34, h⟩ := k_b_of h
  refine d_Vp (pi := [23, 24, 25, 1, 2]) (shl := shLawTape) (bl := 0) (As := [.ref 1]) (Al := [.ref 3]) (st := []) (st' := []) (h' := k_ap [(1, .inl (1, r23.2.1)), (1, .inl (2, r23.2.2.1)), (1, .inl (3, r34.2.2.1)), (1, .inl (4, r34.2.2.2.1)), (1, .inl (5, r34.2.2.2.2.1)), (1, .inl (6, r34.2.2.2.2.2)), (17, .inl (2, c17_2)), (18, .inr (.inr (.inl a18))), (20, .inl (2, c20_2)), (21, .inr (.inr (.inl a21))), (23, .inl (2, r34.1)), (24, .inr (.inr (.inl r34.2.1))), (69, .inr (.inr (.inl r23.2.2.2.2.2.2.2)))] ((shX ++ rest), I, L, Rf)) C hR (k_csl hRc hRs rfl rfl) mv_X1_read lk_X10_150 dX10_law_34 (rfl : 34 + 3 = 37) rfl rfl (k_ckS ck_shX_shLawTape_23) rfl rfl (c_X1_read X.l u (k_pl [23, 24, 25, 1, 2] shLawTape (k_ap [(1, .inl (1, r23.2.1)), (1, .inl (2, r23.2.2.1)), (1, .inl (3, r23.2.2.2.1)), (1, .inl (4, r23.2.2.2.2.1)), (1, .inl (5, r23.2.2.2.2.2.1)), (1, .inl (6, r23.2.2.2.2.2.2.1)), (17, .inl (2, c17_2)), (18, .inr (.inr (.inl a18))), (20, .inl (2, c20_2)), (21, .inr (.inr (.inl a21))), (23, .inl (2, c23_2)), (24, .inr (.inr (.inl a24))), (69, .inr (.inr (.inl r23.2.2.2.2.2.2.2)))] ((shX ++ rest), I, L, Rf))) rfl (k_plI rfl (k_gI ds_X10_law rfl 10 rfl)) (k_plA rfl (k_gA ds_X10_law rfl 11 rfl)) (k_plI rfl (k_gI ds_X10_law rfl 1 rfl)) (k_plI rfl (k_gI ds_X10_law rfl 2 rfl)) (k_plI rfl (k_gI ds_X10_law rfl 3 rfl)) (k_plI rfl (k_gI ds_X10_law rfl 4 rfl)) (k_plI rfl (k_gI ds_X10_law rfl 5 rfl)) (k_plA rfl (k_gOA (ks := [(1, 0, 1), (1, 0, 2), (1, 0, 3), (1, 0, 4), (1, 0, 5), (1, 0, 6), (17, 0, 2), (18, 2, 0), (20, 0, 2), (21, 2, 0), (23, 0, 2), (24, 2, 0), (69, 2, 0)]) rfl (by decide +kernel) ea2)) q34) rfl (fun _ => rfl) rfl (fun _ => rfl) rfl rfl rfl (k_jn2 (us' := [(1, .inl (1, r23.2.1)), (1, .inl (2, r23.2.2.1)), (1, .inl (3, r34.2.2.1)), (1, .inl (4, r34.2.2.2.1)), (1, .inl (5, r34.2.2.2.2.1)), (1, .inl (6, r34.2.2.2.2.2)), (17, .inl (2, c17_2)), (18, .inr (.inr (.inl a18))), (20, .inl (2, c20_2)), (21, .inr (.inr (.inl a21))), (23, .inl (2, r34.1)), (24, .inr (.inr (.inl r34.2.1))), (69, .inr (.inr (.inl r23.2.2.2.2.2.2.2)))]) (vks := [(23, 0, 2), (24, 2, 0), (1, 0, 3), (1, 0, 4), (1, 0, 5), (1, 0, 6)]) (js := [10, 11, 2, 3, 4, 5]) ds_X10_law rfl rfl (by decide +kernel) rfl) rfl ?_
  refine r_aload_n C dX10_law_37 (rfl : 37 + 1 = 38) rfl ?_
  refine r_getR (q := 1) C dX10_law_38 (rfl : 38 + 3 = 41) fl_X10_10 (k_gS rfl) rfl ?_
  obtain ⟨r41, q41, h⟩ := k_b_of h
  refine d_Vp (pi := [1, 2]) (shl := shTape) (bl := 0) (As := []) (Al := []) (st := []) (st' := [.int r41]) (h' := k_ap [(1, .inl (1, r23.2.1)), (1, .inl (2, r23.2.2.1)), (1, .inl (3, r34.2.2.1)), (1, .inl (4, r34.2.2.2.1)), (1, .inl (5, r34.2.2.2.2.1)), (1, .inl (6, r34.2.2.2.2.2)), (17, .inl (2, c17_2)), (18, .inr (.inr (.inl a18))), (20, .inl (2, c20_2)), (21, .inr (.inr (.inl a21))), (23, .inl (2, r34.1)), (24, .inr (.inr (.inl r34.2.1))), (69, .inr (.inr (.inl r23.2.2.2.2.2.2.2)))] ((shX ++ rest), I, L, Rf)) C hR (k_csl hRc hRs rfl rfl) mv_X8_good lk_X10_125 dX10_law_41 (rfl : 41 + 3 = 44) rfl rfl (k_ckS ck_shX_shTape_1) rfl rfl (c_X8_good X.l u (k_pl [1, 2] shTape (k_ap [(1, .inl (1, r23.2.1)), (1, .inl (2, r23.2.2.1)), (1, .inl (3, r34.2.2.1)), (1, .inl (4, r34.2.2.2.1)), (1, .inl (5, r34.2.2.2.2.1)), (1, .inl (6, r34.2.2.2.2.2)), (17, .inl (2, c17_2)), (18, .inr (.inr (.inl a18))), (20, .inl (2, c20_2)), (21, .inr (.inr (.inl a21))), (23, .inl (2, r34.1)), (24, .inr (.inr (.inl r34.2.1))), (69, .inr (.inr (.inl r23.2.2.2.2.2.2.2)))] ((shX ++ rest), I, L, Rf))) rfl (k_plI rfl (k_gI ds_X10_law rfl 4 rfl)) q41) rfl (fun _ => rfl) rfl (fun _ => rfl) rfl rfl rfl rfl rfl ?_
  refine r_if_ne (tgt := 58) C dX10_law_44 (by decide) (rfl : 44 + 3 = 47) (fun c44 => ?_) (fun c44 => ?_)
  · have h := k_f c44 h
    refine r_iload_n C dX10_law_58 (rfl : 58 + 1 = 59) rfl ?_
    refine r_if_ne (tgt := 76) C dX10_law_59 (by decide) (rfl : 59 + 3 = 62) (fun c59 => ?_) (fun c59 => ?_)
    · have h := k_f c59 h
      refine r_aload_n C dX10_law_76 (rfl : 76 + 1 = 77) rfl ?_
      refine r_getR (q := 20) C dX10_law_77 (rfl : 77 + 3 = 80) fl_X10_33 (k_gS rfl) rfl ?_
      refine r_aload_n C dX10_law_80 (rfl : 80 + 1 = 81) rfl ?_
      refine r_getR (q := 23) C dX10_law_81 (rfl : 81 + 3 = 84) fl_X10_36 (k_gS rfl) rfl ?_
      obtain ⟨r84, q84, h⟩ := k_b_of h
      refine d_Vp (pi := [20, 21, 22, 23, 24, 25]) (shl := shLaw2) (bl := 0) (As := [.ref 23]) (Al := [.ref 3]) (st := []) (st' := []) (h' := k_ap [(1, .inl (1, r23.2.1)), (1, .inl (2, r23.2.2.1)), (1, .inl (3, r34.2.2.1)), (1, .inl (4, r34.2.2.2.1)), (1, .inl (5, r34.2.2.2.2.1)), (1, .inl (6, r34.2.2.2.2.2)), (17, .inl (2, c17_2)), (18, .inr (.inr (.inl a18))), (20, .inl (2, r84.1)), (21, .inr (.inr (.inl r84.2))), (23, .inl (2, r34.1)), (24, .inr (.inr (.inl r34.2.1))), (69, .inr (.inr (.inl r23.2.2.2.2.2.2.2)))] ((shX ++ rest), I, L, Rf)) C hR (k_csl hRc hRs rfl rfl) mv_X1_copyFrom lk_X10_151 dX10_law_84 (rfl : 84 + 3 = 87) rfl rfl (k_ckS ck_shX_shLaw2_20_25) rfl rfl (c_X1_copyFrom X.l u (k_pl [20, 21, 22, 23, 24, 25] shLaw2 (k_ap [(1, .inl (1, r23.2.1)), (1, .inl (2, r23.2.2.1)), (1, .inl (3, r34.2.2.1)), (1, .inl (4, r34.2.2.2.1)), (1, .inl (5, r34.2.2.2.2.1)), (1, .inl (6, r34.2.2.2.2.2)), (17, .inl (2, c17_2)), (18, .inr (.inr (.inl a18))), (20, .inl (2, c20_2)), (21, .inr (.inr (.inl a21))), (23, .inl (2, r34.1)), (24, .inr (.inr (.inl r34.2.1))), (69, .inr (.inr (.inl r23.2.2.2.2.2.2.2)))] ((shX ++ rest), I, L, Rf))) rfl (k_plI rfl (k_gI ds_X10_law rfl 8 rfl)) (k_plA rfl (k_gA ds_X10_law rfl 9 rfl)) (k_plI rfl (k_gI ds_X10_law rfl 10 rfl)) (k_plA rfl (k_gA ds_X10_law rfl 11 rfl)) q84) rfl (fun _ => rfl) rfl (fun _ => rfl) rfl rfl rfl (k_jn2 (us' := [(1, .inl (1, r23.2.1)), (1, .inl (2, r23.2.2.1)), (1, .inl (3, r34.2.2.1)), (1, .inl (4, r34.2.2.2.1)), (1, .inl (5, r34.2.2.2.2.1)), (1, .inl (6, r34.2.2.2.2.2)), (17, .inl (2, c17_2)), (18, .inr (.inr (.inl a18))), (20, .inl (2, r84.1)), (21, .inr (.inr (.inl r84.2))), (23, .inl (2, r34.1)), (24, .inr (.inr (.inl r34.2.1))), (69, .inr (.inr (.inl r23.2.2.2.2.2.2.2)))]) (vks := [(20, 0, 2), (21, 2, 0)]) (js := [8, 9]) ds_X10_law rfl rfl (by decide +kernel) rfl) rfl ?_
      refine r_iconst (v := (1 : Int32)) C dX10_law_87 (rfl : 87 + 1 = 88) rfl ?_
      cases h
      exact x_of_g (g_iret C hr (Nat.le_of_ble_eq_true rfl) (Nat.le_of_ble_eq_true rfl) ⟨rfl, rfl, rfl⟩ hsm dX10_law_88)
    · have h := k_t c59 h
      refine r_aload_n C dX10_law_62 (rfl : 62 + 1 = 63) rfl ?_
      refine r_getR (q := 17) C dX10_law_63 (rfl : 63 + 3 = 66) fl_X10_29 (k_gS rfl) rfl ?_
      refine r_aload_n C dX10_law_66 (rfl : 66 + 1 = 67) rfl ?_
      refine r_getR (q := 23) C dX10_law_67 (rfl : 67 + 3 = 70) fl_X10_36 (k_gS rfl) rfl ?_
      obtain ⟨r70, q70, h⟩ := k_b_of h
      refine d_Vp (pi := [17, 18, 19, 23, 24, 25]) (shl := shLaw2) (bl := 0) (As := [.ref 23]) (Al := [.ref 3]) (st := []) (st' := []) (h' := k_ap [(1, .inl (1, r23.2.1)), (1, .inl (2, r23.2.2.1)), (1, .inl (3, r34.2.2.1)), (1, .inl (4, r34.2.2.2.1)), (1, .inl (5, r34.2.2.2.2.1)), (1, .inl (6, r34.2.2.2.2.2)), (17, .inl (2, r70.1)), (18, .inr (.inr (.inl r70.2))), (20, .inl (2, c20_2)), (21, .inr (.inr (.inl a21))), (23, .inl (2, r34.1)), (24, .inr (.inr (.inl r34.2.1))), (69, .inr (.inr (.inl r23.2.2.2.2.2.2.2)))] ((shX ++ rest), I, L, Rf)) C hR (k_csl hRc hRs rfl rfl) mv_X1_copyFrom lk_X10_151 dX10_law_70 (rfl : 70 + 3 = 73) rfl rfl (k_ckS ck_shX_shLaw2_17_25) rfl rfl (c_X1_copyFrom X.l u (k_pl [17, 18, 19, 23, 24, 25] shLaw2 (k_ap [(1, .inl (1, r23.2.1)), (1, .inl (2, r23.2.2.1)), (1, .inl (3, r34.2.2.1)), (1, .inl (4, r34.2.2.2.1)), (1, .inl (5, r34.2.2.2.2.1)), (1, .inl (6, r34.2.2.2.2.2)), (17, .inl (2, c17_2)), (18, .inr (.inr (.inl a18))), (20, .inl (2, c20_2)), (21, .inr (.inr (.inl a21))), (23, .inl (2, r34.1)), (24, .inr (.inr (.inl r34.2.1))), (69, .inr (.inr (.inl r23.2.2.2.2.2.2.2)))] ((shX ++ rest), I, L, Rf))) rfl (k_plI rfl (k_gI ds_X10_law rfl 6 rfl)) (k_plA rfl (k_gA ds_X10_law rfl 7 rfl)) (k_plI rfl (k_gI ds_X10_law rfl 10 rfl)) (k_plA rfl (k_gA ds_X10_law rfl 11 rfl)) q70) rfl (fun _ => rfl) rfl (fun _ => rfl) rfl rfl rfl (k_jn2 (us' := [(1, .inl (1, r23.2.1)), (1, .inl (2, r23.2.2.1)), (1, .inl (3, r34.2.2.1)), (1, .inl (4, r34.2.2.2.1)), (1, .inl (5, r34.2.2.2.2.1)), (1, .inl (6, r34.2.2.2.2.2)), (17, .inl (2, r70.1)), (18, .inr (.inr (.inl r70.2))), (20, .inl (2, c20_2)), (21, .inr (.inr (.inl a21))), (23, .inl (2, r34.1)), (24, .inr (.inr (.inl r34.2.1))), (69, .inr (.inr (.inl r23.2.2.2.2.2.2.2)))]) (vks := [(17, 0, 2), (18, 2, 0)]) (js := [6, 7]) ds_X10_law rfl rfl (by decide +kernel) rfl) rfl ?_
      refine r_goto (tgt := 87) C dX10_law_73 (by decide) ?_
      refine r_iconst (v := (1 : Int32)) C dX10_law_87 (rfl : 87 + 1 = 88) rfl ?_
      cases h
      exact x_of_g (g_iret C hr (Nat.le_of_ble_eq_true rfl) (Nat.le_of_ble_eq_true rfl) ⟨rfl, rfl, rfl⟩ hsm dX10_law_88)
  · have h := k_t c44 h
    refine r_aload_n C dX10_law_47 (rfl : 47 + 1 = 48) rfl ?_
    refine r_getR (q := 1) C dX10_law_48 (rfl : 48 + 3 = 51) fl_X10_10 (k_gS rfl) rfl ?_
    refine r_getI (v := r34.2.2.2.2.1) C dX10_law_51 (rfl : 51 + 3 = 54) fl_X10_129 (k_gS rfl) rfl (k_gI ds_X10_law rfl 4 rfl) ?_
    refine r_bipush (v := (10 : Int32)) C dX10_law_54 (rfl : 54 + 2 = 56) rfl ?_
    refine r_isub C dX10_law_56 (rfl : 56 + 1 = 57) ?_
    cases h
    exact x_of_g (g_iret C hr (Nat.le_of_ble_eq_true rfl) (Nat.le_of_ble_eq_true rfl) ⟨rfl, rfl, rfl⟩ hsm dX10_law_57)
set_option maxHeartbeats 1000000 in
set_option maxRecDepth 100000 in
theorem sX10_law_10 (u : Nat) {X : k_X} {ad0 ad : Nat → Nat} {rest : List k_Sh} (C : k_C X cX10_law RX10 3 ad) (hr : X.meth.sig.returnType = (some .int)) (hR : X.R.frames = 74 ∧ X.R.locals = 1665) (hx : ∀ x ∈ X.c.exceptionTable.toList, False) (hRc : X.R.cells = 2) (hRs : X.R.slots = 12) (hT : X.l.stackTraces = false) (hsm : k_sm (shX ++ rest).length ad0 ad) {I : Nat → Nat → Int32} {L : Nat → Nat → Int64} {Rf : Nat → Nat → Option Nat} {a2 : (Nat → Int32)} (ea2 : I 2 = a2) {out : Int32 × Int32 × Int32 × Int32 × Int32 × Int32 × Int32 × Int32 × Int32 × (Nat → Int32) × Int32 × (Nat → Int32) × Int32 × (Nat → Int32) × (Nat → Int32)} : ∀ (c1_1 : Int32) (c1_2 : Int32) (c1_3 : Int32) (c1_4 : Int32) (c1_5 : Int32) (c1_6 : Int32) (c17_2 : Int32) (a18 : (Nat → Int32)) (c20_2 : Int32) (a21 : (Nat → Int32)) (c23_2 : Int32) (a24 : (Nat → Int32)) (a69 : (Nat → Int32)) (v1 : Int32) (v2 : Int32), bX10_law_10 u a2 c1_1 c1_2 c1_3 c1_4 c1_5 c1_6 c17_2 a18 c20_2 a21 c23_2 a24 a69 v1 v2 = some out → k_W X 3 0 0 (k_QX X ad0 (shX ++ rest).length (k_R1 out.1 (some (.int out.2.1)) (k_ap [(1, .inl (1, out.2.2.1)), (1, .inl (2, out.2.2.2.1)), (1, .inl (3, out.2.2.2.2.1)), (1, .inl (4, out.2.2.2.2.2.1)), (1, .inl (5, out.2.2.2.2.2.2.1)), (1, .inl (6, out.2.2.2.2.2.2.2.1)), (17, .inl (2, out.2.2.2.2.2.2.2.2.1)), (18, .inr (.inr (.inl out.2.2.2.2.2.2.2.2.2.1))), (20, .inl (2, out.2.2.2.2.2.2.2.2.2.2.1)), (21, .inr (.inr (.inl out.2.2.2.2.2.2.2.2.2.2.2.1))), (23, .inl (2, out.2.2.2.2.2.2.2.2.2.2.2.2.1)), (24, .inr (.inr (.inl out.2.2.2.2.2.2.2.2.2.2.2.2.2.1))), (69, .inr (.inr (.inl out.2.2.2.2.2.2.2.2.2.2.2.2.2.2)))] ((shX ++ rest), I, L, Rf))) (k_R2 out.1 (k_ap [(1, .inl (1, out.2.2.1)), (1, .inl (2, out.2.2.2.1)), (1, .inl (3, out.2.2.2.2.1)), (1, .inl (4, out.2.2.2.2.2.1)), (1, .inl (5, out.2.2.2.2.2.2.1)), (1, .inl (6, out.2.2.2.2.2.2.2.1)), (17, .inl (2, out.2.2.2.2.2.2.2.2.1)), (18, .inr (.inr (.inl out.2.2.2.2.2.2.2.2.2.1))), (20, .inl (2, out.2.2.2.2.2.2.2.2.2.2.1)), (21, .inr (.inr (.inl out.2.2.2.2.2.2.2.2.2.2.2.1))), (23, .inl (2, out.2.2.2.2.2.2.2.2.2.2.2.2.1)), (24, .inr (.inr (.inl out.2.2.2.2.2.2.2.2.2.2.2.2.2.1))), (69, .inr (.inr (.inl out.2.2.2.2.2.2.2.2.2.2.2.2.2.2)))] ((shX ++ rest), I, L, Rf))) 2 12) ad (k_ap [(1, .inl (1, c1_1)), (1, .inl (2, c1_2)), (1, .inl (3, c1_3)), (1, .inl (4, c1_4)), (1, .inl (5, c1_5)), (1, .inl (6, c1_6)), (17, .inl (2, c17_2)), (18, .inr (.inr (.inl a18))), (20, .inl (2, c20_2)), (21, .inr (.inr (.inl a21))), (23, .inl (2, c23_2)), (24, .inr (.inr (.inl a24))), (69, .inr (.inr (.inl a69)))] ((shX ++ rest), I, L, Rf)) 10 [some (.ref 0), some (.int v1), some (.int v2)] [.ref 0] := by
  intro c1_1 c1_2 c1_3 c1_4 c1_5 c1_6 c17_2 a18 c20_2 a21 c23_2 a24 a69 v1 v2 h
  unfold bX10_law_10 at h
  refine r_iconst (v := (1 : Int32)) C dX10_law_10 (rfl : 10 + 1 = 11) rfl ?_
  refine r_goto (tgt := 15) C dX10_law_11 (by decide) ?_
  refine k_mask [true, true, true] ?_
  exact sX10_law_15 u C hr hR hx hRc hRs hT hsm ea2 c1_1 c1_2 c1_3 c1_4 c1_5 c1_6 c17_2 a18 c20_2 a21 c23_2 a24 a69 v1 v2 (1 : Int32) h
set_option maxHeartbeats 1000000 in
set_option maxRecDepth 100000 in
theorem sX10_law_0 (u : Nat) {X : k_X} {ad0 ad : Nat → Nat} {rest : List k_Sh} (C : k_C X cX10_law RX10 3 ad) (hr : X.meth.sig.returnType = (some .int)) (hR : X.R.frames = 74 ∧ X.R.locals = 1665) (hx : ∀ x ∈ X.c.exceptionTable.toList, False) (hRc : X.R.cells = 2) (hRs : X.R.slots = 12) (hT : X.l.stackTraces = false) (hsm : k_sm (shX ++ rest).length ad0 ad) {I : Nat → Nat → Int32} {L : Nat → Nat → Int64} {Rf : Nat → Nat → Option Nat} {a2 : (Nat → Int32)} (ea2 : I 2 = a2) {out : Int32 × Int32 × Int32 × Int32 × Int32 × Int32 × Int32 × Int32 × Int32 × (Nat → Int32) × Int32 × (Nat → Int32) × Int32 × (Nat → Int32) × (Nat → Int32)} : ∀ (c1_1 : Int32) (c1_2 : Int32) (c1_3 : Int32) (c1_4 : Int32) (c1_5 : Int32) (c1_6 : Int32) (c17_2 : Int32) (a18 : (Nat → Int32)) (c20_2 : Int32) (a21 : (Nat → Int32)) (c23_2 : Int32) (a24 : (Nat → Int32)) (a69 : (Nat → Int32)) (v1 : Int32) (v2 : Int32), bX10_law_0 u a2 c1_1 c1_2 c1_3 c1_4 c1_5 c1_6 c17_2 a18 c20_2 a21 c23_2 a24 a69 v1 v2 = some out → k_W X 3 0 0 (k_QX X ad0 (shX ++ rest).length (k_R1 out.1 (some (.int out.2.1)) (k_ap [(1, .inl (1, out.2.2.1)), (1, .inl (2, out.2.2.2.1)), (1, .inl (3, out.2.2.2.2.1)), (1, .inl (4, out.2.2.2.2.2.1)), (1, .inl (5, out.2.2.2.2.2.2.1)), (1, .inl (6, out.2.2.2.2.2.2.2.1)), (17, .inl (2, out.2.2.2.2.2.2.2.2.1)), (18, .inr (.inr (.inl out.2.2.2.2.2.2.2.2.2.1))), (20, .inl (2, out.2.2.2.2.2.2.2.2.2.2.1)), (21, .inr (.inr (.inl out.2.2.2.2.2.2.2.2.2.2.2.1))), (23, .inl (2, out.2.2.2.2.2.2.2.2.2.2.2.2.1)), (24, .inr (.inr (.inl out.2.2.2.2.2.2.2.2.2.2.2.2.2.1))), (69, .inr (.inr (.inl out.2.2.2.2.2.2.2.2.2.2.2.2.2.2)))] ((shX ++ rest), I, L, Rf))) (k_R2 out.1 (k_ap [(1, .inl (1, out.2.2.1)), (1, .inl (2, out.2.2.2.1)), (1, .inl (3, out.2.2.2.2.1)), (1, .inl (4, out.2.2.2.2.2.1)), (1, .inl (5, out.2.2.2.2.2.2.1)), (1, .inl (6, out.2.2.2.2.2.2.2.1)), (17, .inl (2, out.2.2.2.2.2.2.2.2.1)), (18, .inr (.inr (.inl out.2.2.2.2.2.2.2.2.2.1))), (20, .inl (2, out.2.2.2.2.2.2.2.2.2.2.1)), (21, .inr (.inr (.inl out.2.2.2.2.2.2.2.2.2.2.2.1))), (23, .inl (2, out.2.2.2.2.2.2.2.2.2.2.2.2.1)), (24, .inr (.inr (.inl out.2.2.2.2.2.2.2.2.2.2.2.2.2.1))), (69, .inr (.inr (.inl out.2.2.2.2.2.2.2.2.2.2.2.2.2.2)))] ((shX ++ rest), I, L, Rf))) 2 12) ad (k_ap [(1, .inl (1, c1_1)), (1, .inl (2, c1_2)), (1, .inl (3, c1_3)), (1, .inl (4, c1_4)), (1, .inl (5, c1_5)), (1, .inl (6, c1_6)), (17, .inl (2, c17_2)), (18, .inr (.inr (.inl a18))), (20, .inl (2, c20_2)), (21, .inr (.inr (.inl a21))), (23, .inl (2, c23_2)), (24, .inr (.inr (.inl a24))), (69, .inr (.inr (.inl a69)))] ((shX ++ rest), I, L, Rf)) 0 [some (.ref 0), some (.int v1), some (.int v2)] [] := by
  intro c1_1 c1_2 c1_3 c1_4 c1_5 c1_6 c17_2 a18 c20_2 a21 c23_2 a24 a69 v1 v2 h
  unfold bX10_law_0 at h
  refine r_aload_n C dX10_law_0 (rfl : 0 + 1 = 1) rfl ?_
  refine r_iload_n C dX10_law_1 (rfl : 1 + 1 = 2) rfl ?_
  refine r_if_eq (tgt := 10) C dX10_law_2 (by decide) (rfl : 2 + 3 = 5) (fun c2 => ?_) (fun c2 => ?_)
  · have h := k_t c2 h
    refine k_mask [true, true, true] ?_
    exact sX10_law_10 u C hr hR hx hRc hRs hT hsm ea2 c1_1 c1_2 c1_3 c1_4 c1_5 c1_6 c17_2 a18 c20_2 a21 c23_2 a24 a69 v1 v2 h
  · have h := k_f c2 h
    refine r_iload_n C dX10_law_5 (rfl : 5 + 1 = 6) rfl ?_
    refine r_iconst (v := (1 : Int32)) C dX10_law_6 (rfl : 6 + 1 = 7) rfl ?_
    refine r_icmp_ne (tgt := 14) C dX10_law_7 (by decide) (rfl : 7 + 3 = 10) (fun c7 => ?_) (fun c7 => ?_)
    · have h := k_f c7 h
      refine r_iconst (v := (0 : Int32)) C dX10_law_14 (rfl : 14 + 1 = 15) rfl ?_
      refine k_mask [true, true, true] ?_
      exact sX10_law_15 u C hr hR hx hRc hRs hT hsm ea2 c1_1 c1_2 c1_3 c1_4 c1_5 c1_6 c17_2 a18 c20_2 a21 c23_2 a24 a69 v1 v2 (0 : Int32) h
    · have h := k_t c7 h
      refine k_mask [true, true, true] ?_
      exact sX10_law_10 u C hr hR hx hRc hRs hT hsm ea2 c1_1 c1_2 c1_3 c1_4 c1_5 c1_6 c17_2 a18 c20_2 a21 c23_2 a24 a69 v1 v2 h
set_option maxHeartbeats 1000000 in
set_option maxRecDepth 100000 in
theorem c_X10_law (l : Launch) (u : Nat) (hT : l.stackTraces = false) (h : k_H) {rest : List k_Sh} (hsh : h.1 = shX ++ rest) {c1_1 : Int32} (ec1_1 : h.2.1 1 1 = c1_1) {c1_2 : Int32} (ec1_2 : h.2.1 1 2 = c1_2) {c1_3 : Int32} (ec1_3 : h.2.1 1 3 = c1_3) {c1_4 : Int32} (ec1_4 : h.2.1 1 4 = c1_4) {c1_5 : Int32} (ec1_5 : h.2.1 1 5 = c1_5) {c1_6 : Int32} (ec1_6 : h.2.1 1 6 = c1_6) {a2 : (Nat → Int32)} (ea2 : h.2.1 2 = a2) {c17_2 : Int32} (ec17_2 : h.2.1 17 2 = c17_2) {a18 : (Nat → Int32)} (ea18 : h.2.1 18 = a18) {c20_2 : Int32} (ec20_2 : h.2.1 20 2 = c20_2) {a21 : (Nat → Int32)} (ea21 : h.2.1 21 = a21) {c23_2 : Int32} (ec23_2 : h.2.1 23 2 = c23_2) {a24 : (Nat → Int32)} (ea24 : h.2.1 24 = a24) {a69 : (Nat → Int32)} (ea69 : h.2.1 69 = a69) {x0 : Int32} {x1 : Int32} {out : Int32 × Int32 × Int32 × Int32 × Int32 × Int32 × Int32 × Int32 × Int32 × (Nat → Int32) × Int32 × (Nat → Int32) × Int32 × (Nat → Int32) × (Nat → Int32)} (hf : f_X10_law u c1_1 c1_2 c1_3 c1_4 c1_5 c1_6 a2 c17_2 a18 c20_2 a21 c23_2 a24 a69 x0 x1 = some out) : k_CX l yX10_law cX10_law 3 (some .int) 74 1665 2 12 [.ref 0, .int x0, .int x1] h (k_R1 out.1 (some (.int out.2.1)) (k_ap [(1, .inl (1, out.2.2.1)), (1, .inl (2, out.2.2.2.1)), (1, .inl (3, out.2.2.2.2.1)), (1, .inl (4, out.2.2.2.2.2.1)), (1, .inl (5, out.2.2.2.2.2.2.1)), (1, .inl (6, out.2.2.2.2.2.2.2.1)), (17, .inl (2, out.2.2.2.2.2.2.2.2.1)), (18, .inr (.inr (.inl out.2.2.2.2.2.2.2.2.2.1))), (20, .inl (2, out.2.2.2.2.2.2.2.2.2.2.1)), (21, .inr (.inr (.inl out.2.2.2.2.2.2.2.2.2.2.2.1))), (23, .inl (2, out.2.2.2.2.2.2.2.2.2.2.2.2.1)), (24, .inr (.inr (.inl out.2.2.2.2.2.2.2.2.2.2.2.2.2.1))), (69, .inr (.inr (.inl out.2.2.2.2.2.2.2.2.2.2.2.2.2.2)))] h)) (k_R2 out.1 (k_ap [(1, .inl (1, out.2.2.1)), (1, .inl (2, out.2.2.2.1)), (1, .inl (3, out.2.2.2.2.1)), (1, .inl (4, out.2.2.2.2.2.1)), (1, .inl (5, out.2.2.2.2.2.2.1)), (1, .inl (6, out.2.2.2.2.2.2.2.1)), (17, .inl (2, out.2.2.2.2.2.2.2.2.1)), (18, .inr (.inr (.inl out.2.2.2.2.2.2.2.2.2.1))), (20, .inl (2, out.2.2.2.2.2.2.2.2.2.2.1)), (21, .inr (.inr (.inl out.2.2.2.2.2.2.2.2.2.2.2.1))), (23, .inl (2, out.2.2.2.2.2.2.2.2.2.2.2.2.1)), (24, .inr (.inr (.inl out.2.2.2.2.2.2.2.2.2.2.2.2.2.1))), (69, .inr (.inr (.inl out.2.2.2.2.2.2.2.2.2.2.2.2.2.2)))] h)) := by
  obtain ⟨sh, I, L, Rf⟩ := h
  try dsimp only
  obtain rfl : sh = shX ++ rest := hsh
  refine k_ofWX (by decide) (Nat.le_of_ble_eq_true rfl) ?_
  intro X ad hl hR0 hr C hx
  have hR : X.R.frames = 74 ∧ X.R.locals = 1665 := by rw [hR0]; exact ⟨rfl, rfl⟩
  have hRc : X.R.cells = 2 := by rw [hR0]
  have hRs : X.R.slots = 12 := by rw [hR0]
  have hT : X.l.stackTraces = false := by rw [hl]; exact hT
  have hsm := k_sm_rf (shX ++ rest).length ad
  have h := hf
  unfold f_X10_law at h
  refine k_start (us := [(1, .inl (1, c1_1)), (1, .inl (2, c1_2)), (1, .inl (3, c1_3)), (1, .inl (4, c1_4)), (1, .inl (5, c1_5)), (1, .inl (6, c1_6)), (17, .inl (2, c17_2)), (18, .inr (.inr (.inl a18))), (20, .inl (2, c20_2)), (21, .inr (.inr (.inl a21))), (23, .inl (2, c23_2)), (24, .inr (.inr (.inl a24))), (69, .inr (.inr (.inl a69)))]) (k_ao_I ec1_1 (k_ao_I ec1_2 (k_ao_I ec1_3 (k_ao_I ec1_4 (k_ao_I ec1_5 (k_ao_I ec1_6 (k_ao_I ec17_2 (k_ao_A ea18 (k_ao_I ec20_2 (k_ao_A ea21 (k_ao_I ec23_2 (k_ao_A ea24 (k_ao_A ea69 k_ap_0))))))))))))) ?_
  show k_W X 3 0 0 (k_QX X ad (shX ++ rest).length (k_R1 out.1 (some (.int out.2.1)) (k_ap [(1, .inl (1, out.2.2.1)), (1, .inl (2, out.2.2.2.1)), (1, .inl (3, out.2.2.2.2.1)), (1, .inl (4, out.2.2.2.2.2.1)), (1, .inl (5, out.2.2.2.2.2.2.1)), (1, .inl (6, out.2.2.2.2.2.2.2.1)), (17, .inl (2, out.2.2.2.2.2.2.2.2.1)), (18, .inr (.inr (.inl out.2.2.2.2.2.2.2.2.2.1))), (20, .inl (2, out.2.2.2.2.2.2.2.2.2.2.1)), (21, .inr (.inr (.inl out.2.2.2.2.2.2.2.2.2.2.2.1))), (23, .inl (2, out.2.2.2.2.2.2.2.2.2.2.2.2.1)), (24, .inr (.inr (.inl out.2.2.2.2.2.2.2.2.2.2.2.2.2.1))), (69, .inr (.inr (.inl out.2.2.2.2.2.2.2.2.2.2.2.2.2.2)))] ((shX ++ rest), I, L, Rf))) (k_R2 out.1 (k_ap [(1, .inl (1, out.2.2.1)), (1, .inl (2, out.2.2.2.1)), (1, .inl (3, out.2.2.2.2.1)), (1, .inl (4, out.2.2.2.2.2.1)), (1, .inl (5, out.2.2.2.2.2.2.1)), (1, .inl (6, out.2.2.2.2.2.2.2.1)), (17, .inl (2, out.2.2.2.2.2.2.2.2.1)), (18, .inr (.inr (.inl out.2.2.2.2.2.2.2.2.2.1))), (20, .inl (2, out.2.2.2.2.2.2.2.2.2.2.1)), (21, .inr (.inr (.inl out.2.2.2.2.2.2.2.2.2.2.2.1))), (23, .inl (2, out.2.2.2.2.2.2.2.2.2.2.2.2.1)), (24, .inr (.inr (.inl out.2.2.2.2.2.2.2.2.2.2.2.2.2.1))), (69, .inr (.inr (.inl out.2.2.2.2.2.2.2.2.2.2.2.2.2.2)))] ((shX ++ rest), I, L, Rf))) 2 12) ad (k_ap [(1, .inl (1, c1_1)), (1, .inl (2, c1_2)), (1, .inl (3, c1_3)), (1, .inl (4, c1_4)), (1, .inl (5, c1_5)), (1, .inl (6, c1_6)), (17, .inl (2, c17_2)), (18, .inr (.inr (.inl a18))), (20, .inl (2, c20_2)), (21, .inr (.inr (.inl a21))), (23, .inl (2, c23_2)), (24, .inr (.inr (.inl a24))), (69, .inr (.inr (.inl a69)))] ((shX ++ rest), I, L, Rf)) 0 [some (.ref 0), some (.int x0), some (.int x1)] []
  refine k_mask [true, true, true] ?_
  exact sX10_law_0 u C hr hR hx hRc hRs hT hsm ea2 c1_1 c1_2 c1_3 c1_4 c1_5 c1_6 c17_2 a18 c20_2 a21 c23_2 a24 a69 x0 x1 h
/-! LullabyPit$Past.isFull()Z -/
theorem ds_X4_isFull : k_ds [] = true := by decide +kernel
set_option maxHeartbeats 400000 in
set_option maxRecDepth 100000 in
theorem sX4_isFull_0 (u : Nat) {X : k_X} {ad : Nat → Nat} {rest : List k_Sh} (C : k_C X cX4_isFull RX4 1 ad) (hr : X.meth.sig.returnType = (some .boolean)) (hR : X.R.frames = 0 ∧ X.R.locals = 0) {I : Nat → Nat → Int32} {L : Nat → Nat → Int64} {Rf : Nat → Nat → Option Nat} {c35_1 : Int32} (ec35_1 : I 35 1 = c35_1) {out : Int32} : bX4_isFull_0 u c35_1 = some out → k_W X 1 0 0 (k_Q X ad (some (.int out)) (k_ap [] ((shX ++ rest), I, L, Rf))) ad (k_ap [] ((shX ++ rest), I, L, Rf)) 0 [some (.ref 35)] [] := by
  intro h
  unfold bX4_isFull_0 at h
  refine r_aload_n C dX4_isFull_0 (rfl : 0 + 1 = 1) rfl ?_
  refine r_getI (v := c35_1) C dX4_isFull_1 (rfl : 1 + 3 = 4) fl_X4_25 rfl rfl ec35_1 ?_
  refine r_bipush (v := (16 : Int32)) C dX4_isFull_4 (rfl : 4 + 2 = 6) rfl ?_
  refine r_icmp_lt (tgt := 13) C dX4_isFull_6 (by decide) (rfl : 6 + 3 = 9) (fun c6 => ?_) (fun c6 => ?_)
  · have h := k_t c6 h
    refine r_iconst (v := (0 : Int32)) C dX4_isFull_13 (rfl : 13 + 1 = 14) rfl ?_
    cases h
    exact r_zret C hr (Or.inl rfl) dX4_isFull_14
  · have h := k_f c6 h
    refine r_iconst (v := (1 : Int32)) C dX4_isFull_9 (rfl : 9 + 1 = 10) rfl ?_
    refine r_goto (tgt := 14) C dX4_isFull_10 (by decide) ?_
    cases h
    exact r_zret C hr (Or.inr rfl) dX4_isFull_14
set_option maxHeartbeats 400000 in
set_option maxRecDepth 100000 in
theorem c_X4_isFull (l : Launch) (u : Nat) (h : k_H) {rest : List k_Sh} (hsh : h.1 = (shX ++ rest)) {c35_1 : Int32} (ec35_1 : h.2.1 35 1 = c35_1) {out : Int32} (hf : f_X4_isFull u c35_1 = some out) : k_CT l yX4_isFull cX4_isFull 1 (some .boolean) 0 0 [.ref 35] h (some (.int out)) [] := by
  obtain ⟨sh, I, L, Rf⟩ := h
  try dsimp only
  obtain rfl : sh = (shX ++ rest) := hsh
  refine k_ofW (by decide) (Nat.le_of_ble_eq_true rfl) ?_
  intro X ad hl hR0 hr C
  have hR : X.R.frames = 0 ∧ X.R.locals = 0 := by rw [hR0]; exact ⟨rfl, rfl⟩
  have h := hf
  unfold f_X4_isFull at h
  refine k_start (us := []) k_ap_0 ?_
  show k_W X 1 0 0 _ ad (k_ap [] ((shX ++ rest), I, L, Rf)) 0 [some (.ref 35)] []
  refine k_mask [true] ?_
  exact sX4_isFull_0 u C hr hR ec35_1 h
/-! LullabyPit.feed(IIIII)I -/
theorem ds_X10_feed : k_ds [(1, 0, 1), (2, 2, 0)] = true := by decide +kernel
set_option maxHeartbeats 400000 in
set_option maxRecDepth 100000 in
theorem sX10_feed_0 (u : Nat) {X : k_X} {ad : Nat → Nat} {rest : List k_Sh} (C : k_C X cX10_feed RX10 6 ad) (hr : X.meth.sig.returnType = (some .int)) (hR : X.R.frames = 1 ∧ X.R.locals = 22) {I : Nat → Nat → Int32} {L : Nat → Nat → Int64} {Rf : Nat → Nat → Option Nat} {out : Int32 × Int32 × (Nat → Int32)} : ∀ (c1_1 : Int32) (a2 : (Nat → Int32)) (v1 : Int32) (v2 : Int32) (v3 : Int32) (v4 : Int32) (v5 : Int32), bX10_feed_0 u c1_1 a2 v1 v2 v3 v4 v5 = some out → k_W X 6 0 0 (k_Q X ad (some (.int out.1)) (k_ap [(1, .inl (1, out.2.1)), (2, .inr (.inr (.inl out.2.2)))] ((shX ++ rest), I, L, Rf))) ad (k_ap [(1, .inl (1, c1_1)), (2, .inr (.inr (.inl a2)))] ((shX ++ rest), I, L, Rf)) 0 [some (.ref 0), some (.int v1), some (.int v2), some (.int v3), some (.int v4), some (.int v5)] [] := by
  intro c1_1 a2 v1 v2 v3 v4 v5 h
  unfold bX10_feed_0 at h
  refine r_aload_n C dX10_feed_0 (rfl : 0 + 1 = 1) rfl ?_
  refine r_getR (q := 1) C dX10_feed_1 (rfl : 1 + 3 = 4) fl_X10_10 rfl rfl ?_
  refine r_getI (v := c1_1) C dX10_feed_4 (rfl : 4 + 3 = 7) fl_X10_109 rfl rfl rfl ?_
  refine r_bipush (v := (20 : Int32)) C dX10_feed_7 (rfl : 7 + 2 = 9) rfl ?_
  refine r_iadd C dX10_feed_9 (rfl : 9 + 1 = 10) ?_
  refine r_sipush (v := (600 : Int32)) C dX10_feed_10 (rfl : 10 + 3 = 13) rfl ?_
  refine r_icmp_le (tgt := 18) C dX10_feed_13 (by decide) (rfl : 13 + 3 = 16) (fun c13 => ?_) (fun c13 => ?_)
  · have h := k_t c13 h
    refine r_aload_n C dX10_feed_18 (rfl : 18 + 1 = 19) rfl ?_
    refine r_getR (q := 1) C dX10_feed_19 (rfl : 19 + 3 = 22) fl_X10_10 rfl rfl ?_
    refine r_iload_n C dX10_feed_22 (rfl : 22 + 1 = 23) rfl ?_
    obtain ⟨r23, q23, h⟩ := k_b_of h
    refine d_Vp (pi := [1, 2]) (shl := shTape) (bl := 0) (As := [.int v1]) (Al := [.int v1]) (st := []) (st' := []) (h' := k_ap [(1, .inl (1, r23.1)), (2, .inr (.inr (.inl r23.2)))] ((shX ++ rest), I, L, Rf)) C hR ⟨Nat.zero_le _, Nat.zero_le _⟩ mv_X8_put lk_X10_113 dX10_feed_23 (rfl : 23 + 3 = 26) rfl rfl ck_shX_shTape_1 rfl rfl (c_X8_put X.l u (k_pl [1, 2] shTape (k_ap [(1, .inl (1, c1_1)), (2, .inr (.inr (.inl a2)))] ((shX ++ rest), I, L, Rf))) rfl rfl rfl q23) rfl (fun _ => rfl) rfl (fun _ => rfl) rfl rfl rfl (k_jn (us' := [(1, .inl (1, r23.1)), (2, .inr (.inr (.inl r23.2)))]) ds_X10_feed rfl rfl rfl) rfl ?_
    refine r_aload_n C dX10_feed_26 (rfl : 26 + 1 = 27) rfl ?_
    refine r_getR (q := 1) C dX10_feed_27 (rfl : 27 + 3 = 30) fl_X10_10 rfl rfl ?_
    refine r_iload_n C dX10_feed_30 (rfl : 30 + 1 = 31) rfl ?_
    obtain ⟨r31, q31, h⟩ := k_b_of h
    refine d_Vp (pi := [1, 2]) (shl := shTape) (bl := 0) (As := [.int v2]) (Al := [.int v2]) (st := []) (st' := []) (h' := k_ap [(1, .inl (1, r31.1)), (2, .inr (.inr (.inl r31.2)))] ((shX ++ rest), I, L, Rf)) C hR ⟨Nat.zero_le _, Nat.zero_le _⟩ mv_X8_put lk_X10_113 dX10_feed_31 (rfl : 31 + 3 = 34) rfl rfl ck_shX_shTape_1 rfl rfl (c_X8_put X.l u (k_pl [1, 2] shTape (k_ap [(1, .inl (1, r23.1)), (2, .inr (.inr (.inl r23.2)))] ((shX ++ rest), I, L, Rf))) rfl rfl rfl q31) rfl (fun _ => rfl) rfl (fun _ => rfl) rfl rfl rfl (k_jn (us' := [(1, .inl (1, r31.1)), (2, .inr (.inr (.inl r31.2)))]) ds_X10_feed rfl rfl rfl) rfl ?_
    refine r_aload_n C dX10_feed_34 (rfl : 34 + 1 = 35) rfl ?_
    refine r_getR (q := 1) C dX10_feed_35 (rfl : 35 + 3 = 38) fl_X10_10 rfl rfl ?_
    refine r_iload_n C dX10_feed_38 (rfl : 38 + 1 = 39) rfl ?_
    obtain ⟨r39, q39, h⟩ := k_b_of h
    refine d_Vp (pi := [1, 2]) (shl := shTape) (bl := 0) (As := [.int v3]) (Al := [.int v3]) (st := []) (st' := []) (h' := k_ap [(1, .inl (1, r39.1)), (2, .inr (.inr (.inl r39.2)))] ((shX ++ rest), I, L, Rf)) C hR ⟨Nat.zero_le _, Nat.zero_le _⟩ mv_X8_put lk_X10_113 dX10_feed_39 (rfl : 39 + 3 = 42) rfl rfl ck_shX_shTape_1 rfl rfl (c_X8_put X.l u (k_pl [1, 2] shTape (k_ap [(1, .inl (1, r31.1)), (2, .inr (.inr (.inl r31.2)))] ((shX ++ rest), I, L, Rf))) rfl rfl rfl q39) rfl (fun _ => rfl) rfl (fun _ => rfl) rfl rfl rfl (k_jn (us' := [(1, .inl (1, r39.1)), (2, .inr (.inr (.inl r39.2)))]) ds_X10_feed rfl rfl rfl) rfl ?_
    refine r_aload_n C dX10_feed_42 (rfl : 42 + 1 = 43) rfl ?_
    refine r_getR (q := 1) C dX10_feed_43 (rfl : 43 + 3 = 46) fl_X10_10 rfl rfl ?_
    refine r_iload C dX10_feed_46 (rfl : 46 + 2 = 48) rfl ?_
    obtain ⟨r48, q48, h⟩ := k_b_of h
    refine d_Vp (pi := [1, 2]) (shl := shTape) (bl := 0) (As := [.int v4]) (Al := [.int v4]) (st := []) (st' := []) (h' := k_ap [(1, .inl (1, r48.1)), (2, .inr (.inr (.inl r48.2)))] ((shX ++ rest), I, L, Rf)) C hR ⟨Nat.zero_le _, Nat.zero_le _⟩ mv_X8_put lk_X10_113 dX10_feed_48 (rfl : 48 + 3 = 51) rfl rfl ck_shX_shTape_1 rfl rfl (c_X8_put X.l u (k_pl [1, 2] shTape (k_ap [(1, .inl (1, r39.1)), (2, .inr (.inr (.inl r39.2)))] ((shX ++ rest), I, L, Rf))) rfl rfl rfl q48) rfl (fun _ => rfl) rfl (fun _ => rfl) rfl rfl rfl (k_jn (us' := [(1, .inl (1, r48.1)), (2, .inr (.inr (.inl r48.2)))]) ds_X10_feed rfl rfl rfl) rfl ?_
    refine r_aload_n C dX10_feed_51 (rfl : 51 + 1 = 52) rfl ?_
    refine r_getR (q := 1) C dX10_feed_52 (rfl : 52 + 3 = 55) fl_X10_10 rfl rfl ?_
    refine r_iload C dX10_feed_55 (rfl : 55 + 2 = 57) rfl ?_
    obtain ⟨r57, q57, h⟩ := k_b_of h
    refine d_Vp (pi := [1, 2]) (shl := shTape) (bl := 0) (As := [.int v5]) (Al := [.int v5]) (st := []) (st' := []) (h' := k_ap [(1, .inl (1, r57.1)), (2, .inr (.inr (.inl r57.2)))] ((shX ++ rest), I, L, Rf)) C hR ⟨Nat.zero_le _, Nat.zero_le _⟩ mv_X8_put lk_X10_113 dX10_feed_57 (rfl : 57 + 3 = 60) rfl rfl ck_shX_shTape_1 rfl rfl (c_X8_put X.l u (k_pl [1, 2] shTape (k_ap [(1, .inl (1, r48.1)), (2, .inr (.inr (.inl r48.2)))] ((shX ++ rest), I, L, Rf))) rfl rfl rfl q57) rfl (fun _ => rfl) rfl (fun _ => rfl) rfl rfl rfl (k_jn (us' := [(1, .inl (1, r57.1)), (2, .inr (.inr (.inl r57.2)))]) ds_X10_feed rfl rfl rfl) rfl ?_
    refine r_aload_n C dX10_feed_60 (rfl : 60 + 1 = 61) rfl ?_
    refine r_getR (q := 1) C dX10_feed_61 (rfl : 61 + 3 = 64) fl_X10_10 rfl rfl ?_
    refine r_getI (v := r57.1) C dX10_feed_64 (rfl : 64 + 3 = 67) fl_X10_109 rfl rfl rfl ?_
    cases h
    exact r_iret C hr dX10_feed_67
  · have h := k_f c13 h
    refine r_iconst (v := (-1 : Int32)) C dX10_feed_16 (rfl : 16 + 1 = 17) rfl ?_
    cases h
    exact r_iret C hr dX10_feed_17
set_option maxHeartbeats 400000 in
set_option maxRecDepth 100000 in
theorem c_X10_feed (l : Launch) (u : Nat) (h : k_H) {rest : List k_Sh} (hsh : h.1 = (shX ++ rest)) {c1_1 : Int32} (ec1_1 : h.2.1 1 1 = c1_1) {a2 : (Nat → Int32)} (ea2 : h.2.1 2 = a2) {x0 : Int32} {x1 : Int32} {x2 : Int32} {x3 : Int32} {x4 : Int32} {out : Int32 × Int32 × (Nat → Int32)} (hf : f_X10_feed u c1_1 a2 x0 x1 x2 x3 x4 = some out) : k_CT l yX10_feed cX10_feed 6 (some .int) 1 22 [.ref 0, .int x0, .int x1, .int x2, .int x3, .int x4] h (some (.int out.1)) [(1, .inl (1, out.2.1)), (2, .inr (.inr (.inl out.2.2)))] := by
  obtain ⟨sh, I, L, Rf⟩ := h
  try dsimp only
  obtain rfl : sh = (shX ++ rest) := hsh
  refine k_ofW (by decide) (Nat.le_of_ble_eq_true rfl) ?_
  intro X ad hl hR0 hr C
  have hR : X.R.frames = 1 ∧ X.R.locals = 22 := by rw [hR0]; exact ⟨rfl, rfl⟩
  have h := hf
  unfold f_X10_feed at h
  refine k_start (us := [(1, .inl (1, c1_1)), (2, .inr (.inr (.inl a2)))]) (k_ao_I ec1_1 (k_ao_A ea2 k_ap_0)) ?_
  show k_W X 6 0 0 _ ad (k_ap [(1, .inl (1, c1_1)), (2, .inr (.inr (.inl a2)))] ((shX ++ rest), I, L, Rf)) 0 [some (.ref 0), some (.int x0), some (.int x1), some (.int x2), some (.int x3), some (.int x4)] []
  refine k_mask [true, true, true, true, true, true] ?_
  exact sX10_feed_0 u C hr hR c1_1 a2 x0 x1 x2 x3 x4 h
/-! LullabyPit.fault()I -/
theorem ds_X10_fault : k_ds [] = true := by decide +kernel
set_option maxHeartbeats 400000 in
set_option maxRecDepth 100000 in
theorem sX10_fault_0 (u : Nat) {X : k_X} {ad : Nat → Nat} {rest : List k_Sh} (C : k_C X cX10_fault RX10 1 ad) (hr : X.meth.sig.returnType = (some .int)) (hR : X.R.frames = 0 ∧ X.R.locals = 0) {I : Nat → Nat → Int32} {L : Nat → Nat → Int64} {Rf : Nat → Nat → Option Nat} {c1_6 : Int32} (ec1_6 : I 1 6 = c1_6) {out : Int32} : bX10_fault_0 u c1_6 = some out → k_W X 1 0 0 (k_Q X ad (some (.int out)) (k_ap [] ((shX ++ rest), I, L, Rf))) ad (k_ap [] ((shX ++ rest), I, L, Rf)) 0 [some (.ref 0)] [] := by
  intro h
  unfold bX10_fault_0 at h
  refine r_aload_n C dX10_fault_0 (rfl : 0 + 1 = 1) rfl ?_
  refine r_getR (q := 1) C dX10_fault_1 (rfl : 1 + 3 = 4) fl_X10_10 rfl rfl ?_
  refine r_getI (v := c1_6) C dX10_fault_4 (rfl : 4 + 3 = 7) fl_X10_180 rfl rfl ec1_6 ?_
  cases h
  exact r_iret C hr dX10_fault_7
set_option maxHeartbeats 400000 in
set_option maxRecDepth 100000 in
theorem c_X10_fault (l : Launch) (u : Nat) (h : k_H) {rest : List k_Sh} (hsh : h.1 = (shX ++ rest)) {c1_6 : Int32} (ec1_6 : h.2.1 1 6 = c1_6) {out : Int32} (hf : f_X10_fault u c1_6 = some out) : k_CT l yX10_fault cX10_fault 1 (some .int) 0 0 [.ref 0] h (some (.int out)) [] := by
  obtain ⟨sh, I, L, Rf⟩ := h
  try dsimp only
  obtain rfl : sh = (shX ++ rest) := hsh
  refine k_ofW (by decide) (Nat.le_of_ble_eq_true rfl) ?_
  intro X ad hl hR0 hr C
  have hR : X.R.frames = 0 ∧ X.R.locals = 0 := by rw [hR0]; exact ⟨rfl, rfl⟩
  have h := hf
  unfold f_X10_fault at h
  refine k_start (us := []) k_ap_0 ?_
  show k_W X 1 0 0 _ ad (k_ap [] ((shX ++ rest), I, L, Rf)) 0 [some (.ref 0)] []
  refine k_mask [true] ?_
  exact sX10_fault_0 u C hr hR ec1_6 h
/-! LullabyPit.fits()I -/
theorem ds_X10_fits : k_ds [] = true := by decide +kernel
set_option maxHeartbeats 400000 in
set_option maxRecDepth 100000 in
theorem sX10_fits_0 (u : Nat) {X : k_X} {ad : Nat → Nat} {rest : List k_Sh} (C : k_C X cX10_fits RX10 1 ad) (hr : X.meth.sig.returnType = (some .int)) (hR : X.R.frames = 4 ∧ X.R.locals = 88) {I : Nat → Nat → Int32} {L : Nat → Nat → Int64} {Rf : Nat → Nat → Option Nat} {c3_0 : Int32} (ec3_0 : I 3 0 = c3_0) {c3_1 : Int32} (ec3_1 : I 3 1 = c3_1) {a4 : (Nat → Int32)} (ea4 : I 4 = a4) {a59 : (Nat → Int32)} (ea59 : I 59 = a59) {out : Int32} : bX10_fits_0 u c3_0 c3_1 a4 a59 = some out → k_W X 1 0 0 (k_Q X ad (some (.int out)) (k_ap [] ((shX ++ rest), I, L, Rf))) ad (k_ap [] ((shX ++ rest), I, L, Rf)) 0 [some (.ref 0)] [] := by
  intro h
  unfold bX10_fits_0 at h
  refine r_aload_n C dX10_fits_0 (rfl : 0 + 1 = 1) rfl ?_
  refine r_getR (q := 58) C dX10_fits_1 (rfl : 1 + 3 = 4) fl_X10_85 rfl rfl ?_
  obtain ⟨r4, q4, h⟩ := k_b_of h
  refine d_Vp (pi := [58, 59, 60, 3, 4, 5, 6, 7, 8, 9]) (shl := shTaps) (bl := 0) (As := []) (Al := []) (st := []) (st' := [.int r4]) (h' := k_ap [] ((shX ++ rest), I, L, Rf)) C hR ⟨Nat.zero_le _, Nat.zero_le _⟩ mv_X9_fitting lk_X10_321 dX10_fits_4 (rfl : 4 + 3 = 7) rfl rfl ck_shX_shTaps_58_5 rfl rfl (c_X9_fitting X.l u (k_pl [58, 59, 60, 3, 4, 5, 6, 7, 8, 9] shTaps (k_ap [] ((shX ++ rest), I, L, Rf))) rfl ea59 ec3_0 ec3_1 ea4 q4) rfl (fun _ => rfl) rfl (fun _ => rfl) rfl rfl rfl rfl rfl ?_
  cases h
  exact r_iret C hr dX10_fits_7
set_option maxHeartbeats 400000 in
set_option maxRecDepth 100000 in
theorem c_X10_fits (l : Launch) (u : Nat) (h : k_H) {rest : List k_Sh} (hsh : h.1 = (shX ++ rest)) {c3_0 : Int32} (ec3_0 : h.2.1 3 0 = c3_0) {c3_1 : Int32} (ec3_1 : h.2.1 3 1 = c3_1) {a4 : (Nat → Int32)} (ea4 : h.2.1 4 = a4) {a59 : (Nat → Int32)} (ea59 : h.2.1 59 = a59) {out : Int32} (hf : f_X10_fits u c3_0 c3_1 a4 a59 = some out) : k_CT l yX10_fits cX10_fits 1 (some .int) 4 88 [.ref 0] h (some (.int out)) [] := by
  obtain ⟨sh, I, L, Rf⟩ := h
  try dsimp only
  obtain rfl : sh = (shX ++ rest) := hsh
  refine k_ofW (by decide) (Nat.le_of_ble_eq_true rfl) ?_
  intro X ad hl hR0 hr C
  have hR : X.R.frames = 4 ∧ X.R.locals = 88 := by rw [hR0]; exact ⟨rfl, rfl⟩
  have h := hf
  unfold f_X10_fits at h
  refine k_start (us := []) k_ap_0 ?_
  show k_W X 1 0 0 _ ad (k_ap [] ((shX ++ rest), I, L, Rf)) 0 [some (.ref 0)] []
  refine k_mask [true] ?_
  exact sX10_fits_0 u C hr hR ec3_0 ec3_1 ea4 ea59 h
/-! LullabyPit.level()I -/
theorem ds_X10_level : k_ds [] = true := by decide +kernel
set_option maxHeartbeats 400000 in
set_option maxRecDepth 100000 in
theorem sX10_level_0 (u : Nat) {X : k_X} {ad : Nat → Nat} {rest : List k_Sh} (C : k_C X cX10_level RX10 1 ad) (hr : X.meth.sig.returnType = (some .int)) (hR : X.R.frames = 3 ∧ X.R.locals = 67) {I : Nat → Nat → Int32} {L : Nat → Nat → Int64} {Rf : Nat → Nat → Option Nat} {c3_1 : Int32} (ec3_1 : I 3 1 = c3_1) {a5 : (Nat → Int32)} (ea5 : I 5 = a5) {c26_3 : Int64} (ec26_3 : L 26 3 = c26_3) {c26_4 : Int64} (ec26_4 : L 26 4 = c26_4) {c26_5 : Int64} (ec26_5 : L 26 5 = c26_5) {out : Int32} : bX10_level_0 u c3_1 a5 c26_3 c26_4 c26_5 = some out → k_W X 1 0 0 (k_Q X ad (some (.int out)) (k_ap [] ((shX ++ rest), I, L, Rf))) ad (k_ap [] ((shX ++ rest), I, L, Rf)) 0 [some (.ref 0)] [] := by
  intro h
  unfold bX10_level_0 at h
  refine r_aload_n C dX10_level_0 (rfl : 0 + 1 = 1) rfl ?_
  refine r_getR (q := 26) C dX10_level_1 (rfl : 1 + 3 = 4) fl_X10_50 rfl rfl ?_
  obtain ⟨r4, q4, h⟩ := k_b_of h
  refine d_Vp (pi := [26, 27, 28, 29, 30, 3, 4, 5, 6, 7, 8, 9, 17, 18, 19, 20, 21, 22]) (shl := shMine) (bl := 0) (As := []) (Al := []) (st := []) (st' := [.int r4]) (h' := k_ap [] ((shX ++ rest), I, L, Rf)) C hR ⟨Nat.zero_le _, Nat.zero_le _⟩ mv_X3_richestRow lk_X10_348 dX10_level_4 (rfl : 4 + 3 = 7) rfl rfl ck_shX_shMine_26_3 rfl rfl (c_X3_richestRow X.l u (k_pl [26, 27, 28, 29, 30, 3, 4, 5, 6, 7, 8, 9, 17, 18, 19, 20, 21, 22] shMine (k_ap [] ((shX ++ rest), I, L, Rf))) rfl ec26_3 ec26_4 ec26_5 ec3_1 ea5 q4) rfl (fun _ => rfl) rfl (fun _ => rfl) rfl rfl rfl rfl rfl ?_
  cases h
  exact r_iret C hr dX10_level_7
set_option maxHeartbeats 400000 in
set_option maxRecDepth 100000 in
theorem c_X10_level (l : Launch) (u : Nat) (h : k_H) {rest : List k_Sh} (hsh : h.1 = (shX ++ rest)) {c3_1 : Int32} (ec3_1 : h.2.1 3 1 = c3_1) {a5 : (Nat → Int32)} (ea5 : h.2.1 5 = a5) {c26_3 : Int64} (ec26_3 : h.2.2.1 26 3 = c26_3) {c26_4 : Int64} (ec26_4 : h.2.2.1 26 4 = c26_4) {c26_5 : Int64} (ec26_5 : h.2.2.1 26 5 = c26_5) {out : Int32} (hf : f_X10_level u c3_1 a5 c26_3 c26_4 c26_5 = some out) : k_CT l yX10_level cX10_level 1 (some .int) 3 67 [.ref 0] h (some (.int out)) [] := by
  obtain ⟨sh, I, L, Rf⟩ := h
  try dsimp only
  obtain rfl : sh = (shX ++ rest) := hsh
  refine k_ofW (by decide) (Nat.le_of_ble_eq_true rfl) ?_
  intro X ad hl hR0 hr C
  have hR : X.R.frames = 3 ∧ X.R.locals = 67 := by rw [hR0]; exact ⟨rfl, rfl⟩
  have h := hf
  unfold f_X10_level at h
  refine k_start (us := []) k_ap_0 ?_
  show k_W X 1 0 0 _ ad (k_ap [] ((shX ++ rest), I, L, Rf)) 0 [some (.ref 0)] []
  refine k_mask [true] ?_
  exact sX10_level_0 u C hr hR ec3_1 ea5 ec26_3 ec26_4 ec26_5 h
/-! LullabyPit.pick()I -/
theorem ds_X10_pick : k_ds [] = true := by decide +kernel
set_option maxHeartbeats 400000 in
set_option maxRecDepth 100000 in
theorem sX10_pick_0 (u : Nat) {X : k_X} {ad : Nat → Nat} {rest : List k_Sh} (C : k_C X cX10_pick RX10 1 ad) (hr : X.meth.sig.returnType = (some .int)) (hR : X.R.frames = 4 ∧ X.R.locals = 86) {I : Nat → Nat → Int32} {L : Nat → Nat → Int64} {Rf : Nat → Nat → Option Nat} {c3_5 : Int64} (ec3_5 : L 3 5 = c3_5) {c3_6 : Int64} (ec3_6 : L 3 6 = c3_6) {a4 : (Nat → Int32)} (ea4 : I 4 = a4) {a5 : (Nat → Int32)} (ea5 : I 5 = a5) {c26_15 : Int32} (ec26_15 : I 26 15 = c26_15) {c26_3 : Int64} (ec26_3 : L 26 3 = c26_3) {c26_4 : Int64} (ec26_4 : L 26 4 = c26_4) {c26_5 : Int64} (ec26_5 : L 26 5 = c26_5) {out : Int32} : bX10_pick_0 u c3_5 c3_6 a4 a5 c26_15 c26_3 c26_4 c26_5 = some out → k_W X 1 0 0 (k_Q X ad (some (.int out)) (k_ap [] ((shX ++ rest), I, L, Rf))) ad (k_ap [] ((shX ++ rest), I, L, Rf)) 0 [some (.ref 0)] [] := by
  intro h
  unfold bX10_pick_0 at h
  refine r_aload_n C dX10_pick_0 (rfl : 0 + 1 = 1) rfl ?_
  refine r_getR (q := 26) C dX10_pick_1 (rfl : 1 + 3 = 4) fl_X10_50 rfl rfl ?_
  obtain ⟨r4, q4, h⟩ := k_b_of h
  refine d_Vp (pi := [26, 27, 28, 29, 30, 3, 4, 5, 6, 7, 8, 9, 17, 18, 19, 20, 21, 22]) (shl := shMine) (bl := 0) (As := []) (Al := []) (st := []) (st' := [.int r4]) (h' := k_ap [] ((shX ++ rest), I, L, Rf)) C hR ⟨Nat.zero_le _, Nat.zero_le _⟩ mv_X3_richestCell lk_X10_351 dX10_pick_4 (rfl : 4 + 3 = 7) rfl rfl ck_shX_shMine_26_3 rfl rfl (c_X3_richestCell X.l u (k_pl [26, 27, 28, 29, 30, 3, 4, 5, 6, 7, 8, 9, 17, 18, 19, 20, 21, 22] shMine (k_ap [] ((shX ++ rest), I, L, Rf))) rfl ec26_15 ec26_3 ec26_4 ec26_5 ec3_5 ec3_6 ea4 ea5 q4) rfl (fun _ => rfl) rfl (fun _ => rfl) rfl rfl rfl rfl rfl ?_
  cases h
  exact r_iret C hr dX10_pick_7
set_option maxHeartbeats 400000 in
set_option maxRecDepth 100000 in
theorem c_X10_pick (l : Launch) (u : Nat) (h : k_H) {rest : List k_Sh} (hsh : h.1 = (shX ++ rest)) {c3_5 : Int64} (ec3_5 : h.2.2.1 3 5 = c3_5) {c3_6 : Int64} (ec3_6 : h.2.2.1 3 6 = c3_6) {a4 : (Nat → Int32)} (ea4 : h.2.1 4 = a4) {a5 : (Nat → Int32)} (ea5 : h.2.1 5 = a5) {c26_15 : Int32} (ec26_15 : h.2.1 26 15 = c26_15) {c26_3 : Int64} (ec26_3 : h.2.2.1 26 3 = c26_3) {c26_4 : Int64} (ec26_4 : h.2.2.1 26 4 = c26_4) {c26_5 : Int64} (ec26_5 : h.2.2.1 26 5 = c26_5) {out : Int32} (hf : f_X10_pick u c3_5 c3_6 a4 a5 c26_15 c26_3 c26_4 c26_5 = some out) : k_CT l yX10_pick cX10_pick 1 (some .int) 4 86 [.ref 0] h (some (.int out)) [] := by
  obtain ⟨sh, I, L, Rf⟩ := h
  try dsimp only
  obtain rfl : sh = (shX ++ rest) := hsh
  refine k_ofW (by decide) (Nat.le_of_ble_eq_true rfl) ?_
  intro X ad hl hR0 hr C
  have hR : X.R.frames = 4 ∧ X.R.locals = 86 := by rw [hR0]; exact ⟨rfl, rfl⟩
  have h := hf
  unfold f_X10_pick at h
  refine k_start (us := []) k_ap_0 ?_
  show k_W X 1 0 0 _ ad (k_ap [] ((shX ++ rest), I, L, Rf)) 0 [some (.ref 0)] []
  refine k_mask [true] ?_
  exact sX10_pick_0 u C hr hR ec3_5 ec3_6 ea4 ea5 ec26_15 ec26_3 ec26_4 ec26_5 h
/-! LullabyPit.status(I)I -/
theorem ds_X10_status : k_ds [] = true := by decide +kernel
set_option maxHeartbeats 400000 in
set_option maxRecDepth 100000 in
theorem sX10_status_0 (u : Nat) {X : k_X} {ad : Nat → Nat} {rest : List k_Sh} (C : k_C X cX10_status RX10 2 ad) (hr : X.meth.sig.returnType = (some .int)) (hR : X.R.frames = 0 ∧ X.R.locals = 0) {I : Nat → Nat → Int32} {L : Nat → Nat → Int64} {Rf : Nat → Nat → Option Nat} {a69 : (Nat → Int32)} (ea69 : I 69 = a69) {out : Int32} : ∀ (v1 : Int32), bX10_status_0 u a69 v1 = some out → k_W X 2 0 0 (k_Q X ad (some (.int out)) (k_ap [] ((shX ++ rest), I, L, Rf))) ad (k_ap [] ((shX ++ rest), I, L, Rf)) 0 [some (.ref 0), some (.int v1)] [] := by
  intro v1 h
  unfold bX10_status_0 at h
  refine r_iload_n C dX10_status_0 (rfl : 0 + 1 = 1) rfl ?_
  refine r_if_lt (tgt := 22) C dX10_status_1 (by decide) (rfl : 1 + 3 = 4) (fun c1 => ?_) (fun c1 => ?_)
  · have h := k_t c1 h
    refine r_iconst (v := (-1 : Int32)) C dX10_status_22 (rfl : 22 + 1 = 23) rfl ?_
    cases h
    exact r_iret C hr dX10_status_23
  · have h := k_f c1 h
    refine r_iload_n C dX10_status_4 (rfl : 4 + 1 = 5) rfl ?_
    refine r_aload_n C dX10_status_5 (rfl : 5 + 1 = 6) rfl ?_
    refine r_getR (q := 69) C dX10_status_6 (rfl : 6 + 3 = 9) fl_X10_105 rfl rfl ?_
    refine r_alen (v := (3 : Int32)) C dX10_status_9 (rfl : 9 + 1 = 10) rfl (by decide) rfl ?_
    refine r_icmp_ge (tgt := 22) C dX10_status_10 (by decide) (rfl : 10 + 3 = 13) (fun c10 => ?_) (fun c10 => ?_)
    · have h := k_t c10 h
      refine r_iconst (v := (-1 : Int32)) C dX10_status_22 (rfl : 22 + 1 = 23) rfl ?_
      cases h
      exact r_iret C hr dX10_status_23
    · have h := k_f c10 h
      refine r_aload_n C dX10_status_13 (rfl : 13 + 1 = 14) rfl ?_
      refine r_getR (q := 69) C dX10_status_14 (rfl : 14 + 3 = 17) fl_X10_105 rfl rfl ?_
      refine r_iload_n C dX10_status_17 (rfl : 17 + 1 = 18) rfl ?_
      obtain ⟨hi18, h⟩ := k_i_of h
      refine a_i (j := (v1).toNatClampNeg) (f := a69) C dX10_status_18 (rfl : 18 + 1 = 19) rfl ea69 hi18 rfl ?_
      refine r_goto (tgt := 23) C dX10_status_19 (by decide) ?_
      cases h
      exact r_iret C hr dX10_status_23
set_option maxHeartbeats 400000 in
set_option maxRecDepth 100000 in
theorem c_X10_status (l : Launch) (u : Nat) (h : k_H) {rest : List k_Sh} (hsh : h.1 = (shX ++ rest)) {a69 : (Nat → Int32)} (ea69 : h.2.1 69 = a69) {x0 : Int32} {out : Int32} (hf : f_X10_status u a69 x0 = some out) : k_CT l yX10_status cX10_status 2 (some .int) 0 0 [.ref 0, .int x0] h (some (.int out)) [] := by
  obtain ⟨sh, I, L, Rf⟩ := h
  try dsimp only
  obtain rfl : sh = (shX ++ rest) := hsh
  refine k_ofW (by decide) (Nat.le_of_ble_eq_true rfl) ?_
  intro X ad hl hR0 hr C
  have hR : X.R.frames = 0 ∧ X.R.locals = 0 := by rw [hR0]; exact ⟨rfl, rfl⟩
  have h := hf
  unfold f_X10_status at h
  refine k_start (us := []) k_ap_0 ?_
  show k_W X 2 0 0 _ ad (k_ap [] ((shX ++ rest), I, L, Rf)) 0 [some (.ref 0), some (.int x0)] []
  refine k_mask [true, true] ?_
  exact sX10_status_0 u C hr hR ea69 x0 h
/-! LullabyPit.count(I)I -/
theorem ds_X10_count : k_ds [] = true := by decide +kernel
set_option maxHeartbeats 400000 in
set_option maxRecDepth 100000 in
theorem sX10_count_0 (u : Nat) {X : k_X} {ad : Nat → Nat} {rest : List k_Sh} (C : k_C X cX10_count RX10 2 ad) (hr : X.meth.sig.returnType = (some .int)) (hR : X.R.frames = 0 ∧ X.R.locals = 0) {I : Nat → Nat → Int32} {L : Nat → Nat → Int64} {Rf : Nat → Nat → Option Nat} {c1_1 : Int32} (ec1_1 : I 1 1 = c1_1) {c35_1 : Int32} (ec35_1 : I 35 1 = c35_1) {c35_5 : Int32} (ec35_5 : I 35 5 = c35_5) {out : Int32} : ∀ (v1 : Int32), bX10_count_0 u c1_1 c35_1 c35_5 v1 = some out → k_W X 2 0 0 (k_Q X ad (some (.int out)) (k_ap [] ((shX ++ rest), I, L, Rf))) ad (k_ap [] ((shX ++ rest), I, L, Rf)) 0 [some (.ref 0), some (.int v1)] [] := by
  intro v1 h
  unfold bX10_count_0 at h
  refine r_iload_n C dX10_count_0 (rfl : 0 + 1 = 1) rfl ?_
  by_cases c1_0 : v1 = (0 : Int32)
  · have h := k_t c1_0 h
    refine r_tabIn (off := 27) (tgt := 28) C dX10_count_1 (by rw [c1_0]; decide) (by rw [c1_0]; decide) (by rw [c1_0]; rfl) (by decide) ?_
    refine r_aload_n C dX10_count_28 (rfl : 28 + 1 = 29) rfl ?_
    refine r_getR (q := 35) C dX10_count_29 (rfl : 29 + 3 = 32) fl_X10_67 rfl rfl ?_
    refine r_getI (v := c35_5) C dX10_count_32 (rfl : 32 + 3 = 35) fl_X10_406 rfl rfl ec35_5 ?_
    cases h
    exact r_iret C hr dX10_count_35
  · have h := k_f c1_0 h
    by_cases cc1_1 : v1 = (1 : Int32)
    · have h := k_t cc1_1 h
      refine r_tabIn (off := 35) (tgt := 36) C dX10_count_1 (by rw [cc1_1]; decide) (by rw [cc1_1]; decide) (by rw [cc1_1]; rfl) (by decide) ?_
      refine r_aload_n C dX10_count_36 (rfl : 36 + 1 = 37) rfl ?_
      refine r_getR (q := 1) C dX10_count_37 (rfl : 37 + 3 = 40) fl_X10_10 rfl rfl ?_
      refine r_getI (v := c1_1) C dX10_count_40 (rfl : 40 + 3 = 43) fl_X10_109 rfl rfl ec1_1 ?_
      cases h
      exact r_iret C hr dX10_count_43
    · have h := k_f cc1_1 h
      by_cases c1_2 : v1 = (2 : Int32)
      · have h := k_t c1_2 h
        refine r_tabIn (off := 43) (tgt := 44) C dX10_count_1 (by rw [c1_2]; decide) (by rw [c1_2]; decide) (by rw [c1_2]; rfl) (by decide) ?_
        refine r_aload_n C dX10_count_44 (rfl : 44 + 1 = 45) rfl ?_
        refine r_getR (q := 35) C dX10_count_45 (rfl : 45 + 3 = 48) fl_X10_67 rfl rfl ?_
        refine r_getI (v := c35_1) C dX10_count_48 (rfl : 48 + 3 = 51) fl_X10_183 rfl rfl ec35_1 ?_
        cases h
        exact r_iret C hr dX10_count_51
      · have h := k_f c1_2 h
        have hsw : (v1 : Int32).toInt < 0 ∨ 2 < (v1 : Int32).toInt := k_sw [(0 : Int32), (1 : Int32), (2 : Int32)] (by decide) (by intro v hv; simp only [List.mem_cons, List.not_mem_nil, or_false] at hv; rcases hv with rfl | rfl | rfl <;> assumption)
        refine r_tabOut (tgt := 52) C dX10_count_1 hsw (by decide) ?_
        refine r_iconst (v := (-1 : Int32)) C dX10_count_52 (rfl : 52 + 1 = 53) rfl ?_
        cases h
        exact r_iret C hr dX10_count_53
set_option maxHeartbeats 400000 in
set_option maxRecDepth 100000 in
theorem c_X10_count (l : Launch) (u : Nat) (h : k_H) {rest : List k_Sh} (hsh : h.1 = (shX ++ rest)) {c1_1 : Int32} (ec1_1 : h.2.1 1 1 = c1_1) {c35_1 : Int32} (ec35_1 : h.2.1 35 1 = c35_1) {c35_5 : Int32} (ec35_5 : h.2.1 35 5 = c35_5) {x0 : Int32} {out : Int32} (hf : f_X10_count u c1_1 c35_1 c35_5 x0 = some out) : k_CT l yX10_count cX10_count 2 (some .int) 0 0 [.ref 0, .int x0] h (some (.int out)) [] := by
  obtain ⟨sh, I, L, Rf⟩ := h
  try dsimp only
  obtain rfl : sh = (shX ++ rest) := hsh
  refine k_ofW (by decide) (Nat.le_of_ble_eq_true rfl) ?_
  intro X ad hl hR0 hr C
  have hR : X.R.frames = 0 ∧ X.R.locals = 0 := by rw [hR0]; exact ⟨rfl, rfl⟩
  have h := hf
  unfold f_X10_count at h
  refine k_start (us := []) k_ap_0 ?_
  show k_W X 2 0 0 _ ad (k_ap [] ((shX ++ rest), I, L, Rf)) 0 [some (.ref 0), some (.int x0)] []
  refine k_mask [true, true] ?_
  exact sX10_count_0 u C hr hR ec1_1 ec35_1 ec35_5 x0 h
