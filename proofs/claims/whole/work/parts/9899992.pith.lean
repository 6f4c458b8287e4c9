/-! PIT: the relation behind the call -/
section PTH
variable {u : Nat} {S : aT} {h : k_H}
def pcQ (p : Nat) : Bool := p == 2 || (p == 39 || (p == 72 || (p == 83 || (p == 84 || (p == 92 || (p == 96 || (p == 101 || Nat.ble 103 p)))))))
theorem Rel_pit (R : Rel S h) {h' : k_H} (e1 : h'.1 = h.1) (e2 : h'.2.2.2 = h.2.2.2) (E : ∀ p, pcQ p = true → Kp h h' p) {y0_14 : Int32} (cy0_14 : h'.2.1 0 14 = y0_14) {y1_1 : Int32} (cy1_1 : h'.2.1 1 1 = y1_1) {y1_6 : Int32} (cy1_6 : h'.2.1 1 6 = y1_6) {y3_0 : Int32} (cy3_0 : h'.2.1 3 0 = y3_0) {y3_1 : Int32} (cy3_1 : h'.2.1 3 1 = y3_1) {y3_8 : Int32} (cy3_8 : h'.2.1 3 8 = y3_8) {y3_10 : Int32} (cy3_10 : h'.2.1 3 10 = y3_10) {z3_5 : Int64} (cz3_5 : h'.2.2.1 3 5 = z3_5) {z3_6 : Int64} (cz3_6 : h'.2.2.1 3 6 = z3_6) {y4 : (Nat → Int32)} (cy4 : h'.2.1 4 = y4) {y5 : (Nat → Int32)} (cy5 : h'.2.1 5 = y5) {y6 : (Nat → Int32)} (cy6 : h'.2.1 6 = y6) {y7 : (Nat → Int32)} (cy7 : h'.2.1 7 = y7) {y8 : (Nat → Int32)} (cy8 : h'.2.1 8 = y8) {y9 : (Nat → Int32)} (cy9 : h'.2.1 9 = y9) {y17_2 : Int32} (cy17_2 : h'.2.1 17 2 = y17_2) {y18 : (Nat → Int32)} (cy18 : h'.2.1 18 = y18) {y20_2 : Int32} (cy20_2 : h'.2.1 20 2 = y20_2) {y21 : (Nat → Int32)} (cy21 : h'.2.1 21 = y21) {y26_10 : Int32} (cy26_10 : h'.2.1 26 10 = y26_10) {y26_11 : Int32} (cy26_11 : h'.2.1 26 11 = y26_11) {y26_12 : Int32} (cy26_12 : h'.2.1 26 12 = y26_12) {y26_13 : Int32} (cy26_13 : h'.2.1 26 13 = y26_13) {y26_14 : Int32} (cy26_14 : h'.2.1 26 14 = y26_14) {y26_15 : Int32} (cy26_15 : h'.2.1 26 15 = y26_15) {y26_16 : Int32} (cy26_16 : h'.2.1 26 16 = y26_16) {y26_17 : Int32} (cy26_17 : h'.2.1 26 17 = y26_17) {z26_3 : Int64} (cz26_3 : h'.2.2.1 26 3 = z26_3) {z26_4 : Int64} (cz26_4 : h'.2.2.1 26 4 = z26_4) {z26_5 : Int64} (cz26_5 : h'.2.2.1 26 5 = z26_5) {y27 : (Nat → Int32)} (cy27 : h'.2.1 27 = y27) {y28 : (Nat → Int32)} (cy28 : h'.2.1 28 = y28) {y29 : (Nat → Int32)} (cy29 : h'.2.1 29 = y29) {y30 : (Nat → Int32)} (cy30 : h'.2.1 30 = y30) {y35_1 : Int32} (cy35_1 : h'.2.1 35 1 = y35_1) {y35_5 : Int32} (cy35_5 : h'.2.1 35 5 = y35_5) {y58_3 : Int32} (cy58_3 : h'.2.1 58 3 = y58_3) {y59 : (Nat → Int32)} (cy59 : h'.2.1 59 = y59) {y69 : (Nat → Int32)} (cy69 : h'.2.1 69 = y69) {y70_2 : Int32} (cy70_2 : h'.2.1 70 2 = y70_2) {y70_8 : Int32} (cy70_8 : h'.2.1 70 8 = y70_8) {y70_25 : Int32} (cy70_25 : h'.2.1 70 25 = y70_25) {y70_26 : Int32} (cy70_26 : h'.2.1 70 26 = y70_26) {y70_27 : Int32} (cy70_27 : h'.2.1 70 27 = y70_27) {y70_28 : Int32} (cy70_28 : h'.2.1 70 28 = y70_28) {y70_30 : Int32} (cy70_30 : h'.2.1 70 30 = y70_30) {y70_42 : Int32} (cy70_42 : h'.2.1 70 42 = y70_42) {y70_43 : Int32} (cy70_43 : h'.2.1 70 43 = y70_43) {y70_54 : Int32} (cy70_54 : h'.2.1 70 54 = y70_54) {y70_65 : Int32} (cy70_65 : h'.2.1 70 65 = y70_65) {y71 : (Nat → Int32)} (cy71 : h'.2.1 71 = y71) {y77 : (Nat → Int32)} (cy77 : h'.2.1 77 = y77) {y78 : (Nat → Int32)} (cy78 : h'.2.1 78 = y78) {y79 : (Nat → Int32)} (cy79 : h'.2.1 79 = y79) {y80 : (Nat → Int32)} (cy80 : h'.2.1 80 = y80) {y85 : (Nat → Int32)} (cy85 : h'.2.1 85 = y85) {y90 : (Nat → Int32)} (cy90 : h'.2.1 90 = y90) {p : aP} {m : aM} {F H : (Nat → Int32) → Int32} {L : Nat} {B : Nat → Nat × Nat} (K : pOK p ∧ xPit p y3_0 y3_1 z3_5 z3_6 y3_8 y3_10 y4 y5 y6 y7 y8 y9 ∧ mPit p y70_25 y70_26 y70_27 y70_28 y70_30 y77 y78 y79 y80 ∧ lcong F ∧ lcong H ∧ lawX y17_2 y18 F ∧ lawX y20_2 y21 H ∧ lawM 0 (h.2.1 83) (h.2.1 84) y85 F ∧ lawM 1 (h.2.1 83) (h.2.1 84) y85 H ∧ mOK p m ∧ xMine m y26_10 y26_11 y26_12 y26_13 y26_14 y26_15 y26_16 y26_17 z26_3 z26_4 z26_5 y27 y28 y29 y30 ∧ mMine m y90 ∧ (L ≤ 8 ∧ y58_3 = nI L ∧ y70_54 = nI L ∧ (∀ i, i < L → (B i).1 < 8 ∧ (B i).2 ≤ 6 ∧ h.2.1 96 (2 * i) = nI (B i).1 ∧ h.2.1 96 (2 * i + 1) = nI (B i).2 ∧ y59 (B i).1 = nI (B i).2) ∧ (∀ i j, i < L → j < L → (B i).1 = (B j).1 → i = j) ∧ ∀ x, x < 8 → (∀ i, i < L → (B i).1 ≠ x) → y59 x = -1) ∧ ((y35_1 = h.2.1 35 1 ∧ y70_42 = h.2.1 70 42 ∧ y35_5 = h.2.1 35 5 ∧ y70_65 = h.2.1 70 65 ∧ p = rS_P S) ∨ (y35_1 = 0 ∧ y70_42 = 0 ∧ y35_5 = 0 ∧ y70_65 = 0))) (Q : (∀ k, k < 3 → y69 k = y71 k) ∧ y1_6 = y70_8 ∧ y0_14 = y70_43 ∧ ∃ (N : Nat) (b : Nat → Nat), N ≤ 600 ∧ y1_1 = nI N ∧ y70_2 = nI N ∧ ∀ i, i < N → b i < 256 ∧ h.2.1 72 i = nI (b i) ∧ h.2.1 2 i = (nI (b i)).toInt8.toInt32) : ∃ S', Rel S' h' := by
  obtain ⟨p1, p2, p3, l1, l2, l3, l4, l5, l6, n1, n2, n3, b1, hW⟩ := K
  obtain ⟨r1, r2, r3, N, b, N1, N2, N3, N4⟩ := Q
  have c := R.1
  have w := R.2.2.2.2.2.2.2.1
  have i := R.2.2.2.2.2.2.2.2
  have E103 : ∀ p, 103 ≤ p → Kp h h' p := fun p hp => E p (by
    unfold pcQ
    rw [show Nat.ble 103 p = true from Nat.ble_eq_true_of_le hp]
    simp only [Bool.or_true])
  have zP : rZ_P p h' := by
    unfold rZ_P
    rw [cy3_0, cy3_1, cz3_5, cz3_6, cy3_8, cy3_10, cy4, cy5, cy6, cy7, cy8, cy9, cy70_25, cy70_26, cy70_27, cy70_28, cy70_30, cy77, cy78, cy79, cy80]
    exact ⟨p1, p2, p3⟩
  have zL : rZ_L F H h' := by
    unfold rZ_L
    rw [cy17_2, cy18, cy20_2, cy21, cy85]
    rw [(E 83 rfl).1, (E 84 rfl).1]
    exact ⟨l1, l2, l3, l4, l5, l6⟩
  have zN : rZ_N p m h' := by
    unfold rZ_N rZ_M
    show mOK p m ∧ xMine m (h'.2.1 26 10) (h'.2.1 26 11) (h'.2.1 26 12) (h'.2.1 26 13) (h'.2.1 26 14) (h'.2.1 26 15) (h'.2.1 26 16) (h'.2.1 26 17) (h'.2.2.1 26 3) (h'.2.2.1 26 4) (h'.2.2.1 26 5) (h'.2.1 27) (h'.2.1 28) (h'.2.1 29) (h'.2.1 30) ∧ mMine m (h'.2.1 90)
    rw [cy26_10, cy26_11, cy26_12, cy26_13, cy26_14, cy26_15, cy26_16, cy26_17, cz26_3, cz26_4, cz26_5, cy27, cy28, cy29, cy30, cy90]
    exact ⟨n1, n2, n3⟩
  have zB : rZ_B L B h' := by
    unfold rZ_B
    rw [cy58_3, cy70_54, cy59]
    rw [(E 96 rfl).1]
    exact b1
  have zT : rZ_T h' := by
    unfold rZ_T
    rw [cy1_1, cy70_2]
    rw [(E 72 rfl).1, (E 2 rfl).1]
    exact ⟨N, b, N1, N2, N3, N4⟩
  have zR : rZ_R h' := by
    unfold rZ_R
    rw [cy69, cy71, cy1_6, cy70_8, cy0_14, cy70_43]
    exact ⟨r1, r2, r3⟩
  rcases hW with ⟨w1, w2, w3, w4, w5⟩ | ⟨w1, w2, w3, w4⟩
  · refine ⟨(p, m, F, H, L, B, S.2.2.2.2.2.2), rZ_Cq c e1 e2, zP, zL, zN, zB, zT, zR, ?_, ?_⟩
    · obtain ⟨h1, h2, h3, h4⟩ := w
      refine ⟨h1, cy35_1.trans (w1.trans h2), cy70_42.trans (w2.trans h3), fun j hj => ?_⟩
      obtain ⟨q, g1, g2, g3, g4⟩ := h4 j hj
      exact ⟨q, by rw [e2]; exact g1, rZ_Mq E103 (rZ_103 c (Or.inl rfl) g1) g2, by rw [(E 92 rfl).1]; exact g3, by show mOK p _; rw [w5]; exact g4⟩
    · obtain ⟨h1, h2, h3, h4⟩ := i
      refine ⟨h1, cy35_5.trans (w3.trans h2), cy70_65.trans (w4.trans h3), fun i hi => ?_⟩
      obtain ⟨g1, g2, g3, g4, ⟨q, g5, g6, g7⟩, g8⟩ := h4 i hi
      refine ⟨g1, by rw [(E 39 rfl).1]; exact g2, by rw [(E 101 rfl).1]; exact g3, by show mOK p _; rw [w5]; exact g4, ⟨q, by rw [e2]; exact g5, rZ_Mq E103 (rZ_103 c (Or.inr (Or.inl rfl)) g5) g6, by rw [(E 101 rfl).1]; exact g7⟩, fun j hj => ?_⟩
      obtain ⟨q, k1, k2, k3, k4⟩ := g8 j hj
      exact ⟨q, by rw [e2]; exact k1, rZ_Mq E103 (rZ_103 c (Or.inr (Or.inr rfl)) k1) k2, by rw [(E 101 rfl).1]; exact k3, by show mOK p _; rw [w5]; exact k4⟩
  · exact ⟨(p, m, F, H, L, B, 0, S.2.2.2.2.2.2.2.1, 0, S.2.2.2.2.2.2.2.2.2), rZ_Cq c e1 e2, zP, zL, zN, zB, zT, zR, ⟨Nat.zero_le _, cy35_1.trans w1, cy70_42.trans w2, fun j hj => absurd hj (Nat.not_lt_zero j)⟩, ⟨Nat.zero_le _, cy35_5.trans w3, cy70_65.trans w4, fun j hj => absurd hj (Nat.not_lt_zero j)⟩⟩
set_option maxRecDepth 60000 in
theorem Q_1 {l : Launch} (hT : l.stackTraces = false) (hu : 700 ≤ u) (R : Rel S h) (a1 a2 a3 a4 a5 : Int32) : q_1 l h a1 a2 a3 a4 a5 (nxt h) := by
  obtain ⟨o, o', e1, e2, hm, hr, p, m, F, H, L, B, K⟩ := n_1 hu R a1
  obtain ⟨rest, hsh⟩ := rZ_CX R.1
  have hL := rZ_CLS R.1
  refine ⟨1, 6, _, _, by decide, by decide, c_X10_pit l u hT h hsh rfl rfl rfl rfl rfl rfl rfl rfl rfl rfl rfl rfl rfl rfl rfl rfl rfl rfl rfl rfl rfl rfl rfl rfl rfl rfl rfl rfl rfl rfl rfl rfl rfl rfl rfl rfl rfl rfl rfl rfl rfl rfl rfl rfl rfl rfl rfl rfl rfl rfl rfl rfl rfl rfl rfl rfl rfl rfl rfl rfl e1, ?_, ?_⟩
  · rintro v h1 ⟨hk, rfl, rfl⟩
    rcases hm with ⟨m1, m2, m3⟩ | ⟨m1, m2⟩
    · refine ⟨o.2.1, o'.1, _, rfl, rZ_LSa hL, ⟨_, c_X11_pit l u (k_pl piM shM _) rfl (k_plI (p := 70) rfl rfl) (k_plI (p := 70) rfl rfl) (k_plI (p := 70) rfl rfl) (k_plI (p := 70) rfl rfl) (k_plI (p := 70) rfl rfl) (k_plI (p := 70) rfl rfl) (k_plI (p := 70) rfl rfl) (k_plI (p := 70) rfl rfl) (k_plI (p := 70) rfl rfl) (k_plI (p := 70) rfl rfl) (k_plI (p := 70) rfl rfl) (k_plI (p := 70) rfl rfl) (k_plI (p := 70) rfl rfl) (k_plI (p := 70) rfl rfl) (k_plI (p := 70) rfl rfl) (k_plI (p := 70) rfl rfl) (k_plI (p := 70) rfl rfl) (k_plI (p := 70) rfl rfl) (k_plI (p := 70) rfl rfl) (k_plI (p := 70) rfl rfl) (k_plI (p := 70) rfl rfl) (k_plI (p := 70) rfl rfl) (k_plI (p := 70) rfl rfl) (k_plI (p := 70) rfl rfl) (k_plI (p := 70) rfl rfl) (k_plA (p := 71) rfl rfl) (k_plA (p := 72) rfl rfl) (k_plA (p := 73) rfl rfl) (k_plA (p := 74) rfl rfl) (k_plA (p := 75) rfl rfl) (k_plA (p := 76) rfl rfl) (k_plA (p := 77) rfl rfl) (k_plA (p := 78) rfl rfl) (k_plA (p := 79) rfl rfl) (k_plA (p := 80) rfl rfl) (k_plA (p := 85) rfl rfl) (k_plA (p := 90) rfl rfl) e2, rfl, rfl, m2⟩, (show _ = o.2.1.toInt64 from rfl).trans (show o.2.1.toInt64 = o'.1.toInt64 by rw [m3]), Rel_pit R (ap_Ash _ h).1 (ap_Ash _ h).2 (kp_A (st := pcQ) rfl rfl rfl _ h) rfl rfl rfl rfl rfl rfl rfl rfl rfl rfl rfl rfl rfl rfl rfl rfl rfl rfl rfl rfl rfl rfl rfl rfl rfl rfl rfl rfl rfl rfl rfl rfl rfl rfl rfl rfl rfl rfl rfl rfl rfl rfl rfl rfl rfl rfl rfl rfl rfl rfl rfl rfl rfl rfl rfl rfl rfl K hr, ?_⟩
      rw [(ap_Ash _ h).1]
      omega
    · exact absurd (hk.symm.trans m1) (by decide)
  · rintro E h1 ⟨hk, rfl, rfl⟩
    rcases hm with ⟨m1, m2, m3⟩ | ⟨m1, m2⟩
    · exact absurd m1 hk
    · refine ⟨o'.1, 1, _, rZ_LSa hL, ⟨by rw [m1]; rfl, rfl⟩, ⟨_, c_X11_pit l u (k_pl piM shM _) rfl (k_plI (p := 70) rfl rfl) (k_plI (p := 70) rfl rfl) (k_plI (p := 70) rfl rfl) (k_plI (p := 70) rfl rfl) (k_plI (p := 70) rfl rfl) (k_plI (p := 70) rfl rfl) (k_plI (p := 70) rfl rfl) (k_plI (p := 70) rfl rfl) (k_plI (p := 70) rfl rfl) (k_plI (p := 70) rfl rfl) (k_plI (p := 70) rfl rfl) (k_plI (p := 70) rfl rfl) (k_plI (p := 70) rfl rfl) (k_plI (p := 70) rfl rfl) (k_plI (p := 70) rfl rfl) (k_plI (p := 70) rfl rfl) (k_plI (p := 70) rfl rfl) (k_plI (p := 70) rfl rfl) (k_plI (p := 70) rfl rfl) (k_plI (p := 70) rfl rfl) (k_plI (p := 70) rfl rfl) (k_plI (p := 70) rfl rfl) (k_plI (p := 70) rfl rfl) (k_plI (p := 70) rfl rfl) (k_plI (p := 70) rfl rfl) (k_plA (p := 71) rfl rfl) (k_plA (p := 72) rfl rfl) (k_plA (p := 73) rfl rfl) (k_plA (p := 74) rfl rfl) (k_plA (p := 75) rfl rfl) (k_plA (p := 76) rfl rfl) (k_plA (p := 77) rfl rfl) (k_plA (p := 78) rfl rfl) (k_plA (p := 79) rfl rfl) (k_plA (p := 80) rfl rfl) (k_plA (p := 85) rfl rfl) (k_plA (p := 90) rfl rfl) e2, rfl, rfl, m2⟩, Rel_pit R (ap_Bsh h).1 (ap_Bsh h).2 (kp_B (st := pcQ) rfl rfl h) rfl rfl rfl rfl rfl rfl rfl rfl rfl rfl rfl rfl rfl rfl rfl rfl rfl rfl rfl rfl rfl rfl rfl rfl rfl rfl rfl rfl rfl rfl rfl rfl rfl rfl rfl rfl rfl rfl rfl rfl rfl rfl rfl rfl rfl rfl rfl rfl rfl rfl rfl rfl rfl rfl rfl rfl rfl K hr, ?_⟩
      rw [(ap_Bsh h).1]
      omega
end PTH
