/-! THE LAW'S LOOP -/
def q_all (l : Launch) (h : k_H) (c : Int) (a1 a2 a3 a4 a5 : Int32) (P : k_H → Prop) : Prop :=
  (c = 0 → q_0 l h a1 a2 a3 a4 a5 P) ∧ (c = 1 → q_1 l h a1 a2 a3 a4 a5 P) ∧ (c = 2 → q_2 l h a1 a2 a3 a4 a5 P) ∧ (c = 3 → q_3 l h a1 a2 a3 a4 a5 P) ∧ (c = 4 → q_4 l h a1 a2 a3 a4 a5 P) ∧ (c = 5 → q_5 l h a1 a2 a3 a4 a5 P) ∧ (c = 6 → q_6 l h a1 a2 a3 a4 a5 P) ∧ (c = 7 → q_7 l h a1 a2 a3 a4 a5 P) ∧ (c = 8 → q_8 l h a1 a2 a3 a4 a5 P) ∧ (c = 9 → q_9 l h a1 a2 a3 a4 a5 P) ∧ (c = 10 → q_10 l h a1 a2 a3 a4 a5 P) ∧ (c = 11 → q_11 l h a1 a2 a3 a4 a5 P) ∧ (c = 12 → q_12 l h a1 a2 a3 a4 a5 P) ∧ (c = 13 → q_13 l h a1 a2 a3 a4 a5 P) ∧ (c = 14 → q_14 l h a1 a2 a3 a4 a5 P) ∧ (c = 15 → q_15 l h a1 a2 a3 a4 a5 P) ∧ (c = 16 → q_16 l h a1 a2 a3 a4 a5 P) ∧ (c = 17 → q_17 l h a1 a2 a3 a4 a5 P) ∧ (c = 18 → q_18 l h a1 a2 a3 a4 a5 P) ∧ (c = 19 → q_19 l h a1 a2 a3 a4 a5 P) ∧ (c = 20 → q_20 l h a1 a2 a3 a4 a5 P) ∧ (c = 21 → q_21 l h a1 a2 a3 a4 a5 P) ∧ (c = 22 → q_22 l h a1 a2 a3 a4 a5 P) ∧ (c = 23 → q_23 l h a1 a2 a3 a4 a5 P) ∧ (c = 24 → q_24 l h a1 a2 a3 a4 a5 P) ∧ (c = 25 → q_25 l h a1 a2 a3 a4 a5 P) ∧ (c = 26 → q_26 l h a1 a2 a3 a4 a5 P) ∧ (c = 27 → q_27 l h a1 a2 a3 a4 a5 P) ∧ (c = 28 → q_28 l h a1 a2 a3 a4 a5 P) ∧ (c = 29 → q_29 l h a1 a2 a3 a4 a5 P) ∧ (c = 30 → q_30 l h a1 a2 a3 a4 a5 P) ∧ (c = 31 → q_31 l h a1 a2 a3 a4 a5 P) ∧ (c = 32 → q_32 l h a1 a2 a3 a4 a5 P) ∧ (c = 33 → q_33 l h a1 a2 a3 a4 a5 P) ∧ (c = 34 → q_34 l h a1 a2 a3 a4 a5 P) ∧ (c = 35 → q_35 l h a1 a2 a3 a4 a5 P) ∧ (c = 36 → q_36 l h a1 a2 a3 a4 a5 P) ∧ (c = 37 → q_37 l h a1 a2 a3 a4 a5 P) ∧ (c < 0 ∨ 37 < c → P h)
set_option maxRecDepth 20000 in
theorem s_row {X : k_X} {cells slots N : Nat} {Q : State → Prop} {ad : Nat → Nat} {h : k_H} {i a0 a1 a2 a3 a4 a5 : Int32} {f : Nat → Int32} (C : k_C X cL_law_ RL 8 ad) (hR : X.R.frames = 2048 ∧ X.R.locals = 84000) (hcs : cells + 85 ≤ X.R.cells ∧ slots + 714 ≤ X.R.slots) (hA : va_T .int (ad 5000000) N (fun j => .int (f j)) X.A X.s X.s.heap) (E0 : k_el N f i a0) (E1 : k_el N f (i + 1) a1) (E2 : k_el N f (i + 2) a2) (E3 : k_el N f (i + 3) a3) (E4 : k_el N f (i + 4) a4) (E5 : k_el N f (i + 5) a5) (hLS : k_LS h) {P : k_H → Prop} (K : q_all X.l h (a0 &&& 63).toInt a1 a2 a3 a4 a5 P)
    (kk : ∀ (ad' : Nat → Nat) (h' : k_H), P h' → k_LS h' → k_sm 0 ad ad' → k_C X cL_law_ RL 8 ad' → k_W X 8 (cells + 85) (slots + 714) Q ad' h' 2307 [some (.ref 5000000), some (.ref 0), some (.ref 70), some (.ref 102), some (.int i), none, none, none] []) : k_W X 8 cells slots Q ad h 33 [some (.ref 5000000), some (.ref 0), some (.ref 70), some (.ref 102), some (.int i), none, none, none] [] := by
  refine r_aload_n C dL_law__33 (rfl : 33 + 1 = 34) rfl ?_
  refine r_iload C dL_law__34 (rfl : 34 + 2 = 36) rfl ?_
  refine r_argV C hA dL_law__36 (rfl : 36 + 1 = 37) E0 ?_
  refine r_bipush (v := (63 : Int32)) C dL_law__37 (rfl : 37 + 2 = 39) rfl ?_
  refine r_iand C dL_law__39 (rfl : 39 + 1 = 40) ?_
  obtain ⟨K0, K1, K2, K3, K4, K5, K6, K7, K8, K9, K10, K11, K12, K13, K14, K15, K16, K17, K18, K19, K20, K21, K22, K23, K24, K25, K26, K27, K28, K29, K30, K31, K32, K33, K34, K35, K36, K37, Kd⟩ := K
  by_cases z0 : (a0 &&& (63 : Int32)).toInt = 0
  · refine r_tabIn (tgt := 208) C dL_law__40 (by rw [z0]; decide) (by rw [z0]; decide) (by rw [z0]; rfl) (by decide) ?_
    exact s_k0 C hR hcs hA E1 E2 E3 E4 E5 hLS (K0 z0) kk
  by_cases z1 : (a0 &&& (63 : Int32)).toInt = 1
  · refine r_tabIn (tgt := 281) C dL_law__40 (by rw [z1]; decide) (by rw [z1]; decide) (by rw [z1]; rfl) (by decide) ?_
    exact s_k1 C hR hcs hA E1 E2 E3 E4 E5 hLS (K1 z1) kk
  by_cases z2 : (a0 &&& (63 : Int32)).toInt = 2
  · refine r_tabIn (tgt := 337) C dL_law__40 (by rw [z2]; decide) (by rw [z2]; decide) (by rw [z2]; rfl) (by decide) ?_
    exact s_k2 C hR hcs hA E1 E2 E3 E4 E5 hLS (K2 z2) kk
  by_cases z3 : (a0 &&& (63 : Int32)).toInt = 3
  · refine r_tabIn (tgt := 405) C dL_law__40 (by rw [z3]; decide) (by rw [z3]; decide) (by rw [z3]; rfl) (by decide) ?_
    exact s_k3 C hR hcs hA E1 E2 E3 E4 E5 hLS (K3 z3) kk
  by_cases z4 : (a0 &&& (63 : Int32)).toInt = 4
  · refine r_tabIn (tgt := 461) C dL_law__40 (by rw [z4]; decide) (by rw [z4]; decide) (by rw [z4]; rfl) (by decide) ?_
    exact s_k4 C hR hcs hA E1 E2 E3 E4 E5 hLS (K4 z4) kk
  by_cases z5 : (a0 &&& (63 : Int32)).toInt = 5
  · refine r_tabIn (tgt := 517) C dL_law__40 (by rw [z5]; decide) (by rw [z5]; decide) (by rw [z5]; rfl) (by decide) ?_
    exact s_k5 C hR hcs hA E1 E2 E3 E4 E5 hLS (K5 z5) kk
  by_cases z6 : (a0 &&& (63 : Int32)).toInt = 6
  · refine r_tabIn (tgt := 530) C dL_law__40 (by rw [z6]; decide) (by rw [z6]; decide) (by rw [z6]; rfl) (by decide) ?_
    exact s_k6 C hR hcs hA E1 E2 E3 E4 E5 hLS (K6 z6) kk
  by_cases z7 : (a0 &&& (63 : Int32)).toInt = 7
  · refine r_tabIn (tgt := 543) C dL_law__40 (by rw [z7]; decide) (by rw [z7]; decide) (by rw [z7]; rfl) (by decide) ?_
    exact s_k7 C hR hcs hA E1 E2 E3 E4 E5 hLS (K7 z7) kk
  by_cases z8 : (a0 &&& (63 : Int32)).toInt = 8
  · refine r_tabIn (tgt := 599) C dL_law__40 (by rw [z8]; decide) (by rw [z8]; decide) (by rw [z8]; rfl) (by decide) ?_
    exact s_k8 C hR hcs hA E1 E2 E3 E4 E5 hLS (K8 z8) kk
  by_cases z9 : (a0 &&& (63 : Int32)).toInt = 9
  · refine r_tabIn (tgt := 679) C dL_law__40 (by rw [z9]; decide) (by rw [z9]; decide) (by rw [z9]; rfl) (by decide) ?_
    exact s_k9 C hR hcs hA E1 E2 E3 E4 E5 hLS (K9 z9) kk
  by_cases z10 : (a0 &&& (63 : Int32)).toInt = 10
  · refine r_tabIn (tgt := 747) C dL_law__40 (by rw [z10]; decide) (by rw [z10]; decide) (by rw [z10]; rfl) (by decide) ?_
    exact s_k10 C hR hcs hA E1 E2 E3 E4 E5 hLS (K10 z10) kk
  by_cases z11 : (a0 &&& (63 : Int32)).toInt = 11
  · refine r_tabIn (tgt := 815) C dL_law__40 (by rw [z11]; decide) (by rw [z11]; decide) (by rw [z11]; rfl) (by decide) ?_
    exact s_k11 C hR hcs hA E1 E2 E3 E4 E5 hLS (K11 z11) kk
  by_cases z12 : (a0 &&& (63 : Int32)).toInt = 12
  · refine r_tabIn (tgt := 883) C dL_law__40 (by rw [z12]; decide) (by rw [z12]; decide) (by rw [z12]; rfl) (by decide) ?_
    exact s_k12 C hR hcs hA E1 E2 E3 E4 E5 hLS (K12 z12) kk
  by_cases z13 : (a0 &&& (63 : Int32)).toInt = 13
  · refine r_tabIn (tgt := 939) C dL_law__40 (by rw [z13]; decide) (by rw [z13]; decide) (by rw [z13]; rfl) (by decide) ?_
    exact s_k13 C hR hcs hA E1 E2 E3 E4 E5 hLS (K13 z13) kk
  by_cases z14 : (a0 &&& (63 : Int32)).toInt = 14
  · refine r_tabIn (tgt := 1007) C dL_law__40 (by rw [z14]; decide) (by rw [z14]; decide) (by rw [z14]; rfl) (by decide) ?_
    exact s_k14 C hR hcs hA E1 E2 E3 E4 E5 hLS (K14 z14) kk
  by_cases z15 : (a0 &&& (63 : Int32)).toInt = 15
  · refine r_tabIn (tgt := 1082) C dL_law__40 (by rw [z15]; decide) (by rw [z15]; decide) (by rw [z15]; rfl) (by decide) ?_
    exact s_k15 C hR hcs hA E1 E2 E3 E4 E5 hLS (K15 z15) kk
  by_cases z16 : (a0 &&& (63 : Int32)).toInt = 16
  · refine r_tabIn (tgt := 1150) C dL_law__40 (by rw [z16]; decide) (by rw [z16]; decide) (by rw [z16]; rfl) (by decide) ?_
    exact s_k16 C hR hcs hA E1 E2 E3 E4 E5 hLS (K16 z16) kk
  by_cases z17 : (a0 &&& (63 : Int32)).toInt = 17
  · refine r_tabIn (tgt := 1218) C dL_law__40 (by rw [z17]; decide) (by rw [z17]; decide) (by rw [z17]; rfl) (by decide) ?_
    exact s_k17 C hR hcs hA E1 E2 E3 E4 E5 hLS (K17 z17) kk
  by_cases z18 : (a0 &&& (63 : Int32)).toInt = 18
  · refine r_tabIn (tgt := 1285) C dL_law__40 (by rw [z18]; decide) (by rw [z18]; decide) (by rw [z18]; rfl) (by decide) ?_
    exact s_k18 C hR hcs hA E1 E2 E3 E4 E5 hLS (K18 z18) kk
  by_cases z19 : (a0 &&& (63 : Int32)).toInt = 19
  · refine r_tabIn (tgt := 1365) C dL_law__40 (by rw [z19]; decide) (by rw [z19]; decide) (by rw [z19]; rfl) (by decide) ?_
    exact s_k19 C hR hcs hA E1 E2 E3 E4 E5 hLS (K19 z19) kk
  by_cases z20 : (a0 &&& (63 : Int32)).toInt = 20
  · refine r_tabIn (tgt := 1420) C dL_law__40 (by rw [z20]; decide) (by rw [z20]; decide) (by rw [z20]; rfl) (by decide) ?_
    exact s_k20 C hR hcs hA E1 E2 E3 E4 E5 hLS (K20 z20) kk
  by_cases z21 : (a0 &&& (63 : Int32)).toInt = 21
  · refine r_tabIn (tgt := 1476) C dL_law__40 (by rw [z21]; decide) (by rw [z21]; decide) (by rw [z21]; rfl) (by decide) ?_
    exact s_k21 C hR hcs hA E1 E2 E3 E4 E5 hLS (K21 z21) kk
  by_cases z22 : (a0 &&& (63 : Int32)).toInt = 22
  · refine r_tabIn (tgt := 1532) C dL_law__40 (by rw [z22]; decide) (by rw [z22]; decide) (by rw [z22]; rfl) (by decide) ?_
    exact s_k22 C hR hcs hA E1 E2 E3 E4 E5 hLS (K22 z22) kk
  by_cases z23 : (a0 &&& (63 : Int32)).toInt = 23
  · refine r_tabIn (tgt := 1600) C dL_law__40 (by rw [z23]; decide) (by rw [z23]; decide) (by rw [z23]; rfl) (by decide) ?_
    exact s_k23 C hR hcs hA E1 E2 E3 E4 E5 hLS (K23 z23) kk
  by_cases z24 : (a0 &&& (63 : Int32)).toInt = 24
  · refine r_tabIn (tgt := 1613) C dL_law__40 (by rw [z24]; decide) (by rw [z24]; decide) (by rw [z24]; rfl) (by decide) ?_
    exact s_k24 C hR hcs hA E1 E2 E3 E4 E5 hLS (K24 z24) kk
  by_cases z25 : (a0 &&& (63 : Int32)).toInt = 25
  · refine r_tabIn (tgt := 1669) C dL_law__40 (by rw [z25]; decide) (by rw [z25]; decide) (by rw [z25]; rfl) (by decide) ?_
    exact s_k25 C hR hcs hA E1 E2 E3 E4 E5 hLS (K25 z25) kk
  by_cases z26 : (a0 &&& (63 : Int32)).toInt = 26
  · refine r_tabIn (tgt := 1749) C dL_law__40 (by rw [z26]; decide) (by rw [z26]; decide) (by rw [z26]; rfl) (by decide) ?_
    exact s_k26 C hR hcs hA E1 E2 E3 E4 E5 hLS (K26 z26) kk
  by_cases z27 : (a0 &&& (63 : Int32)).toInt = 27
  · refine r_tabIn (tgt := 1829) C dL_law__40 (by rw [z27]; decide) (by rw [z27]; decide) (by rw [z27]; rfl) (by decide) ?_
    exact s_k27 C hR hcs hA E1 E2 E3 E4 E5 hLS (K27 z27) kk
  by_cases z28 : (a0 &&& (63 : Int32)).toInt = 28
  · refine r_tabIn (tgt := 1897) C dL_law__40 (by rw [z28]; decide) (by rw [z28]; decide) (by rw [z28]; rfl) (by decide) ?_
    exact s_k28 C hR hcs hA E1 E2 E3 E4 E5 hLS (K28 z28) kk
  by_cases z29 : (a0 &&& (63 : Int32)).toInt = 29
  · refine r_tabIn (tgt := 1910) C dL_law__40 (by rw [z29]; decide) (by rw [z29]; decide) (by rw [z29]; rfl) (by decide) ?_
    exact s_k29 C hR hcs hA E1 E2 E3 E4 E5 hLS (K29 z29) kk
  by_cases z30 : (a0 &&& (63 : Int32)).toInt = 30
  · refine r_tabIn (tgt := 1923) C dL_law__40 (by rw [z30]; decide) (by rw [z30]; decide) (by rw [z30]; rfl) (by decide) ?_
    exact s_k30 C hR hcs hA E1 E2 E3 E4 E5 hLS (K30 z30) kk
  by_cases z31 : (a0 &&& (63 : Int32)).toInt = 31
  · refine r_tabIn (tgt := 2015) C dL_law__40 (by rw [z31]; decide) (by rw [z31]; decide) (by rw [z31]; rfl) (by decide) ?_
    exact s_k31 C hR hcs hA E1 E2 E3 E4 E5 hLS (K31 z31) kk
  by_cases z32 : (a0 &&& (63 : Int32)).toInt = 32
  · refine r_tabIn (tgt := 2119) C dL_law__40 (by rw [z32]; decide) (by rw [z32]; decide) (by rw [z32]; rfl) (by decide) ?_
    exact s_k32 C hR hcs hA E1 E2 E3 E4 E5 hLS (K32 z32) kk
  by_cases z33 : (a0 &&& (63 : Int32)).toInt = 33
  · refine r_tabIn (tgt := 2175) C dL_law__40 (by rw [z33]; decide) (by rw [z33]; decide) (by rw [z33]; rfl) (by decide) ?_
    exact s_k33 C hR hcs hA E1 E2 E3 E4 E5 hLS (K33 z33) kk
  by_cases z34 : (a0 &&& (63 : Int32)).toInt = 34
  · refine r_tabIn (tgt := 2231) C dL_law__40 (by rw [z34]; decide) (by rw [z34]; decide) (by rw [z34]; rfl) (by decide) ?_
    exact s_k34 C hR hcs hA E1 E2 E3 E4 E5 hLS (K34 z34) kk
  by_cases z35 : (a0 &&& (63 : Int32)).toInt = 35
  · refine r_tabIn (tgt := 2244) C dL_law__40 (by rw [z35]; decide) (by rw [z35]; decide) (by rw [z35]; rfl) (by decide) ?_
    exact s_k35 C hR hcs hA E1 E2 E3 E4 E5 hLS (K35 z35) kk
  by_cases z36 : (a0 &&& (63 : Int32)).toInt = 36
  · refine r_tabIn (tgt := 2257) C dL_law__40 (by rw [z36]; decide) (by rw [z36]; decide) (by rw [z36]; rfl) (by decide) ?_
    exact s_k36 C hR hcs hA E1 E2 E3 E4 E5 hLS (K36 z36) kk
  by_cases z37 : (a0 &&& (63 : Int32)).toInt = 37
  · refine r_tabIn (tgt := 2282) C dL_law__40 (by rw [z37]; decide) (by rw [z37]; decide) (by rw [z37]; rfl) (by decide) ?_
    exact s_k37 C hR hcs hA E1 E2 E3 E4 E5 hLS (K37 z37) kk
  have hd : (a0 &&& (63 : Int32)).toInt < 0 ∨ 37 < (a0 &&& (63 : Int32)).toInt := by omega
  refine r_tabOut (tgt := 2307) C dL_law__40 hd (by decide) ?_
  exact k_Wup (by omega) (by omega) (kk ad h (Kd hd) hLS (fun _ _ => rfl) C)
theorem k_elN {N m c : Nat} {f : Nat → Int32} (hm : m + c < N) (hN : N ≤ 3072) : k_el N f (nI m + nI c) (f (m + c)) := by
  rw [nI_add]
  have h1 : m + c < 2 ^ 31 := by omega
  exact ⟨nI_in hm (by omega), by rw [nI_clamp h1]⟩
/-- how the law ends -/
def k_end (X : k_X) (Q : State → Prop) : Prop := ∀ (ad : Nat → Nat) (h : k_H) (cells slots : Nat) (lv : List (Option Value)), cells ≤ X.R.cells → slots ≤ X.R.slots → k_C X cL_law_ RL 8 ad → k_W X 8 cells slots Q ad h 2314 lv [.int 1]
theorem k_sub6 {N m : Nat} (hN : N ≤ 3072) (hm : m ≤ 3072) : (Int32.ofNat N - 6 < nI m) ↔ N < m + 6 := by
  have e1 : (Int32.ofNat N - 6).toInt = (N : Int) - 6 := by
    have h1 : (Int32.ofNat N).toInt = (N : Int) := nI_toInt (by omega)
    rw [Int32.toInt_sub, h1]
    have h6 : (6 : Int32).toInt = 6 := rfl
    rw [h6]
    exact Int.bmod_eq_of_le (by omega) (by omega)
  rw [Int32.lt_iff_toInt_lt, e1, nI_toInt (by omega)]
  omega
set_option maxRecDepth 20000 in
theorem s_loop {X : k_X} {N c0 s0 : Nat} {Q : State → Prop} {f : Nat → Int32} (hN : N ≤ 3072) (hR : X.R.frames = 2048 ∧ X.R.locals = 84000) (hc : c0 + 85 * 512 ≤ X.R.cells) (hs : s0 + 714 * 512 ≤ X.R.slots) (he : k_end X Q) {Inv : Nat → k_H → Prop}
    (hst : ∀ (j : Nat) (h : k_H), 6 * j + 6 ≤ N → Inv j h → k_LS h → q_all X.l h (f (6 * j) &&& 63).toInt (f (6 * j + 1)) (f (6 * j + 2)) (f (6 * j + 3)) (f (6 * j + 4)) (f (6 * j + 5)) (Inv (j + 1))) :
    ∀ (r j : Nat) (ad : Nat → Nat) (h : k_H), j + r = 512 → 6 * j ≤ N → Inv j h → k_LS h → k_C X cL_law_ RL 8 ad → va_T .int (ad 5000000) N (fun j => .int (f j)) X.A X.s X.s.heap → k_W X 8 (c0 + 85 * j) (s0 + 714 * j) Q ad h 23 [some (.ref 5000000), some (.ref 0), some (.ref 70), some (.ref 102), some (.int (nI (6 * j))), none, none, none] [] := by
  intro r
  induction r with
  | zero =>
    intro j ad h hj hjN hI hLS C hA
    refine r_iload C dL_law__23 (rfl : 23 + 2 = 25) rfl ?_
    refine r_aload_n C dL_law__25 (rfl : 25 + 1 = 26) rfl ?_
    refine r_argL C hA dL_law__26 (rfl : 26 + 1 = 27) ?_
    refine r_bipush (v := (6 : Int32)) C dL_law__27 (rfl : 27 + 2 = 29) rfl ?_
    refine r_isub C dL_law__29 (rfl : 29 + 1 = 30) ?_
    refine r_icmp_gt (tgt := 2313) C dL_law__30 (by decide) (rfl : 30 + 3 = 33) (fun _ => ?_) (fun z => absurd ((k_sub6 hN (by omega)).mpr (by omega)) z)
    refine r_iconst (v := (1 : Int32)) C dL_law__2313 (rfl : 2313 + 1 = 2314) rfl ?_
    exact he ad h _ _ _ (by omega) (by omega) C
  | succ r ih =>
    intro j ad h hj hjN hI hLS C hA
    refine r_iload C dL_law__23 (rfl : 23 + 2 = 25) rfl ?_
    refine r_aload_n C dL_law__25 (rfl : 25 + 1 = 26) rfl ?_
    refine r_argL C hA dL_law__26 (rfl : 26 + 1 = 27) ?_
    refine r_bipush (v := (6 : Int32)) C dL_law__27 (rfl : 27 + 2 = 29) rfl ?_
    refine r_isub C dL_law__29 (rfl : 29 + 1 = 30) ?_
    refine r_icmp_gt (tgt := 2313) C dL_law__30 (by decide) (rfl : 30 + 3 = 33) (fun _ => ?_) (fun z => ?_)
    · refine r_iconst (v := (1 : Int32)) C dL_law__2313 (rfl : 2313 + 1 = 2314) rfl ?_
      exact he ad h _ _ _ (by omega) (by omega) C
    · have hlt : 6 * j + 6 ≤ N := Nat.le_of_not_lt (fun h => z ((k_sub6 hN (by omega)).mpr h))
      have e0 : k_el N f (nI (6 * j)) (f (6 * j)) := by
        have := k_elN (N := N) (m := 6 * j) (c := 0) (f := f) (by omega) hN
        rwa [nI_add] at this
      refine s_row C hR ⟨by omega, by omega⟩ hA e0 (k_elN (c := 1) (by omega) hN) (k_elN (c := 2) (by omega) hN) (k_elN (c := 3) (by omega) hN) (k_elN (c := 4) (by omega) hN) (k_elN (c := 5) (by omega) hN) hLS (hst j h hlt hI hLS) ?_
      intro ad' h' hI' hLS' hsm C'
      refine r_iinc (v := nI (6 * (j + 1))) C' dL_law__2307 (rfl : 2307 + 3 = 2310) rfl (show nI (6 * j) + nI 6 = nI (6 * (j + 1)) by rw [nI_add]; rfl) (by decide) ?_
      refine r_goto (tgt := 23) C' dL_law__2310 (by decide) ?_
      exact ih (j + 1) ad' h' (by omega) (by omega) hI' hLS' C' (k_argS hsm (by decide) hA)
