/-! WORK, the call -/
section SUE
variable {u : Nat} {S : aT} {h : k_H}
def pcJ (p : Nat) : Bool := pcP p || (pcL p || (p == 2 || (p == 58 || (p == 59 || (p == 72 || p == 96)))))
theorem Rel_wk (R : Rel S h) {h' : k_H} (C : rZ_C h') (E : ∀ p, pcJ p = true → Kp h h' p) (f25 : h'.2.1 70 25 = h.2.1 70 25) (f26 : h'.2.1 70 26 = h.2.1 70 26) (f27 : h'.2.1 70 27 = h.2.1 70 27) (f28 : h'.2.1 70 28 = h.2.1 70 28) (f30 : h'.2.1 70 30 = h.2.1 70 30) (f54 : h'.2.1 70 54 = h.2.1 70 54) {M : aM} {W I : Nat} {pa : Nat → aM} {iw : Nat → Nat} {im : Nat → aM} {ip : Nat → Nat → aM} (N : rZ_N (rS_P S) M h') (T : rZ_T h') (r : rZ_R h') (w : rZ_W (rS_P S) W pa h') (i : rZ_I (rS_P S) I iw im ip h') : ∃ S', Rel S' h' := by
  obtain ⟨-, hP, hL, -, hB, -, -, -, -⟩ := R
  have e : ∀ p, pcJ p = true → h'.2.1 p = h.2.1 p := fun p hp => (E p hp).1
  refine ⟨(rS_P S, M, rS_F S, rS_H S, rS_L S, rS_B S, W, pa, I, iw, im, ip), C, ?_, ?_, N, ?_, T, r, w, i⟩
  · show rZ_P (rS_P S) h'
    unfold rZ_P
    rw [e 3 rfl, (E 3 rfl).2, e 4 rfl, e 5 rfl, e 6 rfl, e 7 rfl, e 8 rfl, e 9 rfl, e 77 rfl, e 78 rfl, e 79 rfl, e 80 rfl, f25, f26, f27, f28, f30]
    exact hP
  · show rZ_L (rS_F S) (rS_H S) h'
    unfold rZ_L
    rw [e 17 rfl, e 18 rfl, e 20 rfl, e 21 rfl, e 83 rfl, e 84 rfl, e 85 rfl]
    exact hL
  · show rZ_B (rS_L S) (rS_B S) h'
    unfold rZ_B
    rw [e 58 rfl, e 59 rfl, e 96 rfl, f54]
    exact hB
theorem Kp_out {y : Int64} {h : k_H} {x : Nat} (hx : x ≠ 102) : Kp h (k_out y h) x := ⟨rfl, by show k_ua h.2.2.1 102 _ x = _; unfold k_ua; rw [if_neg hx]⟩
def pcX (p : Nat) : Bool := Nat.blt p 103 && !(p == 1 || (p == 35 || (p == 69 || (Nat.ble 31 p && Nat.ble p 34))))
theorem pcX_n {p : Nat} (h : pcX p = true) : p < 103 ∧ p ≠ 35 := by
  refine ⟨?_, fun e => by rw [e] at h; cases h⟩
  unfold pcX at h
  rw [Bool.and_eq_true] at h
  exact Nat.le_of_ble_eq_true h.1
theorem pcJ_n {p : Nat} (h : pcJ p = true) : p < 103 ∧ p ≠ 35 := by
  refine ⟨?_, fun e => by rw [e] at h; cases h⟩
  by_cases y : p < 103
  · exact y
  · exfalso
    unfold pcJ pcP pcL at h
    simp only [Bool.or_eq_true, Bool.and_eq_true, Nat.ble_eq, beq_iff_eq] at h
    omega

def pcV (p : Nat) : Bool := p == 35 || (p == 39 || p == 101)
theorem Rel_done (R : Rel S h) {h3 : k_H} {M : aM} (C3 : rZ_C h3) (E : ∀ p, pcJ p = true → Kp h h3 p) (f25 : h3.2.1 70 25 = h.2.1 70 25) (f26 : h3.2.1 70 26 = h.2.1 70 26) (f27 : h3.2.1 70 27 = h.2.1 70 27) (f28 : h3.2.1 70 28 = h.2.1 70 28) (f30 : h3.2.1 70 30 = h.2.1 70 30) (f54 : h3.2.1 70 54 = h.2.1 70 54) (f65 : h3.2.1 70 65 = h.2.1 70 65) (N : rZ_N (rS_P S) M h3) (T : rZ_T h3) (r : rZ_R h3) (hw : rS_W S < 16) (x1 : h3.2.1 35 1 = nI (rS_W S + 1)) (x5 : h3.2.1 35 5 = h.2.1 35 5) (x42 : h3.2.1 70 42 = nI (rS_W S + 1)) (e39 : h3.2.1 39 = h.2.1 39) (e101 : h3.2.1 101 = h.2.1 101) (m1 : ∀ j, j < 77 → h3.2.1 92 (77 * rS_W S + j) = h.2.1 90 j) (m2 : ∀ j, j < 77 * rS_W S → h3.2.1 92 j = h.2.1 92 j) (kN : KM h3 36 (rS_W S) (rS_M S)) (kO : ∀ p j m', (p = 36 ∨ p = 37 ∨ p = 38) → (p ≠ 36 ∨ j ≠ rS_W S) → KM h p j m' → KM h3 p j m') : ∃ S', Rel S' h3 := by
  have hN := R.2.2.2.1
  obtain ⟨w1, w2, w3, w4⟩ := R.2.2.2.2.2.2.2.1
  obtain ⟨i1, i2, i3, i4⟩ := R.2.2.2.2.2.2.2.2
  refine Rel_wk (M := M) (W := rS_W S + 1) (I := rS_I S) (pa := pickI (rS_W S) (rS_M S) (rS_Pa S)) (iw := rS_IW S) (im := rS_IM S) (ip := rS_IP S) R C3 E f25 f26 f27 f28 f30 f54 N T r ⟨by omega, x1, x42, fun j hj => ?_⟩ ⟨i1, x5.trans i2, f65.trans i3, fun i hi => ?_⟩
  · by_cases y : j = rS_W S
    · subst y
      rw [pick_eq]
      obtain ⟨q, g1, g2⟩ := kN
      exact ⟨q, g1, g2, mMine_c hN.2.2 (fun k hk => m1 k hk), hN.1⟩
    · rw [pick_ne _ _ y]
      obtain ⟨q', l3, l4, l5, l6⟩ := w4 j (by omega)
      obtain ⟨q, g1, g2⟩ := kO 36 j _ (Or.inl rfl) (Or.inr y) ⟨q', l3, l4⟩
      exact ⟨q, g1, g2, mMine_c l5 (fun k hk => m2 (77 * j + k) (by omega)), l6⟩
  · obtain ⟨k1, k2, k3, k4, ⟨q0, k5, k6, k7⟩, k8⟩ := i4 i hi
    rw [e39, e101]
    refine ⟨k1, k2, k3, k4, ?_, fun j hj => ?_⟩
    · obtain ⟨q, g1, g2⟩ := kO 37 i _ (by omega) (Or.inl (by decide)) ⟨q0, k5, k6⟩
      exact ⟨q, g1, g2, k7⟩
    · obtain ⟨q1, l3, l4, l5, l6⟩ := k8 j hj
      obtain ⟨q, g1, g2⟩ := kO 38 (16 * i + j) _ (by omega) (Or.inl (by decide)) ⟨q1, l3, l4⟩
      exact ⟨q, g1, g2, l5, l6⟩
set_option maxRecDepth 40000 in
set_option maxHeartbeats 4000000 in
theorem Q_3 {l : Launch} (hT : l.stackTraces = false) (hu : 700 ≤ u) (hlen : h.1.length + 85 ≤ 1000000) (R : Rel S h) (a1 a2 a3 a4 a5 : Int32) : q_3 l h a1 a2 a3 a4 a5 (nxt h) := by
  have C := R.1
  have hN := R.2.2.2.1
  have hst := R.2.2.2.2.2.2.1.2.2
  obtain ⟨rp1, rp2, -⟩ := R.2.1
  obtain ⟨-, -, xF, xH, -, -⟩ := R.2.2.1
  obtain ⟨w1, w2, w3, w4⟩ := R.2.2.2.2.2.2.2.1
  obtain ⟨i1, i2, i3, i4⟩ := R.2.2.2.2.2.2.2.2
  obtain ⟨rest, hsh⟩ := rZ_CX C
  obtain ⟨oA, eA, hh⟩ := n_3A hu R a1
  rcases hh with ⟨hf, o', e2, hm, ⟨hr, hpl, N, b, n3, n1, n2, n4⟩, k42, k43, k90, k92⟩ | ⟨a0, f1, hw16, k, f, Q, A, I, s, o', hk, wf, PR, c3, c4, c5, c6, e2, t0, ⟨hr, hpl, N, b, n3, n1, n2, n4⟩, v1, p42, p43, mok, mm, m1, m2⟩
  · refine ⟨6, 48, _, _, by omega, by omega, c_X10_work l u hT h hsh (j := rS_W S) (oB := default) C.2.1 w2 (nI_pos (by omega)) (z_cl (by omega)) (by omega) eA (fun _ e => absurd (hf.symm.trans e) (by decide)), ?_, ?_⟩
    · rintro v h1 (⟨hk, -, rfl, hh⟩ | ⟨-, e, -⟩)
      · subst hh
        rcases hm with ⟨m1, m2, m3⟩ | ⟨m1, m2⟩
        · refine ⟨oA.2.2.1, o'.1, _, rfl, rZ_LSa (rZ_CLS C), ⟨_, c_X11_work l u (k_pl piM shM _) rfl (k_plI (p := 70) rfl rfl) (k_plI (p := 70) rfl rfl) (k_plI (p := 70) rfl rfl) (k_plI (p := 70) rfl rfl) (k_plI (p := 70) rfl rfl) (k_plI (p := 70) rfl rfl) (k_plI (p := 70) rfl rfl) (k_plI (p := 70) rfl rfl) (k_plI (p := 70) rfl rfl) (k_plI (p := 70) rfl rfl) (k_plI (p := 70) rfl rfl) (k_plI (p := 70) rfl rfl) (k_plI (p := 70) rfl rfl) (k_plI (p := 70) rfl rfl) (k_plI (p := 70) rfl rfl) (k_plI (p := 70) rfl rfl) (k_plI (p := 70) rfl rfl) (k_plI (p := 70) rfl rfl) (k_plI (p := 70) rfl rfl) (k_plA (p := 71) rfl rfl) (k_plA (p := 72) rfl rfl) (k_plA (p := 77) rfl rfl) (k_plA (p := 78) rfl rfl) (k_plA (p := 79) rfl rfl) (k_plA (p := 80) rfl rfl) (k_plA (p := 83) rfl rfl) (k_plA (p := 84) rfl rfl) (k_plA (p := 85) rfl rfl) (k_plA (p := 86) rfl rfl) (k_plA (p := 87) rfl rfl) (k_plA (p := 88) rfl rfl) (k_plA (p := 89) rfl rfl) (k_plA (p := 90) rfl rfl) (k_plA (p := 91) rfl rfl) (k_plA (p := 92) rfl rfl) (k_plA (p := 93) rfl rfl) (k_plA (p := 94) rfl rfl) e2, rfl, rfl, m2⟩, (show _ = (oA.2.2.1).toInt64 from rfl).trans (show (oA.2.2.1).toInt64 = o'.1.toInt64 by rw [m3]), ?_, ?_⟩
          · exact Rel_wk (M := rS_M S) (W := rS_W S) (I := rS_I S) (pa := rS_Pa S) (iw := rS_IW S) (im := rS_IM S) (ip := rS_IP S) R (C_ap (rZ_Cq (C_ap C) rfl rfl)) (fun p hp => kp_A (st := pcJ) rfl rfl rfl _ h p hp) rfl rfl rfl rfl rfl rfl ⟨hN.1, rZ_Mx (fun x x1 x2 => kp_A (st := st26) rfl rfl rfl _ h x (st26_i x1 x2)) hN.2.1, by show mMine _ o'.2.2.2.2.2.2.2.2.2.2.2.2.2.2.2.2.2.2.2.2.1; rw [k90]; exact hN.2.2⟩ ⟨N, b, n3, n1, n2, n4⟩ ⟨hr, hpl, hst.trans k43.symm⟩ (And.left (WI_keep R (ap_Ash _ h).2 (ap_A (by exact rfl) (by exact rfl) _ h) rfl rfl rfl k92 rfl k42 rfl)) (And.right (WI_keep R (ap_Ash _ h).2 (ap_A (by exact rfl) (by exact rfl) _ h) rfl rfl rfl k92 rfl k42 rfl))
          · rw [(ap_Ash _ h).1]; omega
        · exact absurd (hk.symm.trans m1) (by decide)
      · exact absurd (hf.symm.trans e) (by decide)
    · rintro E h1 (⟨hk, rfl, hh⟩ | ⟨-, e, -⟩)
      · subst hh
        rcases hm with ⟨m1, m2, m3⟩ | ⟨m1, m2⟩
        · exact absurd m1 hk
        · refine ⟨o'.1, 1, _, rZ_LSa (rZ_CLS C), ⟨by rw [m1]; rfl, rfl⟩, ⟨_, c_X11_work l u (k_pl piM shM _) rfl (k_plI (p := 70) rfl rfl) (k_plI (p := 70) rfl rfl) (k_plI (p := 70) rfl rfl) (k_plI (p := 70) rfl rfl) (k_plI (p := 70) rfl rfl) (k_plI (p := 70) rfl rfl) (k_plI (p := 70) rfl rfl) (k_plI (p := 70) rfl rfl) (k_plI (p := 70) rfl rfl) (k_plI (p := 70) rfl rfl) (k_plI (p := 70) rfl rfl) (k_plI (p := 70) rfl rfl) (k_plI (p := 70) rfl rfl) (k_plI (p := 70) rfl rfl) (k_plI (p := 70) rfl rfl) (k_plI (p := 70) rfl rfl) (k_plI (p := 70) rfl rfl) (k_plI (p := 70) rfl rfl) (k_plI (p := 70) rfl rfl) (k_plA (p := 71) rfl rfl) (k_plA (p := 72) rfl rfl) (k_plA (p := 77) rfl rfl) (k_plA (p := 78) rfl rfl) (k_plA (p := 79) rfl rfl) (k_plA (p := 80) rfl rfl) (k_plA (p := 83) rfl rfl) (k_plA (p := 84) rfl rfl) (k_plA (p := 85) rfl rfl) (k_plA (p := 86) rfl rfl) (k_plA (p := 87) rfl rfl) (k_plA (p := 88) rfl rfl) (k_plA (p := 89) rfl rfl) (k_plA (p := 90) rfl rfl) (k_plA (p := 91) rfl rfl) (k_plA (p := 92) rfl rfl) (k_plA (p := 93) rfl rfl) (k_plA (p := 94) rfl rfl) e2, rfl, rfl, m2⟩, ?_, ?_⟩
          · exact Rel_wk (M := rS_M S) (W := rS_W S) (I := rS_I S) (pa := rS_Pa S) (iw := rS_IW S) (im := rS_IM S) (ip := rS_IP S) R (C_ap (C_ap C)) (fun p hp => kp_B (st := pcJ) rfl rfl h p hp) rfl rfl rfl rfl rfl rfl ⟨hN.1, rZ_Mx (fun x x1 x2 => kp_B (st := st26) rfl rfl h x (st26_i x1 x2)) hN.2.1, by show mMine _ o'.2.2.2.2.2.2.2.2.2.2.2.2.2.2.2.2.2.2.2.2.1; rw [k90]; exact hN.2.2⟩ ⟨N, b, n3, n1, n2, n4⟩ ⟨hr, hpl, hst.trans k43.symm⟩ (And.left (WI_keep R (ap_Bsh h).2 (ap_B (by exact rfl) (by exact rfl) h) rfl rfl rfl k92 rfl k42 rfl)) (And.right (WI_keep R (ap_Bsh h).2 (ap_B (by exact rfl) (by exact rfl) h) rfl rfl rfl k92 rfl k42 rfl))
          · rw [(ap_Bsh h).1]; omega
      · exact absurd (hf.symm.trans e) (by decide)
  · obtain ⟨Q', A', I', q1, q2, q3, re⟩ := prog_x PR
    have w' := wfB_c f 0 0 k re wf
    have ex := exB_c (LF := rS_F S) (LH := rS_H S) f 0 0 k re wf (rS_M S, 0, 0, 0)
    have p36 : (36 : Nat) = 36 ∨ (36 : Nat) = 37 ∨ (36 : Nat) = 38 := by omega
    have CA : rZ_C (k_ap (k_upA oA) h) := C_ap C
    have lA : (k_ap (k_upA oA) h).1.length = h.1.length := by rw [k_ap_sh]
    have hl := len_C C
    have C2 : rZ_C (k_kept (nI (rS_W S)) (rS_W S) (k_ap (k_upA oA) h)) := C_sI (sv_C CA p36)
    have E0 : ∀ x, x < 103 → x ≠ 35 → Kp (k_ap (k_upA oA) h) (k_kept (nI (rS_W S)) (rS_W S) (k_ap (k_upA oA) h)) x := fun x hx x35 => Kp_t (sv_26 CA p36 hx) (Kp_sI x35)
    have x351 : (k_kept (nI (rS_W S)) (rS_W S) (k_ap (k_upA oA) h)).2.1 35 1 = nI (rS_W S + 1) := by
      show (k_sI 35 1 (nI (rS_W S) + 1) _).2.1 35 1 = _
      rw [k_sI_self]
      exact nI_1 _
    have x355 : (k_kept (nI (rS_W S)) (rS_W S) (k_ap (k_upA oA) h)).2.1 35 5 = h.2.1 35 5 := by
      show (k_sI 35 1 (nI (rS_W S) + 1) _).2.1 35 5 = _
      rw [k_sI_ne (Or.inr (by decide)), (sv_26 CA p36 (x := 35) (by omega)).1]
      rfl
    have zA : rZ_M (k_ap (k_upA oA) h) 26 (rS_M S) := rZ_Mx (fun x x1 x2 => ap_st (st := st26) rfl (st26_i x1 x2) h) hN.2.1
    have kmN : KM (k_kept (nI (rS_W S)) (rS_W S) (k_ap (k_upA oA) h)) 36 (rS_W S) (rS_M S) := KM_c (sv_C CA p36) p36 rfl (fun x hx => Kp_sI (by omega)) (sv_new CA.2.1 p36 (by omega) zA)
    have kmO : ∀ p j m', (p = 36 ∨ p = 37 ∨ p = 38) → (p ≠ 36 ∨ j ≠ rS_W S) → KM h p j m' → KM (k_kept (nI (rS_W S)) (rS_W S) (k_ap (k_upA oA) h)) p j m' := fun p j m' hp hne z => KM_c (sv_C CA p36) hp rfl (fun x hx => Kp_sI (by omega)) (sv_old CA.2.1 p36 hp hne (KM_c C hp (k_ap_rf _ h) (ap_ge rfl) z))
    have l2 : (k_kept (nI (rS_W S)) (rS_W S) (k_ap (k_upA oA) h)).1.length ≤ h.1.length + 5 := by
      have := (k_save_len 36 (rS_W S) 26 (k_ap (k_upA oA) h)).1
      rw [lA] at this
      exact this
    have y31 : (k_kept (nI (rS_W S)) (rS_W S) (k_ap (k_upA oA) h)).2.1 31 = (k_ap (k_upA oA) h).2.1 31 := (E0 31 (by omega) (by omega)).1
    have y32 : (k_kept (nI (rS_W S)) (rS_W S) (k_ap (k_upA oA) h)).2.1 32 = oA.2.2.2.2.2.2.2.2.2.2.2.2.2.1 := (E0 32 (by omega) (by omega)).1
    have y33 : (k_kept (nI (rS_W S)) (rS_W S) (k_ap (k_upA oA) h)).2.1 33 = oA.2.2.2.2.2.2.2.2.2.2.2.2.2.2.1 := (E0 33 (by omega) (by omega)).1
    have y34 : (k_kept (nI (rS_W S)) (rS_W S) (k_ap (k_upA oA) h)).2.1 34 = oA.2.2.2.2.2.2.2.2.2.2.2.2.2.2.2.1 := (E0 34 (by omega) (by omega)).1
    have y69 : (k_kept (nI (rS_W S)) (rS_W S) (k_ap (k_upA oA) h)).2.1 69 = oA.2.2.2.2.2.2.2.2.2.2.2.2.2.2.2.2 := (E0 69 (by omega) (by omega)).1
    have y1 : (k_kept (nI (rS_W S)) (rS_W S) (k_ap (k_upA oA) h)).2.1 1 = (k_ap (k_upA oA) h).2.1 1 := (E0 1 (by omega) (by omega)).1
    have z36 : (k_kept (nI (rS_W S)) (rS_W S) (k_ap (k_upA oA) h)).2.1 31 3 = nI k := (congrFun y31 3).trans c3
    have z44 : (k_kept (nI (rS_W S)) (rS_W S) (k_ap (k_upA oA) h)).2.1 31 4 = 0 := (congrFun y31 4).trans c4
    have z45 : (k_kept (nI (rS_W S)) (rS_W S) (k_ap (k_upA oA) h)).2.1 31 5 = 0 := (congrFun y31 5).trans c5
    have z46 : (k_kept (nI (rS_W S)) (rS_W S) (k_ap (k_upA oA) h)).2.1 31 6 = 0 := (congrFun y31 6).trans c6
    have z11 : (k_kept (nI (rS_W S)) (rS_W S) (k_ap (k_upA oA) h)).2.1 1 1 = nI N := (congrFun y1 1).trans n1
    have z16 : (k_kept (nI (rS_W S)) (rS_W S) (k_ap (k_upA oA) h)).2.1 1 6 = o'.2.2.2.2.2.2.2.2.1 := (congrFun y1 6).trans hpl
    have hc := fun (oB : k_TWB) (hB : oA.1 = 0 → oA.2.1 = 1 → (nI (rS_W S) < 16 ∧ rS_W S < 16) ∧ k_fwB u (k_kept (nI (rS_W S)) (rS_W S) (k_ap (k_upA oA) h)) = some oB ∧ oB.2.1 = 0) => c_X10_work l u hT h hsh (j := rS_W S) (oB := oB) C.2.1 w2 (nI_pos (by omega)) (z_cl (by omega)) (by omega) eA hB
    generalize k_kept (nI (rS_W S)) (rS_W S) (k_ap (k_upA oA) h) = h2 at C2 E0 x351 x355 kmN kmO l2 y31 y32 y33 y34 y69 y1 z36 z44 z45 z46 z11 z16 hc
    have EK : ∀ p, pcX p = true → Kp h h2 p := fun p hp => Kp_t (ap_st (st := pcX) rfl hp h) (E0 p (pcX_n hp).1 (pcX_n hp).2)
    have EJ : ∀ p, pcJ p = true → Kp h h2 p := fun p hp => Kp_t (ap_st (st := pcJ) rfl hp h) (E0 p (pcJ_n hp).1 (pcJ_n hp).2)
    have z26 : xMine (rS_M S) (h.2.1 26 10) (h.2.1 26 11) (h.2.1 26 12) (h.2.1 26 13) (h.2.1 26 14) (h.2.1 26 15) (h.2.1 26 16) (h.2.1 26 17) (h.2.2.1 26 3) (h.2.2.1 26 4) (h.2.2.1 26 5) (h.2.1 27) (h.2.1 28) (h.2.1 29) (h.2.1 30) := hN.2.1
    obtain ⟨oB, eB, b0, b1, b2, b3, b4, b5⟩ := x_runB (u := u) (p := rS_P S) rp1 (by omega) rp2 xF xH q1 q2 q3 w' hk hN.1 z26 (h2.2.1 0 14) (h2.2.1 19) (h2.2.1 22)
    rw [ex] at b2 b3 b4 b5
    have eB' : k_fwB u h2 = some oB := by
      unfold k_fwB
      rw [(EK 3 rfl).1, (EK 4 rfl).1, (EK 5 rfl).1, (EK 6 rfl).1, (EK 7 rfl).1, (EK 8 rfl).1, (EK 9 rfl).1, (EK 17 rfl).1, (EK 18 rfl).1, (EK 20 rfl).1, (EK 21 rfl).1, (EK 26 rfl).1, (EK 27 rfl).1, (EK 28 rfl).1, (EK 29 rfl).1, (EK 30 rfl).1, (EK 3 rfl).2, (EK 26 rfl).2, y32, y33, y34, z36, z44, z45, z46]
      exact eB
    refine ⟨6, 48, _, _, by omega, by omega, hc oB (fun _ _ => ⟨⟨nI_lt (b := 16) (by omega) (by omega), hw16⟩, eB', b1⟩), ?_, ?_⟩
    · rintro v h1 (⟨-, e, -⟩ | ⟨-, -, -, rfl, hh⟩)
      · exact absurd (e.symm.trans f1) (by decide)
      · subst hh
        have EE : ∀ p, Nat.ble 70 p = true → p < 103 → Kp h2 (k_ap (k_upB oB) h2) p := fun p hp _ => ap_st (st := Nat.ble 70) rfl hp h2
        have e3 : f_X11_work u ((k_ap (k_upB oB) h2).2.1 70 0) ((k_ap (k_upB oB) h2).2.1 70 2) ((k_ap (k_upB oB) h2).2.1 70 3) ((k_ap (k_upB oB) h2).2.1 70 4) ((k_ap (k_upB oB) h2).2.1 70 5) ((k_ap (k_upB oB) h2).2.1 70 6) ((k_ap (k_upB oB) h2).2.1 70 7) ((k_ap (k_upB oB) h2).2.1 70 8) ((k_ap (k_upB oB) h2).2.1 70 25) ((k_ap (k_upB oB) h2).2.1 70 26) ((k_ap (k_upB oB) h2).2.1 70 27) ((k_ap (k_upB oB) h2).2.1 70 28) ((k_ap (k_upB oB) h2).2.1 70 30) ((k_ap (k_upB oB) h2).2.1 70 41) ((k_ap (k_upB oB) h2).2.1 70 42) ((k_ap (k_upB oB) h2).2.1 70 43) ((k_ap (k_upB oB) h2).2.1 70 44) ((k_ap (k_upB oB) h2).2.1 70 45) ((k_ap (k_upB oB) h2).2.1 70 46) ((k_ap (k_upB oB) h2).2.1 71) ((k_ap (k_upB oB) h2).2.1 72) ((k_ap (k_upB oB) h2).2.1 77) ((k_ap (k_upB oB) h2).2.1 78) ((k_ap (k_upB oB) h2).2.1 79) ((k_ap (k_upB oB) h2).2.1 80) ((k_ap (k_upB oB) h2).2.1 83) ((k_ap (k_upB oB) h2).2.1 84) ((k_ap (k_upB oB) h2).2.1 85) ((k_ap (k_upB oB) h2).2.1 86) ((k_ap (k_upB oB) h2).2.1 87) ((k_ap (k_upB oB) h2).2.1 88) ((k_ap (k_upB oB) h2).2.1 89) ((k_ap (k_upB oB) h2).2.1 90) ((k_ap (k_upB oB) h2).2.1 91) ((k_ap (k_upB oB) h2).2.1 92) ((k_ap (k_upB oB) h2).2.1 93) ((k_ap (k_upB oB) h2).2.1 94) a1 = some o' := by
          rw [(EE 70 rfl (by omega)).1, (EK 70 rfl).1, (EE 71 rfl (by omega)).1, (EK 71 rfl).1, (EE 72 rfl (by omega)).1, (EK 72 rfl).1, (EE 77 rfl (by omega)).1, (EK 77 rfl).1, (EE 78 rfl (by omega)).1, (EK 78 rfl).1, (EE 79 rfl (by omega)).1, (EK 79 rfl).1, (EE 80 rfl (by omega)).1, (EK 80 rfl).1, (EE 83 rfl (by omega)).1, (EK 83 rfl).1, (EE 84 rfl (by omega)).1, (EK 84 rfl).1, (EE 85 rfl (by omega)).1, (EK 85 rfl).1, (EE 86 rfl (by omega)).1, (EK 86 rfl).1, (EE 87 rfl (by omega)).1, (EK 87 rfl).1, (EE 88 rfl (by omega)).1, (EK 88 rfl).1, (EE 89 rfl (by omega)).1, (EK 89 rfl).1, (EE 90 rfl (by omega)).1, (EK 90 rfl).1, (EE 91 rfl (by omega)).1, (EK 91 rfl).1, (EE 92 rfl (by omega)).1, (EK 92 rfl).1, (EE 93 rfl (by omega)).1, (EK 93 rfl).1, (EE 94 rfl (by omega)).1, (EK 94 rfl).1]
          exact e2
        have C3 : rZ_C (k_out oB.2.2.1.toInt64 (k_ap (k_upB oB) h2)) := rZ_Cq (C_ap C2) rfl rfl
        have KM1 : ∀ p j m', (p = 36 ∨ p = 37 ∨ p = 38) → KM h2 p j m' → KM (k_out oB.2.2.1.toInt64 (k_ap (k_upB oB) h2)) p j m' := fun p j m' hp z => KM_c (C_ap C2) hp rfl (fun x hx => Kp_out (by omega)) (KM_c C2 hp (k_ap_rf _ h2) (ap_ge rfl) z)
        have zB : rZ_M (k_ap (k_upB oB) h2) 26 (exB (rS_F S) (rS_H S) (rS_P S) Q A I f 0 k (rS_M S, 0, 0, 0)).1 := b5
        have e70 := (EK 70 rfl).1
        have e101 := (EK 101 rfl).1
        have e39 := (EK 39 rfl).1
        refine ⟨oB.2.2.1, o'.1, _, rfl, rZ_LSa (rZ_CLS C2), ⟨_, c_X11_work l u (k_pl piM shM _) rfl (k_plI (p := 70) rfl rfl) (k_plI (p := 70) rfl rfl) (k_plI (p := 70) rfl rfl) (k_plI (p := 70) rfl rfl) (k_plI (p := 70) rfl rfl) (k_plI (p := 70) rfl rfl) (k_plI (p := 70) rfl rfl) (k_plI (p := 70) rfl rfl) (k_plI (p := 70) rfl rfl) (k_plI (p := 70) rfl rfl) (k_plI (p := 70) rfl rfl) (k_plI (p := 70) rfl rfl) (k_plI (p := 70) rfl rfl) (k_plI (p := 70) rfl rfl) (k_plI (p := 70) rfl rfl) (k_plI (p := 70) rfl rfl) (k_plI (p := 70) rfl rfl) (k_plI (p := 70) rfl rfl) (k_plI (p := 70) rfl rfl) (k_plA (p := 71) rfl rfl) (k_plA (p := 72) rfl rfl) (k_plA (p := 77) rfl rfl) (k_plA (p := 78) rfl rfl) (k_plA (p := 79) rfl rfl) (k_plA (p := 80) rfl rfl) (k_plA (p := 83) rfl rfl) (k_plA (p := 84) rfl rfl) (k_plA (p := 85) rfl rfl) (k_plA (p := 86) rfl rfl) (k_plA (p := 87) rfl rfl) (k_plA (p := 88) rfl rfl) (k_plA (p := 89) rfl rfl) (k_plA (p := 90) rfl rfl) (k_plA (p := 91) rfl rfl) (k_plA (p := 92) rfl rfl) (k_plA (p := 93) rfl rfl) (k_plA (p := 94) rfl rfl) e3, rfl, rfl, t0⟩, (show _ = oB.2.2.1.toInt64 from rfl).trans (show oB.2.2.1.toInt64 = o'.1.toInt64 by rw [b2, v1]), ?_, ?_⟩
        · have KV : ∀ us, us.all (fun u => !pcV u.1) = true → ∀ p, pcV p = true → Kp h2 (k_ap us (k_out oB.2.2.1.toInt64 (k_ap (k_upB oB) h2))) p := fun us hu p hp => kp_A (st := pcV) rfl rfl hu _ h2 p hp
          exact Rel_done (M := (exB (rS_F S) (rS_H S) (rS_P S) Q A I f 0 k (rS_M S, 0, 0, 0)).1) R (C_ap C3) (fun p hp => Kp_t (EJ p hp) (kp_A (st := pcJ) rfl rfl rfl _ h2 p hp)) (congrFun e70 25) (congrFun e70 26) (congrFun e70 27) (congrFun e70 28) (congrFun e70 30) (congrFun e70 54) (congrFun e70 65) ⟨mok, rZ_Mx (fun x x1 x2 => Kp_t (Kp_out (by omega)) (ap_st (st := st26) rfl (st26_i x1 x2) _)) zB, mm⟩ ⟨N, b, n3, z11, n2, fun i hi => ⟨(n4 i hi).1, (congrFun (EK 72 rfl).1 i).trans (n4 i hi).2.1, (congrFun (EK 2 rfl).1 i).trans (n4 i hi).2.2⟩⟩ ⟨fun k hk => (congrFun y69 k).trans (hr k hk), z16, b3.trans p43.symm⟩ hw16 ((congrFun (KV _ rfl 35 rfl).1 1).trans x351) ((congrFun (KV _ rfl 35 rfl).1 5).trans x355) p42 ((KV _ rfl 39 rfl).1.trans e39) ((KV _ rfl 101 rfl).1.trans e101) (fun j hj => m1 j hj) (fun j hj => m2 j hj) (KM_c C3 p36 (k_ap_rf _ _) (ap_ge (by exact rfl)) (KM1 36 _ _ p36 kmN)) (fun p j m' hp hne z => KM_c C3 hp (k_ap_rf _ _) (ap_ge (by exact rfl)) (KM1 p j m' hp (kmO p j m' hp hne z)))
        · rw [(ap_Ash _ h2).1]; omega
    · rintro E h1 (⟨e, -⟩ | ⟨-, -, e, -⟩)
      · exact absurd a0 e
      · exact absurd b0 e
end SUE
