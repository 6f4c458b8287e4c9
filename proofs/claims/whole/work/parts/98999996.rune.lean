/-! WORK: the class's part A and the reference, whole -/
section SUD
variable {u : Nat} {S : aT} {h : k_H}
set_option maxRecDepth 8000 in
theorem n_3A (hu : 700 ≤ u) (R : Rel S h) (a1 : Int32) : ∃ oA, k_fwA u h a1 = some oA ∧ ((oA.2.1 = 0 ∧ ∃ o', f_X11_work u (h.2.1 70 0) (h.2.1 70 2) (h.2.1 70 3) (h.2.1 70 4) (h.2.1 70 5) (h.2.1 70 6) (h.2.1 70 7) (h.2.1 70 8) (h.2.1 70 25) (h.2.1 70 26) (h.2.1 70 27) (h.2.1 70 28) (h.2.1 70 30) (h.2.1 70 41) (h.2.1 70 42) (h.2.1 70 43) (h.2.1 70 44) (h.2.1 70 45) (h.2.1 70 46) (h.2.1 71) (h.2.1 72) (h.2.1 77) (h.2.1 78) (h.2.1 79) (h.2.1 80) (h.2.1 83) (h.2.1 84) (h.2.1 85) (h.2.1 86) (h.2.1 87) (h.2.1 88) (h.2.1 89) (h.2.1 90) (h.2.1 91) (h.2.1 92) (h.2.1 93) (h.2.1 94) a1 = some o' ∧ ((oA.1 = 0 ∧ o'.2.1 = 0 ∧ oA.2.2.1 = o'.1) ∨ (oA.1 = 3 ∧ o'.2.1 = 1)) ∧ ((∀ k, k < 3 → oA.2.2.2.2.2.2.2.2.2.2.2.2.2.2.2.2 k = o'.2.2.2.2.2.2.2.2.2.2.2.2.2.2.2.1 k) ∧ oA.2.2.2.2.2.2.2.2.1 = o'.2.2.2.2.2.2.2.2.1 ∧ ∃ (N : Nat) (b : Nat → Nat), N ≤ 600 ∧ oA.2.2.2.1 = nI N ∧ o'.2.2.1 = nI N ∧ ∀ i, i < N → b i < 256 ∧ h.2.1 72 i = nI (b i) ∧ h.2.1 2 i = (nI (b i)).toInt8.toInt32) ∧ o'.2.2.2.2.2.2.2.2.2.2.1 = h.2.1 70 42 ∧ o'.2.2.2.2.2.2.2.2.2.2.2.1 = h.2.1 70 43 ∧ o'.2.2.2.2.2.2.2.2.2.2.2.2.2.2.2.2.2.2.2.2.1 = h.2.1 90 ∧ o'.2.2.2.2.2.2.2.2.2.2.2.2.2.2.2.2.2.2.2.2.2.2.1 = h.2.1 92) ∨ (oA.1 = 0 ∧ oA.2.1 = 1 ∧ rS_W S < 16 ∧ ∃ (k f : Nat) (Q A I : Nat → Nat) (s : Nat → Int32) (o' : _), k ≤ 30 ∧ wfB (rS_P S) Q A I f 0 0 k ∧ PRG 0 k Q A I oA.2.2.2.2.2.2.2.2.2.2.2.2.2.1 oA.2.2.2.2.2.2.2.2.2.2.2.2.2.2.1 oA.2.2.2.2.2.2.2.2.2.2.2.2.2.2.2.1 s ∧ oA.2.2.2.2.2.2.2.2.2.1 = nI k ∧ oA.2.2.2.2.2.2.2.2.2.2.1 = 0 ∧ oA.2.2.2.2.2.2.2.2.2.2.2.1 = 0 ∧ oA.2.2.2.2.2.2.2.2.2.2.2.2.1 = 0 ∧ f_X11_work u (h.2.1 70 0) (h.2.1 70 2) (h.2.1 70 3) (h.2.1 70 4) (h.2.1 70 5) (h.2.1 70 6) (h.2.1 70 7) (h.2.1 70 8) (h.2.1 70 25) (h.2.1 70 26) (h.2.1 70 27) (h.2.1 70 28) (h.2.1 70 30) (h.2.1 70 41) (h.2.1 70 42) (h.2.1 70 43) (h.2.1 70 44) (h.2.1 70 45) (h.2.1 70 46) (h.2.1 71) (h.2.1 72) (h.2.1 77) (h.2.1 78) (h.2.1 79) (h.2.1 80) (h.2.1 83) (h.2.1 84) (h.2.1 85) (h.2.1 86) (h.2.1 87) (h.2.1 88) (h.2.1 89) (h.2.1 90) (h.2.1 91) (h.2.1 92) (h.2.1 93) (h.2.1 94) a1 = some o' ∧ o'.2.1 = 0 ∧ ((∀ k, k < 3 → oA.2.2.2.2.2.2.2.2.2.2.2.2.2.2.2.2 k = o'.2.2.2.2.2.2.2.2.2.2.2.2.2.2.2.1 k) ∧ oA.2.2.2.2.2.2.2.2.1 = o'.2.2.2.2.2.2.2.2.1 ∧ ∃ (N : Nat) (b : Nat → Nat), N ≤ 600 ∧ oA.2.2.2.1 = nI N ∧ o'.2.2.1 = nI N ∧ ∀ i, i < N → b i < 256 ∧ h.2.1 72 i = nI (b i) ∧ h.2.1 2 i = (nI (b i)).toInt8.toInt32) ∧ o'.1 = nI (exB (rS_F S) (rS_H S) (rS_P S) Q A I f 0 k (rS_M S, 0, 0, 0)).2.2.1 ∧ o'.2.2.2.2.2.2.2.2.2.2.1 = nI (rS_W S + 1) ∧ o'.2.2.2.2.2.2.2.2.2.2.2.1 = nI (exB (rS_F S) (rS_H S) (rS_P S) Q A I f 0 k (rS_M S, 0, 0, 0)).2.2.2 ∧ mOK (rS_P S) (exB (rS_F S) (rS_H S) (rS_P S) Q A I f 0 k (rS_M S, 0, 0, 0)).1 ∧ mMine (exB (rS_F S) (rS_H S) (rS_P S) Q A I f 0 k (rS_M S, 0, 0, 0)).1 o'.2.2.2.2.2.2.2.2.2.2.2.2.2.2.2.2.2.2.2.2.1 ∧ (∀ j, j < 77 → o'.2.2.2.2.2.2.2.2.2.2.2.2.2.2.2.2.2.2.2.2.2.2.1 (77 * rS_W S + j) = h.2.1 90 j) ∧ ∀ j, j < 77 * rS_W S → o'.2.2.2.2.2.2.2.2.2.2.2.2.2.2.2.2.2.2.2.2.2.2.1 j = h.2.1 92 j)) := by
  obtain ⟨-, ⟨rp1, rp2, rp3⟩, ⟨lF, lH, xF, xH, mF, mH⟩, ⟨rn1, rn2, rn3⟩, -, ⟨N, b, hN, t1, t2, tb⟩, ⟨r, rf, rg⟩, ⟨w1, w2, w3, w4⟩, -⟩ := R
  unfold k_fwA bX10_workA_0 f_X11_work bX11_work_0
  rw [t1, t2, w2]
  rcases d_text (N := N) (most := 150) (by omega) (by omega) a1 with ⟨n, h1, h2, rfl, q0, q1, q2⟩ | hbad
  · have T := rZ_TX hN tb h1
    rw [if_neg q0, if_neg q2, if_neg (show ¬ (150 : Int32) < nI n from q1), show f_X10_takeText u (nI N) (h.2.1 1 2) (h.2.1 1 3) (h.2.1 1 4) (h.2.1 1 5) (h.2.1 1 6) (h.2.1 69) (nI n) (150 : Int32) = _ from x_take1 (most := 150) (nI n) _ _ _ _ _ _ (by omega) rfl q0 q1 q2, z_b, if_pos rfl, isFull_ w1, z_b]
    unfold bX11_work_30
    rw [m_need1, z_b, if_neg d_10]
    unfold f_X11_begins bX11_begins_0
    rw [z_b]
    by_cases hf : rS_W S < 16
    · rw [if_pos hf, if_pos rfl, if_neg (show ¬ h.2.1 70 42 = (16 : Int32) from fun e => by rw [w3] at e; have := (nI_eq (b := 16) (by omega) (by omega)).mp e; omega)]
      unfold f_X6_read bX6_read_0
      obtain ⟨o, oz, e1, e2, hh⟩ := top_ok (u := u) (p := rS_P S) (d0 := (0 : Int32)) (d2 := (0 : Int32)) (d8 := (-1 : Int32)) (c27 := h.2.1 70 27) (c28 := h.2.1 70 28) (c30 := h.2.1 70 30) (d42 := h.2.1 70 42) (d43 := h.2.1 70 43) (d44 := h.2.1 70 44) (d45 := h.2.1 70 45) (d46 := h.2.1 70 46) (a7 := h.2.1 77) (a8 := h.2.1 78) (a9 := h.2.1 79) (a10 := h.2.1 80) (a13 := h.2.1 83) (a14 := h.2.1 84) (a15 := h.2.1 85) (ra1 := h.2.1 71) (ra16 := h.2.1 86) (ra17 := h.2.1 87) (ra19 := h.2.1 89) (ra20 := h.2.1 90) (ra21 := h.2.1 91) (ra22 := h.2.1 92) (ra23 := h.2.1 93) (ra24 := h.2.1 94) T hu (by omega) rp1 (pl := (-1 : Int32)) 31 0 0 u u 0 (0 : Int32) (h.2.1 70 6) (h.2.1 32) (h.2.1 33) (h.2.1 34) (h.2.1 88) (by omega) (by omega) (by omega) (by omega) (Nat.zero_le n) (by omega)
      dsimp only
      rw [show f_X6_readSteps_r u 9 (0 : Int32) (h.2.1 32) (h.2.1 33) (h.2.1 34) (nI n) (0 : Int32) (0 : Int32) (0 : Int32) (-1 : Int32) (h.2.1 2) (h.2.1 3 0) (h.2.1 3 1) (0 : Int32) = some o from by rw [rp2.1, rp2.2.1]; exact e1, z_b, z_b]
      rw [rp3.1, rp3.2.1]
      rw [show bX11_work_68 u (nI (pW (rS_P S))) (nI (pH (rS_P S))) (h.2.1 70 27) (h.2.1 70 28) (h.2.1 70 30) (h.2.1 72) (h.2.1 77) (h.2.1 78) (h.2.1 79) (h.2.1 80) (h.2.1 83) (h.2.1 84) (h.2.1 85) u (0 : Int32) (0 : Int32) (nI n) (0 : Int32) (-1 : Int32) (h.2.1 70 6) (0 : Int32) (-1 : Int32) (0 : Int32) (h.2.1 70 42) (h.2.1 70 43) (h.2.1 70 44) (h.2.1 70 45) (h.2.1 70 46) (h.2.1 71) (h.2.1 86) (h.2.1 87) (h.2.1 88) (h.2.1 89) (h.2.1 90) (h.2.1 91) (h.2.1 92) (h.2.1 93) (h.2.1 94) = _ from e2]
      rcases hh with ⟨k, q', Q, A, I, f, j1, j2, j3, K1, P1, wf1, i1, i2, i3, i4, i5, i6, i7, i8⟩ | ⟨kd, f, q1, j1, j2, j3, j4, i1, i2, i3, i4, i5⟩
      · rw [i6, i8, w3]
        have hk30 : k ≤ 30 := by omega
        obtain ⟨o', g1, g2, g3, g4, g5, g6, g7, g8, g9, g10, g11, g12⟩ := m_89 (u := u) rp1 hu (c25 := nI (pW (rS_P S))) (c26 := nI (pH (rS_P S))) (c27 := h.2.1 70 27) (c28 := h.2.1 70 28) (c30 := h.2.1 70 30) (a7 := h.2.1 77) (a8 := h.2.1 78) (a9 := h.2.1 79) (a10 := h.2.1 80) ⟨rfl, rfl, rp3.2.2⟩ mF mH lF lH wf1 hk30 P1 rn1 rn3 hf (h.2.1 72) (h.2.1 71) (h.2.1 86) (h.2.1 87) (h.2.1 89) (h.2.1 91) (h.2.1 92) (h.2.1 93) (h.2.1 94) (0 : Int32) (0 : Int32) (nI n) oz.1 oz.2.2.1 oz.2.2.2.1 (-1 : Int32) (h.2.1 70 43) (h.2.1 70 44) (h.2.1 70 45) (h.2.1 70 46)
        rw [g1]
        dsimp only
        rw [i3, t_good, z_b, if_neg d_10]
        refine ⟨_, rfl, Or.inr ⟨rfl, rfl, hf, k, f, Q, A, I, _, o', hk30, wf1, P1, i1, rfl, rfl, rfl, rfl, g3, ⟨fun k hk => (r k hk).trans (congrFun g8 k).symm, i4.trans g5.symm, 0, b, by omega, rfl, g4, fun i hi => absurd hi (Nat.not_lt_zero i)⟩, g2, g6, g7, g9, g10, g11, g12⟩⟩
      · rw [i4, m_89F (show f < 2147483648 by omega)]
        dsimp only
        rw [i2, t_goodF (kf_0 j1 j2), z_b, if_pos rfl, i5]
        exact ⟨_, rfl, Or.inl ⟨rfl, _, rfl, Or.inl ⟨rfl, rfl, rfl⟩, ⟨r, i3, 0, b, by omega, rfl, rfl, fun i hi => absurd hi (Nat.not_lt_zero i)⟩, rfl, rfl, rfl, rfl⟩⟩
    · have hW : rS_W S = 16 := by omega
      rw [if_neg hf, if_neg d_10, if_pos (show h.2.1 70 42 = (16 : Int32) by rw [w3, hW]; rfl)]
      unfold f_X11_result bX11_result_0
      dsimp only
      rw [t_fine, z_b, if_neg d_10, z_b]
      exact ⟨_, rfl, Or.inl ⟨rfl, _, rfl, Or.inl ⟨rfl, rfl, rfl⟩, ⟨r, rfl, 0, b, by omega, rfl, rfl, fun i hi => absurd hi (Nat.not_lt_zero i)⟩, rfl, rfl, rfl, rfl⟩⟩
  · rw [show f_X10_takeText u (nI N) (h.2.1 1 2) (h.2.1 1 3) (h.2.1 1 4) (h.2.1 1 5) (h.2.1 1 6) (h.2.1 69) a1 (150 : Int32) = _ from x_take0 (most := 150) a1 _ _ _ _ _ _ hbad, z_b, if_neg d_30]
    have h29 : bX11_work_29 u (h.2.1 70 25) (h.2.1 70 26) (h.2.1 70 27) (h.2.1 70 28) (h.2.1 70 30) (h.2.1 72) (h.2.1 77) (h.2.1 78) (h.2.1 79) (h.2.1 80) (h.2.1 83) (h.2.1 84) (h.2.1 85) (0 : Int32) (nI N) (h.2.1 70 3) (h.2.1 70 4) (h.2.1 70 5) (h.2.1 70 6) (h.2.1 70 7) (h.2.1 70 8) (h.2.1 70 41) (h.2.1 70 42) (h.2.1 70 43) (h.2.1 70 44) (h.2.1 70 45) (h.2.1 70 46) (h.2.1 71) (h.2.1 86) (h.2.1 87) (h.2.1 88) (h.2.1 89) (h.2.1 90) (h.2.1 91) (h.2.1 92) (h.2.1 93) (h.2.1 94) a1 = some ((0 : Int32), (1 : Int32), nI N, h.2.1 70 3, h.2.1 70 4, h.2.1 70 5, h.2.1 70 6, h.2.1 70 7, h.2.1 70 8, h.2.1 70 41, h.2.1 70 42, h.2.1 70 43, h.2.1 70 44, h.2.1 70 45, h.2.1 70 46, upd (h.2.1 71) 2 (h.2.1 71 2 + (1 : Int32)), h.2.1 86, h.2.1 87, h.2.1 88, h.2.1 89, h.2.1 90, h.2.1 91, h.2.1 92, h.2.1 93, h.2.1 94) := by
      unfold bX11_work_29 bX11_work_30
      rw [m_need0, z_b, if_pos rfl]
    rw [h29]
    have hm : ∀ C, (if a1 < 0 then some ((0 : Int32), (1 : Int32), nI N, h.2.1 70 3, h.2.1 70 4, h.2.1 70 5, h.2.1 70 6, h.2.1 70 7, h.2.1 70 8, h.2.1 70 41, h.2.1 70 42, h.2.1 70 43, h.2.1 70 44, h.2.1 70 45, h.2.1 70 46, upd (h.2.1 71) 2 (h.2.1 71 2 + (1 : Int32)), h.2.1 86, h.2.1 87, h.2.1 88, h.2.1 89, h.2.1 90, h.2.1 91, h.2.1 92, h.2.1 93, h.2.1 94) else (if nI N < a1 then some ((0 : Int32), (1 : Int32), nI N, h.2.1 70 3, h.2.1 70 4, h.2.1 70 5, h.2.1 70 6, h.2.1 70 7, h.2.1 70 8, h.2.1 70 41, h.2.1 70 42, h.2.1 70 43, h.2.1 70 44, h.2.1 70 45, h.2.1 70 46, upd (h.2.1 71) 2 (h.2.1 71 2 + (1 : Int32)), h.2.1 86, h.2.1 87, h.2.1 88, h.2.1 89, h.2.1 90, h.2.1 91, h.2.1 92, h.2.1 93, h.2.1 94) else (if (150 : Int32) < a1 then some ((0 : Int32), (1 : Int32), nI N, h.2.1 70 3, h.2.1 70 4, h.2.1 70 5, h.2.1 70 6, h.2.1 70 7, h.2.1 70 8, h.2.1 70 41, h.2.1 70 42, h.2.1 70 43, h.2.1 70 44, h.2.1 70 45, h.2.1 70 46, upd (h.2.1 71) 2 (h.2.1 71 2 + (1 : Int32)), h.2.1 86, h.2.1 87, h.2.1 88, h.2.1 89, h.2.1 90, h.2.1 91, h.2.1 92, h.2.1 93, h.2.1 94) else C))) = some ((0 : Int32), (1 : Int32), nI N, h.2.1 70 3, h.2.1 70 4, h.2.1 70 5, h.2.1 70 6, h.2.1 70 7, h.2.1 70 8, h.2.1 70 41, h.2.1 70 42, h.2.1 70 43, h.2.1 70 44, h.2.1 70 45, h.2.1 70 46, upd (h.2.1 71) 2 (h.2.1 71 2 + (1 : Int32)), h.2.1 86, h.2.1 87, h.2.1 88, h.2.1 89, h.2.1 90, h.2.1 91, h.2.1 92, h.2.1 93, h.2.1 94) := by
      intro C
      by_cases z0 : a1 < 0
      · rw [if_pos z0]
      · rw [if_neg z0]
        by_cases z1 : nI N < a1
        · rw [if_pos z1]
        · rw [if_neg z1]
          by_cases z2 : (150 : Int32) < a1
          · rw [if_pos z2]
          · rcases hbad with w | w | w
            · exact absurd w z0
            · exact absurd w z2
            · exact absurd w z1
    rw [hm]
    exact ⟨_, rfl, Or.inl ⟨rfl, _, rfl, Or.inr ⟨rfl, rfl⟩, ⟨r_upd r (by omega), rf, N, b, hN, rfl, rfl, tb⟩, rfl, rfl, rfl, rfl⟩⟩
end SUD
