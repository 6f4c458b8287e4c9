/-! THE QUERIES, one by one -/
theorem d_10 : ¬ (1 : Int32) = 0 := by decide
theorem d_20 : ¬ (2 : Int32) = 0 := by decide
theorem d_30 : ¬ (3 : Int32) = 0 := by decide
section NQ
variable {u : Nat} {S : aT} {h : k_H}
theorem n_5 (R : Rel S h) : N_5 u h := ⟨_, _, rfl, rfl, R.2.2.2.2.2.2.1.2.1⟩
theorem n_37 (R : Rel S h) (a1 : Int32) : N_37 u h a1 := by
  obtain ⟨-, -, -, -, -, ⟨N, b, hN, t1, t2, -⟩, -, ⟨-, w1, w2, -⟩, ⟨-, i1, i2, -⟩⟩ := R
  unfold N_37 f_X10_count bX10_count_0 f_X11_count bX11_count_0
  by_cases h0 : a1 = 0
  · rw [if_pos h0, if_pos h0]
    exact ⟨_, _, rfl, rfl, i1.trans i2.symm⟩
  · rw [if_neg h0, if_neg h0]
    by_cases h1 : a1 = 1
    · rw [if_pos h1, if_pos h1]
      exact ⟨_, _, rfl, rfl, t1.trans t2.symm⟩
    · rw [if_neg h1, if_neg h1]
      by_cases h2 : a1 = 2
      · rw [if_pos h2, if_pos h2]
        exact ⟨_, _, rfl, rfl, w1.trans w2.symm⟩
      · rw [if_neg h2, if_neg h2]
        exact ⟨_, _, rfl, rfl, rfl⟩
theorem n_36 (R : Rel S h) (a1 : Int32) : N_36 u h a1 := by
  have r := R.2.2.2.2.2.2.1.1
  unfold N_36 f_X10_status bX10_status_0 f_X11_status bX11_status_0
  rw [m_within, z_b]
  rcases d_in (x := a1) (n := 3) (by omega) with ⟨i, h1, rfl, q1, q2, q3⟩ | q1 | ⟨q1, q2, q3⟩
  · have e : (decide ((0 : Int32) ≤ nI i) && decide (nI i ≤ (2 : Int32))) = true := by
      rw [decide_eq_true (fa_of_nlt q1), decide_eq_true (show nI i ≤ (2 : Int32) from nI_le (a := i) (b := 2) (by omega) (by omega))]; rfl
    rw [e, if_neg q1, if_neg (show ¬ (3 : Int32) ≤ nI i from q2), z_ki h1 (by omega), if_neg (show ¬ zB true = (0 : Int32) by decide), z_ki h1 (by omega), z_cl (by omega)]
    exact ⟨_, _, rfl, rfl, r i h1⟩
  · have e : (decide ((0 : Int32) ≤ a1) && decide (a1 ≤ (2 : Int32))) = false := by
      rw [decide_eq_false (fa_of_lt q1).2.1]; rfl
    rw [e, if_pos q1, if_pos (show zB false = (0 : Int32) from rfl)]
    exact ⟨_, _, rfl, rfl, rfl⟩
  · have e : (decide ((0 : Int32) ≤ a1) && decide (a1 ≤ (2 : Int32))) = false := by
      obtain ⟨i, h1, rfl⟩ := nI_of q1
      have : ¬ i < 3 := fun h => q3 (nI_lt h (by omega))
      rw [decide_eq_false (show ¬ nI i ≤ (2 : Int32) from nI_ge (a := 2) (b := i) (by omega) h1), Bool.and_false]
    rw [e, if_neg q1, if_pos (show (3 : Int32) ≤ a1 from q2), if_pos (show zB false = (0 : Int32) from rfl)]
    exact ⟨_, _, rfl, rfl, rfl⟩
theorem n_28 (hu : 700 ≤ u) (R : Rel S h) : N_28 u h := by
  obtain ⟨-, ⟨P, ⟨xw, xh, xa, xs, xc, xo, xk, xp, xor⟩, ⟨mw, mh, ms, mc, mo, mk, mp, mor⟩⟩, -, ⟨I, X, M⟩, -, -, ⟨r, -, -⟩, -, -⟩ := R
  unfold N_28
  rw [xh, mw, mh]
  obtain ⟨d21, e⟩ := m_level (u := u) P I (a8 := h.2.1 78) mk.2 M (by omega) (h.2.1 70 0) (h.2.1 91)
  refine ⟨_, _, ?_, e, rfl⟩
  unfold f_X10_level bX10_level_0
  rw [x_level P I X.1 xk.2 (by omega), z_b]
theorem n_29 (hu : 700 ≤ u) (R : Rel S h) : N_29 u h := by
  obtain ⟨-, ⟨P, ⟨xw, xh, xa, xs, xc, xo, xk, xp, xor⟩, ⟨mw, mh, ms, mc, mo, mk, mp, mor⟩⟩, -, ⟨I, X, M⟩, -, -, ⟨r, -, -⟩, -, -⟩ := R
  unfold N_29
  obtain ⟨Mx, hb, hsh, hdg, hpr, hwe, -⟩ := X
  obtain ⟨g, e1, e2⟩ := m_take (u := u) (by omega) M (h.2.1 91)
  refine ⟨nI (pkb (rS_P S) (rS_M S) 48) - nI 1, (nI (pkb (rS_P S) (rS_M S) 48) - nI 1, (0 : Int32), g), ?_, ?_, rfl⟩
  · unfold f_X10_pick bX10_pick_0
    rw [hwe, x_pick P I Mx xk xa xs (by omega), z_b]
  · unfold f_X11_pick bX11_pick_0
    rw [e1, z_b, m_pick P I mw mh ms mk e2 (by omega), z_b]
theorem n_13 (hu : 700 ≤ u) (R : Rel S h) (a1 a2 : Int32) : N_13 u h a1 a2 := by
  obtain ⟨-, ⟨P, ⟨xw, xh, xa, xs, xc, xo, xk, xp, xor⟩, ⟨mw, mh, ms, mc, mo, mk, mp, mor⟩⟩, -, ⟨I, X, M⟩, -, -, ⟨r, -, -⟩, -, -⟩ := R
  obtain ⟨Mx, hb, hsh, hdg, hpr, hwe, -⟩ := X
  unfold N_13
  rw [xw, xh, xc, hdg, hwe, mw, mh, mc]
  unfold f_X10_can bX10_can_0 f_X11_can bX11_can_0
  rcases d_cell (u := u) P.1.2 P.2.1.2 a1 a2 (h.2.1 69) (h.2.1 71) with ⟨i, j, hi, hj, rfl, rfl, e1, e2⟩ | ⟨e1, e2⟩
  · have hc : 8 * j + i < 48 := by have := P.1.2; have := P.2.1.2; omega
    have hg : inG (pW (rS_P S)) (pH (rS_P S)) (8 * j + i) = true := by
      unfold inG
      rw [show (8 * j + i) % 8 = i by have := P.1.2; omega, show (8 * j + i) / 8 = j by have := P.1.2; omega]
      simp [hi, hj]
    obtain ⟨g, e3, e4⟩ := m_take (u := u) (by omega) M (h.2.1 91)
    rw [e1, e2, z_b, z_b, if_pos rfl, if_neg d_10, x_obst Mx.1 Mx.2.1 xa xs (Nat.le_trans I.2.2.2.2.2.1 P.2.1.2) hc (by have := I.2.2.2.1; have := P.2.2.1.2; omega) (by have := P.2.2.1.2; omega), z_b, e3, z_b]
    have e5 : (8 : Int32) * nI j + nI i = nI (8 * j + i) := by
      rw [show (8 : Int32) * nI j = nI (8 * j) from (Int32.ofNat_mul 8 j).symm, nI_add]
    rw [e5, m_why (u := u) P.1.2 P.2.1.2 e4.1 I.1 ms e4.2.2.2.2.2.1 (Nat.le_trans I.2.2.2.2.2.1 P.2.1.2) hc hg, z_b]
    have hcr := I.2.2.2.1
    have h70 : g 70 = nI (aDg (rS_M S)) := e4.2.2.2.1
    by_cases hw : why (pW (rS_P S)) (pH (rS_P S)) (pD (rS_P S)) (aS (rS_M S)) (aW (rS_M S)) (8 * j + i) = 0
    · rw [hw, if_pos rfl, if_pos (show nI 0 = (0 : Int32) from rfl), h70]
      by_cases hd : pC (rS_P S) ≤ aDg (rS_M S)
      · have : aDg (rS_M S) = pC (rS_P S) := by omega
        rw [if_pos hd, if_pos (by rw [this])]
        exact ⟨_, _, rfl, rfl, Or.inl ⟨rfl, rfl, rfl⟩, r⟩
      · rw [if_neg hd, if_neg (fun z => hd (by have := (nI_eq (by have := P.2.2.1.2; omega) (by have := P.2.2.1.2; omega)).mp z; omega))]
        exact ⟨_, _, rfl, rfl, Or.inl ⟨rfl, rfl, rfl⟩, r⟩
    · have hwle : why (pW (rS_P S)) (pH (rS_P S)) (pD (rS_P S)) (aS (rS_M S)) (aW (rS_M S)) (8 * j + i) < 2147483648 := by
        unfold why; repeat (first | split | omega)
      rw [if_neg hw, if_neg (show ¬ nI (why (pW (rS_P S)) (pH (rS_P S)) (pD (rS_P S)) (aS (rS_M S)) (aW (rS_M S)) (8 * j + i)) = (0 : Int32) from fun z => hw ((nI_eq (b := 0) hwle (by omega)).mp z))]
      exact ⟨_, _, rfl, rfl, Or.inl ⟨rfl, rfl, rfl⟩, r⟩
  · rw [e1, e2, z_b, z_b, if_neg d_10, if_pos rfl]
    exact ⟨_, _, rfl, rfl, Or.inr ⟨rfl, rfl⟩, r_upd r (by omega)⟩
end NQ
