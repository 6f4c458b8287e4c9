/-! QUERIES, further -/
section NQ2
variable {u : Nat} {S : aT} {h : k_H}
theorem r_cell {p : aP} (P : pOK p) {i j : Nat} (hi : i < pW p) (hj : j < pH p) : 8 * j + i < 48 ∧ inG (pW p) (pH p) (8 * j + i) = true ∧ (8 : Int32) * nI j + nI i = nI (8 * j + i) := by
  have h1 := P.1.2
  have h2 := P.2.1.2
  refine ⟨by omega, ?_, ?_⟩
  · unfold inG
    rw [show (8 * j + i) % 8 = i by omega, show (8 * j + i) / 8 = j by omega]
    simp [hi, hj]
  · rw [show (8 : Int32) * nI j = nI (8 * j) from (Int32.ofNat_mul 8 j).symm, nI_add]
/-- a number from 0 to n -/
theorem d_to {n : Nat} (hn : n < 2147483647) (x : Int32) : (∃ i, i ≤ n ∧ x = nI i ∧ ¬ x < 0 ∧ ¬ nI n < x ∧ f_X11_within u x (0 : Int32) (nI n) = some (1 : Int32)) ∨ ((x < 0 ∨ (¬ x < 0 ∧ nI n < x)) ∧ f_X11_within u x (0 : Int32) (nI n) = some (0 : Int32)) := by
  rw [m_within]
  rcases d_in (x := x) (n := n + 1) (by omega) with ⟨i, h1, rfl, q1, q2, q3⟩ | q1 | ⟨q1, q2, q3⟩
  · refine Or.inl ⟨i, by omega, rfl, q1, nI_nlt (by omega) (by omega), ?_⟩
    rw [decide_eq_true (fa_of_nlt q1), decide_eq_true (nI_le (a := i) (b := n) (by omega) (by omega))]; rfl
  · refine Or.inr ⟨Or.inl q1, ?_⟩
    rw [decide_eq_false (fa_of_lt q1).2.1]; rfl
  · obtain ⟨i, h1, rfl⟩ := nI_of q1
    have h3 : ¬ i < n + 1 := fun h => q3 (nI_lt h (by omega))
    refine Or.inr ⟨Or.inr ⟨q1, nI_lt (by omega) h1⟩, ?_⟩
    rw [decide_eq_false (nI_ge (a := n) (b := i) (by omega) h1), Bool.and_false]; rfl
theorem d_music (x : Int32) : (∃ k, 1 ≤ k ∧ k ≤ 4 ∧ x = nI k ∧ f_X10_isMusic u x = some (1 : Int32) ∧ f_X11_within u x (1 : Int32) (4 : Int32) = some (1 : Int32)) ∨ (f_X10_isMusic u x = some (0 : Int32) ∧ f_X11_within u x (1 : Int32) (4 : Int32) = some (0 : Int32)) := by
  rw [m_within]
  unfold f_X10_isMusic bX10_isMusic_0
  by_cases h1 : x < 1
  · refine Or.inr ⟨if_pos h1, ?_⟩
    rw [decide_eq_false (fa_of_lt h1).2.1]; rfl
  · by_cases h2 : (4 : Int32) < x
    · refine Or.inr ⟨by rw [if_neg h1, if_pos h2], ?_⟩
      rw [decide_eq_false (fa_of_lt h2).2.1, Bool.and_false]; rfl
    · have h0 : ¬ x < 0 := fun z => h1 (Int32.lt_iff_toInt_lt.mpr (Int.lt_trans (Int32.lt_iff_toInt_lt.mp z) (by decide)))
      obtain ⟨k, hk, rfl⟩ := nI_of h0
      refine Or.inl ⟨k, ?_, ?_, rfl, by rw [if_neg h1, if_neg h2], ?_⟩
      · exact Nat.le_of_not_lt (fun z => h1 (nI_lt (a := k) (b := 1) z (by omega)))
      · exact Nat.le_of_not_lt (fun z => h2 (nI_lt (a := 4) (b := k) z hk))
      · rw [decide_eq_true (fa_of_nlt h1), decide_eq_true (fa_of_nlt h2)]; rfl
theorem x_need0 (a : Nat → Int32) : f_X10_need u a (0 : Int32) = some ((3 : Int32), upd a 2 (a 2 + (1 : Int32))) := rfl
theorem x_need1 (a : Nat → Int32) : f_X10_need u a (1 : Int32) = some ((0 : Int32), a) := rfl
theorem m_need0 (a : Nat → Int32) : f_X11_may u (0 : Int32) a (0 : Int32) (1 : Int32) (2 : Int32) = some ((0 : Int32), (1 : Int32), upd a 2 (a 2 + (1 : Int32))) := m_need false a
theorem m_need1 (a : Nat → Int32) : f_X11_may u (0 : Int32) a (1 : Int32) (1 : Int32) (2 : Int32) = some ((1 : Int32), (0 : Int32), a) := m_need true a
theorem m_needB0 (a : Nat → Int32) : f_X11_may u (0 : Int32) a (0 : Int32) (2 : Int32) (2 : Int32) = some ((0 : Int32), (2 : Int32), upd a 2 (a 2 + (1 : Int32))) := m_need2 false a
theorem m_needB1 (a : Nat → Int32) : f_X11_may u (0 : Int32) a (1 : Int32) (2 : Int32) (2 : Int32) = some ((1 : Int32), (0 : Int32), a) := m_need2 true a
theorem r_zz {R : Type} (b : Bool) (k : Option R) : k_z (zB b) k = k := by cases b <;> rfl
theorem n_14 (hu : 700 ≤ u) (R : Rel S h) (a1 a2 : Int32) : N_14 u h a1 a2 := by
  obtain ⟨-, ⟨P, ⟨xw, xh, xa, xs, xc, xo, xk, xp, xor⟩, ⟨mw, mh, ms, mc, mo, mk, mp, mor⟩⟩, ⟨lF, lH, xF, xH, mF, mH⟩, ⟨I, X, M⟩, -, -, ⟨r, -, -⟩, -, -⟩ := R
  obtain ⟨Mx, hb, hsh, hdg, hpr, hwe, -⟩ := X
  unfold N_14
  rw [xw, xh, hsh, mw, mh]
  unfold f_X10_falls bX10_falls_0 f_X11_falls bX11_falls_0
  rcases d_cell (u := u) P.1.2 P.2.1.2 a1 a2 (h.2.1 69) (h.2.1 71) with ⟨i, j, hi, hj, rfl, rfl, e1, e2⟩ | ⟨e1, e2⟩
  · obtain ⟨hc, hg, e5⟩ := r_cell P hi hj
    obtain ⟨g, e3, e4⟩ := m_take (u := u) (by omega) M (h.2.1 91)
    obtain ⟨b1, f1⟩ := x_falls (u := u) (sh := aSh (rS_M S)) Mx.1 Mx.2.1 xk xF (by omega) hc (h.2.1 19)
    obtain ⟨d1, d2, f2⟩ := m_falls (u := u) (sh := aSh (rS_M S)) P.1.2 P.2.1.2 e4.1 I.1 mk e4.2.2.1 mF lF (by omega) hc (h.2.1 86) (h.2.1 87)
    rw [e1, e2, z_b, z_b, if_pos rfl, if_neg d_10, f1, z_b, e3, z_b, e5, f2, z_b, r_zz, r_zz]
    exact ⟨_, _, rfl, rfl, Or.inl ⟨rfl, rfl, rfl⟩, r⟩
  · rw [e1, e2, z_b, z_b, if_neg d_10, if_pos rfl]
    exact ⟨_, _, rfl, rfl, Or.inr ⟨rfl, rfl⟩, r_upd r (by omega)⟩
theorem n_16 (hu : 700 ≤ u) (R : Rel S h) (a1 a2 : Int32) : N_16 u h a1 a2 := by
  obtain ⟨-, ⟨P, ⟨xw, xh, xa, xs, xc, xo, xk, xp, xor⟩, ⟨mw, mh, ms, mc, mo, mk, mp, mor⟩⟩, ⟨lF, lH, xF, xH, mF, mH⟩, ⟨I, X, M⟩, -, -, ⟨r, -, -⟩, -, -⟩ := R
  obtain ⟨Mx, hb, hsh, hdg, hpr, hwe, -⟩ := X
  unfold N_16
  rw [xw, xh, hsh, mw, mh]
  unfold f_X10_harm bX10_harm_0 f_X11_harm bX11_harm_0
  rcases d_cell (u := u) P.1.2 P.2.1.2 a1 a2 (h.2.1 69) (h.2.1 71) with ⟨i, j, hi, hj, rfl, rfl, e1, e2⟩ | ⟨e1, e2⟩
  · obtain ⟨hc, hg, e5⟩ := r_cell P hi hj
    obtain ⟨g, e3, e4⟩ := m_take (u := u) (by omega) M (h.2.1 91)
    obtain ⟨b1, f1⟩ := x_harm (u := u) (sh := aSh (rS_M S)) Mx.1 Mx.2.1 xk xH (by omega) hc (h.2.1 22)
    obtain ⟨d1, d2, f2⟩ := m_harm (u := u) (sh := aSh (rS_M S)) P.1.2 P.2.1.2 e4.1 I.1 mk e4.2.2.1 mH lH (by omega) hc (h.2.1 86) (h.2.1 87)
    rw [e1, e2, z_b, z_b, if_pos rfl, if_neg d_10, f1, z_b, e3, z_b, e5, f2, z_b]
    exact ⟨_, _, rfl, rfl, Or.inl ⟨rfl, rfl, rfl⟩, r⟩
  · rw [e1, e2, z_b, z_b, if_neg d_10, if_pos rfl]
    exact ⟨_, _, rfl, rfl, Or.inr ⟨rfl, rfl⟩, r_upd r (by omega)⟩
theorem n_12 (hu : 700 ≤ u) (R : Rel S h) (a1 : Int32) : N_12 u h a1 := by
  obtain ⟨-, ⟨P, ⟨xw, xh, xa, xs, xc, xo, xk, xp, xor⟩, ⟨mw, mh, ms, mc, mo, mk, mp, mor⟩⟩, -, ⟨I, X, M⟩, -, -, ⟨r, -, -⟩, -, -⟩ := R
  obtain ⟨Mx, hb, hsh, hdg, hpr, hwe, -⟩ := X
  have K := P.2.2.2.2.1
  have hbl : ∀ k, k < 5 → aB (rS_M S) k ≤ 1000000 := fun k hk => Nat.le_trans (mOK_B P I hk) (by omega)
  unfold N_12
  rw [xo, mo]
  unfold f_X10_lacks bX10_lacks_0 f_X11_lacks bX11_lacks_0
  rcases d_ord (u := u) K.1 a1 (h.2.1 69) (h.2.1 71) with ⟨i, hi, rfl, e1, e2⟩ | ⟨e1, e2⟩
  · obtain ⟨g, e3, e4⟩ := m_take (u := u) (by omega) M (h.2.1 91)
    obtain ⟨w1, f1, f2⟩ := m_wants (u := u) (by omega) (h.2.1 94)
    obtain ⟨w2, f3, f4⟩ := m_adds (u := u) K mor (by omega) hi (wt := fun _ => 0) f2
    have hz := (K.2.1 i hi).2.2.2
    rw [e1, e2, z_b, z_b, if_pos rfl, if_neg d_10, x_lack K xor (by omega) hbl hb hi, z_b, e3, z_b, f1, z_b, f3, z_b,
      m_lack (u := u) (by omega) (wt := fun k => cnN (pN (rS_P S)) i k (pZ (rS_P S) i)) (bl := aB (rS_M S)) (fun k hk => Nat.le_trans (cnN_le _ _ _ _) (by omega)) hbl (fun k hk => by rw [f4 k hk, Nat.zero_add]) (fun k hk => e4.2.1 k hk), z_b]
    exact ⟨_, _, rfl, rfl, Or.inl ⟨rfl, rfl, rfl⟩, r⟩
  · rw [e1, e2, z_b, z_b, if_neg d_20, if_pos rfl]
    exact ⟨_, _, rfl, rfl, Or.inr ⟨rfl, rfl⟩, r_upd r (by omega)⟩
theorem n_21 (hu : 700 ≤ u) (R : Rel S h) (a1 : Int32) : N_21 u h a1 := by
  obtain ⟨-, ⟨P, ⟨xw, xh, xa, xs, xc, xo, xk, xp, xor⟩, ⟨mw, mh, ms, mc, mo, mk, mp, mor⟩⟩, -, -, -, -, ⟨r, -, -⟩, -, -⟩ := R
  unfold N_21
  rw [xw, xh, mw, mh]
  unfold f_X10_tap bX10_tap_0 f_X11_tap bX11_tap_0
  rcases d_col (u := u) P.1.2 a1 with ⟨i, hi, rfl, e1, e2⟩ | ⟨e1, e2⟩
  · rw [e1, e2, z_b, z_b, x_need1, m_need1, z_b, z_b, if_pos rfl, if_neg d_10, x_heard P xk.1 (by omega), z_b, m_tapAt P mk.1 (by omega), z_b]
    refine ⟨_, _, rfl, rfl, Or.inl ⟨rfl, rfl, ?_⟩, r⟩
    show nI (tp (rS_P S) (nI i - (0 : Int32)).toInt) = _
    rw [Int32.sub_zero]
  · rw [e1, e2, z_b, z_b, x_need0, m_need0, z_b, z_b, if_neg d_30, if_pos rfl]
    exact ⟨_, _, rfl, rfl, Or.inr ⟨rfl, rfl⟩, r_upd r (by omega)⟩
theorem n_22 (hu : 700 ≤ u) (R : Rel S h) (a1 a2 : Int32) : N_22 u h a1 a2 := by
  obtain ⟨-, ⟨P, ⟨xw, xh, xa, xs, xc, xo, xk, xp, xor⟩, ⟨mw, mh, ms, mc, mo, mk, mp, mor⟩⟩, -, -, -, -, ⟨r, -, -⟩, -, -⟩ := R
  unfold N_22
  rw [xw, xh, mw, mh]
  have bx : ∀ v1 v2, bX10_moved_25 u (nI (pW (rS_P S))) (nI (pH (rS_P S))) (h.2.1 4) (h.2.1 69) v1 v2 = some ((3 : Int32), (0 : Int32), upd (h.2.1 69) 2 (h.2.1 69 2 + (1 : Int32))) := fun _ _ => rfl
  have bm : ∀ v1 v2, bX11_moved_29 u (nI (pW (rS_P S))) (nI (pH (rS_P S))) (h.2.1 77) (0 : Int32) (h.2.1 71) v1 v2 = some ((0 : Int32), (1 : Int32), upd (h.2.1 71) 2 (h.2.1 71 2 + (1 : Int32))) := by
    intro v1 v2
    unfold bX11_moved_29 bX11_moved_30
    rw [m_need0, z_b, if_pos rfl]
  have bad : ∃ o o', some ((3 : Int32), (0 : Int32), upd (h.2.1 69) 2 (h.2.1 69 2 + (1 : Int32))) = some o ∧ some ((0 : Int32), (1 : Int32), upd (h.2.1 71) 2 (h.2.1 71 2 + (1 : Int32))) = some o' ∧ ((o.1 = 0 ∧ o'.2.1 = 0 ∧ o.2.1 = o'.1) ∨ (o.1 = 3 ∧ o'.2.1 = 1)) ∧ ∀ k, k < 3 → o.2.2 k = o'.2.2 k := ⟨_, _, rfl, rfl, Or.inr ⟨rfl, rfl⟩, r_upd r (by omega)⟩
  unfold f_X10_moved bX10_moved_0 f_X11_moved bX11_moved_0
  rcases d_col (u := u) P.1.2 a1 with ⟨i, hi, rfl, e1, e2⟩ | ⟨e1, e2⟩
  · rw [e1, e2, z_b, z_b, if_neg d_10, if_neg d_10, m_within, z_b]
    by_cases h1 : a2 < (-7 : Int32)
    · rw [if_pos h1, bx, decide_eq_false (fa_of_lt h1).2.1, Bool.false_and, if_pos (show zB false = (0 : Int32) from rfl), bm]
      exact bad
    · by_cases h2 : (7 : Int32) < a2
      · rw [if_neg h1, if_pos h2, bx, decide_eq_false (fa_of_lt h2).2.1, Bool.and_false, if_pos (show zB false = (0 : Int32) from rfl), bm]
        exact bad
      · rw [if_neg h1, if_neg h2, decide_eq_true (fa_of_nlt h1), decide_eq_true (fa_of_nlt h2), if_neg (show ¬ zB (true && true) = (0 : Int32) from d_10)]
        unfold bX10_moved_26 bX11_moved_30
        rw [x_need1, m_need1, z_b, z_b, if_pos rfl, if_neg d_10, x_heard P xk.1 (by omega), z_b, m_tapAt P mk.1 (by omega), z_b]
        exact ⟨_, _, rfl, rfl, Or.inl ⟨rfl, rfl, rfl⟩, r⟩
  · rw [e1, e2, z_b, z_b, if_pos rfl, if_pos rfl, bx, bm]
    exact bad
theorem n_7 (R : Rel S h) (a1 : Int32) : N_7 u h a1 := by
  obtain ⟨-, ⟨P, ⟨xw, xh, xa, xs, xc, xo, xk, xp, xor⟩, ⟨mw, mh, ms, mc, mo, mk, mp, mor⟩⟩, -, ⟨I, X, M⟩, ⟨-, b1, b2, -⟩, -, ⟨r, -, r2⟩, -, -⟩ := R
  obtain ⟨Mx, hb, hsh, hdg, hpr, hwe, hpe, hlu, -⟩ := X
  obtain ⟨A, mb, m69, m70, m71, m74, m72, m73, -⟩ := M
  unfold N_7
  rw [xw, xh, mw, mh, xo, mo, hsh, xc, hdg, hpr, hpe, hlu, hwe, r2, b1, b2, mc]
  unfold f_X10_told bX10_told_0 f_X11_told bX11_told_0
  have bx : bX10_told_15 u (h.2.1 70 43) (nI (pW (rS_P S))) (nI (pH (rS_P S))) (nI (pC (rS_P S))) (nI (pO (rS_P S))) (nI (aSh (rS_M S))) (nI (aDg (rS_M S))) (nI (aPr (rS_M S))) (aPe (rS_M S)) (aLu (rS_M S)) (nI (aW (rS_M S))) (nI (rS_L S)) (h.2.1 69) a1 = some ((3 : Int32), (0 : Int32), upd (h.2.1 69) 2 (h.2.1 69 2 + (1 : Int32))) := rfl
  rcases d_to (u := u) (n := 10) (by omega) a1 with ⟨i, hi, rfl, q1, q2, e⟩ | ⟨q, e⟩
  · rw [show f_X11_within u (nI i) (0 : Int32) (10 : Int32) = _ from e, z_b, m_need1, z_b, if_neg q1, if_neg (show ¬ (10 : Int32) < nI i from q2), if_neg d_10]
    unfold bX10_told_16
    rw [x_need1, z_b, if_pos rfl, m69, m70, m71, m72, m73, m74]
    match i, hi with
    | 0, _ => exact ⟨_, _, rfl, rfl, Or.inl ⟨rfl, rfl, rfl⟩, r⟩
    | 1, _ => exact ⟨_, _, rfl, rfl, Or.inl ⟨rfl, rfl, rfl⟩, r⟩
    | 2, _ => exact ⟨_, _, rfl, rfl, Or.inl ⟨rfl, rfl, rfl⟩, r⟩
    | 3, _ => exact ⟨_, _, rfl, rfl, Or.inl ⟨rfl, rfl, rfl⟩, r⟩
    | 4, _ => exact ⟨_, _, rfl, rfl, Or.inl ⟨rfl, rfl, rfl⟩, r⟩
    | 5, _ => exact ⟨_, _, rfl, rfl, Or.inl ⟨rfl, rfl, rfl⟩, r⟩
    | 6, _ => exact ⟨_, _, rfl, rfl, Or.inl ⟨rfl, rfl, rfl⟩, r⟩
    | 7, _ => exact ⟨_, _, rfl, rfl, Or.inl ⟨rfl, rfl, rfl⟩, r⟩
    | 8, _ => exact ⟨_, _, rfl, rfl, Or.inl ⟨rfl, rfl, rfl⟩, r⟩
    | 9, _ => exact ⟨_, _, rfl, rfl, Or.inl ⟨rfl, rfl, rfl⟩, r⟩
    | 10, _ => exact ⟨_, _, rfl, rfl, Or.inl ⟨rfl, rfl, rfl⟩, r⟩
    | i + 11, h => omega
  · rw [show f_X11_within u a1 (0 : Int32) (10 : Int32) = _ from e, z_b, m_need0, z_b, if_pos rfl]
    have hx : (if a1 < (0 : Int32) then bX10_told_15 u (h.2.1 70 43) (nI (pW (rS_P S))) (nI (pH (rS_P S))) (nI (pC (rS_P S))) (nI (pO (rS_P S))) (nI (aSh (rS_M S))) (nI (aDg (rS_M S))) (nI (aPr (rS_M S))) (aPe (rS_M S)) (aLu (rS_M S)) (nI (aW (rS_M S))) (nI (rS_L S)) (h.2.1 69) a1 else (if (10 : Int32) < a1 then bX10_told_15 u (h.2.1 70 43) (nI (pW (rS_P S))) (nI (pH (rS_P S))) (nI (pC (rS_P S))) (nI (pO (rS_P S))) (nI (aSh (rS_M S))) (nI (aDg (rS_M S))) (nI (aPr (rS_M S))) (aPe (rS_M S)) (aLu (rS_M S)) (nI (aW (rS_M S))) (nI (rS_L S)) (h.2.1 69) a1 else bX10_told_16 u (h.2.1 70 43) (nI (pW (rS_P S))) (nI (pH (rS_P S))) (nI (pC (rS_P S))) (nI (pO (rS_P S))) (nI (aSh (rS_M S))) (nI (aDg (rS_M S))) (nI (aPr (rS_M S))) (aPe (rS_M S)) (aLu (rS_M S)) (nI (aW (rS_M S))) (nI (rS_L S)) (h.2.1 69) a1 (1 : Int32))) = some ((3 : Int32), (0 : Int32), upd (h.2.1 69) 2 (h.2.1 69 2 + (1 : Int32))) := by
      rcases q with q | ⟨q, q2⟩
      · rw [if_pos q]; rfl
      · rw [if_neg q, if_pos (show (10 : Int32) < a1 from q2)]; rfl
    exact ⟨_, _, hx, rfl, Or.inr ⟨rfl, rfl⟩, r_upd r (by omega)⟩
end NQ2
