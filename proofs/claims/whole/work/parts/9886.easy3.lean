/-! QUERIES: cell, kind, order, note, owners, face -/
section NQ3
variable {u : Nat} {S : aT} {h : k_H}
theorem p_00 : nI 0 = (0 : Int32) := rfl
theorem p_11 : nI 1 = (1 : Int32) := rfl
theorem p_22 : nI 2 = (2 : Int32) := rfl
theorem r_ifR {R : Type} {x : Int32} {n : Nat} {A B : R} (q : x < 0 ∨ (¬ x < 0 ∧ nI n < x)) : (if x < (0 : Int32) then A else (if nI n < x then A else B)) = A := by
  rcases q with q | ⟨q, q2⟩
  · rw [if_pos q]
  · rw [if_neg q, if_pos q2]
theorem r_ifG {R : Type} {x : Int32} {n : Nat} {A B : R} (q : ¬ x < 0) (q2 : ¬ nI n < x) : (if x < (0 : Int32) then A else (if nI n < x then A else B)) = B := by
  rw [if_neg q, if_neg q2]
theorem n_8 (hu : 700 ≤ u) (R : Rel S h) (a1 a2 a3 : Int32) : N_8 u h a1 a2 a3 := by
  obtain ⟨-, ⟨P, ⟨xw, xh, xa, xs, xc, xo, xk, xp, xor⟩, ⟨mw, mh, ms, mc, mo, mk, mp, mor⟩⟩, -, ⟨I, X, M⟩, -, -, ⟨r, -, -⟩, -, -⟩ := R
  obtain ⟨Mx, hb, hsh, hdg, hpr, hwe, -⟩ := X
  unfold N_8
  rw [xw, xh, mw, mh]
  unfold f_X10_cell bX10_cell_0 f_X11_cell bX11_cell_0
  rcases d_cell (u := u) P.1.2 P.2.1.2 a1 a2 (h.2.1 69) (h.2.1 71) with ⟨i, j, hi, hj, rfl, rfl, e1, e2⟩ | ⟨e1, e2⟩
  · obtain ⟨hc, hg, e5⟩ := r_cell P hi hj
    rw [e1, e2, z_b, z_b, if_pos rfl, if_neg d_10]
    rcases d_to (u := u) (n := 3) (by omega) a3 with ⟨w, hw, rfl, q1, q2, e⟩ | ⟨q, e⟩
    · obtain ⟨g, e3, e4⟩ := m_take (u := u) (by omega) M (h.2.1 91)
      have hs := I.1.1 (8 * j + i) hc
      have hx : ∀ A : Option (Int32 × Int32 × (Nat → Int32)), bX10_cell_23 u (nI (pW (rS_P S))) (nI (pH (rS_P S))) (h.2.1 4) (h.2.1 5) (h.2.2.1 26 3) (h.2.2.1 26 4) (h.2.2.1 26 5) (h.2.1 69) (nI w) (nI (8 * j + i)) (1 : Int32) = A → (if nI w < (0 : Int32) then bX10_cell_22 u (nI (pW (rS_P S))) (nI (pH (rS_P S))) (h.2.1 4) (h.2.1 5) (h.2.2.1 26 3) (h.2.2.1 26 4) (h.2.2.1 26 5) (h.2.1 69) (nI w) (nI (8 * j + i)) else (if (3 : Int32) < nI w then bX10_cell_22 u (nI (pW (rS_P S))) (nI (pH (rS_P S))) (h.2.1 4) (h.2.1 5) (h.2.2.1 26 3) (h.2.2.1 26 4) (h.2.2.1 26 5) (h.2.1 69) (nI w) (nI (8 * j + i)) else bX10_cell_23 u (nI (pW (rS_P S))) (nI (pH (rS_P S))) (h.2.1 4) (h.2.1 5) (h.2.2.1 26 3) (h.2.2.1 26 4) (h.2.2.1 26 5) (h.2.1 69) (nI w) (nI (8 * j + i)) (1 : Int32))) = A := fun A hA => (r_ifG (n := 3) q1 q2).trans hA
      rw [show f_X11_within u (nI w) (0 : Int32) (3 : Int32) = _ from e, z_b, m_needB1, z_b, if_neg d_10, e3, z_b, e5]
      have gs : g (8 * j + i) = nI (aS (rS_M S) (8 * j + i)) := e4.1 _ hc
      match w, hw with
      | 0, _ =>
        refine ⟨((0 : Int32), nI (pK (rS_P S) (8 * j + i)), h.2.1 69), (nI (pK (rS_P S) (8 * j + i)), (0 : Int32), h.2.1 71, g), hx _ ?_, ?_, Or.inl ⟨rfl, rfl, rfl⟩, r⟩
        · unfold bX10_cell_23
          rw [x_need1, z_b, if_pos rfl, if_pos p_00, z_ki hc (by omega), z_cl (by omega), xk.1 _ hc]
        · rw [if_neg (show ¬ (2 : Int32) ≤ nI 0 by decide), if_pos p_00, z_ki hc (by omega), z_cl (by omega), mk.1 _ hc]
      | 1, _ =>
        refine ⟨((0 : Int32), nI (pB (rS_P S) (8 * j + i)), h.2.1 69), (nI (pB (rS_P S) (8 * j + i)), (0 : Int32), h.2.1 71, g), hx _ ?_, ?_, Or.inl ⟨rfl, rfl, rfl⟩, r⟩
        · unfold bX10_cell_23
          rw [x_need1, z_b, if_pos rfl, if_neg (show ¬ nI 1 = (0 : Int32) from d_10), if_pos p_11, z_ki hc (by omega), z_cl (by omega), xk.2 _ hc]
        · rw [if_neg (show ¬ (2 : Int32) ≤ nI 1 by decide), if_neg (show ¬ nI 1 = (0 : Int32) from d_10), z_ki hc (by omega), z_cl (by omega), mk.2 _ hc]
      | 2, _ =>
        refine ⟨((0 : Int32), nI (aS (rS_M S) (8 * j + i)), h.2.1 69), (nI (aS (rS_M S) (8 * j + i)), (0 : Int32), h.2.1 71, g), hx _ ?_, ?_, Or.inl ⟨rfl, rfl, rfl⟩, r⟩
        · unfold bX10_cell_23
          rw [x_need1, z_b, if_pos rfl, if_neg (show ¬ nI 2 = (0 : Int32) from d_20), if_neg (show ¬ nI 2 = (1 : Int32) by decide), if_pos p_22, x_state Mx hc hs, z_b]
        · rw [if_pos (show (2 : Int32) ≤ nI 2 by decide), if_pos p_22, z_ki (by omega) (by omega), z_cl (by omega), gs]
      | 3, _ =>
        refine ⟨((0 : Int32), nI (wd (aS (rS_M S)) (8 * j + i)), h.2.1 69), (nI (wd (aS (rS_M S)) (8 * j + i)), (0 : Int32), h.2.1 71, g), hx _ ?_, ?_, Or.inl ⟨rfl, rfl, rfl⟩, r⟩
        · unfold bX10_cell_23
          rw [x_need1, z_b, if_pos rfl, if_neg (show ¬ nI 3 = (0 : Int32) from d_30), if_neg (show ¬ nI 3 = (1 : Int32) by decide), if_neg (show ¬ nI 3 = (2 : Int32) by decide), x_wide Mx.1 hc (by omega), z_b]
        · rw [if_pos (show (2 : Int32) ≤ nI 3 by decide), if_neg (show ¬ nI 3 = (2 : Int32) by decide), z_ki (by omega) (by omega), z_cl (by omega), gs]
          by_cases q : aS (rS_M S) (8 * j + i) = 1
          · rw [q, if_pos p_11, m_wide P.1.2 e4.1 I.1 hc q (by omega), z_b]
          · rw [if_neg (show ¬ nI (aS (rS_M S) (8 * j + i)) = (1 : Int32) from fun z => q ((nI_eq (a := aS (rS_M S) (8 * j + i)) (b := 1) (by omega) (by omega)).mp z))]
            unfold wd
            rw [if_neg q]
            rfl
      | w + 4, hw => omega
    · rw [show f_X11_within u a3 (0 : Int32) (3 : Int32) = _ from e, z_b, m_needB0, z_b, if_pos rfl]
      exact ⟨_, _, r_ifR (n := 3) q, rfl, Or.inr (Or.inr ⟨rfl, rfl⟩), r_upd r (by omega)⟩
  · rw [e1, e2, z_b, z_b, if_neg d_10, if_pos rfl]
    exact ⟨_, _, rfl, rfl, Or.inr (Or.inl ⟨rfl, rfl⟩), r_upd r (by omega)⟩
theorem n_10 (hu : 700 ≤ u) (R : Rel S h) (a1 a2 : Int32) : N_10 u h a1 a2 := by
  obtain ⟨-, ⟨P, ⟨xw, xh, xa, xs, xc, xo, xk, xp, xor⟩, ⟨mw, mh, ms, mc, mo, mk, mp, mor⟩⟩, -, ⟨I, X, M⟩, -, -, ⟨r, -, -⟩, -, -⟩ := R
  have hfx := X.2.2.2.2.2.2.2.2.2.2.2.2
  have hfm := M.2.2.2.2.2.2.2.2.2.2.2.2
  have K := P.2.2.2.2.1
  unfold N_10
  rw [xo, mo]
  unfold f_X10_order bX10_order_0 f_X11_order bX11_order_0
  rcases d_ord (u := u) K.1 a1 (h.2.1 69) (h.2.1 71) with ⟨i, hi, rfl, e1, e2⟩ | ⟨e1, e2⟩
  · have hi6 : i < 6 := by have := K.1; omega
    rw [e1, e2, z_b, z_b, if_pos rfl, if_neg d_10]
    rcases d_to (u := u) (n := 3) (by omega) a2 with ⟨w, hw, rfl, q1, q2, e⟩ | ⟨q, e⟩
    · rw [show f_X11_within u (nI w) (0 : Int32) (3 : Int32) = _ from e, z_b, m_needB1, z_b, if_neg d_10]
      have e10 : ∀ k, (10 : Int32) * nI i + nI k = nI (10 * i + k) := fun k => by rw [show (10 : Int32) * nI i = nI (10 * i) from (Int32.ofNat_mul 10 i).symm, nI_add]
      match w, hw with
      | 0, _ =>
        refine ⟨((0 : Int32), nI (pT (rS_P S) i), h.2.1 69), (nI (pT (rS_P S) i), (0 : Int32), h.2.1 71), (r_ifG (n := 3) q1 q2).trans ?_, ?_, Or.inl ⟨rfl, rfl, rfl⟩, r⟩
        · unfold bX10_order_20
          rw [x_need1, z_b, if_pos rfl, if_pos p_00, z_ki hi6 (by omega), z_cl (by omega), xor.1 _ hi]
        · rw [if_neg (show ¬ (2 : Int32) ≤ nI 0 by decide), e10, z_ki (by omega) (by omega), z_cl (by omega)]
          rw [show 10 * i + 0 = 10 * i from rfl, mor.1 _ hi]
      | 1, _ =>
        refine ⟨((0 : Int32), nI (pZ (rS_P S) i), h.2.1 69), (nI (pZ (rS_P S) i), (0 : Int32), h.2.1 71), (r_ifG (n := 3) q1 q2).trans ?_, ?_, Or.inl ⟨rfl, rfl, rfl⟩, r⟩
        · unfold bX10_order_20
          rw [x_need1, z_b, if_pos rfl, if_neg (show ¬ nI 1 = (0 : Int32) from d_10), if_pos p_11, z_ki hi6 (by omega), z_cl (by omega), xor.2.1 _ hi]
        · rw [if_neg (show ¬ (2 : Int32) ≤ nI 1 by decide), e10, z_ki (by omega) (by omega), z_cl (by omega), mor.2.1 _ hi]
      | 2, _ =>
        refine ⟨((0 : Int32), nI (nsm (fun j => pP (rS_P S) (pN (rS_P S) i j)) (pZ (rS_P S) i)), h.2.1 69), (nI (nsm (fun j => pP (rS_P S) (pN (rS_P S) i j)) (pZ (rS_P S) i)), (0 : Int32), h.2.1 71), (r_ifG (n := 3) q1 q2).trans ?_, ?_, Or.inl ⟨rfl, rfl, rfl⟩, r⟩
        · unfold bX10_order_20
          rw [x_need1, z_b, if_pos rfl, if_neg (show ¬ nI 2 = (0 : Int32) from d_20), if_neg (show ¬ nI 2 = (1 : Int32) by decide), if_pos p_22, x_worth K xor xp (by omega) hi, z_b]
        · rw [if_pos (show (2 : Int32) ≤ nI 2 by decide), if_pos p_22, m_worth K mor mp (by omega) hi, z_b]
      | 3, _ =>
        refine ⟨((0 : Int32), aFa (rS_M S) i, h.2.1 69), (aFa (rS_M S) i, (0 : Int32), h.2.1 71), (r_ifG (n := 3) q1 q2).trans ?_, ?_, Or.inl ⟨rfl, rfl, rfl⟩, r⟩
        · unfold bX10_order_20
          rw [x_need1, z_b, if_pos rfl, if_neg (show ¬ nI 3 = (0 : Int32) from d_30), if_neg (show ¬ nI 3 = (1 : Int32) by decide), if_neg (show ¬ nI 3 = (2 : Int32) by decide), z_ki hi6 (by omega), z_cl (by omega)]
          exact congrArg (fun z => some ((0 : Int32), z, h.2.1 69)) (hfx i hi6)
        · rw [if_pos (show (2 : Int32) ≤ nI 3 by decide), if_neg (show ¬ nI 3 = (2 : Int32) by decide), show (63 : Int32) + nI i = nI (63 + i) from nI_add 63 i, z_ki (by omega) (by omega), z_cl (by omega), hfm i hi6]
      | w + 4, hw => omega
    · rw [show f_X11_within u a2 (0 : Int32) (3 : Int32) = _ from e, z_b, m_needB0, z_b, if_pos rfl]
      exact ⟨_, _, r_ifR (n := 3) q, rfl, Or.inr (Or.inr ⟨rfl, rfl⟩), r_upd r (by omega)⟩
  · rw [e1, e2, z_b, z_b, if_neg d_20, if_pos rfl]
    exact ⟨_, _, rfl, rfl, Or.inr (Or.inl ⟨rfl, rfl⟩), r_upd r (by omega)⟩
theorem n_11 (R : Rel S h) (a1 a2 : Int32) : N_11 u h a1 a2 := by
  obtain ⟨-, ⟨P, ⟨xw, xh, xa, xs, xc, xo, xk, xp, xor⟩, ⟨mw, mh, ms, mc, mo, mk, mp, mor⟩⟩, -, -, -, -, ⟨r, -, -⟩, -, -⟩ := R
  have K := P.2.2.2.2.1
  unfold N_11
  rw [xo, mo]
  unfold f_X10_note bX10_note_0 f_X11_note bX11_note_0
  rcases d_ord (u := u) K.1 a1 (h.2.1 69) (h.2.1 71) with ⟨i, hi, rfl, e1, e2⟩ | ⟨e1, e2⟩
  · have hi6 : i < 6 := by have := K.1; omega
    have hz := (K.2.1 i hi).2.2
    have e10 : ∀ k, (10 : Int32) * nI i + nI k = nI (10 * i + k) := fun k => by rw [show (10 : Int32) * nI i = nI (10 * i) from (Int32.ofNat_mul 10 i).symm, nI_add]
    rw [e1, e2, z_b, z_b, if_pos rfl, if_neg d_10, z_ki hi6 (by omega), z_cl (by omega), xor.2.1 _ hi, show (10 : Int32) * nI i + (1 : Int32) = nI (10 * i + 1) from e10 1, z_ki (by omega) (by omega), z_cl (by omega), mor.2.1 _ hi]
    have bad : ∃ o o', bX10_note_27 u (nI (pO (rS_P S))) (h.2.1 8) (h.2.1 9) (h.2.1 69) (nI i) a2 = some o ∧ bX11_note_38 u (nI (pO (rS_P S))) (h.2.1 80) (0 : Int32) (h.2.1 71) (nI i) a2 = some o' ∧ ((o.1 = 0 ∧ o'.2.1 = 0 ∧ o.2.1 = o'.1) ∨ (o.1 = 2 ∧ o'.2.1 = 1) ∨ (o.1 = 3 ∧ o'.2.1 = 2)) ∧ ∀ k, k < 3 → o.2.2 k = o'.2.2 k := by
      unfold bX11_note_38 bX11_note_39
      rw [m_needB0, z_b, if_pos rfl]
      exact ⟨_, _, rfl, rfl, Or.inr (Or.inr ⟨rfl, rfl⟩), r_upd r (by omega)⟩
    rcases d_in (x := a2) (n := pZ (rS_P S) i) (by omega) with ⟨k, hk, rfl, q1, q2, q3⟩ | q1 | ⟨q1, q2, q3⟩
    · rw [if_neg q1, if_neg q1, if_neg q2, if_neg q2]
      unfold bX10_note_28 bX11_note_39
      rw [x_need1, m_needB1, z_b, z_b, if_pos rfl, if_neg d_10, show (10 : Int32) * nI i + (2 : Int32) = nI (10 * i + 2) from e10 2, nI_add, z_ki (by omega) (by omega), z_cl (by omega), mor.2.2 _ _ hi hk, show nI i * (8 : Int32) + nI k = nI (8 * i + k) by rw [show nI i * (8 : Int32) = nI (i * 8) from (Int32.ofNat_mul i 8).symm, nI_add, Nat.mul_comm], z_ki (by omega) (by omega), z_cl (by omega), xor.2.2 _ _ hi hk]
      exact ⟨_, _, rfl, rfl, Or.inl ⟨rfl, rfl, rfl⟩, r⟩
    · rw [if_pos q1, if_pos q1]; exact bad
    · rw [if_neg q1, if_neg q1, if_pos q2, if_pos q2]; exact bad
  · rw [e1, e2, z_b, z_b, if_neg d_20, if_pos rfl]
    exact ⟨_, _, rfl, rfl, Or.inr (Or.inl ⟨rfl, rfl⟩), r_upd r (by omega)⟩
theorem n_9 (hu : 700 ≤ u) (R : Rel S h) (a1 a2 : Int32) : N_9 u h a1 a2 := by
  obtain ⟨-, ⟨P, ⟨xw, xh, xa, xs, xc, xo, xk, xp, xor⟩, ⟨mw, mh, ms, mc, mo, mk, mp, mor⟩⟩, -, ⟨I, X, M⟩, -, -, ⟨r, -, -⟩, -, -⟩ := R
  have M0 := M
  obtain ⟨Mx, hb, hsh, hdg, hpr, hwe, hpe, hlu, hra, hfe, hso, hgo, hfa⟩ := X
  obtain ⟨A, mb, m69, m70, m71, m74, m72, m73, m75, m76, mso, mgo, mfa⟩ := M
  unfold N_9
  unfold f_X10_kind bX10_kind_0 f_X11_kind bX11_kind_0
  have bad : ∃ o o', bX10_kind_21 u (h.2.1 4) (h.2.1 5) (h.2.1 6) (h.2.2.1 26 3) (h.2.2.1 26 4) (h.2.2.1 26 5) (h.2.1 27) (h.2.1 28) (h.2.1 29) (h.2.1 69) a1 a2 = some o ∧ bX11_kind_28 u (h.2.1 77) (h.2.1 78) (h.2.1 79) (h.2.1 90) (0 : Int32) (h.2.1 71) a1 a2 = some o' ∧ ((o.1 = 0 ∧ o'.2.1 = 0 ∧ o.2.1 = o'.1) ∨ (o.1 = 3 ∧ o'.2.1 = 1)) ∧ ∀ k, k < 3 → o.2.2 k = o'.2.2 k := by
    unfold bX11_kind_28 bX11_kind_29
    rw [m_need0, z_b, if_pos rfl]
    exact ⟨_, _, rfl, rfl, Or.inr ⟨rfl, rfl⟩, r_upd r (by omega)⟩
  rcases d_music (u := u) a1 with ⟨k, hk1, hk4, rfl, e1, e2⟩ | ⟨e1, e2⟩
  · have hk5 : k < 5 := by omega
    rw [e1, e2, z_b, z_b, if_neg d_10, if_neg d_10]
    rcases d_to (u := u) (n := 4) (by omega) a2 with ⟨w, hw, rfl, q1, q2, e⟩ | ⟨q, e⟩
    · rw [show f_X11_within u (nI w) (0 : Int32) (4 : Int32) = _ from e, z_b, if_neg d_10]
      unfold bX11_kind_29
      rw [m_need1, z_b, if_neg d_10]
      have fin : ∀ v : Int32, bX10_kind_22 u (h.2.1 4) (h.2.1 5) (h.2.1 6) (h.2.2.1 26 3) (h.2.2.1 26 4) (h.2.2.1 26 5) (h.2.1 27) (h.2.1 28) (h.2.1 29) (h.2.1 69) (nI k) (nI w) (1 : Int32) = some ((0 : Int32), v, h.2.1 69) → (if nI w ≤ (0 : Int32) then bX11_kind_106 u (h.2.1 77) (h.2.1 78) (h.2.1 79) (h.2.1 90) u (0 : Int32) (h.2.1 71) (nI k) (0 : Int32) (0 : Int32) else (if nI w = (1 : Int32) then k_i 77 ((48 : Int32) + nI k) (some ((h.2.1 90) (((48 : Int32) + nI k).toNatClampNeg), (0 : Int32), h.2.1 71)) else (if nI w = (2 : Int32) then k_i 77 ((53 : Int32) + nI k) (some ((h.2.1 90) (((53 : Int32) + nI k).toNatClampNeg), (0 : Int32), h.2.1 71)) else (if nI w = (3 : Int32) then k_i 77 ((58 : Int32) + nI k) (some ((h.2.1 90) (((58 : Int32) + nI k).toNatClampNeg), (0 : Int32), h.2.1 71)) else k_i 5 (nI k) (some ((h.2.1 79) ((nI k).toNatClampNeg), (0 : Int32), h.2.1 71)))))) = some (v, (0 : Int32), h.2.1 71) → ∃ o o', (if nI w < (0 : Int32) then bX10_kind_21 u (h.2.1 4) (h.2.1 5) (h.2.1 6) (h.2.2.1 26 3) (h.2.2.1 26 4) (h.2.2.1 26 5) (h.2.1 27) (h.2.1 28) (h.2.1 29) (h.2.1 69) (nI k) (nI w) else (if nI 4 < nI w then bX10_kind_21 u (h.2.1 4) (h.2.1 5) (h.2.1 6) (h.2.2.1 26 3) (h.2.2.1 26 4) (h.2.2.1 26 5) (h.2.1 27) (h.2.1 28) (h.2.1 29) (h.2.1 69) (nI k) (nI w) else bX10_kind_22 u (h.2.1 4) (h.2.1 5) (h.2.1 6) (h.2.2.1 26 3) (h.2.2.1 26 4) (h.2.2.1 26 5) (h.2.1 27) (h.2.1 28) (h.2.1 29) (h.2.1 69) (nI k) (nI w) (1 : Int32))) = some o ∧ (if nI w ≤ (0 : Int32) then bX11_kind_106 u (h.2.1 77) (h.2.1 78) (h.2.1 79) (h.2.1 90) u (0 : Int32) (h.2.1 71) (nI k) (0 : Int32) (0 : Int32) else (if nI w = (1 : Int32) then k_i 77 ((48 : Int32) + nI k) (some ((h.2.1 90) (((48 : Int32) + nI k).toNatClampNeg), (0 : Int32), h.2.1 71)) else (if nI w = (2 : Int32) then k_i 77 ((53 : Int32) + nI k) (some ((h.2.1 90) (((53 : Int32) + nI k).toNatClampNeg), (0 : Int32), h.2.1 71)) else (if nI w = (3 : Int32) then k_i 77 ((58 : Int32) + nI k) (some ((h.2.1 90) (((58 : Int32) + nI k).toNatClampNeg), (0 : Int32), h.2.1 71)) else k_i 5 (nI k) (some ((h.2.1 79) ((nI k).toNatClampNeg), (0 : Int32), h.2.1 71)))))) = some o' ∧ ((o.1 = 0 ∧ o'.2.1 = 0 ∧ o.2.1 = o'.1) ∨ (o.1 = 3 ∧ o'.2.1 = 1)) ∧ ∀ k, k < 3 → o.2.2 k = o'.2.2 k :=
        fun v hx hm => ⟨_, _, (r_ifG (n := 4) q1 q2).trans hx, hm, Or.inl ⟨rfl, rfl, rfl⟩, r⟩
      have ak : ∀ n, (nI n) + nI k = nI (n + k) := fun n => nI_add n k
      match w, hw with
      | 0, _ =>
        refine fin (nI (wb (rS_P S) (rS_M S) k)) ?_ ?_
        · unfold bX10_kind_22
          rw [x_need1, z_b, if_pos rfl, if_pos p_00, x_wb P I Mx xk (by omega) (by omega), z_b]
        · rw [if_pos (show nI 0 ≤ (0 : Int32) by decide)]
          exact m_wb P I mk M0 (by omega) (by omega) _ _
      | 1, _ =>
        refine fin (nI (aB (rS_M S) k)) ?_ ?_
        · unfold bX10_kind_22
          rw [x_need1, z_b, if_pos rfl, if_neg (show ¬ nI 1 = (0 : Int32) from d_10), if_pos p_11, z_ki (by omega) (by omega), z_cl (by omega)]
          exact congrArg (fun z => some ((0 : Int32), z, h.2.1 69)) (hb k hk5)
        · rw [if_neg (show ¬ nI 1 ≤ (0 : Int32) by decide), if_pos p_11, show (48 : Int32) + nI k = nI (48 + k) from ak 48, z_ki (by omega) (by omega), z_cl (by omega), mb k hk5]
      | 2, _ =>
        refine fin (aSo (rS_M S) k) ?_ ?_
        · unfold bX10_kind_22
          rw [x_need1, z_b, if_pos rfl, if_neg (show ¬ nI 2 = (0 : Int32) from d_20), if_neg (show ¬ nI 2 = (1 : Int32) by decide), if_pos p_22, z_ki (by omega) (by omega), z_cl (by omega)]
          exact congrArg (fun z => some ((0 : Int32), z, h.2.1 69)) (hso k hk5)
        · rw [if_neg (show ¬ nI 2 ≤ (0 : Int32) by decide), if_neg (show ¬ nI 2 = (1 : Int32) by decide), if_pos p_22, show (53 : Int32) + nI k = nI (53 + k) from ak 53, z_ki (by omega) (by omega), z_cl (by omega), mso k hk5]
      | 3, _ =>
        refine fin (aGo (rS_M S) k) ?_ ?_
        · unfold bX10_kind_22
          rw [x_need1, z_b, if_pos rfl, if_neg (show ¬ nI 3 = (0 : Int32) from d_30), if_neg (show ¬ nI 3 = (1 : Int32) by decide), if_neg (show ¬ nI 3 = (2 : Int32) by decide), if_pos (show nI 3 = (3 : Int32) from rfl), z_ki (by omega) (by omega), z_cl (by omega)]
          exact congrArg (fun z => some ((0 : Int32), z, h.2.1 69)) (hgo k hk5)
        · rw [if_neg (show ¬ nI 3 ≤ (0 : Int32) by decide), if_neg (show ¬ nI 3 = (1 : Int32) by decide), if_neg (show ¬ nI 3 = (2 : Int32) by decide), if_pos (show nI 3 = (3 : Int32) from rfl), show (58 : Int32) + nI k = nI (58 + k) from ak 58, z_ki (by omega) (by omega), z_cl (by omega), mgo k hk5]
      | 4, _ =>
        refine fin (nI (pP (rS_P S) k)) ?_ ?_
        · unfold bX10_kind_22
          rw [x_need1, z_b, if_pos rfl, if_neg (show ¬ nI 4 = (0 : Int32) by decide), if_neg (show ¬ nI 4 = (1 : Int32) by decide), if_neg (show ¬ nI 4 = (2 : Int32) by decide), if_neg (show ¬ nI 4 = (3 : Int32) by decide), z_ki (by omega) (by omega), z_cl (by omega), xp k hk5]
        · rw [if_neg (show ¬ nI 4 ≤ (0 : Int32) by decide), if_neg (show ¬ nI 4 = (1 : Int32) by decide), if_neg (show ¬ nI 4 = (2 : Int32) by decide), if_neg (show ¬ nI 4 = (3 : Int32) by decide), z_ki (by omega) (by omega), z_cl (by omega), mp k hk5]
      | w + 5, hw => omega
    · rw [show f_X11_within u a2 (0 : Int32) (4 : Int32) = _ from e, z_b, if_pos rfl]
      obtain ⟨o, o', g1, g2, g3⟩ := bad
      exact ⟨o, o', (r_ifR (n := 4) q).trans g1, g2, g3⟩
  · rw [e1, e2, z_b, z_b, if_pos rfl, if_pos rfl]
    exact bad
theorem n_27 (hu : 700 ≤ u) (R : Rel S h) (a1 a2 : Int32) : N_27 u h a1 a2 := by
  obtain ⟨-, ⟨P, ⟨xw, xh, xa, xs, xc, xo, xk, xp, xor⟩, ⟨mw, mh, ms, mc, mo, mk, mp, mor⟩⟩, -, ⟨I, X, M⟩, -, -, ⟨r, -, -⟩, -, -⟩ := R
  obtain ⟨Mx, hb, hsh, hdg, hpr, hwe, -⟩ := X
  have kb := P.2.2.2.2.2.1
  unfold N_27
  rw [mw, mh]
  have good : ∀ k w, 1 ≤ k → k ≤ 4 → w ≤ 1 → bX10_face_20 u (h.2.1 4) (h.2.2.1 26 3) (h.2.2.1 26 4) (h.2.2.1 26 5) (h.2.1 69) (nI k) (nI w) (1 : Int32) = some ((0 : Int32), fcV (pK (rS_P S)) (aS (rS_M S)) k w, h.2.1 69) ∧ f_X11_face u (h.2.1 70 0) (nI (pW (rS_P S))) (nI (pH (rS_P S))) (h.2.1 71) (h.2.1 77) (h.2.1 90) (nI k) (nI w) = some (fcV (pK (rS_P S)) (aS (rS_M S)) k w, (0 : Int32), h.2.1 71) := by
    intro k w h1 h4 hw
    refine ⟨?_, ?_⟩
    · unfold bX10_face_20
      rw [x_need1, z_b, if_pos rfl]
      have e := fun w (hw : w ≤ 1) => x_face (u := u) Mx (fun c hc => I.1.1 c hc) (a6 := h.2.1 4) (K := pK (rS_P S)) (fun c hc => ⟨(kb c hc).1, xk.1 c hc⟩) (k := k) (w := w) (by omega) hw (by omega)
      rcases (show w = 0 ∨ w = 1 by omega) with rfl | rfl
      · rw [if_neg (show ¬ nI 0 = (1 : Int32) by decide)]
        unfold bX10_face_38
        rw [show f_X3_longestFace u (h.2.2.1 26 3) (h.2.2.1 26 4) (h.2.2.1 26 5) (h.2.1 4) (nI k) (0 : Int32) = _ from e 0 (by omega), z_b]
      · rw [if_pos p_11]
        unfold bX10_face_38
        rw [show f_X3_longestFace u (h.2.2.1 26 3) (h.2.2.1 26 4) (h.2.2.1 26 5) (h.2.1 4) (nI k) (1 : Int32) = _ from e 1 (by omega), z_b]
    · refine m_faceY P.1.2 P.2.1.2 (fun c hc => ⟨(kb c hc).1, mk.1 c hc⟩) (fun c hc => ⟨I.1.1 c hc, M.1 c hc⟩) h1 h4 hw (by omega) ?_
      intro y i hy hi ho hk
      have hc : 8 * y + i < 48 := by omega
      have hg : inG (pW (rS_P S)) (pH (rS_P S)) (8 * y + i) = false := by
        unfold inG
        rw [show (8 * y + i) % 8 = i by omega, show (8 * y + i) / 8 = y by omega]
        rcases ho with ho | ho
        · rw [decide_eq_false (by omega)]; rfl
        · rw [decide_eq_false (show ¬ y < pH (rS_P S) by omega), Bool.and_false]
      have := ((kb _ hc).2.2.2 hg).1
      omega
  have bad : ∃ o o', bX10_face_19 u (h.2.1 4) (h.2.2.1 26 3) (h.2.2.1 26 4) (h.2.2.1 26 5) (h.2.1 69) a1 a2 = some o ∧ bX11_face_28 u (nI (pW (rS_P S))) (nI (pH (rS_P S))) (h.2.1 77) (h.2.1 90) (0 : Int32) (h.2.1 71) a1 a2 = some o' ∧ ((o.1 = 0 ∧ o'.2.1 = 0 ∧ o.2.1 = o'.1) ∨ (o.1 = 3 ∧ o'.2.1 = 1)) ∧ ∀ k, k < 3 → o.2.2 k = o'.2.2 k := by
    unfold bX11_face_28 bX11_face_29
    rw [m_need0, z_b, if_pos rfl]
    exact ⟨_, _, rfl, rfl, Or.inr ⟨rfl, rfl⟩, r_upd r (by omega)⟩
  rcases d_music (u := u) a1 with ⟨k, hk1, hk4, rfl, e1, e2⟩ | ⟨e1, e2⟩
  · rcases d_either (u := u) a2 with ⟨q, e3, e4⟩ | ⟨e3, e4⟩
    · obtain ⟨w, hw, rfl⟩ : ∃ w, w ≤ 1 ∧ a2 = nI w := by
        rcases q with rfl | rfl
        · exact ⟨0, by omega, rfl⟩
        · exact ⟨1, by omega, rfl⟩
      obtain ⟨g1, g2⟩ := good k w hk1 hk4 hw
      refine ⟨((0 : Int32), fcV (pK (rS_P S)) (aS (rS_M S)) k w, h.2.1 69), _, ?_, g2, Or.inl ⟨rfl, rfl, rfl⟩, r⟩
      unfold f_X10_face bX10_face_0
      rw [e1, z_b, if_neg d_10, e3, z_b, if_neg d_10, g1]
    · unfold f_X10_face bX10_face_0 f_X11_face bX11_face_0
      rw [e1, e2, z_b, z_b, if_neg d_10, if_neg d_10, e3, e4, z_b, z_b, if_pos rfl, if_pos rfl]
      exact bad
  · unfold f_X10_face bX10_face_0 f_X11_face bX11_face_0
    rw [e1, e2, z_b, z_b, if_pos rfl, if_pos rfl]
    exact bad
end NQ3
