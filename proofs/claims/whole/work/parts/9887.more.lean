/-! QUERIES: owners, decades, sums, rows -/
section NQ4
variable {u : Nat} {S : aT} {h : k_H}
theorem r_wi0 {x lo hi : Int32} (e : f_X11_within u x lo hi = some (0 : Int32)) : (decide (lo ≤ x) && decide (x ≤ hi)) = false := by
  have h1 := Option.some.inj ((m_within (u := u) x lo hi).symm.trans e)
  cases hb : (decide (lo ≤ x) && decide (x ≤ hi)) with
  | false => rfl
  | true => rw [hb] at h1; exact absurd h1 (by decide)
theorem n_26 (hu : 700 ≤ u) (R : Rel S h) (a1 a2 a3 : Int32) : N_26 u h a1 a2 a3 := by
  obtain ⟨-, ⟨P, ⟨xw, xh, xa, xs, xc, xo, xk, xp, xor⟩, ⟨mw, mh, ms, mc, mo, mk, mp, mor⟩⟩, -, -, -, -, ⟨r, -, -⟩, -, -⟩ := R
  unfold N_26
  unfold f_X10_owners bX10_owners_0
  have badm : ∀ v1 v2 v3 : Int32, ((decide ((1 : Int32) ≤ v1) && decide (v1 ≤ (4 : Int32))) && (decide ((0 : Int32) ≤ v2) && decide (v2 ≤ (20 : Int32))) && (decide ((0 : Int32) ≤ v3) && decide (v3 ≤ (2 : Int32)))) = false → f_X11_owners u (h.2.1 70 0) (h.2.1 71) (h.2.1 79) v1 v2 v3 = some (nI 0, nI 1, upd (h.2.1 71) 2 (h.2.1 71 2 + (1 : Int32))) := fun v1 v2 v3 z => m_ownersN z
  rcases d_music (u := u) a1 with ⟨k, hk1, hk4, rfl, e1, e2⟩ | ⟨e1, e2⟩
  · rcases d_to (u := u) (n := 20) (by omega) a2 with ⟨n, hn, rfl, q1, q2, e3⟩ | ⟨q, e3⟩
    · rcases d_to (u := u) (n := 2) (by omega) a3 with ⟨w, hw, rfl, p1, p2, e4⟩ | ⟨p, e4⟩
      · have hP : pP (rS_P S) k ≤ 99 := P.2.2.2.2.2.2 k (by omega)
        obtain ⟨d1, d2, d3, a2', f1, f2, f3, f4⟩ := x_rests (u := u) (P := pP (rS_P S) k) (N := n) (c1 := h.2.1 67 1) (c2 := h.2.1 67 2) (c3 := h.2.1 67 3) (a1 := h.2.1 68) hP (by omega) (by omega)
        rw [show min 20 n = n by omega] at f2 f3 f4
        rw [m_ownersY hk1 hk4 hP (mp k (by omega)) hn (by omega) hw, e1, z_b, if_neg d_10, if_neg q1, if_neg (show ¬ (20 : Int32) < nI n from q2), if_neg p1, if_neg (show ¬ (2 : Int32) < nI w from p2)]
        unfold bX10_owners_32
        rw [x_need1, z_b, if_pos rfl, z_ki (by omega) (by omega), z_cl (by omega), xp k (by omega), f1, z_b]
        match w, hw with
        | 0, _ => exact ⟨_, _, rfl, rfl, Or.inl ⟨rfl, rfl, f2⟩, r⟩
        | 1, _ => exact ⟨_, _, rfl, rfl, Or.inl ⟨rfl, rfl, f3⟩, r⟩
        | 2, _ => exact ⟨_, _, rfl, rfl, Or.inl ⟨rfl, rfl, f4⟩, r⟩
        | w + 3, h => omega
      · rw [badm _ _ _ (by rw [r_wi0 (u := u) (lo := 0) (hi := 2) e4, Bool.and_false]), e1, z_b, if_neg d_10, if_neg q1, if_neg (show ¬ (20 : Int32) < nI n from q2)]
        exact ⟨_, _, r_ifR (n := 2) p, rfl, Or.inr ⟨rfl, rfl⟩, r_upd r (by omega)⟩
    · rw [badm _ _ _ (by rw [r_wi0 (u := u) (lo := 0) (hi := 20) e3, Bool.and_false, Bool.false_and]), e1, z_b, if_neg d_10]
      exact ⟨_, _, r_ifR (n := 20) q, rfl, Or.inr ⟨rfl, rfl⟩, r_upd r (by omega)⟩
  · rw [badm _ _ _ (by rw [r_wi0 (u := u) (lo := 1) (hi := 4) e2, Bool.false_and, Bool.false_and]), e1, z_b, if_pos rfl]
    exact ⟨_, _, rfl, rfl, Or.inr ⟨rfl, rfl⟩, r_upd r (by omega)⟩
theorem r_cp6 (a b : Nat → Int32) {j : Nat} (hj : j < 6) : va_cpy a b 0 0 6 j = a j := sb_cpy0 hj
theorem xMine_cp {m : aM} {s d pr pe lu we ra fe : Int32} {x y z : Int64} {b1 b2 b3 b4 : Nat → Int32} (X : xMine m s d pr pe lu we ra fe x y z b1 b2 b3 b4) (c1 c2 c3 c4 : Nat → Int32) : xMine m s d pr pe lu we ra fe x y z (va_cpy b1 c1 0 0 6) (va_cpy b2 c2 0 0 6) (va_cpy b3 c3 0 0 6) (va_cpy b4 c4 0 0 6) := by
  obtain ⟨Mx, hb, h1, h2, h3, h4, h5, h6, h7, h8, hso, hgo, hfa⟩ := X
  exact ⟨Mx, fun k hk => by rw [r_cp6 _ _ (by omega)]; exact hb k hk, h1, h2, h3, h4, h5, h6, h7, h8, fun k hk => by rw [r_cp6 _ _ (by omega)]; exact hso k hk, fun k hk => by rw [r_cp6 _ _ (by omega)]; exact hgo k hk, fun k hk => by rw [r_cp6 _ _ hk]; exact hfa k hk⟩
/-- the class plays a decade in a mine of its own -/
theorem r_play (hu : 700 ≤ u) (R : Rel S h) (x : Int32) {q sf : Nat} (hq : q ≤ 16) (hs : sf ≤ 40) (d1 d2 d3 d4 e10 e11 e12 e13 e14 e15 e16 e17 : Int32) (e3 e4 e5 : Int64) (b2 b3 b4 b5 s15 s18 : Nat → Int32) :
    ∃ o, f_X0_play u d1 d2 d3 d4 e10 e11 e12 e13 e14 e15 e16 e17 e3 e4 e5 b2 b3 b4 b5 (h.2.1 3 8) (h.2.1 3 10) (h.2.2.1 3 5) (h.2.2.1 3 6) (h.2.1 4) (h.2.1 5) (h.2.1 6) (h.2.1 7) (h.2.1 8) (h.2.1 9) (h.2.1 17 2) (h.2.1 18) s15 (h.2.1 20 2) (h.2.1 21) s18 (h.2.1 26 10) (h.2.1 26 11) (h.2.1 26 12) (h.2.1 26 13) (h.2.1 26 14) (h.2.1 26 15) (h.2.1 26 16) (h.2.1 26 17) (h.2.2.1 26 3) (h.2.2.1 26 4) (h.2.2.1 26 5) (h.2.1 27) (h.2.1 28) (h.2.1 29) (h.2.1 30) x (nI q) (nI sf) = some o ∧ o.1 = aRa (decG dv sd (rS_F S) (rS_H S) (rS_P S) q sf (rS_M S) 0 x).1 - aRa (rS_M S) ∧ o.2.1 = aFe (decG dv sd (rS_F S) (rS_H S) (rS_P S) q sf (rS_M S) 0 x).1 - aFe (rS_M S) ∧ o.2.2.1 = (decG dv sd (rS_F S) (rS_H S) (rS_P S) q sf (rS_M S) 0 x).2 ∧ o.2.2.2.1 = aLu (decG dv sd (rS_F S) (rS_H S) (rS_P S) q sf (rS_M S) 0 x).1 - aLu (rS_M S) := by
  obtain ⟨-, ⟨P, E, -⟩, ⟨-, -, xF, xH, -, -⟩, ⟨I, X, -⟩, -⟩ := R
  have hra := X.2.2.2.2.2.2.2.2.1
  have hfe := X.2.2.2.2.2.2.2.2.2.1
  have hlu := X.2.2.2.2.2.2.2.1
  obtain ⟨o, e, -, -, o1, o2, o3, o4⟩ := x_dec (u := u) (y10 := h.2.1 26 10) (y11 := h.2.1 26 11) (y12 := h.2.1 26 12) (y13 := h.2.1 26 13) (y14 := h.2.1 26 14) (y15 := h.2.1 26 15) (y16 := h.2.1 26 16) (y17 := h.2.1 26 17) (y3 := h.2.2.1 26 3) (y4 := h.2.2.1 26 4) (y5 := h.2.2.1 26 5) (z20 := h.2.1 27) (z21 := h.2.1 28) (z22 := h.2.1 29) (z23 := h.2.1 30) P E xF xH (by omega) hq hs sf 0 u (rS_M S) 0 x (d1, d2, (0 : Int32), d4, h.2.1 26 10, h.2.1 26 11, h.2.1 26 12, h.2.1 26 13, h.2.1 26 14, h.2.1 26 15, h.2.1 26 16, h.2.1 26 17, h.2.2.1 26 3, h.2.2.1 26 4, h.2.2.1 26 5, va_cpy (h.2.1 27) b2 0 0 6, va_cpy (h.2.1 28) b3 0 0 6, va_cpy (h.2.1 29) b4 0 0 6, va_cpy (h.2.1 30) b5 0 0 6, s15, s18) (by omega) (by omega) I rfl (xMine_cp X b2 b3 b4 b5)
  refine ⟨o, e, ?_, ?_, ?_, ?_⟩
  · rw [← hra]; exact o1
  · rw [← hfe]; exact o2
  · exact o3
  · rw [← hlu]; exact o4
/-- the reference plays it -/
theorem r_goes (hu : 700 ≤ u) (R : Rel S h) (x : Int32) {q sf : Nat} (hq : q ≤ 16) (hs : sf ≤ 40) (c62 c63 : Int32) (b16 b17 b21 b23 b24 : Nat → Int32) :
    ∃ o, f_X11_goesOn u (h.2.1 70 25) (h.2.1 70 26) (h.2.1 70 27) (h.2.1 70 28) (h.2.1 70 30) c62 c63 (h.2.1 77) (h.2.1 78) (h.2.1 79) (h.2.1 80) (h.2.1 83) (h.2.1 84) (h.2.1 85) b16 b17 (h.2.1 90) b21 b23 b24 x (nI q) (nI sf) = some o ∧ o.2.1 = (decG dv sd (rS_F S) (rS_H S) (rS_P S) q sf (rS_M S) 0 x).2 ∧ mMine (decG dv sd (rS_F S) (rS_H S) (rS_P S) q sf (rS_M S) 0 x).1 o.2.2.2.2.1 := by
  obtain ⟨-, ⟨P, -, E⟩, ⟨lF, lH, -, -, mF, mH⟩, ⟨I, -, M⟩, -⟩ := R
  obtain ⟨g, e1, e2⟩ := m_take (u := u) (by omega) M b21
  obtain ⟨y, f16, f17, f, f23, f24, e, e3⟩ := m_dec (u := u) (a20 := h.2.1 90) P E mF mH lF lH (by omega) hq hs sf 0 u (rS_M S) 0 x b16 b17 g b23 b24 (by omega) (by omega) I e2
  refine ⟨(y, (decG dv sd (rS_F S) (rS_H S) (rS_P S) q sf (rS_M S) 0 x).2, f16, f17, f, f23, f24), ?_, rfl, e3⟩
  unfold f_X11_goesOn bX11_goesOn_0
  rw [e1, z_b]
  exact e
theorem d_dec (q s : Int32) : (∃ i j, i ≤ 16 ∧ 1 ≤ j ∧ j ≤ 40 ∧ q = nI i ∧ s = nI j ∧ f_X10_isDecade u q s = some (1 : Int32) ∧ f_X11_isDecade u q s = some (1 : Int32)) ∨ (f_X10_isDecade u q s = some (0 : Int32) ∧ f_X11_isDecade u q s = some (0 : Int32)) := by
  unfold f_X10_isDecade bX10_isDecade_0 f_X11_isDecade bX11_isDecade_0
  by_cases h1 : q < 0
  · exact Or.inr ⟨if_pos h1, if_pos h1⟩
  · by_cases h2 : (16 : Int32) < q
    · exact Or.inr ⟨by rw [if_neg h1, if_pos h2], by rw [if_neg h1, if_pos h2]⟩
    · by_cases h3 : s < 1
      · exact Or.inr ⟨by rw [if_neg h1, if_neg h2, if_pos h3], by rw [if_neg h1, if_neg h2, if_pos h3]⟩
      · by_cases h4 : (40 : Int32) < s
        · exact Or.inr ⟨by rw [if_neg h1, if_neg h2, if_neg h3, if_pos h4], by rw [if_neg h1, if_neg h2, if_neg h3, if_pos h4]⟩
        · obtain ⟨i, hi, rfl⟩ := nI_of h1
          obtain ⟨j, hj, rfl⟩ := nI_of (fun z => h3 (Int32.lt_iff_toInt_lt.mpr (Int.lt_trans (Int32.lt_iff_toInt_lt.mp z) (by decide))))
          exact Or.inl ⟨i, j, Nat.le_of_not_lt (fun z => h2 (nI_lt (a := 16) (b := i) z hi)), Nat.le_of_not_lt (fun z => h3 (nI_lt (a := j) (b := 1) z (by omega))), Nat.le_of_not_lt (fun z => h4 (nI_lt (a := 40) (b := j) z hj)), rfl, rfl, by rw [if_neg h1, if_neg h2, if_neg h3, if_neg h4], by rw [if_neg h1, if_neg h2, if_neg h3, if_neg h4]⟩
set_option maxRecDepth 4000 in
theorem n_30 (hu : 700 ≤ u) (R : Rel S h) (a1 a2 a3 a4 : Int32) : N_30 u h a1 a2 a3 a4 := by
  have r := R.2.2.2.2.2.2.1.1
  have M := R.2.2.2.1.2.2
  have m75 := M.2.2.2.2.2.2.2.2.1
  have m76 := M.2.2.2.2.2.2.2.2.2.1
  have m73 := M.2.2.2.2.2.2.2.1
  unfold N_30
  unfold f_X10_decade bX10_decade_0 f_X11_decade bX11_decade_0
  rcases d_dec (u := u) a2 a3 with ⟨q, sf, hq, hs1, hs, rfl, rfl, e1, e2⟩ | ⟨e1, e2⟩
  · rw [e1, e2, z_b, z_b, if_neg d_10, if_neg d_10]
    rcases d_to (u := u) (n := 3) (by omega) a4 with ⟨w, hw, rfl, q1, q2, e⟩ | ⟨p, e⟩
    · rw [show f_X11_within u (nI w) (0 : Int32) (3 : Int32) = _ from e, z_b, if_neg d_10, if_neg q1, if_neg (show ¬ (3 : Int32) < nI w from q2)]
      unfold bX10_decade_25 bX11_decade_29
      obtain ⟨o, f1, o1, o2, o3, o4⟩ := r_play hu R a1 hq hs (h.2.1 61 1) (h.2.1 61 2) (h.2.1 61 3) (h.2.1 61 4) (h.2.1 62 10) (h.2.1 62 11) (h.2.1 62 12) (h.2.1 62 13) (h.2.1 62 14) (h.2.1 62 15) (h.2.1 62 16) (h.2.1 62 17) (h.2.2.1 62 3) (h.2.2.1 62 4) (h.2.2.1 62 5) (h.2.1 63) (h.2.1 64) (h.2.1 65) (h.2.1 66) (h.2.1 19) (h.2.1 22)
      obtain ⟨t, f2, t1, t2⟩ := r_goes hu R a1 hq hs (h.2.1 70 62) (h.2.1 70 63) (h.2.1 86) (h.2.1 87) (h.2.1 91) (h.2.1 93) (h.2.1 94)
      have t75 := t2.2.2.2.2.2.2.2.2.1
      have t76 := t2.2.2.2.2.2.2.2.2.2.1
      have t73 := t2.2.2.2.2.2.2.2.1
      rw [x_need1, m_need1, z_b, z_b, if_pos rfl, if_neg d_10, f1, z_b, f2, z_b]
      match w, hw with
      | 0, _ => exact ⟨_, _, rfl, rfl, Or.inl ⟨rfl, rfl, by rw [show _ = o.1 from rfl]; show o.1 = t.2.2.2.2.1 75 - h.2.1 90 75; rw [o1, t75, m75]⟩, r⟩
      | 1, _ => exact ⟨_, _, rfl, rfl, Or.inl ⟨rfl, rfl, by show o.2.1 = t.2.2.2.2.1 76 - h.2.1 90 76; rw [o2, t76, m76]⟩, r⟩
      | 2, _ => exact ⟨_, _, rfl, rfl, Or.inl ⟨rfl, rfl, by show o.2.2.1 = t.2.1; rw [o3, t1]⟩, r⟩
      | 3, _ => exact ⟨_, _, rfl, rfl, Or.inl ⟨rfl, rfl, by show o.2.2.2.1 = t.2.2.2.2.1 73 - h.2.1 90 73; rw [o4, t73, m73]⟩, r⟩
      | w + 4, h => omega
    · rw [show f_X11_within u a4 (0 : Int32) (3 : Int32) = _ from e, z_b, if_pos rfl]
      unfold bX11_decade_28 bX11_decade_29
      rw [m_need0, z_b, if_pos rfl]
      exact ⟨_, _, r_ifR (n := 3) p, rfl, Or.inr ⟨rfl, rfl⟩, r_upd r (by omega)⟩
  · rw [e1, e2, z_b, z_b, if_pos rfl, if_pos rfl]
    unfold bX11_decade_28 bX11_decade_29
    rw [m_need0, z_b, if_pos rfl]
    exact ⟨_, _, rfl, rfl, Or.inr ⟨rfl, rfl⟩, r_upd r (by omega)⟩
end NQ4
