/-! BOOK, the call -/
section BKQ
variable {u : Nat} {S : aT} {h : k_H}
/-- a picture of the next call -/
def nxt (h h3 : k_H) : Prop := (∃ S', Rel S' h3) ∧ h3.1.length ≤ h.1.length + 85
theorem rZ_TX {N : Nat} {b : Nat → Nat} {x : Nat → Int32} {y : Nat → Int32} (hN : N ≤ 600) (tb : ∀ i, i < N → b i < 256 ∧ y i = nI (b i) ∧ x i = (nI (b i)).toInt8.toInt32) {n : Nat} (hn : n ≤ N) : TXT b n x y := ⟨by omega, fun i hi => by
  obtain ⟨h1, h2, h3⟩ := tb i (by omega)
  exact ⟨h1, h3, h2⟩⟩
def N_4 (u : Nat) (h : k_H) (a1 : Int32) : Prop := ∃ o o', f_X10_book u (h.2.1 1 1) (h.2.1 1 2) (h.2.1 1 3) (h.2.1 1 4) (h.2.1 1 5) (h.2.1 1 6) (h.2.1 2) (h.2.1 58 3) (h.2.1 59) (h.2.1 60) (h.2.1 69) a1 = some o ∧ f_X11_book u (h.2.1 70 0) (h.2.1 70 2) (h.2.1 70 3) (h.2.1 70 4) (h.2.1 70 5) (h.2.1 70 6) (h.2.1 70 7) (h.2.1 70 8) (h.2.1 70 54) (h.2.1 71) (h.2.1 72) (h.2.1 95) (h.2.1 96) a1 = some o' ∧ ((o.1 = 0 ∧ o'.2.1 = 0 ∧ o.2.1 = o'.1) ∨ (o.1 = 3 ∧ o'.2.1 = 1)) ∧ (∀ k, k < 3 → o.2.2.2.2.2.2.2.2.2.2.2 k = o'.2.2.2.2.2.2.2.2.2.2.1 k) ∧ o.2.2.2.2.2.2.2.1 = o'.2.2.2.2.2.2.2.2.1 ∧ (∃ N, o.2.2.1 = nI N ∧ o'.2.2.1 = nI N ∧ N ≤ 600 ∧ ∃ b : Nat → Nat, ∀ i, i < N → b i < 256 ∧ h.2.1 72 i = nI (b i) ∧ h.2.1 2 i = (nI (b i)).toInt8.toInt32) ∧ ∃ (L : Nat) (bk : Nat → Nat × Nat), L ≤ 8 ∧ o.2.2.2.2.2.2.2.2.1 = nI L ∧ o'.2.2.2.2.2.2.2.2.2.1 = nI L ∧ (∀ i, i < L → (bk i).1 < 8 ∧ (bk i).2 ≤ 6 ∧ o'.2.2.2.2.2.2.2.2.2.2.2.2 (2 * i) = nI (bk i).1 ∧ o'.2.2.2.2.2.2.2.2.2.2.2.2 (2 * i + 1) = nI (bk i).2 ∧ o.2.2.2.2.2.2.2.2.2.1 (bk i).1 = nI (bk i).2) ∧ (∀ i j, i < L → j < L → (bk i).1 = (bk j).1 → i = j) ∧ ∀ x, x < 8 → (∀ i, i < L → (bk i).1 ≠ x) → o.2.2.2.2.2.2.2.2.2.1 x = -1
theorem n_4 (hu : 700 ≤ u) (R : Rel S h) (a1 : Int32) : N_4 u h a1 := by
  obtain ⟨-, -, -, -, ⟨bL, b1, b2, b3, b4, b5⟩, ⟨N, b, hN, t1, t2, tb⟩, ⟨r, rf, -⟩, -, -⟩ := R
  unfold N_4
  rw [t1, t2]
  unfold f_X10_book bX10_book_0 f_X11_book bX11_book_0
  rcases d_text (N := N) (most := 100) (by omega) (by omega) a1 with ⟨n, h1, h2, rfl, q0, q1, q2⟩ | hbad
  · have T := rZ_TX hN tb h1
    rw [if_neg q0, if_neg q2, if_neg (show ¬ (100 : Int32) < nI n from q1)]
    rw [show f_X10_takeText u (nI N) (h.2.1 1 2) (h.2.1 1 3) (h.2.1 1 4) (h.2.1 1 5) (h.2.1 1 6) (h.2.1 69) (nI n) (100 : Int32) = _ from x_take1 (most := 100) (nI n) _ _ _ _ _ _ (by omega) rfl q0 q1 q2, z_b, if_pos rfl]
    unfold bX11_book_29
    rw [m_need1, z_b, if_neg d_10]
    unfold f_X11_begins bX11_begins_0
    rw [z_b]
    obtain ⟨A, fa, fb, -⟩ := fill_ (u := u) (by omega) (h.2.1 60) (ln := 8) (by omega) (-1 : Int32)
    obtain ⟨o, o', e1, e2, k1, k2, k3, k4, k5⟩ := bk_sim T hu (h.2.1 59) (h.2.1 96) (h.2.1 58 3) (0 : Int32) (0 : Int32) (0 : Int32) (-1 : Int32) (h.2.1 70 54) (h.2.1 71) 9 0 (fun _ => (0, 0)) A (h.2.1 95) (0 : Int32) 0 (0 : Int32) 0 u u (h.2.1 70 6) (by omega) (by omega) (by omega) (by omega) (by omega) ⟨by omega, fun i hi => absurd hi (Nat.not_lt_zero i), fun i j hi => absurd hi (Nat.not_lt_zero i), fun x hx _ => fb x hx, fun x _ => b_0 x⟩
    unfold f_X9_read bX9_read_0
    rw [fa, z_b, show bX9_read_12 u (nI n) (h.2.1 2) u (h.2.1 58 3) (h.2.1 59) A (0 : Int32) (0 : Int32) (0 : Int32) (-1 : Int32) (0 : Int32) (0 : Int32) = _ from e1, z_b]
    rcases k5 with ⟨g0, L, bk, ⟨A2, A25, v, hI, g1, g2⟩, g3, g4, g5⟩ | ⟨g0, g1, g2, g3, g4, g5⟩
    · obtain ⟨i0, i1, i2, i3, -⟩ := hI
      rw [show f_X8_good u o.2.2.2.2.2.1 = some (1 : Int32) by rw [g0]; rfl, z_b, if_neg d_10]
      refine ⟨_, o', rfl, e2, Or.inl ⟨rfl, k1, g3.trans g4.symm⟩, ?_, k4, ⟨0, rfl, k2, by omega, b, fun i hi => absurd hi (Nat.not_lt_zero i)⟩, L, bk, i0, g3, g5, fun i hi => ?_, i2, fun x hx hn => ?_⟩
      · intro k hk
        rw [k3]
        exact r k hk
      · obtain ⟨j1, j2, j3, j4, j5⟩ := i1 i hi
        exact ⟨j1, j2, by rw [g2 _ (by omega)]; exact j3, by rw [g2 _ (by omega)]; exact j4, (g1 _ j1).trans j5⟩
      · exact (g1 x hx).trans (i3 x hx hn)
    · rw [t_goodF g0, z_b, if_pos rfl]
      refine ⟨_, o', rfl, e2, Or.inl ⟨rfl, k1, g3.symm⟩, ?_, k4, ⟨0, rfl, k2, by omega, b, fun i hi => absurd hi (Nat.not_lt_zero i)⟩, rS_L S, rS_B S, bL, g1.trans b1, g4.trans b2, fun i hi => ?_, b4, fun x hx hn => ?_⟩
      · intro k hk
        rw [k3]
        exact r k hk
      · obtain ⟨j1, j2, j3, j4, j5⟩ := b3 i hi
        exact ⟨j1, j2, by rw [g5]; exact j3, by rw [g5]; exact j4, by show o.2.1 _ = _; rw [g2]; exact j5⟩
      · show o.2.1 x = -1
        rw [g2]
        exact b5 x hx hn
  · rw [show f_X10_takeText u (nI N) (h.2.1 1 2) (h.2.1 1 3) (h.2.1 1 4) (h.2.1 1 5) (h.2.1 1 6) (h.2.1 69) a1 (100 : Int32) = _ from x_take0 (most := 100) a1 _ _ _ _ _ _ hbad, z_b, if_neg d_30]
    have hm : (if a1 < 0 then bX11_book_28 u (h.2.1 72) (0 : Int32) (nI N) (h.2.1 70 3) (h.2.1 70 4) (h.2.1 70 5) (h.2.1 70 6) (h.2.1 70 7) (h.2.1 70 8) (h.2.1 70 54) (h.2.1 71) (h.2.1 95) (h.2.1 96) a1 else (if nI N < a1 then bX11_book_28 u (h.2.1 72) (0 : Int32) (nI N) (h.2.1 70 3) (h.2.1 70 4) (h.2.1 70 5) (h.2.1 70 6) (h.2.1 70 7) (h.2.1 70 8) (h.2.1 70 54) (h.2.1 71) (h.2.1 95) (h.2.1 96) a1 else (if (100 : Int32) < a1 then bX11_book_28 u (h.2.1 72) (0 : Int32) (nI N) (h.2.1 70 3) (h.2.1 70 4) (h.2.1 70 5) (h.2.1 70 6) (h.2.1 70 7) (h.2.1 70 8) (h.2.1 70 54) (h.2.1 71) (h.2.1 95) (h.2.1 96) a1 else bX11_book_29 u (h.2.1 72) (0 : Int32) (nI N) (h.2.1 70 3) (h.2.1 70 4) (h.2.1 70 5) (h.2.1 70 6) (h.2.1 70 7) (h.2.1 70 8) (h.2.1 70 54) (h.2.1 71) (h.2.1 95) (h.2.1 96) a1 (1 : Int32)))) = some ((0 : Int32), (1 : Int32), nI N, h.2.1 70 3, h.2.1 70 4, h.2.1 70 5, h.2.1 70 6, h.2.1 70 7, h.2.1 70 8, h.2.1 70 54, upd (h.2.1 71) 2 (h.2.1 71 2 + (1 : Int32)), h.2.1 95, h.2.1 96) := by
      have e : bX11_book_28 u (h.2.1 72) (0 : Int32) (nI N) (h.2.1 70 3) (h.2.1 70 4) (h.2.1 70 5) (h.2.1 70 6) (h.2.1 70 7) (h.2.1 70 8) (h.2.1 70 54) (h.2.1 71) (h.2.1 95) (h.2.1 96) a1 = some ((0 : Int32), (1 : Int32), nI N, h.2.1 70 3, h.2.1 70 4, h.2.1 70 5, h.2.1 70 6, h.2.1 70 7, h.2.1 70 8, h.2.1 70 54, upd (h.2.1 71) 2 (h.2.1 71 2 + (1 : Int32)), h.2.1 95, h.2.1 96) := by
        unfold bX11_book_28 bX11_book_29
        rw [m_need0, z_b, if_pos rfl]
      rw [e]
      by_cases z0 : a1 < 0
      · rw [if_pos z0]
      · rw [if_neg z0]
        by_cases z1 : nI N < a1
        · rw [if_pos z1]
        · rw [if_neg z1]
          by_cases z2 : (100 : Int32) < a1
          · rw [if_pos z2]
          · rcases hbad with w | w | w
            · exact absurd w z0
            · exact absurd w z2
            · exact absurd w z1
    exact ⟨_, _, rfl, hm, Or.inr ⟨rfl, rfl⟩, r_upd r (by omega), rf, ⟨N, rfl, rfl, hN, b, tb⟩, rS_L S, rS_B S, bL, b1, b2, b3, b4, b5⟩
theorem Rel_bk (R : Rel S h) {h' : k_H} (e1 : h'.1 = h.1) (e2 : h'.2.2.2 = h.2.2.2) (E : ∀ p, pcA p = true → Kp h h' p) (f25 : h'.2.1 70 25 = h.2.1 70 25) (f26 : h'.2.1 70 26 = h.2.1 70 26) (f27 : h'.2.1 70 27 = h.2.1 70 27) (f28 : h'.2.1 70 28 = h.2.1 70 28) (f30 : h'.2.1 70 30 = h.2.1 70 30) (f42 : h'.2.1 70 42 = h.2.1 70 42) (f65 : h'.2.1 70 65 = h.2.1 70 65) (f43 : h'.2.1 70 43 = h.2.1 70 43) (f14 : h'.2.1 0 14 = h.2.1 0 14) {L : Nat} {bk : Nat → Nat × Nat} {x58 x54 : Int32} {x59 x96 : Nat → Int32} (c58 : h'.2.1 58 3 = x58) (c54 : h'.2.1 70 54 = x54) (c59 : h'.2.1 59 = x59) (c96 : h'.2.1 96 = x96) (l0 : L ≤ 8) (l1 : x58 = nI L) (l2 : x54 = nI L) (l3 : ∀ i, i < L → (bk i).1 < 8 ∧ (bk i).2 ≤ 6 ∧ x96 (2 * i) = nI (bk i).1 ∧ x96 (2 * i + 1) = nI (bk i).2 ∧ x59 (bk i).1 = nI (bk i).2) (l4 : ∀ i j, i < L → j < L → (bk i).1 = (bk j).1 → i = j) (l5 : ∀ x, x < 8 → (∀ i, i < L → (bk i).1 ≠ x) → x59 x = -1)
    {N : Nat} {x11 x2 : Int32} (c11 : h'.2.1 1 1 = x11) (c2 : h'.2.1 70 2 = x2) (t72 : h'.2.1 72 = h.2.1 72) (t2 : h'.2.1 2 = h.2.1 2) (n1 : x11 = nI N) (n2 : x2 = nI N) (n3 : N ≤ 600) {b : Nat → Nat} (n4 : ∀ i, i < N → b i < 256 ∧ h.2.1 72 i = nI (b i) ∧ h.2.1 2 i = (nI (b i)).toInt8.toInt32)
    {x69 x71 : Nat → Int32} {x16 x8 : Int32} (c69 : h'.2.1 69 = x69) (c71 : h'.2.1 71 = x71) (c16 : h'.2.1 1 6 = x16) (c8 : h'.2.1 70 8 = x8) (hr : ∀ k, k < 3 → x69 k = x71 k) (hpl : x16 = x8) : Rel (mkS S (rS_M S) (rS_F S) (rS_H S) L bk) h' := by
  have rr := R.2.2.2.2.2.2.1
  refine Rel_mk R e1 e2 (fun p hp => E p (st_a4 (st_103 hp))) (E 35 rfl).1 (E 39 rfl).1 (E 92 rfl).1 (E 101 rfl).1 f42 f65 (rZ_Pk (fun p hp => E p (st_a1 hp)) f25 f26 f27 f28 f30 R.2.1) (rZ_Lk (fun p hp => E p (st_a2 hp)) R.2.2.1) (rZ_Nk (fun p hp => E p (st_a3 hp)) R.2.2.2.1) ?_ ?_ ?_
  · unfold rZ_B
    rw [c58, c54, c59, c96]
    exact ⟨l0, l1, l2, l3, l4, l5⟩
  · unfold rZ_T
    rw [c11, c2, t72, t2]
    exact ⟨N, b, n3, n1, n2, n4⟩
  · unfold rZ_R
    rw [c69, c71, c16, c8, f14, f43]
    exact ⟨hr, hpl, rr.2.2⟩
set_option maxRecDepth 40000 in
theorem Q_4 {l : Launch} (hT : l.stackTraces = false) (hu : 700 ≤ u) (R : Rel S h) (a1 a2 a3 a4 a5 : Int32) : q_4 l h a1 a2 a3 a4 a5 (nxt h) := by
  obtain ⟨o, o', e1, e2, hm, hr, hpl, ⟨N, n1, n2, n3, b, n4⟩, L, bk, l0, l1, l2, l3, l4, l5⟩ := n_4 hu R a1
  obtain ⟨rest, hsh⟩ := rZ_CX R.1
  have hL := rZ_CLS R.1
  refine ⟨1, 6, _, _, by decide, by decide, c_X10_book l u hT h hsh rfl rfl rfl rfl rfl rfl rfl rfl rfl rfl rfl e1, ?_, ?_⟩
  · rintro v h1 ⟨hk, rfl, rfl⟩
    rcases hm with ⟨m1, m2, m3⟩ | ⟨m1, m2⟩
    · refine ⟨o.2.1, o'.1, _, rfl, rZ_LSa hL, ⟨_, c_X11_book l u (k_pl piM shM _) rfl (k_plI (p := 70) rfl rfl) (k_plI (p := 70) rfl rfl) (k_plI (p := 70) rfl rfl) (k_plI (p := 70) rfl rfl) (k_plI (p := 70) rfl rfl) (k_plI (p := 70) rfl rfl) (k_plI (p := 70) rfl rfl) (k_plI (p := 70) rfl rfl) (k_plI (p := 70) rfl rfl) (k_plA (p := 71) rfl rfl) (k_plA (p := 72) rfl rfl) (k_plA (p := 95) rfl rfl) (k_plA (p := 96) rfl rfl) e2, rfl, rfl, m2⟩, (show _ = o.2.1.toInt64 from rfl).trans (show o.2.1.toInt64 = o'.1.toInt64 by rw [m3]), ⟨_, Rel_bk R (ap_Ash _ h).1 (ap_Ash _ h).2 (kp_A rfl rfl rfl _ h) rfl rfl rfl rfl rfl rfl rfl rfl rfl rfl rfl rfl rfl l0 l1 l2 l3 l4 l5 rfl rfl rfl rfl n1 n2 n3 n4 rfl rfl rfl rfl hr hpl⟩, ?_⟩
      rw [(ap_Ash _ h).1]
      omega
    · exact absurd (hk.symm.trans m1) (by decide)
  · rintro E h1 ⟨hk, rfl, rfl⟩
    rcases hm with ⟨m1, m2, m3⟩ | ⟨m1, m2⟩
    · exact absurd m1 hk
    · refine ⟨o'.1, 1, _, rZ_LSa hL, ⟨by rw [m1]; rfl, rfl⟩, ⟨_, c_X11_book l u (k_pl piM shM _) rfl (k_plI (p := 70) rfl rfl) (k_plI (p := 70) rfl rfl) (k_plI (p := 70) rfl rfl) (k_plI (p := 70) rfl rfl) (k_plI (p := 70) rfl rfl) (k_plI (p := 70) rfl rfl) (k_plI (p := 70) rfl rfl) (k_plI (p := 70) rfl rfl) (k_plI (p := 70) rfl rfl) (k_plA (p := 71) rfl rfl) (k_plA (p := 72) rfl rfl) (k_plA (p := 95) rfl rfl) (k_plA (p := 96) rfl rfl) e2, rfl, rfl, m2⟩, ⟨_, Rel_bk R (ap_Bsh h).1 (ap_Bsh h).2 (kp_B rfl rfl h) rfl rfl rfl rfl rfl rfl rfl rfl rfl rfl rfl rfl rfl l0 l1 l2 l3 l4 l5 rfl rfl rfl rfl n1 n2 n3 n4 rfl rfl rfl rfl hr hpl⟩, ?_⟩
      rw [(ap_Bsh h).1]
      omega
end BKQ
