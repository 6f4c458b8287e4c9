/-! FEED -/
section FEE
variable {u : Nat} {S : aT} {h : k_H}
/-- the i-th byte of a number, the highest first -/
def byN (v : Int32) (i : Nat) : Nat := ((v >>> (nI (24 - 8 * i) &&& 31)) &&& (255 : Int32)).toBitVec.toNat
theorem byN_e (v : Int32) (i : Nat) : (v >>> (nI (24 - 8 * i) &&& 31)) &&& (255 : Int32) = nI (byN v i) := by
  unfold byN
  apply Int32.toBitVec_inj.mp
  show _ = BitVec.ofNat 32 _
  simp
theorem byN_lt (v : Int32) (i : Nat) : byN v i < 256 := by
  obtain ⟨m, hm, e⟩ := wb_of32 (v >>> (nI (24 - 8 * i) &&& 31))
  unfold byN
  rw [e]
  have e2 : nI m &&& (255 : Int32) = nI (m % 256) := fa_mask m 8
  rw [e2]
  show (BitVec.ofNat 32 (m % 256)).toNat < 256
  rw [BitVec.toNat_ofNat]
  omega
theorem byN_x (v : Int32) {i : Nat} (hi : i < 4) : vp_nar .byte (((v.toUInt32 >>> ((nI (24 - 8 * i)).toUInt32 &&& Int32.toUInt32 31)).toInt32).toInt8.toInt32) = xb (byN v i) := by
  have e1 : (v.toUInt32 >>> ((nI (24 - 8 * i)).toUInt32 &&& Int32.toUInt32 31)).toInt32 &&& (255 : Int32) = (v >>> (nI (24 - 8 * i) &&& 31)) &&& (255 : Int32) := by
    apply b_ext
    intro j hj
    rw [b_and, b_and, b_255, b_ushr _ (by omega), b_sshr _ (by omega) v hj]
    by_cases z : j < 8
    · rw [if_pos (by omega)]
    · rw [decide_eq_false z, Bool.and_false, Bool.and_false]
  have e2 : (v.toUInt32 >>> ((nI (24 - 8 * i)).toUInt32 &&& Int32.toUInt32 31)).toInt32.toInt8 = (nI (byN v i)).toInt8 := by
    rw [← byN_e, ← e1, fa_byte_low]
  show ((((v.toUInt32 >>> ((nI (24 - 8 * i)).toUInt32 &&& Int32.toUInt32 31)).toInt32).toInt8.toInt32).toInt8).toInt32 = (nI (byN v i)).toInt8.toInt32
  rw [e2]
  simp
theorem x_put (hu : 20 ≤ u) (v : Int32) {N : Nat} (hN : N + 4 ≤ 600) (a : Nat → Int32) : ∃ g, f_X8_put u (nI N) a v = some (nI (N + 4), g) ∧ (∀ j, j < N → g j = a j) ∧ ∀ i, i < 4 → g (N + i) = xb (byN v i) := by
  have step : ∀ i k g, i < 4 → bX8_put_3 u (k + 1) (nI (N + i)) g v (nI (24 - 8 * i)) = bX8_put_3 u k (nI (N + (i + 1))) (upd g (N + i) (xb (byN v i))) v (nI (24 - 8 * i) + (-8 : Int32)) := by
    intro i k g hi
    rw [bX8_put_3, if_neg (show ¬ nI (24 - 8 * i) < (0 : Int32) from nI_pos (by omega)), if_neg (show ¬ (600 : Int32) ≤ nI (N + i) from nI_ge (b := 600) (by omega) (by omega)), z_ki (by omega) (by omega), z_cl (by omega), byN_x v hi]
    unfold bX8_put_42
    rw [show nI (N + i) + (1 : Int32) = nI (N + (i + 1)) from nI_1 _]
  obtain ⟨k, rfl⟩ : ∃ k, u = k + 5 := ⟨u - 5, by omega⟩
  unfold f_X8_put bX8_put_0
  have s0 : bX8_put_3 (k + 5) (k + 5) (nI N) a v (24 : Int32) = _ := step 0 (k + 4) a (by omega)
  rw [s0, show nI (24 - 8 * 0) + (-8 : Int32) = nI (24 - 8 * 1) by decide, step 1 (k + 3) _ (by omega), show nI (24 - 8 * 1) + (-8 : Int32) = nI (24 - 8 * 2) by decide, step 2 (k + 2) _ (by omega), show nI (24 - 8 * 2) + (-8 : Int32) = nI (24 - 8 * 3) by decide, step 3 (k + 1) _ (by omega)]
  rw [bX8_put_3, if_pos (show nI (24 - 8 * 3) + (-8 : Int32) < (0 : Int32) by decide)]
  refine ⟨_, rfl, fun j hj => ?_, fun i hi => ?_⟩
  · simp only [z_upd]
    rw [if_neg (by omega), if_neg (by omega), if_neg (by omega), if_neg (by omega)]
  · simp only [z_upd]
    match i, hi with
    | 0, _ => rw [if_neg (by omega), if_neg (by omega), if_neg (by omega), if_pos (by omega)]
    | 1, _ => rw [if_neg (by omega), if_neg (by omega), if_pos (by omega)]
    | 2, _ => rw [if_neg (by omega), if_pos (by omega)]
    | 3, _ => rw [if_pos (by omega)]
    | i + 4, h => omega
def fdV (v1 v2 v3 v4 v5 : Int32) (k : Nat) : Int32 := if k < 4 then v1 else if k < 8 then v2 else if k < 12 then v3 else if k < 16 then v4 else v5
theorem m_feed (hu : 100 ≤ u) (v1 v2 v3 v4 v5 : Int32) {N : Nat} (hN : N + 20 ≤ 600) (a : Nat → Int32) : ∃ g, bX11_feed_23 u u (0 : Int32) (nI N) a v1 v2 v3 v4 v5 (0 : Int32) = some (nI (N + 20), (0 : Int32), nI (N + 20), g) ∧ (∀ j, j < N → g j = a j) ∧ ∀ k, k < 20 → g (N + k) = nI (byN (fdV v1 v2 v3 v4 v5 k) (k % 4)) := by
  have key : ∀ r k n g, k + r = 20 → r < n → (∀ j, j < N → g j = a j) → (∀ i, i < k → g (N + i) = nI (byN (fdV v1 v2 v3 v4 v5 i) (i % 4))) → ∃ g', bX11_feed_23 u n (0 : Int32) (nI (N + k)) g v1 v2 v3 v4 v5 (nI k) = some (nI (N + 20), (0 : Int32), nI (N + 20), g') ∧ (∀ j, j < N → g' j = a j) ∧ ∀ k, k < 20 → g' (N + k) = nI (byN (fdV v1 v2 v3 v4 v5 k) (k % 4)) := by
    intro r
    induction r with
    | zero =>
      intro k n g hk hn h1 h2
      obtain ⟨n, rfl⟩ := z_suc hn
      obtain rfl : k = 20 := by omega
      rw [bX11_feed_23, if_pos (show (20 : Int32) ≤ nI 20 by decide)]
      exact ⟨g, rfl, h1, h2⟩
    | succ r ih =>
      intro k n g hk hn h1 h2
      obtain ⟨n, rfl⟩ := z_suc hn
      have em : (24 : Int32) - (8 : Int32) * (nI k - nI k / (4 : Int32) * (4 : Int32)) = nI (24 - 8 * (k % 4)) := by
        simp (disch := omega) only [z_lit, z_div, pk_mul, z_sub]
        rw [show k - k / 4 * 4 = k % 4 by omega]
      have last : bX11_feed_76 u (bX11_feed_23 u n) (0 : Int32) (nI (N + k)) g v1 v2 v3 v4 v5 (nI k) (fdV v1 v2 v3 v4 v5 k) = bX11_feed_23 u n (0 : Int32) (nI (N + (k + 1))) (upd g (N + k) (nI (byN (fdV v1 v2 v3 v4 v5 k) (k % 4)))) v1 v2 v3 v4 v5 (nI (k + 1)) := by
        unfold bX11_feed_76
        rw [em, byN_e, z_ki (by omega) (by omega), z_cl (by omega), show nI (N + k) + (1 : Int32) = nI (N + (k + 1)) from nI_1 _, show nI k + (1 : Int32) = nI (k + 1) from nI_1 k]
      have cas : bX11_feed_23 u (n + 1) (0 : Int32) (nI (N + k)) g v1 v2 v3 v4 v5 (nI k) = bX11_feed_76 u (bX11_feed_23 u n) (0 : Int32) (nI (N + k)) g v1 v2 v3 v4 v5 (nI k) (fdV v1 v2 v3 v4 v5 k) := by
        rw [bX11_feed_23, if_neg (show ¬ (20 : Int32) ≤ nI k from nI_ge (b := 20) (by omega) (by omega))]
        unfold fdV
        by_cases z1 : k < 4
        · rw [if_neg (show ¬ (4 : Int32) ≤ nI k from nI_ge (b := 4) (by omega) (by omega)), if_pos z1]
        · rw [if_pos (show (4 : Int32) ≤ nI k from nI_le (a := 4) (by omega) (by omega)), if_neg z1]
          by_cases z2 : k < 8
          · rw [if_neg (show ¬ (8 : Int32) ≤ nI k from nI_ge (b := 8) (by omega) (by omega)), if_pos z2]
          · rw [if_pos (show (8 : Int32) ≤ nI k from nI_le (a := 8) (by omega) (by omega)), if_neg z2]
            by_cases z3 : k < 12
            · rw [if_neg (show ¬ (12 : Int32) ≤ nI k from nI_ge (b := 12) (by omega) (by omega)), if_pos z3]
            · rw [if_pos (show (12 : Int32) ≤ nI k from nI_le (a := 12) (by omega) (by omega)), if_neg z3]
              by_cases z4 : k < 16
              · rw [if_neg (show ¬ (16 : Int32) ≤ nI k from nI_ge (b := 16) (by omega) (by omega)), if_pos z4]
              · rw [if_pos (show (16 : Int32) ≤ nI k from nI_le (a := 16) (by omega) (by omega)), if_neg z4]
      rw [cas, last]
      refine ih (k + 1) n _ (by omega) (by omega) (fun j hj => ?_) (fun i hi => ?_)
      · simp only [z_upd]
        rw [if_neg (by omega)]
        exact h1 j hj
      · simp only [z_upd]
        by_cases z : i = k
        · rw [z, if_pos rfl]
        · rw [if_neg (by omega)]
          exact h2 i (by omega)
  exact key 20 0 u a (by omega) (by omega) (fun j _ => rfl) (fun i hi => absurd hi (Nat.not_lt_zero i))
set_option maxRecDepth 40000 in
theorem Q_0 {l : Launch} (hT : l.stackTraces = false) (hu : 700 ≤ u) (R : Rel S h) (a1 a2 a3 a4 a5 : Int32) : q_0 l h a1 a2 a3 a4 a5 (nxt h) := by
  obtain ⟨N, b, hN, t1, t2, tb⟩ := R.2.2.2.2.2.1
  have rr := R.2.2.2.2.2.2.1
  obtain ⟨rest, hsh⟩ := rZ_CX R.1
  have key : ∃ o o', f_X10_feed u (h.2.1 1 1) (h.2.1 2) a1 a2 a3 a4 a5 = some o ∧ f_X11_feed u (h.2.1 70 0) (h.2.1 70 2) (h.2.1 72) a1 a2 a3 a4 a5 = some o' ∧ o.1 = o'.1 ∧ ∃ (M : Nat) (b' : Nat → Nat), M ≤ 600 ∧ o.2.1 = nI M ∧ o'.2.2.1 = nI M ∧ ∀ i, i < M → b' i < 256 ∧ o'.2.2.2 i = nI (b' i) ∧ o.2.2 i = (nI (b' i)).toInt8.toInt32 := by
    rw [t1, t2]
    unfold f_X10_feed bX10_feed_0 f_X11_feed bX11_feed_0
    rw [show nI N + (20 : Int32) = nI (N + 20) from nI_add N 20]
    by_cases z : N + 20 ≤ 600
    · rw [if_pos (show nI (N + 20) ≤ (600 : Int32) from nI_le (b := 600) z (by omega)), if_pos (show nI (N + 20) ≤ (600 : Int32) from nI_le (b := 600) z (by omega))]
      obtain ⟨g1, e1, f1, p1⟩ := x_put (u := u) (by omega) a1 (show N + 4 ≤ 600 by omega) (h.2.1 2)
      obtain ⟨g2, e2, f2, p2⟩ := x_put (u := u) (by omega) a2 (show N + 4 + 4 ≤ 600 by omega) g1
      obtain ⟨g3, e3, f3, p3⟩ := x_put (u := u) (by omega) a3 (show N + 4 + 4 + 4 ≤ 600 by omega) g2
      obtain ⟨g4, e4, f4, p4⟩ := x_put (u := u) (by omega) a4 (show N + 4 + 4 + 4 + 4 ≤ 600 by omega) g3
      obtain ⟨g5, e5, f5, p5⟩ := x_put (u := u) (by omega) a5 (show N + 4 + 4 + 4 + 4 + 4 ≤ 600 by omega) g4
      obtain ⟨g, m1, m2, m3⟩ := m_feed (u := u) (by omega) a1 a2 a3 a4 a5 z (h.2.1 72)
      rw [e1, z_b, e2, z_b, e3, z_b, e4, z_b, e5, z_b, m1]
      refine ⟨_, _, rfl, rfl, rfl, N + 20, fun j => if j < N then b j else byN (fdV a1 a2 a3 a4 a5 (j - N)) ((j - N) % 4), z, rfl, rfl, fun i hi => ?_⟩
      by_cases y : i < N
      · obtain ⟨k1, k2, k3⟩ := tb i y
        simp only [if_pos y]
        refine ⟨k1, (m2 i y).trans k2, ?_⟩
        show g5 i = _
        rw [f5 i (by omega), f4 i (by omega), f3 i (by omega), f2 i (by omega), f1 i y]
        exact k3
      · simp only [if_neg y]
        have m := m3 (i - N) (by omega)
        rw [show N + (i - N) = i by omega] at m
        refine ⟨byN_lt _ _, m, ?_⟩
        show g5 i = xb (byN (fdV a1 a2 a3 a4 a5 (i - N)) ((i - N) % 4))
        unfold fdV
        by_cases y1 : i - N < 4
        · rw [if_pos y1, f5 i (by omega), f4 i (by omega), f3 i (by omega), f2 i (by omega)]
          have := p1 (i - N) y1
          rw [show N + (i - N) = i by omega] at this
          rw [this, show (i - N) % 4 = i - N by omega]
        · rw [if_neg y1]
          by_cases y2 : i - N < 8
          · rw [if_pos y2, f5 i (by omega), f4 i (by omega), f3 i (by omega)]
            have := p2 (i - N - 4) (by omega)
            rw [show N + 4 + (i - N - 4) = i by omega] at this
            rw [this, show (i - N) % 4 = i - N - 4 by omega]
          · rw [if_neg y2]
            by_cases y3 : i - N < 12
            · rw [if_pos y3, f5 i (by omega), f4 i (by omega)]
              have := p3 (i - N - 8) (by omega)
              rw [show N + 4 + 4 + (i - N - 8) = i by omega] at this
              rw [this, show (i - N) % 4 = i - N - 8 by omega]
            · rw [if_neg y3]
              by_cases y4 : i - N < 16
              · rw [if_pos y4, f5 i (by omega)]
                have := p4 (i - N - 12) (by omega)
                rw [show N + 4 + 4 + 4 + (i - N - 12) = i by omega] at this
                rw [this, show (i - N) % 4 = i - N - 12 by omega]
              · rw [if_neg y4]
                have := p5 (i - N - 16) (by omega)
                rw [show N + 4 + 4 + 4 + 4 + (i - N - 16) = i by omega] at this
                rw [this, show (i - N) % 4 = i - N - 16 by omega]
    · rw [if_neg (show ¬ nI (N + 20) ≤ (600 : Int32) from nI_ge (a := 600) (by omega) (by omega)), if_neg (show ¬ nI (N + 20) ≤ (600 : Int32) from nI_ge (a := 600) (by omega) (by omega))]
      exact ⟨_, _, rfl, rfl, rfl, N, b, hN, rfl, rfl, tb⟩
  obtain ⟨o, o', e1, e2, m0, M, b', hM, o1, o2, hb⟩ := key
  refine ⟨o.1, o'.2.1, _, _, c_X10_feed l u h hsh rfl rfl e1, ⟨_, by rw [m0]; exact c_X11_feed l u (k_pl piM shM _) rfl (k_plI (p := 70) rfl rfl) (k_plI (p := 70) rfl rfl) (k_plA (p := 72) rfl rfl) e2, rfl, rfl, rfl⟩, ⟨mkS S (rS_M S) (rS_F S) (rS_H S) (rS_L S) (rS_B S), ?_⟩, ?_⟩
  · refine Rel_mk R (ap_Bsh h).1 (ap_Bsh h).2 (ap_B rfl rfl h) rfl rfl rfl rfl rfl rfl (rZ_Pk (fun p hp => kp_B (st := pcP) rfl rfl h p hp) rfl rfl rfl rfl rfl R.2.1) (rZ_Lk (fun p hp => kp_B (st := pcL) rfl rfl h p hp) R.2.2.1) (rZ_Nk (fun p hp => kp_B (st := pcN) rfl rfl h p hp) R.2.2.2.1) R.2.2.2.2.1 ⟨M, b', hM, o1, o2, hb⟩ rr
  · rw [(ap_Bsh h).1]
    omega
end FEE
