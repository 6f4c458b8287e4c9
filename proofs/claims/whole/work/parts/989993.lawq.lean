/-! LAW, the call -/
section LWQ
variable {u : Nat} {S : aT} {h : k_H}
theorem m_lawC (hu : 700 ≤ u) {k w : Nat} (hk : k ≤ 150) (hw : w < 2) (a2 : Nat → Int32) (c0 c2 c3 c4 c5 c6 c7 c8 : Int32) (a1 A11 A12 m13 m14 m15 : Nat → Int32) (v3 : Int32) : ∃ d13 d14, bX11_law_115 u a2 u c0 c2 c3 c4 c5 c6 c7 c8 (nI k) a1 A11 A12 m13 m14 m15 (nI w) v3 (0 : Int32) = some (v3, c0, c2, c3, c4, c5, c6, c7, c8, nI k, a1, A11, A12, d13, d14, m15) ∧ (∀ j, j < k → d13 (150 * w + j) = A11 j ∧ d14 (150 * w + j) = A12 j) ∧ ∀ j, (j < 150 * w ∨ 150 * w + 150 ≤ j) → d13 j = m13 j ∧ d14 j = m14 j := by
  have key : ∀ r i n d13 d14, i + r = k → r < n → (∀ j, j < i → d13 (150 * w + j) = A11 j ∧ d14 (150 * w + j) = A12 j) → (∀ j, (j < 150 * w ∨ 150 * w + 150 ≤ j) → d13 j = m13 j ∧ d14 j = m14 j) → ∃ e13 e14, bX11_law_115 u a2 n c0 c2 c3 c4 c5 c6 c7 c8 (nI k) a1 A11 A12 d13 d14 m15 (nI w) v3 (nI i) = some (v3, c0, c2, c3, c4, c5, c6, c7, c8, nI k, a1, A11, A12, e13, e14, m15) ∧ (∀ j, j < k → e13 (150 * w + j) = A11 j ∧ e14 (150 * w + j) = A12 j) ∧ ∀ j, (j < 150 * w ∨ 150 * w + 150 ≤ j) → e13 j = m13 j ∧ e14 j = m14 j := by
    intro r
    induction r with
    | zero =>
      intro i n d13 d14 hi hn h1 h2
      obtain ⟨n, rfl⟩ := z_suc hn
      obtain rfl : i = k := by omega
      rw [bX11_law_115, if_pos (nI_le (Nat.le_refl _) (by omega))]
      exact ⟨d13, d14, rfl, h1, h2⟩
    | succ r ih =>
      intro i n d13 d14 hi hn h1 h2
      obtain ⟨n, rfl⟩ := z_suc hn
      have e : (150 : Int32) * nI w + nI i = nI (150 * w + i) := by rw [show (150 : Int32) * nI w = nI (150 * w) from (Int32.ofNat_mul 150 w).symm, nI_add]
      rw [bX11_law_115, if_neg (nI_ge (by omega) (by omega)), e, z_ki (show i < 150 by omega) (by omega), z_ki (show 150 * w + i < 300 by omega) (by omega), z_ki (show i < 150 by omega) (by omega), z_ki (show 150 * w + i < 300 by omega) (by omega), z_cl (by omega), z_cl (by omega), show nI i + (1 : Int32) = nI (i + 1) from nI_1 i]
      refine ih (i + 1) n _ _ (by omega) (by omega) (fun j hj => ?_) (fun j hj => ?_)
      · simp only [z_upd]
        by_cases z : j = i
        · rw [z, if_pos rfl, if_pos rfl]; exact ⟨rfl, rfl⟩
        · rw [if_neg (by omega), if_neg (by omega)]; exact h1 j (by omega)
      · simp only [z_upd]
        rw [if_neg (by omega), if_neg (by omega)]
        exact h2 j hj
  exact key k 0 u m13 m14 (by omega) (by omega) (fun j hj => absurd hj (Nat.not_lt_zero j)) (fun j _ => ⟨rfl, rfl⟩)
def N_2 (u : Nat) (h : k_H) (a1 a2 : Int32) : Prop := ∃ o o', f_X10_law u (h.2.1 1 1) (h.2.1 1 2) (h.2.1 1 3) (h.2.1 1 4) (h.2.1 1 5) (h.2.1 1 6) (h.2.1 2) (h.2.1 17 2) (h.2.1 18) (h.2.1 20 2) (h.2.1 21) (h.2.1 23 2) (h.2.1 24) (h.2.1 69) a1 a2 = some o ∧ f_X11_law u (h.2.1 70 0) (h.2.1 70 2) (h.2.1 70 3) (h.2.1 70 4) (h.2.1 70 5) (h.2.1 70 6) (h.2.1 70 7) (h.2.1 70 8) (h.2.1 70 37) (h.2.1 71) (h.2.1 72) (h.2.1 81) (h.2.1 82) (h.2.1 83) (h.2.1 84) (h.2.1 85) a1 a2 = some o' ∧ ((o.1 = 0 ∧ o'.2.1 = 0 ∧ o.2.1 = o'.1) ∨ (o.1 = 3 ∧ o'.2.1 = 1)) ∧ (∀ k, k < 3 → o.2.2.2.2.2.2.2.2.2.2.2.2.2.2 k = o'.2.2.2.2.2.2.2.2.2.2.1 k) ∧ o.2.2.2.2.2.2.2.1 = o'.2.2.2.2.2.2.2.2.1 ∧ (∃ N, o.2.2.1 = nI N ∧ o'.2.2.1 = nI N ∧ N ≤ 600 ∧ ∃ b : Nat → Nat, ∀ i, i < N → b i < 256 ∧ h.2.1 72 i = nI (b i) ∧ h.2.1 2 i = (nI (b i)).toInt8.toInt32) ∧ ∃ F H, lcong F ∧ lcong H ∧ lawX o.2.2.2.2.2.2.2.2.1 o.2.2.2.2.2.2.2.2.2.1 F ∧ lawX o.2.2.2.2.2.2.2.2.2.2.1 o.2.2.2.2.2.2.2.2.2.2.2.1 H ∧ lawM 0 o'.2.2.2.2.2.2.2.2.2.2.2.2.2.1 o'.2.2.2.2.2.2.2.2.2.2.2.2.2.2.1 o'.2.2.2.2.2.2.2.2.2.2.2.2.2.2.2 F ∧ lawM 1 o'.2.2.2.2.2.2.2.2.2.2.2.2.2.1 o'.2.2.2.2.2.2.2.2.2.2.2.2.2.2.1 o'.2.2.2.2.2.2.2.2.2.2.2.2.2.2.2 H
set_option maxRecDepth 4000 in
theorem n_2 (hu : 700 ≤ u) (R : Rel S h) (a1 a2 : Int32) : N_2 u h a1 a2 := by
  obtain ⟨-, -, ⟨lF, lH, xF, xH, mF, mH⟩, -, -, ⟨N, b, hN, t1, t2, tb⟩, ⟨r, rf, -⟩, -, -⟩ := R
  unfold N_2
  rw [t1, t2]
  unfold f_X10_law bX10_law_0 bX10_law_10 f_X11_law bX11_law_0
  -- refused
  have badM : bX11_law_38 u (h.2.1 72) (0 : Int32) (nI N) (h.2.1 70 3) (h.2.1 70 4) (h.2.1 70 5) (h.2.1 70 6) (h.2.1 70 7) (h.2.1 70 8) (h.2.1 70 37) (h.2.1 71) (h.2.1 81) (h.2.1 82) (h.2.1 83) (h.2.1 84) (h.2.1 85) a1 a2 = some ((0 : Int32), (1 : Int32), nI N, h.2.1 70 3, h.2.1 70 4, h.2.1 70 5, h.2.1 70 6, h.2.1 70 7, h.2.1 70 8, h.2.1 70 37, upd (h.2.1 71) 2 (h.2.1 71 2 + (1 : Int32)), h.2.1 81, h.2.1 82, h.2.1 83, h.2.1 84, h.2.1 85) := by
    unfold bX11_law_38 bX11_law_39
    rw [m_need0, z_b, if_pos rfl]
  have text : ∀ w, w < 2 → a1 = nI w → ∃ o o', bX10_law_15 u (h.2.1 2) (nI N) (h.2.1 1 2) (h.2.1 1 3) (h.2.1 1 4) (h.2.1 1 5) (h.2.1 1 6) (h.2.1 17 2) (h.2.1 18) (h.2.1 20 2) (h.2.1 21) (h.2.1 23 2) (h.2.1 24) (h.2.1 69) a1 a2 (1 : Int32) = some o ∧ (if a2 < 0 then bX11_law_38 u (h.2.1 72) (0 : Int32) (nI N) (h.2.1 70 3) (h.2.1 70 4) (h.2.1 70 5) (h.2.1 70 6) (h.2.1 70 7) (h.2.1 70 8) (h.2.1 70 37) (h.2.1 71) (h.2.1 81) (h.2.1 82) (h.2.1 83) (h.2.1 84) (h.2.1 85) a1 a2 else (if nI N < a2 then bX11_law_38 u (h.2.1 72) (0 : Int32) (nI N) (h.2.1 70 3) (h.2.1 70 4) (h.2.1 70 5) (h.2.1 70 6) (h.2.1 70 7) (h.2.1 70 8) (h.2.1 70 37) (h.2.1 71) (h.2.1 81) (h.2.1 82) (h.2.1 83) (h.2.1 84) (h.2.1 85) a1 a2 else (if (150 : Int32) < a2 then bX11_law_38 u (h.2.1 72) (0 : Int32) (nI N) (h.2.1 70 3) (h.2.1 70 4) (h.2.1 70 5) (h.2.1 70 6) (h.2.1 70 7) (h.2.1 70 8) (h.2.1 70 37) (h.2.1 71) (h.2.1 81) (h.2.1 82) (h.2.1 83) (h.2.1 84) (h.2.1 85) a1 a2 else bX11_law_39 u (h.2.1 72) (0 : Int32) (nI N) (h.2.1 70 3) (h.2.1 70 4) (h.2.1 70 5) (h.2.1 70 6) (h.2.1 70 7) (h.2.1 70 8) (h.2.1 70 37) (h.2.1 71) (h.2.1 81) (h.2.1 82) (h.2.1 83) (h.2.1 84) (h.2.1 85) a1 a2 (1 : Int32)))) = some o' ∧ ((o.1 = 0 ∧ o'.2.1 = 0 ∧ o.2.1 = o'.1) ∨ (o.1 = 3 ∧ o'.2.1 = 1)) ∧ (∀ k, k < 3 → o.2.2.2.2.2.2.2.2.2.2.2.2.2.2 k = o'.2.2.2.2.2.2.2.2.2.2.1 k) ∧ o.2.2.2.2.2.2.2.1 = o'.2.2.2.2.2.2.2.2.1 ∧ (∃ N, o.2.2.1 = nI N ∧ o'.2.2.1 = nI N ∧ N ≤ 600 ∧ ∃ b : Nat → Nat, ∀ i, i < N → b i < 256 ∧ h.2.1 72 i = nI (b i) ∧ h.2.1 2 i = (nI (b i)).toInt8.toInt32) ∧ ∃ F H, lcong F ∧ lcong H ∧ lawX o.2.2.2.2.2.2.2.2.1 o.2.2.2.2.2.2.2.2.2.1 F ∧ lawX o.2.2.2.2.2.2.2.2.2.2.1 o.2.2.2.2.2.2.2.2.2.2.2.1 H ∧ lawM 0 o'.2.2.2.2.2.2.2.2.2.2.2.2.2.1 o'.2.2.2.2.2.2.2.2.2.2.2.2.2.2.1 o'.2.2.2.2.2.2.2.2.2.2.2.2.2.2.2 F ∧ lawM 1 o'.2.2.2.2.2.2.2.2.2.2.2.2.2.1 o'.2.2.2.2.2.2.2.2.2.2.2.2.2.2.1 o'.2.2.2.2.2.2.2.2.2.2.2.2.2.2.2 H := by
    intro w hw rfl
    unfold bX10_law_15
    rw [x_need1, z_b, if_pos rfl]
    rcases d_text (N := N) (most := 150) (by omega) (by omega) a2 with ⟨n, h1, h2, rfl, q0, q1, q2⟩ | hbad
    · have T := rZ_TX hN tb h1
      rw [if_neg q0, if_neg q2, if_neg (show ¬ (150 : Int32) < nI n from q1)]
      rw [show f_X10_takeText u (nI N) (h.2.1 1 2) (h.2.1 1 3) (h.2.1 1 4) (h.2.1 1 5) (h.2.1 1 6) (h.2.1 69) (nI n) (150 : Int32) = _ from x_take1 (most := 150) (nI n) _ _ _ _ _ _ (by omega) rfl q0 q1 q2, z_b, if_pos rfl]
      unfold bX11_law_39
      rw [m_need1, z_b, if_neg d_10]
      unfold f_X11_begins bX11_begins_0
      rw [z_b]
      have CI0 : CI 0 (fun _ => 0) (fun _ => 0) (h.2.1 24) (h.2.1 81) (h.2.1 82) := ⟨⟨by omega, fun j hj => absurd hj (Nat.not_lt_zero j)⟩, fun j hj => absurd hj (Nat.not_lt_zero j)⟩
      unfold f_X1_read bX1_read_0
      rcases readS T hu h2 (pl := (-1 : Int32)) 9 0 (by omega) (by omega) 0 _ _ _ _ _ 0 (0 : Int32) (h.2.1 70 6) CI0 (by show 0 ≤ _; omega) (by omega) (by omega) with ⟨k2, p2, q, o, A2, st2, bk2, B11, B12, s1, s2, s3, s4, s5, s6, s7⟩ | ⟨k2, p2, f, pf, A2, st2, at2, op2, c2, B11, B12, s1, s2, s3, s4, s5, s6, s7⟩
      · have hk0 : 0 < k2 := by
          by_cases z : k2 = 0
          · rw [z] at s4
            exact absurd s4 (by show ¬ 0 = 0 + 1; omega)
          · omega
        have hk150 : k2 ≤ 150 := s3.1.1
        rw [show f_X1_readSum_r u 9 (0 : Int32) (h.2.1 24) (nI n) (0 : Int32) (0 : Int32) (0 : Int32) (-1 : Int32) (h.2.1 2) (0 : Int32) = _ from s1, z_b, show f_X11_readSum_r u 9 (nI n) (0 : Int32) (-1 : Int32) (h.2.1 70 6) (0 : Int32) (0 : Int32) (h.2.1 72) (h.2.1 81) (h.2.1 82) = _ from s2, z_b, t_fine, z_b, if_neg d_10, t_moreM T hu s7, z_b]
        unfold f_X8_finish bX8_finish_0
        rw [t_peek T hu s7, z_b]
        by_cases hm : sk b n p2 < n
        · have hsn : sk b n p2 ≤ n := by omega
          rw [decide_eq_true hm, if_neg (show ¬ zB true = (0 : Int32) from d_10), if_neg (nI_ge hm (by omega)), t_fail, z_b, z_b, z_b, t_wrong, z_b, t_goodF (show ¬ (1 : Int32) = 0 from d_10), z_b, if_pos rfl]
          unfold bX11_law_86 f_X11_result bX11_result_0
          rw [t_fineF (show sk b n p2 < 2147483648 by omega), z_b, if_pos rfl, z_b, if_neg (nI_m (show sk b n p2 < 2147483648 by omega))]
          exact ⟨_, _, rfl, rfl, Or.inl ⟨rfl, rfl, rfl⟩, r, rfl, ⟨0, rfl, rfl, by omega, b, fun i hi => absurd hi (Nat.not_lt_zero i)⟩, rS_F S, rS_H S, lF, lH, xF, xH, mF, mH⟩
        · rw [decide_eq_false hm, if_pos (show zB false = (0 : Int32) from rfl), if_pos (nI_le (by omega) (by have := sk_le b s7; omega)), z_b, z_b, t_good, z_b, if_neg d_10]
          unfold bX11_law_86 f_X11_result bX11_result_0
          rw [t_fine, z_b, if_neg d_10, z_b, if_pos rfl, z_ki (show w < 2 by omega) (by omega), z_cl (by omega)]
          obtain ⟨d13, d14, e1, e2, e3⟩ := m_lawC hu hk150 hw (h.2.1 72) (0 : Int32) (0 : Int32) (nI n) (nI (sk b n p2)) (-1 : Int32) bk2 (nI 0) (-1 : Int32) (h.2.1 71) B11 B12 (h.2.1 83) (h.2.1 84) (upd (h.2.1 85) w (nI k2)) (1 : Int32)
          have lx : ∀ c4 : Nat → Int32, lawX (nI k2) (va_cpy A2 c4 0 0 150) (fun fa => evs q o fa k2 0) := fun c4 => ⟨q, o, k2, hk0, s3.1, rfl, fun j hj => by
            show va_cpy A2 c4 0 0 150 j = _
            rw [show va_cpy A2 c4 0 0 150 j = A2 j from sb_cpy0 (by omega)]
            exact (s3.2 j hj).1, fun fa => rfl⟩
          have lm : lawM w d13 d14 (upd (h.2.1 85) w (nI k2)) (fun fa => evs q o fa k2 0) := Or.inr ⟨q, o, k2, hk0, s3.1, fun j hj => by rw [(e2 j hj).1]; exact (s3.2 j hj).2.1, fun j hj => by rw [(e2 j hj).2]; exact (s3.2 j hj).2.2, by simp only [z_upd]; rw [if_pos trivial], fun fa => rfl⟩
          have keep : ∀ v LV, v < 2 → v ≠ w → lawM v (h.2.1 83) (h.2.1 84) (h.2.1 85) LV → lawM v d13 d14 (upd (h.2.1 85) w (nI k2)) LV := by
            intro v LV hv hvw hl
            have e15 : upd (h.2.1 85) w (nI k2) v = h.2.1 85 v := by simp only [z_upd]; rw [if_neg hvw]
            rcases hl with ⟨g1, g2⟩ | ⟨q', o', n', g1, g2, g3, g4, g5, g6⟩
            · exact Or.inl ⟨by rw [e15]; exact g1, g2⟩
            · refine Or.inr ⟨q', o', n', g1, g2, fun j hj => ?_, fun j hj => ?_, by rw [e15]; exact g5, g6⟩
              · have := g2.1
                rw [(e3 (150 * v + j) (by omega)).1]; exact g3 j hj
              · have := g2.1
                rw [(e3 (150 * v + j) (by omega)).2]; exact g4 j hj
          have hw01 : w = 0 ∨ w = 1 := by omega
          rcases hw01 with rfl | rfl
          · rw [if_pos (show nI 0 = (0 : Int32) from rfl)]
            unfold f_X1_copyFrom bX1_copyFrom_0
            rw [z_b]
            exact ⟨_, _, rfl, e1, Or.inl ⟨rfl, rfl, rfl⟩, r, rfl, ⟨0, rfl, rfl, by omega, b, fun i hi => absurd hi (Nat.not_lt_zero i)⟩, (fun fa => evs q o fa k2 0), rS_H S, lawX_cong (lx (h.2.1 18)), lH, lx (h.2.1 18), xH, lm, keep 1 _ (by omega) (by omega) mH⟩
          · rw [if_neg (show ¬ nI 1 = (0 : Int32) from d_10)]
            unfold f_X1_copyFrom bX1_copyFrom_0
            rw [z_b]
            exact ⟨_, _, rfl, e1, Or.inl ⟨rfl, rfl, rfl⟩, r, rfl, ⟨0, rfl, rfl, by omega, b, fun i hi => absurd hi (Nat.not_lt_zero i)⟩, rS_F S, (fun fa => evs q o fa k2 0), lF, lawX_cong (lx (h.2.1 21)), xF, lx (h.2.1 21), keep 0 _ (by omega) (by omega) mF, lm⟩
      · have hf0 := kf_0 s4 s5
        rw [show f_X1_readSum_r u 9 (0 : Int32) (h.2.1 24) (nI n) (0 : Int32) (0 : Int32) (0 : Int32) (-1 : Int32) (h.2.1 2) (0 : Int32) = _ from s6, z_b, show f_X11_readSum_r u 9 (nI n) (0 : Int32) (-1 : Int32) (h.2.1 70 6) (0 : Int32) (0 : Int32) (h.2.1 72) (h.2.1 81) (h.2.1 82) = _ from s7, z_b, t_fineF (show pf < 2147483648 by omega), z_b, if_pos rfl]
        have fi : ∃ q, f_X8_finish u (nI n) (nI p2) (nI f) (nI pf) (h.2.1 2) = some (q, nI f, nI pf) := by
          unfold f_X8_finish bX8_finish_0
          rw [t_peek T hu s2, z_b, t_failF hf0, z_b]
          split
          · exact ⟨_, rfl⟩
          · exact ⟨_, rfl⟩
        obtain ⟨q, e1⟩ := fi
        rw [show f_X8_finish u (nI n) (nI k2, A2, nI p2, st2, nI f, nI pf).2.2.1 (nI k2, A2, nI p2, st2, nI f, nI pf).2.2.2.2.1 (nI k2, A2, nI p2, st2, nI f, nI pf).2.2.2.2.2 (h.2.1 2) = _ from e1, z_b, z_b, t_goodF hf0, z_b, if_pos rfl]
        unfold bX11_law_86 f_X11_result bX11_result_0
        rw [t_fineF (show pf < 2147483648 by omega), z_b, if_pos rfl, z_b, if_neg (nI_m (show pf < 2147483648 by omega))]
        exact ⟨_, _, rfl, rfl, Or.inl ⟨rfl, rfl, rfl⟩, r, rfl, ⟨0, rfl, rfl, by omega, b, fun i hi => absurd hi (Nat.not_lt_zero i)⟩, rS_F S, rS_H S, lF, lH, xF, xH, mF, mH⟩
    · rw [show f_X10_takeText u (nI N) (h.2.1 1 2) (h.2.1 1 3) (h.2.1 1 4) (h.2.1 1 5) (h.2.1 1 6) (h.2.1 69) a2 (150 : Int32) = _ from x_take0 (most := 150) a2 _ _ _ _ _ _ hbad, z_b, if_neg d_30, badM]
      have hm : ∀ B : Option (Int32 × Int32 × Int32 × Int32 × Int32 × Int32 × Int32 × Int32 × Int32 × Int32 × (Nat → Int32) × (Nat → Int32) × (Nat → Int32) × (Nat → Int32) × (Nat → Int32) × (Nat → Int32)), ∀ C, (if a2 < 0 then B else (if nI N < a2 then B else (if (150 : Int32) < a2 then B else C))) = B := by
        intro B C
        by_cases z0 : a2 < 0
        · rw [if_pos z0]
        · rw [if_neg z0]
          by_cases z1 : nI N < a2
          · rw [if_pos z1]
          · rw [if_neg z1]
            by_cases z2 : (150 : Int32) < a2
            · rw [if_pos z2]
            · rcases hbad with w | w | w
              · exact absurd w z0
              · exact absurd w z2
              · exact absurd w z1
      rw [hm]
      exact ⟨_, _, rfl, rfl, Or.inr ⟨rfl, rfl⟩, r_upd r (by omega), rf, ⟨N, rfl, rfl, hN, b, tb⟩, rS_F S, rS_H S, lF, lH, xF, xH, mF, mH⟩
  rcases d_either (u := u) a1 with ⟨q, -, e4⟩ | ⟨e3, e4⟩
  · rw [e4, z_b, if_neg d_10]
    rcases q with rfl | rfl
    · rw [if_pos rfl]
      exact text 0 (by omega) rfl
    · rw [if_neg d_10, if_pos rfl]
      exact text 1 (by omega) rfl
  · have hn0 : ¬ a1 = 0 := fun w => by
      rw [w, show f_X10_isEither u (0 : Int32) = some (1 : Int32) from rfl] at e3
      exact absurd (Option.some.inj e3) d_10
    have hn1 : ¬ a1 = 1 := fun w => by
      rw [w, show f_X10_isEither u (1 : Int32) = some (1 : Int32) from rfl] at e3
      exact absurd (Option.some.inj e3) d_10
    rw [e4, z_b, if_pos rfl, if_neg hn0, if_neg hn1, badM]
    unfold bX10_law_15
    rw [x_need0, z_b, if_neg d_30]
    exact ⟨_, _, rfl, rfl, Or.inr ⟨rfl, rfl⟩, r_upd r (by omega), rf, ⟨N, rfl, rfl, hN, b, tb⟩, rS_F S, rS_H S, lF, lH, xF, xH, mF, mH⟩
theorem Rel_lw (R : Rel S h) {h' : k_H} (e1 : h'.1 = h.1) (e2 : h'.2.2.2 = h.2.2.2) (E : ∀ p, (pcP p || (pcN p || pcW p)) = true → Kp h h' p) (f25 : h'.2.1 70 25 = h.2.1 70 25) (f26 : h'.2.1 70 26 = h.2.1 70 26) (f27 : h'.2.1 70 27 = h.2.1 70 27) (f28 : h'.2.1 70 28 = h.2.1 70 28) (f30 : h'.2.1 70 30 = h.2.1 70 30) (f42 : h'.2.1 70 42 = h.2.1 70 42) (f65 : h'.2.1 70 65 = h.2.1 70 65) (f43 : h'.2.1 70 43 = h.2.1 70 43) (f14 : h'.2.1 0 14 = h.2.1 0 14) (f58 : h'.2.1 58 = h.2.1 58) (f59 : h'.2.1 59 = h.2.1 59) (f96 : h'.2.1 96 = h.2.1 96) (f54 : h'.2.1 70 54 = h.2.1 70 54)
    {F H : (Nat → Int32) → Int32} {x17 x20 : Int32} {x18 x21 x83 x84 x85 : Nat → Int32} (c17 : h'.2.1 17 2 = x17) (c18 : h'.2.1 18 = x18) (c20 : h'.2.1 20 2 = x20) (c21 : h'.2.1 21 = x21) (c83 : h'.2.1 83 = x83) (c84 : h'.2.1 84 = x84) (c85 : h'.2.1 85 = x85) (l1 : lcong F) (l2 : lcong H) (l3 : lawX x17 x18 F) (l4 : lawX x20 x21 H) (l5 : lawM 0 x83 x84 x85 F) (l6 : lawM 1 x83 x84 x85 H)
    {N : Nat} {x11 x2 : Int32} (c11 : h'.2.1 1 1 = x11) (c2 : h'.2.1 70 2 = x2) (t72 : h'.2.1 72 = h.2.1 72) (t2 : h'.2.1 2 = h.2.1 2) (n1 : x11 = nI N) (n2 : x2 = nI N) (n3 : N ≤ 600) {b : Nat → Nat} (n4 : ∀ i, i < N → b i < 256 ∧ h.2.1 72 i = nI (b i) ∧ h.2.1 2 i = (nI (b i)).toInt8.toInt32)
    {x69 x71 : Nat → Int32} {x16 x8 : Int32} (c69 : h'.2.1 69 = x69) (c71 : h'.2.1 71 = x71) (c16 : h'.2.1 1 6 = x16) (c8 : h'.2.1 70 8 = x8) (hr : ∀ k, k < 3 → x69 k = x71 k) (hpl : x16 = x8) : Rel (mkS S (rS_M S) F H (rS_L S) (rS_B S)) h' := by
  have rr := R.2.2.2.2.2.2.1
  have EP : ∀ p, pcP p = true → Kp h h' p := fun p hp => E p (by rw [hp]; rfl)
  have EN : ∀ p, pcN p = true → Kp h h' p := fun p hp => E p (by rw [hp, Bool.true_or, Bool.or_true])
  have EW : ∀ p, pcW p = true → Kp h h' p := fun p hp => E p (by rw [hp, Bool.or_true, Bool.or_true])
  refine Rel_mk R e1 e2 (fun p hp => EW p (st_103 hp)) (EW 35 rfl).1 (EW 39 rfl).1 (EW 92 rfl).1 (EW 101 rfl).1 f42 f65 (rZ_Pk EP f25 f26 f27 f28 f30 R.2.1) ?_ (rZ_Nk EN R.2.2.2.1) ?_ ?_ ?_
  · unfold rZ_L
    rw [c17, c18, c20, c21, c83, c84, c85]
    exact ⟨l1, l2, l3, l4, l5, l6⟩
  · have := R.2.2.2.2.1
    unfold rZ_B at this ⊢
    rw [f58, f59, f96, f54]
    exact this
  · unfold rZ_T
    rw [c11, c2, t72, t2]
    exact ⟨N, b, n3, n1, n2, n4⟩
  · unfold rZ_R
    rw [c69, c71, c16, c8, f14, f43]
    exact ⟨hr, hpl, rr.2.2⟩
set_option maxRecDepth 40000 in
theorem Q_2 {l : Launch} (hT : l.stackTraces = false) (hu : 700 ≤ u) (R : Rel S h) (a1 a2 a3 a4 a5 : Int32) : q_2 l h a1 a2 a3 a4 a5 (nxt h) := by
  obtain ⟨o, o', e1, e2, hm, hr, hpl, ⟨N, n1, n2, n3, b, n4⟩, F, H, l1, l2, l3, l4, l5, l6⟩ := n_2 hu R a1 a2
  obtain ⟨rest, hsh⟩ := rZ_CX R.1
  have hL := rZ_CLS R.1
  refine ⟨2, 12, _, _, by decide, by decide, c_X10_law l u hT h hsh rfl rfl rfl rfl rfl rfl rfl rfl rfl rfl rfl rfl rfl rfl e1, ?_, ?_⟩
  · rintro v h1 ⟨hk, rfl, rfl⟩
    rcases hm with ⟨m1, m2, m3⟩ | ⟨m1, m2⟩
    · refine ⟨o.2.1, o'.1, _, rfl, rZ_LSa hL, ⟨_, c_X11_law l u (k_pl piM shM _) rfl (k_plI (p := 70) rfl rfl) (k_plI (p := 70) rfl rfl) (k_plI (p := 70) rfl rfl) (k_plI (p := 70) rfl rfl) (k_plI (p := 70) rfl rfl) (k_plI (p := 70) rfl rfl) (k_plI (p := 70) rfl rfl) (k_plI (p := 70) rfl rfl) (k_plI (p := 70) rfl rfl) (k_plA (p := 71) rfl rfl) (k_plA (p := 72) rfl rfl) (k_plA (p := 81) rfl rfl) (k_plA (p := 82) rfl rfl) (k_plA (p := 83) rfl rfl) (k_plA (p := 84) rfl rfl) (k_plA (p := 85) rfl rfl) e2, rfl, rfl, m2⟩, (show _ = o.2.1.toInt64 from rfl).trans (show o.2.1.toInt64 = o'.1.toInt64 by rw [m3]), ⟨_, Rel_lw R (ap_Ash _ h).1 (ap_Ash _ h).2 (kp_A (st := fun p => (pcP p || (pcN p || pcW p))) rfl rfl rfl _ h) rfl rfl rfl rfl rfl rfl rfl rfl rfl rfl rfl rfl rfl rfl rfl rfl rfl rfl rfl rfl l1 l2 l3 l4 l5 l6 rfl rfl rfl rfl n1 n2 n3 n4 rfl rfl rfl rfl hr hpl⟩, ?_⟩
      rw [(ap_Ash _ h).1]
      omega
    · exact absurd (hk.symm.trans m1) (by decide)
  · rintro E h1 ⟨hk, rfl, rfl⟩
    rcases hm with ⟨m1, m2, m3⟩ | ⟨m1, m2⟩
    · exact absurd m1 hk
    · refine ⟨o'.1, 1, _, rZ_LSa hL, ⟨by rw [m1]; rfl, rfl⟩, ⟨_, c_X11_law l u (k_pl piM shM _) rfl (k_plI (p := 70) rfl rfl) (k_plI (p := 70) rfl rfl) (k_plI (p := 70) rfl rfl) (k_plI (p := 70) rfl rfl) (k_plI (p := 70) rfl rfl) (k_plI (p := 70) rfl rfl) (k_plI (p := 70) rfl rfl) (k_plI (p := 70) rfl rfl) (k_plI (p := 70) rfl rfl) (k_plA (p := 71) rfl rfl) (k_plA (p := 72) rfl rfl) (k_plA (p := 81) rfl rfl) (k_plA (p := 82) rfl rfl) (k_plA (p := 83) rfl rfl) (k_plA (p := 84) rfl rfl) (k_plA (p := 85) rfl rfl) e2, rfl, rfl, m2⟩, ⟨_, Rel_lw R (ap_Bsh h).1 (ap_Bsh h).2 (kp_B (st := fun p => (pcP p || (pcN p || pcW p))) rfl rfl h) rfl rfl rfl rfl rfl rfl rfl rfl rfl rfl rfl rfl rfl rfl rfl rfl rfl rfl rfl rfl l1 l2 l3 l4 l5 l6 rfl rfl rfl rfl n1 n2 n3 n4 rfl rfl rfl rfl hr hpl⟩, ?_⟩
      rw [(ap_Bsh h).1]
      omega
end LWQ
