/-! PIT: the text -/
section PTE
variable {u n : Nat} {b : Nat → Nat} {t1 t2 : Nat → Int32}
theorem lb_row : ∀ W, W ≤ 8 → ∀ k, k < 64 → lb (((1 : Int64) <<< ((nI W).toInt64 &&& 63)) - (1 : Int64)) k = decide (k < W) := by decide +kernel
theorem tellA (hu : 100 ≤ u) (w : Int32) {H : Nat} (hH : H ≤ 6) (c5 : Int64) : ∃ L, f_X5_tellAll u w (nI H) c5 = some L ∧ ∀ W, W ≤ 8 → w = nI W → lS L (inG W H) := by
  have key : ∀ r y m c, y + r = H → r < m → (∀ W, W ≤ 8 → w = nI W → lS c (inG W y)) → ∃ L, bX5_tellAll_7 u w (nI H) m c (nI y) = some L ∧ ∀ W, W ≤ 8 → w = nI W → lS L (inG W H) := by
    intro r
    induction r with
    | zero =>
      intro y m c hy hm hc
      obtain ⟨m, rfl⟩ := z_suc hm
      obtain rfl : y = H := by omega
      rw [bX5_tellAll_7, if_pos (nI_le (Nat.le_refl _) (by omega))]
      exact ⟨c, rfl, hc⟩
    | succ r ih =>
      intro y m c hy hm hc
      obtain ⟨m, rfl⟩ := z_suc hm
      rw [bX5_tellAll_7, if_neg (nI_ge (by omega) (by omega)), show nI y + (1 : Int32) = nI (y + 1) from nI_1 y, show (8 : Int32) * nI y = nI (8 * y) from (Int32.ofNat_mul 8 y).symm]
      refine ih (y + 1) m _ (by omega) (by omega) (fun W hW e => ?_)
      have hcW := hc W hW e
      clear hc
      subst e
      intro k hk
      have h1 := hcW k hk
      rw [lb_or, h1, lb_shl _ (by omega) hk]
      by_cases z : 8 * y ≤ k
      · rw [lb_row W hW (k - 8 * y) (by omega), decide_eq_true z, Bool.true_and]
        unfold inG
        by_cases z2 : k - 8 * y < W
        · rw [decide_eq_true z2, Bool.or_true, decide_eq_true (show k < 48 by omega), decide_eq_true (show k % 8 < W by omega), decide_eq_true (show k / 8 < y + 1 by omega)]
          rfl
        · rw [decide_eq_false z2, Bool.or_false]
          by_cases z3 : k / 8 = y
          · rw [decide_eq_false (show ¬ k % 8 < W by omega), Bool.false_and, Bool.false_and]
          · rw [decide_eq_false (show ¬ k / 8 < y by omega)]
            by_cases z4 : k / 8 < y + 1
            · omega
            · rw [decide_eq_false z4]
      · rw [decide_eq_false z, Bool.false_and, Bool.or_false]
        unfold inG
        rw [decide_eq_true (show k / 8 < y by omega), decide_eq_true (show k / 8 < y + 1 by omega)]
  refine key H 0 u 0 (by omega) (by omega) (fun W hW e k hk => ?_)
  rw [lb_0]
  unfold inG
  rw [decide_eq_false (show ¬ k / 8 < 0 by omega), Bool.and_false, Bool.and_false]
variable {p : aP} {s : Nat} {x0 x1 x7 x8 x9 x10 : Int32} {x6 : Int64} {a1 a2 a3 a4 a5 a6 : Nat → Int32} {m18 m19 m20 m21 m22 m23 m24 : Int32} {b3 b4 b5 b6 : Nat → Int32}
variable {r0 r2 r7 r8 r25 r26 r27 r28 r29 r30 r42 r43 r54 r65 : Int32} {ra1 ra7 ra8 ra9 ra10 ra15 ra20 : Nat → Int32}
theorem read_end (T : TXT b n t1 t2) (hu : 700 ≤ u) {q v H : Nat} (hq : q ≤ n) (hH : H ≤ 6) (hv : v ≤ 599) {f : Int32} (hf : ¬ f = 0) (st pl : Int32) (c5 : Int64) (m : Nat) : ∃ L, bX5_read_6 u (nI n) t1 (m + 1) x0 (nI H) x7 x8 x9 x10 c5 x6 a1 a2 a3 a4 a5 a6 (nI q) st f pl (nI v) = some (x0, nI H, x7, x8, x9, x10, L, x6, a1, a2, a3, a4, a5, a6, nI (sk b n q), st, f, pl) := by
  obtain ⟨L, e, -⟩ := tellA (u := u) (by omega) x0 hH c5
  refine ⟨L, ?_⟩
  rw [bX5_read_6, if_neg (show ¬ (600 : Int32) ≤ nI v from nI_ge (b := 600) (by omega) (by omega)), t_moreF T hu hq hf, z_b, if_pos rfl]
  unfold bX5_read_38
  rw [e, z_b]
abbrev cRo : Type := Int32 × Int32 × Int32 × Int32 × Int32 × Int32 × Int64 × Int64 × (Nat → Int32) × (Nat → Int32) × (Nat → Int32) × (Nat → Int32) × (Nat → Int32) × (Nat → Int32) × Int32 × Int32 × Int32 × Int32
def OUTL (n : Nat) (pl : Int32) (w : cRo) (o' : cMo) : Prop := (∃ (p : aP) (s : Nat), pOK p ∧ PX p s w.1 w.2.1 w.2.2.1 w.2.2.2.1 w.2.2.2.2.1 w.2.2.2.2.2.1 w.2.2.2.2.2.2.2.1 w.2.2.2.2.2.2.2.2.1 w.2.2.2.2.2.2.2.2.2.1 w.2.2.2.2.2.2.2.2.2.2.1 w.2.2.2.2.2.2.2.2.2.2.2.1 w.2.2.2.2.2.2.2.2.2.2.2.2.1 w.2.2.2.2.2.2.2.2.2.2.2.2.2.1 ∧ PM p s o'.2.2.2.1 o'.2.2.2.2.1 o'.2.2.2.2.2.1 o'.2.2.2.2.2.2.1 o'.2.2.2.2.2.2.2.1 o'.2.2.2.2.2.2.2.2.1 o'.2.2.2.2.2.2.2.2.2.1 o'.2.2.2.2.2.2.2.2.2.2.1 o'.2.2.2.2.2.2.2.2.2.2.2.1 o'.2.2.2.2.2.2.2.2.2.2.2.2.1 o'.2.2.2.2.2.2.2.2.2.2.2.2.2 ∧ lS w.2.2.2.2.2.2.1 (inG (pW p) (pH p)) ∧ w.2.2.2.2.2.2.2.2.2.2.2.2.2.2.2.2.1 = 0 ∧ w.2.2.2.2.2.2.2.2.2.2.2.2.2.2.2.2.2 = pl ∧ o'.2.1 = -1) ∨ (∃ k f : Nat, 1 ≤ k ∧ k ≤ 4 ∧ f ≤ n ∧ w.2.2.2.2.2.2.2.2.2.2.2.2.2.2.2.2.1 = nI k ∧ w.2.2.2.2.2.2.2.2.2.2.2.2.2.2.2.2.2 = nI f ∧ o'.2.1 = nI f ∧ o'.2.2.1 = nI k)
theorem pit_L (T : TXT b n t1 t2) (hu : 700 ≤ u) (pl : Int32) (c5 : Int64) : ∀ (r v m m' q : Nat) (st bk : Int32) (p : aP) (s : Nat) (x0 x1 x7 x8 x9 x10 : Int32) (x6 : Int64) (a1 a2 a3 a4 a5 a6 : Nat → Int32) (m18 m19 m20 m21 m22 m23 m24 : Int32) (b3 b4 b5 b6 : Nat → Int32), v + r = 60 → r + 1 < m → r + 2 < m' → q ≤ n → pOK p → s ≤ 4 → PX p s x0 x1 x7 x8 x9 x10 x6 a1 a2 a3 a4 a5 a6 → PM p s m18 m19 m20 m21 m22 m23 m24 b3 b4 b5 b6 → (v = 0 → ∀ c, c < 48 → pK p c = 0 ∧ pB p c = 0) →
    ∃ w o', bX5_read_6 u (nI n) t1 m x0 x1 x7 x8 x9 x10 c5 x6 a1 a2 a3 a4 a5 a6 (nI q) st (0 : Int32) pl (nI v) = some w ∧ bX11_pit_44 u t2 m' r0 r2 (nI n) (nI q) (-1 : Int32) bk r7 r8 m18 m19 m20 m21 m22 m23 m24 r25 r26 r27 r28 r29 r30 r42 r43 r54 r65 ra1 b3 b4 b5 b6 ra7 ra8 ra9 ra10 ra15 ra20 (nI v) = bX11_pit_188 u t2 r0 r2 (nI n) o'.1 o'.2.1 o'.2.2.1 r7 r8 o'.2.2.2.1 o'.2.2.2.2.1 o'.2.2.2.2.2.1 o'.2.2.2.2.2.2.1 o'.2.2.2.2.2.2.2.1 o'.2.2.2.2.2.2.2.2.1 o'.2.2.2.2.2.2.2.2.2.1 r25 r26 r27 r28 r29 r30 r42 r43 r54 r65 ra1 o'.2.2.2.2.2.2.2.2.2.2.1 o'.2.2.2.2.2.2.2.2.2.2.2.1 o'.2.2.2.2.2.2.2.2.2.2.2.2.1 o'.2.2.2.2.2.2.2.2.2.2.2.2.2 ra7 ra8 ra9 ra10 ra15 ra20 ∧ OUTL n pl w o' := by
  have hn := T.1
  have step : ∀ (v m m' q : Nat) (st bk : Int32) (p : aP) (s : Nat) (x0 x1 x7 x8 x9 x10 : Int32) (x6 : Int64) (a1 a2 a3 a4 a5 a6 : Nat → Int32) (m18 m19 m20 m21 m22 m23 m24 : Int32) (b3 b4 b5 b6 : Nat → Int32), v ≤ 60 → q ≤ n → pOK p → s ≤ 4 → PX p s x0 x1 x7 x8 x9 x10 x6 a1 a2 a3 a4 a5 a6 → PM p s m18 m19 m20 m21 m22 m23 m24 b3 b4 b5 b6 → (v = 0 → ∀ c, c < 48 → pK p c = 0 ∧ pB p c = 0) →
      (v < 60 → ∀ (q : Nat) (st bk : Int32) (p : aP) (s : Nat) (x0 x1 x7 x8 x9 x10 : Int32) (x6 : Int64) (a1 a2 a3 a4 a5 a6 : Nat → Int32) (m18 m19 m20 m21 m22 m23 m24 : Int32) (b3 b4 b5 b6 : Nat → Int32), q ≤ n → pOK p → s ≤ 4 → PX p s x0 x1 x7 x8 x9 x10 x6 a1 a2 a3 a4 a5 a6 → PM p s m18 m19 m20 m21 m22 m23 m24 b3 b4 b5 b6 → ∃ w o', bX5_read_6 u (nI n) t1 (m + 1) x0 x1 x7 x8 x9 x10 c5 x6 a1 a2 a3 a4 a5 a6 (nI q) st (0 : Int32) pl (nI (v + 1)) = some w ∧ bX11_pit_44 u t2 (m' + 1) r0 r2 (nI n) (nI q) (-1 : Int32) bk r7 r8 m18 m19 m20 m21 m22 m23 m24 r25 r26 r27 r28 r29 r30 r42 r43 r54 r65 ra1 b3 b4 b5 b6 ra7 ra8 ra9 ra10 ra15 ra20 (nI (v + 1)) = bX11_pit_188 u t2 r0 r2 (nI n) o'.1 o'.2.1 o'.2.2.1 r7 r8 o'.2.2.2.1 o'.2.2.2.2.1 o'.2.2.2.2.2.1 o'.2.2.2.2.2.2.1 o'.2.2.2.2.2.2.2.1 o'.2.2.2.2.2.2.2.2.1 o'.2.2.2.2.2.2.2.2.2.1 r25 r26 r27 r28 r29 r30 r42 r43 r54 r65 ra1 o'.2.2.2.2.2.2.2.2.2.2.1 o'.2.2.2.2.2.2.2.2.2.2.2.1 o'.2.2.2.2.2.2.2.2.2.2.2.2.1 o'.2.2.2.2.2.2.2.2.2.2.2.2.2 ra7 ra8 ra9 ra10 ra15 ra20 ∧ OUTL n pl w o') →
      ∃ w o', bX5_read_6 u (nI n) t1 (m + 2) x0 x1 x7 x8 x9 x10 c5 x6 a1 a2 a3 a4 a5 a6 (nI q) st (0 : Int32) pl (nI v) = some w ∧ bX11_pit_44 u t2 (m' + 2) r0 r2 (nI n) (nI q) (-1 : Int32) bk r7 r8 m18 m19 m20 m21 m22 m23 m24 r25 r26 r27 r28 r29 r30 r42 r43 r54 r65 ra1 b3 b4 b5 b6 ra7 ra8 ra9 ra10 ra15 ra20 (nI v) = bX11_pit_188 u t2 r0 r2 (nI n) o'.1 o'.2.1 o'.2.2.1 r7 r8 o'.2.2.2.1 o'.2.2.2.2.1 o'.2.2.2.2.2.1 o'.2.2.2.2.2.2.1 o'.2.2.2.2.2.2.2.1 o'.2.2.2.2.2.2.2.2.1 o'.2.2.2.2.2.2.2.2.2.1 r25 r26 r27 r28 r29 r30 r42 r43 r54 r65 ra1 o'.2.2.2.2.2.2.2.2.2.2.1 o'.2.2.2.2.2.2.2.2.2.2.2.1 o'.2.2.2.2.2.2.2.2.2.2.2.2.1 o'.2.2.2.2.2.2.2.2.2.2.2.2.2 ra7 ra8 ra9 ra10 ra15 ra20 ∧ OUTL n pl w o' := by
    intro v m m' q st bk p s x0 x1 x7 x8 x9 x10 x6 a1 a2 a3 a4 a5 a6 m18 m19 m20 m21 m22 m23 m24 b3 b4 b5 b6 hv hq P hs4 X M z nx
    have hs := sk_le b hq
    by_cases hmore : sk b n q < n
    · obtain ⟨o, e1, hh⟩ := cls (r0 := r0) (r2 := r2) (r7 := r7) (r8 := r8) (r25 := r25) (r26 := r26) (r27 := r27) (r28 := r28) (r29 := r29) (r30 := r30) (r42 := r42) (r43 := r43) (r54 := r54) (r65 := r65) (ra1 := ra1) (ra7 := ra7) (ra8 := ra8) (ra9 := ra9) (ra10 := ra10) (ra15 := ra15) (ra20 := ra20) T hu P hs4 X M z hv hq hmore st pl bk m'
      rw [bX5_read_6, if_neg (show ¬ (600 : Int32) ≤ nI v from nI_ge (b := 600) (by omega) (by omega)), t_moreX T hu hq, z_b, decide_eq_true hmore, if_neg (show ¬ zB true = (0 : Int32) from d_10), e1, z_b, show nI v + (1 : Int32) = nI (v + 1) from nI_1 v]
      rcases hh with ⟨vl, o', ⟨p2, s2, q2, P2, hs2, hq2, X2, M2, g1, g2, g3, g4, g5⟩, e2⟩ | ⟨o', ⟨k, f, q2, H, g1, g2, g3, g4, g5, g6, g7, g8, g9, g10, g11⟩, e2⟩
      · rw [e2, g1, g2, g3, g4, g5]
        cases hc : atC b n (sk b n q2) 59 with
        | true =>
          have hl : sk b n q2 < n := by unfold atC at hc; exact (of_decide_eq_true hc).1
          rw [t_signX1 T hu hq2 (c := 59) (k := 59) rfl (by omega) (by omega) _ _ hc, z_b, t_signM1 T hu hq2 (c := 59) (k := 59) rfl (by omega) (by omega) _ hc, z_b]
          exact nx vl _ _ _ p2 s2 _ _ _ _ _ _ _ _ _ _ _ _ _ _ _ _ _ _ _ _ _ _ _ _ hl P2 hs2 X2 M2
        | false =>
          have hs3 := sk_le b hq2
          rw [t_signX0 T hu hq2 (c := 59) (k := 59) rfl (by omega) (by omega) _ _ hc, t_fail, z_b, z_b, t_signM0 T hu hq2 (c := 59) (k := 59) rfl (by omega) (by omega) _ hc, z_b, bX11_pit_44, t_fineF (show sk b n q2 < 2147483648 by omega), z_b, if_pos rfl, X2.2.1]
          obtain ⟨L, e3⟩ := read_end (x0 := o.1) (x7 := o.2.2.1) (x8 := o.2.2.2.1) (x9 := o.2.2.2.2.1) (x10 := o.2.2.2.2.2.1) (x6 := o.2.2.2.2.2.2.1) (a1 := o.2.2.2.2.2.2.2.1) (a2 := o.2.2.2.2.2.2.2.2.1) (a3 := o.2.2.2.2.2.2.2.2.2.1) (a4 := o.2.2.2.2.2.2.2.2.2.2.1) (a5 := o.2.2.2.2.2.2.2.2.2.2.2.1) (a6 := o.2.2.2.2.2.2.2.2.2.2.2.2.1) T hu hs3 P2.2.1.2 (show v + 1 ≤ 599 by omega) (show ¬ (1 : Int32) = 0 by decide) (o.2.2.2.2.2.2.2.2.2.2.2.2.2.2.1) (nI (sk b n q2)) c5 m
          exact ⟨_, (nI (sk b n q2), nI (sk b n q2), (1 : Int32), o'.2.2.2.1, o'.2.2.2.2.1, o'.2.2.2.2.2.1, o'.2.2.2.2.2.2.1, o'.2.2.2.2.2.2.2.1, o'.2.2.2.2.2.2.2.2.1, o'.2.2.2.2.2.2.2.2.2.1, o'.2.2.2.2.2.2.2.2.2.2.1, o'.2.2.2.2.2.2.2.2.2.2.2.1, o'.2.2.2.2.2.2.2.2.2.2.2.2.1, o'.2.2.2.2.2.2.2.2.2.2.2.2.2), e3, rfl, Or.inr ⟨1, sk b n q2, by omega, by omega, hs3, rfl, rfl, rfl, rfl⟩⟩
      · rw [e2, g7, g8]
        obtain ⟨q3, h3, e4⟩ := t_signF T hu g4 (c := 59) (k := 59) rfl (by omega) (by omega) (kf_0 g1 g2) (pl := o.2.2.2.2.2.2.2.2.2.2.2.2.2.2.2.2)
        rw [e4, z_b, g6]
        obtain ⟨L, e3⟩ := read_end (x0 := o.1) (x7 := o.2.2.1) (x8 := o.2.2.2.1) (x9 := o.2.2.2.2.1) (x10 := o.2.2.2.2.2.1) (x6 := o.2.2.2.2.2.2.1) (a1 := o.2.2.2.2.2.2.2.1) (a2 := o.2.2.2.2.2.2.2.2.1) (a3 := o.2.2.2.2.2.2.2.2.2.1) (a4 := o.2.2.2.2.2.2.2.2.2.2.1) (a5 := o.2.2.2.2.2.2.2.2.2.2.2.1) (a6 := o.2.2.2.2.2.2.2.2.2.2.2.2.1) T hu h3 g5 (show v + 1 ≤ 599 by omega) (kf_0 g1 g2) (o.2.2.2.2.2.2.2.2.2.2.2.2.2.2.1) (o.2.2.2.2.2.2.2.2.2.2.2.2.2.2.2.2) c5 m
        exact ⟨_, o', e3, rfl, Or.inr ⟨k, f, g1, g2, g3, rfl, g9, g10, g11⟩⟩
    · obtain ⟨rfl, rfl, rfl, rfl, rfl, rfl, X6, XK, XP, XO⟩ := X
      obtain ⟨L, e, hL⟩ := tellA (u := u) (by omega) (nI (pW p)) P.2.1.2 c5
      rw [bX5_read_6, if_neg (show ¬ (600 : Int32) ≤ nI v from nI_ge (b := 600) (by omega) (by omega)), t_moreX T hu hq, z_b, decide_eq_false hmore, if_pos (show zB false = (0 : Int32) from rfl), bX11_pit_44, t_fine, z_b, if_neg d_10, t_moreM T hu hq, z_b, decide_eq_false hmore, if_pos (show zB false = (0 : Int32) from rfl)]
      unfold bX5_read_38
      rw [e, z_b]
      exact ⟨_, (nI (sk b n q), (-1 : Int32), bk, m18, m19, m20, m21, m22, m23, m24, b3, b4, b5, b6), rfl, rfl, Or.inl ⟨p, s, P, ⟨rfl, rfl, rfl, rfl, rfl, rfl, X6, XK, XP, XO⟩, M, hL (pW p) P.1.2 rfl, rfl, rfl, rfl⟩⟩
  intro r
  induction r with
  | zero =>
    intro v m m' q st bk p s x0 x1 x7 x8 x9 x10 x6 a1 a2 a3 a4 a5 a6 m18 m19 m20 m21 m22 m23 m24 b3 b4 b5 b6 hv hm hm' hq P hs4 X M z
    obtain ⟨m, rfl⟩ : ∃ k, m = k + 2 := ⟨m - 2, by omega⟩
    obtain ⟨m', rfl⟩ : ∃ k, m' = k + 2 := ⟨m' - 2, by omega⟩
    exact step v m m' q st bk p s x0 x1 x7 x8 x9 x10 x6 a1 a2 a3 a4 a5 a6 m18 m19 m20 m21 m22 m23 m24 b3 b4 b5 b6 (by omega) hq P hs4 X M z (fun h => absurd h (by omega))
  | succ r ih =>
    intro v m m' q st bk p s x0 x1 x7 x8 x9 x10 x6 a1 a2 a3 a4 a5 a6 m18 m19 m20 m21 m22 m23 m24 b3 b4 b5 b6 hv hm hm' hq P hs4 X M z
    obtain ⟨m, rfl⟩ : ∃ k, m = k + 2 := ⟨m - 2, by omega⟩
    obtain ⟨m', rfl⟩ : ∃ k, m' = k + 2 := ⟨m' - 2, by omega⟩
    refine step v m m' q st bk p s x0 x1 x7 x8 x9 x10 x6 a1 a2 a3 a4 a5 a6 m18 m19 m20 m21 m22 m23 m24 b3 b4 b5 b6 (by omega) hq P hs4 X M z (fun h q st bk p s x0 x1 x7 x8 x9 x10 x6 a1 a2 a3 a4 a5 a6 m18 m19 m20 m21 m22 m23 m24 b3 b4 b5 b6 hq P hs4 X M => ?_)
    exact ih (v + 1) (m + 1) (m' + 1) q st bk p s x0 x1 x7 x8 x9 x10 x6 a1 a2 a3 a4 a5 a6 m18 m19 m20 m21 m22 m23 m24 b3 b4 b5 b6 (by omega) (by omega) (by omega) hq P hs4 X M (fun h => absurd h (by omega))
end PTE
