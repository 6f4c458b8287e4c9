/-! WORK: the whole text; programs that count alike -/
section STW
variable {u n : Nat} {b : Nat → Nat} {t1 t2 : Nat → Int32} {p : aP}
variable {c27 c28 c30 d0 d2 d8 d42 d43 d44 d45 d46 : Int32} {a7 a8 a9 a10 a13 a14 a15 ra1 ra16 ra17 ra19 ra20 ra21 ra22 ra23 ra24 : Nat → Int32}
theorem top_ok (T : TXT b n t1 t2) (hu : 700 ≤ u) (hn : n ≤ 150) (P : pOK p) {pl : Int32} : ∀ (r k q m m' v : Nat) (st bk : Int32) (x1 x2 x3 s : Nat → Int32), 31 ≤ k + r → r < m → r + 1 < m' → v ≤ k → q ≤ n → 5 * k ≤ q → ∃ (o : sXo) (o' : sMo), bX6_readSteps_3 u (f_X6_readSteps_r u 8) (nI n) t1 (nI (pW p)) (nI (pH p)) m (nI k) x1 x2 x3 (nI q) st (0 : Int32) pl (0 : Int32) (nI v) = some o ∧ bX11_work_68 u (nI (pW p)) (nI (pH p)) c27 c28 c30 t2 a7 a8 a9 a10 a13 a14 a15 m' d0 d2 (nI n) (nI q) (-1 : Int32) bk (0 : Int32) d8 (nI (3 * k)) d42 d43 d44 d45 d46 ra1 ra16 ra17 s ra19 ra20 ra21 ra22 ra23 ra24 = bX11_work_89 u (nI (pW p)) (nI (pH p)) c27 c28 c30 t2 a7 a8 a9 a10 a13 a14 a15 d0 d2 (nI n) o'.1 o'.2.1 o'.2.2.1 o'.2.2.2.1 d8 o'.2.2.2.2.1 d42 d43 d44 d45 d46 ra1 ra16 ra17 o'.2.2.2.2.2 ra19 ra20 ra21 ra22 ra23 ra24 ∧ ((∃ (k' q' : Nat) (Q A I : Nat → Nat) (f : Nat), k ≤ k' ∧ 5 * k' ≤ q' ∧ q' = n ∧ KEPT k x1 x2 x3 s o.2.1 o.2.2.1 o.2.2.2.1 o'.2.2.2.2.2 ∧ PRG k k' Q A I o.2.1 o.2.2.1 o.2.2.2.1 o'.2.2.2.2.2 ∧ wfB p Q A I f 0 k k' ∧ o.1 = nI k' ∧ o.2.2.2.2.1 = nI q' ∧ o.2.2.2.2.2.2.1 = 0 ∧ o.2.2.2.2.2.2.2 = pl ∧ o'.1 = nI q' ∧ o'.2.1 = -1 ∧ o'.2.2.2.1 = nI 0 ∧ o'.2.2.2.2.1 = nI (3 * k')) ∨ SF n o o') := by
  intro r
  induction r with
  | zero => intro k q m m' v st bk x1 x2 x3 s h1 h2 h3 h4 h5 h6; omega
  | succ r ih =>
    intro k q m m' v st bk x1 x2 x3 s h1 h2 h3 h4 h5 h6
    obtain ⟨m, rfl⟩ := z_suc h2
    obtain ⟨m', rfl⟩ : ∃ k, m' = k + 2 := ⟨m' - 2, by omega⟩
    have hs := sk_le b h5
    have hg := sk_ge b n q
    have si := sk_id b h5
    rw [bX6_readSteps_3, if_neg (show ¬ (150 : Int32) ≤ nI v from nI_ge (b := 150) (by omega) (by omega)), t_moreX T hu h5, z_b]
    by_cases hm : sk b n q < n
    · rw [decide_eq_true hm, if_neg (show ¬ zB true = (0 : Int32) from d_10), if_pos (show (0 : Int32) ≤ 0 by decide), bX11_work_68, t_fine, z_b, if_neg d_10, t_moreM T hu h5, z_b, decide_eq_true hm, if_neg (show ¬ zB true = (0 : Int32) from d_10)]
      obtain ⟨o, o', e1, e2, hh⟩ := st_all T hu hn P (pl := pl) 6 0 8 (by omega) (by omega) k q st bk x1 x2 x3 s h5 h6 (by omega)
      unfold bX6_readSteps_32
      dsimp only
      rw [show f_X6_readStep u (f_X6_readSteps_r u 8) (nI k) x1 x2 x3 (nI n) (nI (sk b n q)) st (0 : Int32) pl t1 (nI (pW p)) (nI (pH p)) (0 : Int32) = some o from e1, z_b, show f_X11_readStep_r u 9 (nI n) (nI (sk b n q)) (-1 : Int32) bk (0 : Int32) (nI (pW p)) (nI (pH p)) (nI (3 * k)) t2 s = _ from e2, show nI v + (1 : Int32) = nI (v + 1) from nI_1 v]
      unfold bX11_readStep_276
      rcases hh with ⟨k1, q1, Q, A, I, f, j1, j2, j3, K1, P1, wf1, i1, i2, i3, i4, i5, i6, i7, i8⟩ | ⟨kd, f, q1, j1, j2, j3, j4, i1, i2, i3, i4, i5⟩
      · have hg1 := sk_ge b n q1
        rw [i1, i2, i3, i4, i5, i6, i7, i8]
        cases h59 : atC b n (sk b n q1) 59 with
        | true =>
          have hl : sk b n q1 < n := by unfold atC at h59; exact (of_decide_eq_true h59).1
          rw [t_signX1 T hu j3 (c := 59) (k := 59) rfl (by omega) (by omega) _ _ h59, z_b, t_signM1 T hu j3 (c := 59) (k := 59) rfl (by omega) (by omega) _ h59, z_b]
          obtain ⟨w, w', e3, e4, hh⟩ := ih k1 (sk b n q1 + 1) m (m' + 1) (v + 1) o.2.2.2.2.2.1 o'.2.2.1 o.2.1 o.2.2.1 o.2.2.2.1 o'.2.2.2.2.2 (by omega) (by omega) (by omega) (by omega) hl (by omega)
          refine ⟨w, w', e3, e4, ?_⟩
          rcases hh with ⟨k2, q2, Q2, A2, I2, f2, l1, l2, l3, K2, P2, wf2, l4⟩ | hh
          · exact Or.inl ⟨k2, q2, _, _, _, _, by omega, l2, l3, KEPT_t (by omega) K1 K2, PRG_app P1 K2 P2, wf_app wf1 wf2, l4⟩
          · exact Or.inr hh
        | false =>
          have hs3 := sk_le b j3
          rw [t_signX0 T hu j3 (c := 59) (k := 59) rfl (by omega) (by omega) _ _ h59, t_fail, z_b, z_b, t_signM0 T hu j3 (c := 59) (k := 59) rfl (by omega) (by omega) _ h59, z_b, z_b]
          obtain ⟨m2, rfl⟩ : ∃ k, m = k + 1 := ⟨m - 1, by omega⟩
          dsimp only
          rw [bX6_readSteps_3, if_neg (show ¬ (150 : Int32) ≤ nI (v + 1) from nI_ge (b := 150) (by omega) (by omega)), t_moreF T hu hs3 (show ¬ (1 : Int32) = 0 by decide), z_b, if_pos rfl, bX11_work_68, t_fineF (show sk b n q1 < 2147483648 by omega), z_b, if_pos rfl]
          exact ⟨_, (_, _, _, _, _, _), rfl, rfl, Or.inr ⟨1, sk b n q1, _, by omega, by omega, hs3, sk_le b hs3, rfl, rfl, rfl, rfl, rfl⟩⟩
      · obtain ⟨q2, h9, e9⟩ := t_signF T hu j4 (c := 59) (k := 59) rfl (by omega) (by omega) (kf_0 j1 j2) (pl := nI f)
        rw [i1, i2, i3, i4, i5, e9, z_b, t_signMF (show f < 2147483648 by omega), z_b, z_b]
        obtain ⟨m2, rfl⟩ : ∃ k, m = k + 1 := ⟨m - 1, by omega⟩
        dsimp only
        rw [bX6_readSteps_3, if_neg (show ¬ (150 : Int32) ≤ nI (v + 1) from nI_ge (b := 150) (by omega) (by omega)), t_moreF T hu h9 (kf_0 j1 j2), z_b, if_pos rfl, bX11_work_68, t_fineF (show f < 2147483648 by omega), z_b, if_pos rfl]
        exact ⟨_, (_, _, _, _, _, _), rfl, rfl, Or.inr ⟨kd, f, _, j1, j2, j3, sk_le b h9, rfl, rfl, rfl, rfl, rfl⟩⟩
    · have en : sk b n q = n := by omega
      rw [decide_eq_false hm, if_pos (show zB false = (0 : Int32) from rfl), bX11_work_68, t_fine, z_b, if_neg d_10, t_moreM T hu h5, z_b, decide_eq_false hm, if_pos (show zB false = (0 : Int32) from rfl), en]
      exact ⟨_, (nI n, (-1 : Int32), bk, (0 : Int32), nI (3 * k), s), rfl, rfl, Or.inl ⟨k, n, fun _ => 0, fun _ => 0, fun _ => 0, 0, by omega, by omega, rfl, KEPT_r, fun j j1 j2 => absurd j2 (by omega), rfl, rfl, rfl, rfl, rfl, rfl, rfl, rfl, rfl⟩⟩
theorem exS_c {LF LH : (Nat → Int32) → Int32} {q a c a' c' : Nat} (hq : q ≤ 4) (h1 : q ≤ 1 → a' = a) (h4 : q = 4 → a' = a ∧ c' = c) (s : rS) : exS LF LH p q a' c' s = exS LF LH p q a c s := by
  have hk : ∀ m, stepOK p m q a' c' = stepOK p m q a c := by
    intro m
    rcases (show q = 0 ∨ q = 1 ∨ q = 2 ∨ q = 3 ∨ q = 4 by omega) with rfl | rfl | rfl | rfl | rfl
    · rw [h1 (by omega)]
      exact (show stepOK p m 0 a c' = (decide (why (pW p) (pH p) (pD p) (aS m) (aW m) a = 0) && decide (aDg m < pC p)) from rfl).trans (show _ = stepOK p m 0 a c from rfl)
    · rw [h1 (by omega)]
      exact (show stepOK p m 1 a c' = propOK p m a from rfl).trans (show _ = stepOK p m 1 a c from rfl)
    · exact (show stepOK p m 2 a' c' = pumpOK p m from rfl).trans (show _ = stepOK p m 2 a c from rfl)
    · exact (show stepOK p m 3 a' c' = decide (aSh m < 200) from rfl).trans (show _ = stepOK p m 3 a c from rfl)
    · rw [(h4 rfl).1, (h4 rfl).2]
  have hm : ∀ m, stepM LF LH p m q a' c' = stepM LF LH p m q a c := by
    intro m
    rcases (show q = 0 ∨ q = 1 ∨ q = 2 ∨ q = 3 ∨ q = 4 by omega) with rfl | rfl | rfl | rfl | rfl
    · rw [h1 (by omega)]
      exact (show stepM LF LH p m 0 a c' = digM LF LH p m a from rfl).trans (show _ = stepM LF LH p m 0 a c from rfl)
    · rw [h1 (by omega)]
      exact (show stepM LF LH p m 1 a c' = propM m a from rfl).trans (show _ = stepM LF LH p m 1 a c from rfl)
    · exact (show stepM LF LH p m 2 a' c' = pumpM p m from rfl).trans (show _ = stepM LF LH p m 2 a c from rfl)
    · exact (show stepM LF LH p m 3 a' c' = shiftM p m from rfl).trans (show _ = stepM LF LH p m 3 a c from rfl)
    · rw [(h4 rfl).1, (h4 rfl).2]
  unfold exS
  rw [hk, hm]
theorem exB_c {LF LH : (Nat → Int32) → Int32} {Q A I Q' A' I' : Nat → Nat} : ∀ (f d lo hi : Nat), RE lo hi Q A I Q' A' I' → wfB p Q A I f d lo hi → ∀ s : rS, exB LF LH p Q' A' I' f lo hi s = exB LF LH p Q A I f lo hi s
  | 0, d, lo, hi, _, _, s => rfl
  | f + 1, d, lo, hi, r, w, s => by
    show (if hi ≤ lo ∨ 200 ≤ s.2.1 then s else if Q' lo = 5 then exB LF LH p Q' A' I' f (lo + 1 + I' lo) hi (itR (exB LF LH p Q' A' I' f (lo + 1) (lo + 1 + I' lo)) (A' lo) (s.1, s.2.1 + 1, s.2.2)) else exB LF LH p Q' A' I' f (lo + 1) hi (exS LF LH p (Q' lo) (A' lo) (I' lo) s)) = (if hi ≤ lo ∨ 200 ≤ s.2.1 then s else if Q lo = 5 then exB LF LH p Q A I f (lo + 1 + I lo) hi (itR (exB LF LH p Q A I f (lo + 1) (lo + 1 + I lo)) (A lo) (s.1, s.2.1 + 1, s.2.2)) else exB LF LH p Q A I f (lo + 1) hi (exS LF LH p (Q lo) (A lo) (I lo) s))
    by_cases c : hi ≤ lo ∨ 200 ≤ s.2.1
    · rw [if_pos c, if_pos c]
    · rw [if_neg c, if_neg c]
      obtain ⟨h0, hh⟩ := w.resolve_left (by omega)
      obtain ⟨r1, r2, r3⟩ := r lo (Nat.le_refl _) h0
      rw [r1]
      rcases hh with ⟨g1, g2, g3, g4, g5, g6⟩ | ⟨g1, g2⟩
      · obtain ⟨ra, ri⟩ := r3 (Or.inr g1)
        rw [if_pos g1, if_pos g1, ra, ri]
        have e1 : exB LF LH p Q' A' I' f (lo + 1) (lo + 1 + I lo) = exB LF LH p Q A I f (lo + 1) (lo + 1 + I lo) := funext (fun s => exB_c f _ _ _ (fun j j1 j2 => r j (by omega) (by omega)) g5 s)
        rw [e1]
        exact exB_c f _ _ _ (fun j j1 j2 => r j (by omega) j2) g6 _
      · have h5 : ¬ Q lo = 5 := by have := g1.1; omega
        rw [if_neg h5, if_neg h5, exS_c g1.1 r2 (fun e => r3 (Or.inl e))]
        exact exB_c f _ _ _ (fun j j1 j2 => r j (by omega) j2) g2 _
end STW
