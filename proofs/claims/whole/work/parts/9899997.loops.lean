/-! WORK: loops of steps -/
section STR
variable {u n : Nat} {b : Nat → Nat} {t1 t2 : Nat → Int32} {p : aP} {gx : (Int32 → (Nat → Int32) → (Nat → Int32) → (Nat → Int32) → Int32 → Int32 → Int32 → Int32 → Int32 → (Nat → Int32) → Int32 → Int32 → Int32 → Option (Int32 × (Nat → Int32) × (Nat → Int32) × (Nat → Int32) × Int32 × Int32 × Int32 × Int32))} {gm : (Int32 → Int32 → Int32 → Int32 → Int32 → Int32 → Int32 → Int32 → (Nat → Int32) → (Nat → Int32) → Option (Int32 × Int32 × Int32 × Int32 × Int32 × (Nat → Int32)))}
theorem KEPT_t {k k1 : Nat} {x1 x2 x3 s y1 y2 y3 t z1 z2 z3 r : Nat → Int32} (h : k ≤ k1) (a : KEPT k x1 x2 x3 s y1 y2 y3 t) (c : KEPT k1 y1 y2 y3 t z1 z2 z3 r) : KEPT k x1 x2 x3 s z1 z2 z3 r := by
  refine ⟨fun j hj => ?_, fun j hj => (c.2 j (by omega)).trans (a.2 j hj)⟩
  obtain ⟨a1, a2, a3⟩ := a.1 j hj
  obtain ⟨c1, c2, c3⟩ := c.1 j (by omega)
  exact ⟨c1.trans a1, c2.trans a2, c3.trans a3⟩
theorem PRG_app {k k1 k' : Nat} {Q A I Q' A' I' : Nat → Nat} {y1 y2 y3 t z1 z2 z3 r : Nat → Int32} (a : PRG k k1 Q A I y1 y2 y3 t) (c : KEPT k1 y1 y2 y3 t z1 z2 z3 r) (d : PRG k1 k' Q' A' I' z1 z2 z3 r) : PRG k k' (fun j => if j < k1 then Q j else Q' j) (fun j => if j < k1 then A j else A' j) (fun j => if j < k1 then I j else I' j) z1 z2 z3 r := by
  intro j h1 h2
  by_cases z : j < k1
  · simp only [if_pos z]
    obtain ⟨c1, c2, c3⟩ := c.1 j z
    have e0 := c.2 (3 * j) (by omega)
    have e1 := c.2 (3 * j + 1) (by omega)
    have e2 := c.2 (3 * j + 2) (by omega)
    rw [c1, c2, c3, e0, e1, e2]
    exact a j h1 z
  · simp only [if_neg z]
    exact d j (by omega) h2
theorem wf_app {k k1 k' e f g : Nat} {Q A I Q' A' I' : Nat → Nat} (a : wfB p Q A I f e k k1) (c : wfB p Q' A' I' g e k1 k') : wfB p (fun j => if j < k1 then Q j else Q' j) (fun j => if j < k1 then A j else A' j) (fun j => if j < k1 then I j else I' j) (f + g) e k k' :=
  wfB_app g f e k k1 k' (wfB_c f e k k1 (fun j h1 h2 => ⟨if_pos h2, fun _ => if_pos h2, fun _ => ⟨if_pos h2, if_pos h2⟩⟩) a) (wfB_c g e k1 k' (fun j h1 h2 => ⟨if_neg (by omega), fun _ => if_neg (by omega), fun _ => ⟨if_neg (by omega), if_neg (by omega)⟩⟩) c)
theorem KEPT_r {k : Nat} {x1 x2 x3 s : Nat → Int32} : KEPT k x1 x2 x3 s x1 x2 x3 s := ⟨fun j _ => ⟨rfl, rfl, rfl⟩, fun j _ => rfl⟩
theorem pk_end {w v : Nat} (hw : ofW w = v) (hv : 0 < v) : ¬ pkW b n n = ofW w := by
  have h0 : wl b n n = 0 := by
    have := wl_le b (Nat.le_refl n)
    omega
  have h1 : pkW b n n = 0 := by
    unfold pkW
    rw [h0]
    rfl
  rw [h1, hw]
  omega
theorem loopF (T : TXT b n t1 t2) (hu : 700 ≤ u) (e : Nat) : LOOPF n t1 p (f_X6_readSteps u gx) e := by
  intro q c st f pl x1 x2 x3 hq hf
  obtain ⟨u', hu'⟩ : ∃ k, u = k + 1 := ⟨u - 1, by omega⟩
  have key : ∀ m, bX6_readSteps_3 u gx (nI n) t1 (nI (pW p)) (nI (pH p)) (m + 1) c x1 x2 x3 (nI q) st f pl (nI e) (0 : Int32) = some (c, x1, x2, x3, nI (sk b n q), st, f, pl) := by
    intro m
    rw [bX6_readSteps_3, if_neg (show ¬ (150 : Int32) ≤ 0 by decide), t_moreF T hu hq hf, z_b, if_pos rfl]
  have k2 := key u'
  rw [← hu'] at k2
  refine ⟨sk b n q, _, sk_le b hq, k2, rfl, rfl, rfl⟩
theorem loop_ok (T : TXT b n t1 t2) (hu : 700 ≤ u) (hn : n ≤ 150) {e : Nat} {pl : Int32} (he : 1 ≤ e) (he6 : e ≤ 6) (ST : ∀ (k q : Nat) (st bk : Int32) (x1 x2 x3 s : Nat → Int32), q ≤ n → 5 * k ≤ q → k < 30 → SO u n t2 gm pl p e k x1 x2 x3 s (f_X6_readStep u gx (nI k) x1 x2 x3 (nI n) (nI (sk b n q)) st (0 : Int32) pl t1 (nI (pW p)) (nI (pH p)) (nI e)) (f_X11_readStep u gm (nI n) (nI (sk b n q)) (-1 : Int32) bk (nI e) (nI (pW p)) (nI (pH p)) (nI (3 * k)) t2 s)) : LOOPH u n b t1 t2 p pl (f_X6_readSteps u gx) (f_X11_readStep u gm) e := by
  intro k q st bk x1 x2 x3 s v3 hq hk5
  have key : ∀ (r k q m m' v : Nat) (st bk : Int32) (x1 x2 x3 s : Nat → Int32), 31 ≤ k + r → r < m → r + 1 < m' → v ≤ k → q ≤ n → 5 * k ≤ q → ∃ (o : sXo) (o' : sMo), bX6_readSteps_3 u gx (nI n) t1 (nI (pW p)) (nI (pH p)) m (nI k) x1 x2 x3 (nI q) st (0 : Int32) pl (nI e) (nI v) = some o ∧ bX11_readStep_206 u (f_X11_readStep u gm) (nI n) (nI (pW p)) (nI (pH p)) t2 m' (nI q) (-1 : Int32) bk (nI e) (nI (3 * k)) s v3 = bX11_readStep_229 u (f_X11_readStep u gm) (nI n) (nI (pW p)) (nI (pH p)) t2 o'.1 o'.2.1 o'.2.2.1 o'.2.2.2.1 o'.2.2.2.2.1 o'.2.2.2.2.2 v3 ∧ ((∃ (k' q' : Nat) (Q A I : Nat → Nat) (f : Nat), k ≤ k' ∧ 5 * k' ≤ q' ∧ (atC b n q' 93 = true ∧ sk b n q' = q') ∧ KEPT k x1 x2 x3 s o.2.1 o.2.2.1 o.2.2.2.1 o'.2.2.2.2.2 ∧ PRG k k' Q A I o.2.1 o.2.2.1 o.2.2.2.1 o'.2.2.2.2.2 ∧ wfB p Q A I f e k k' ∧ o.1 = nI k' ∧ o.2.2.2.2.1 = nI q' ∧ o.2.2.2.2.2.2.1 = 0 ∧ o.2.2.2.2.2.2.2 = pl ∧ o'.1 = nI q' ∧ o'.2.1 = -1 ∧ o'.2.2.2.1 = nI e ∧ o'.2.2.2.2.1 = nI (3 * k')) ∨ (o.2.2.2.2.1 = nI n ∧ o.2.2.2.2.2.2.1 = 0 ∧ o'.2.1 = nI n ∧ o'.2.2.1 = 1 ∧ o.2.2.2.2.2.2.2 = pl) ∨ SF n o o') := by
    intro r
    induction r with
    | zero => intro k q m m' v st bk x1 x2 x3 s h1 h2 h3 h4 h5 h6; omega
    | succ r ih =>
      intro k q m m' v st bk x1 x2 x3 s h1 h2 h3 h4 h5 h6
      obtain ⟨m, rfl⟩ := z_suc h2
      obtain ⟨m', rfl⟩ : ∃ k, m' = k + 2 := ⟨m' - 2, by omega⟩
      have hs := sk_le b h5
      have hg := sk_ge b n q
      have si := sk_id b h5
      rw [bX6_readSteps_3, if_neg (show ¬ (150 : Int32) ≤ nI v from nI_ge (b := 150) (by omega) (by omega)), t_moreX T hu h5, z_b]
      by_cases hm : sk b n q < n
      · rw [decide_eq_true hm, if_neg (show ¬ zB true = (0 : Int32) from d_10), if_neg (show ¬ nI e ≤ (0 : Int32) from nI_ge (a := 0) (by omega) (by omega)), t_isNext T hu hs (c := (93 : Int32)) (k := 93) rfl (by omega) (by omega), z_b, si, bX11_readStep_206, t_fine, z_b, if_neg d_10, t_here T hu h5, z_b]
        cases h93 : atC b n (sk b n q) 93 with
        | true =>
          rw [if_neg (show ¬ zB true = (0 : Int32) from d_10), if_pos (show pkM b n (sk b n q) = (93 : Int32) from by rw [show (93 : Int32) = nI 93 from rfl, pkM_c T _ (by omega) (by omega)]; exact h93)]
          exact ⟨_, (nI (sk b n q), (-1 : Int32), bk, nI e, nI (3 * k), s), rfl, rfl, Or.inl ⟨k, sk b n q, fun _ => 0, fun _ => 0, fun _ => 0, 0, by omega, by omega, ⟨h93, si⟩, KEPT_r, fun j j1 j2 => absurd j2 (by omega), rfl, rfl, rfl, rfl, rfl, rfl, rfl, rfl, rfl⟩⟩
        | false =>
          rw [if_pos (show zB false = (0 : Int32) from rfl), if_neg (show ¬ pkM b n (sk b n q) = (93 : Int32) from by rw [show (93 : Int32) = nI 93 from rfl, pkM_c T _ (by omega) (by omega), h93]; decide)]
          obtain ⟨o, o', e1, e2, hh⟩ := ST k q st bk x1 x2 x3 s h5 h6 (by omega)
          unfold bX6_readSteps_32
          rw [e1, z_b, e2, show nI v + (1 : Int32) = nI (v + 1) from nI_1 v]
          unfold bX11_readStep_276
          rcases hh with ⟨k1, q1, Q, A, I, f, j1, j2, j3, K1, P1, wf1, i1, i2, i3, i4, i5, i6, i7, i8⟩ | ⟨kd, f, q1, j1, j2, j3, j4, i1, i2, i3, i4, i5⟩
          · have hg1 := sk_ge b n q1
            rw [i1, i2, i3, i4, i5, i6, i7, i8]
            cases h59 : atC b n (sk b n q1) 59 with
            | true =>
              have hl : sk b n q1 < n := by unfold atC at h59; exact (of_decide_eq_true h59).1
              rw [t_signX1 T hu j3 (c := 59) (k := 59) rfl (by omega) (by omega) _ _ h59, z_b, t_signM1 T hu j3 (c := 59) (k := 59) rfl (by omega) (by omega) _ h59, z_b]
              obtain ⟨w, w', e3, e4, hh⟩ := ih k1 (sk b n q1 + 1) m (m' + 1) (v + 1) o.2.2.2.2.2.1 o'.2.2.1 o.2.1 o.2.2.1 o.2.2.2.1 o'.2.2.2.2.2 (by omega) (by omega) (by omega) (by omega) hl (by omega)
              refine ⟨w, w', e3, e4, ?_⟩
              rcases hh with ⟨k2, q2, Q2, A2, I2, f2, l1, l2, l3, K2, P2, wf2, l4⟩ | hh | hh
              · exact Or.inl ⟨k2, q2, _, _, _, _, by omega, l2, l3, KEPT_t (by omega) K1 K2, PRG_app P1 K2 P2, wf_app wf1 wf2, l4⟩
              · exact Or.inr (Or.inl hh)
              · exact Or.inr (Or.inr hh)
            | false =>
              have hs3 := sk_le b j3
              rw [t_signX0 T hu j3 (c := 59) (k := 59) rfl (by omega) (by omega) _ _ h59, t_fail, z_b, z_b, t_signM0 T hu j3 (c := 59) (k := 59) rfl (by omega) (by omega) _ h59, z_b, z_b]
              obtain ⟨m2, rfl⟩ : ∃ k, m = k + 1 := ⟨m - 1, by omega⟩
              dsimp only
              rw [bX6_readSteps_3, if_neg (show ¬ (150 : Int32) ≤ nI (v + 1) from nI_ge (b := 150) (by omega) (by omega)), t_moreF T hu hs3 (show ¬ (1 : Int32) = 0 by decide), z_b, if_pos rfl, bX11_readStep_206, t_fineF (show sk b n q1 < 2147483648 by omega), z_b, if_pos rfl]
              exact ⟨_, (_, _, _, _, _, _), rfl, rfl, Or.inr (Or.inr ⟨1, sk b n q1, _, by omega, by omega, hs3, sk_le b hs3, rfl, rfl, rfl, rfl, rfl⟩)⟩
          · obtain ⟨q2, h9, e9⟩ := t_signF T hu j4 (c := 59) (k := 59) rfl (by omega) (by omega) (kf_0 j1 j2) (pl := nI f)
            rw [i1, i2, i3, i4, i5, e9, z_b, t_signMF (show f < 2147483648 by omega), z_b, z_b]
            obtain ⟨m2, rfl⟩ : ∃ k, m = k + 1 := ⟨m - 1, by omega⟩
            dsimp only
            rw [bX6_readSteps_3, if_neg (show ¬ (150 : Int32) ≤ nI (v + 1) from nI_ge (b := 150) (by omega) (by omega)), t_moreF T hu h9 (kf_0 j1 j2), z_b, if_pos rfl, bX11_readStep_206, t_fineF (show f < 2147483648 by omega), z_b, if_pos rfl]
            exact ⟨_, (_, _, _, _, _, _), rfl, rfl, Or.inr (Or.inr ⟨kd, f, _, j1, j2, j3, sk_le b h9, rfl, rfl, rfl, rfl, rfl⟩)⟩
      · have en : sk b n q = n := by omega
        rw [decide_eq_false hm, if_pos (show zB false = (0 : Int32) from rfl), en]
        have h93 : atC b n n 93 = false := decide_eq_false (fun z => absurd z.1 (Nat.lt_irrefl n))
        rw [bX11_readStep_206, t_fine, z_b, if_neg d_10, t_here T hu h5, z_b, en, if_neg (show ¬ pkM b n n = (93 : Int32) from by rw [show (93 : Int32) = nI 93 from rfl, pkM_c T _ (by omega) (by omega), h93]; decide)]
        have hsn : sk b n n = n := by rw [en] at si; exact si
        have mn := m_none (gm := gm) (p := p) T hu (q := n) (Nat.le_refl n) (by rw [hsn]; exact pk_end ow_26 (by omega)) (by rw [hsn]; exact pk_end ow_27 (by omega)) (by rw [hsn]; exact pk_end ow_28 (by omega)) (by rw [hsn]; exact pk_end ow_25 (by omega)) (by rw [hsn]; exact pk_end ow_29 (by omega)) (by rw [hsn]; exact pk_end ow_30 (by omega)) bk (nI e) (nI (3 * k)) s
        rw [hsn] at mn
        dsimp only
        rw [mn]
        unfold bX11_readStep_276
        rw [t_signMF (show n < 2147483648 by omega), z_b, z_b]
        dsimp only
        rw [bX11_readStep_206, t_fineF (show n < 2147483648 by omega), z_b, if_pos rfl]
        exact ⟨_, (_, _, _, _, _, _), rfl, rfl, Or.inr (Or.inl ⟨rfl, rfl, rfl, rfl, rfl⟩)⟩
  obtain ⟨o, o', e1, e2, hh⟩ := key 31 k q u u 0 st bk x1 x2 x3 s (by omega) (by omega) (by omega) (by omega) hq hk5
  refine ⟨o, o', e1, e2, ?_⟩
  rcases hh with ⟨k', q', Q, A, I, f, l1, l2, ⟨l3, l4⟩, l5⟩ | hh | hh
  · exact Or.inl ⟨k', q', Q, A, I, f, l1, l2, l3, l4, l5⟩
  · exact Or.inr (Or.inl hh)
  · exact Or.inr (Or.inr hh)
theorem st_all (T : TXT b n t1 t2) (hu : 700 ≤ u) (hn : n ≤ 150) (P : pOK p) {pl : Int32} : ∀ r e D, e + r = 6 → e + D = 8 → ∀ (k q : Nat) (st bk : Int32) (x1 x2 x3 s : Nat → Int32), q ≤ n → 5 * k ≤ q → k < 30 → SO u n t2 (f_X11_readStep_r u D) pl p e k x1 x2 x3 s (f_X6_readStep u (f_X6_readSteps_r u D) (nI k) x1 x2 x3 (nI n) (nI (sk b n q)) st (0 : Int32) pl t1 (nI (pW p)) (nI (pH p)) (nI e)) (f_X11_readStep u (f_X11_readStep_r u D) (nI n) (nI (sk b n q)) (-1 : Int32) bk (nI e) (nI (pW p)) (nI (pH p)) (nI (3 * k)) t2 s) := by
  intro r
  induction r with
  | zero =>
    intro e D he hD k q st bk x1 x2 x3 s hq h5 hk
    exact stepB T hu hn P (by omega) (fun h => absurd h (by omega)) (fun h => absurd h (by omega)) hq h5 hk st bk x1 x2 x3 s
  | succ r ih =>
    intro e D he hD k q st bk x1 x2 x3 s hq h5 hk
    obtain ⟨D, rfl⟩ : ∃ d, D = d + 1 := ⟨D - 1, by omega⟩
    exact stepB T hu hn P (by omega) (fun h => loop_ok T hu hn (by omega) (by omega) (ih (e + 1) D (by omega) (by omega))) (fun h => loopF T hu (e + 1)) hq h5 hk st bk x1 x2 x3 s
end STR
