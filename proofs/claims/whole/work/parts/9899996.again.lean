/-! WORK: again, and loops -/
section STQ
variable {u n : Nat} {b : Nat → Nat} {t1 t2 : Nat → Int32} {p : aP} {gx : (Int32 → (Nat → Int32) → (Nat → Int32) → (Nat → Int32) → Int32 → Int32 → Int32 → Int32 → Int32 → (Nat → Int32) → Int32 → Int32 → Int32 → Option (Int32 × (Nat → Int32) × (Nat → Int32) × (Nat → Int32) × Int32 × Int32 × Int32 × Int32))} {gm : (Int32 → Int32 → Int32 → Int32 → Int32 → Int32 → Int32 → Int32 → (Nat → Int32) → (Nat → Int32) → Option (Int32 × Int32 × Int32 × Int32 × Int32 × (Nat → Int32)))}
theorem m_tail2 (hu : 10 ≤ u) {f : Nat} (hf : f < 2147483648) (n' at' kd e' c41 v : Int32) (s : Nat → Int32) : k_b (f_X11_sign u n' at' (nI f) kd t2 (91 : Int32)) (fun r191 => k_b (f_X11_tellsStep u r191.2.1 c41 s (5 : Int32) v (0 : Int32)) (fun r203 => bX11_readStep_206 u gm n' (nI (pW p)) (nI (pH p)) t2 u r191.1 r191.2.1 r191.2.2 e' r203.1 r203.2 c41)) = bX11_readStep_276 u gm n' (nI (pW p)) (nI (pH p)) t2 at' (nI f) kd (e' - (1 : Int32)) c41 s := by
  obtain ⟨u', rfl⟩ : ∃ k, u = k + 1 := ⟨u - 1, by omega⟩
  rw [t_signMF hf, z_b]
  dsimp only
  rw [tellsF hf, z_b, bX11_readStep_206, t_fineF hf, z_b, if_pos rfl]
  unfold bX11_readStep_229
  rw [t_signMF hf, z_b]
  dsimp only
  rw [t_fineF hf, z_b, if_pos rfl]
  rfl
theorem m_229F {f : Nat} (hf : f < 2147483648) (n' at' kd e' c41 v3 : Int32) (s : Nat → Int32) : bX11_readStep_229 u gm n' (nI (pW p)) (nI (pH p)) t2 at' (nI f) kd e' c41 s v3 = bX11_readStep_276 u gm n' (nI (pW p)) (nI (pH p)) t2 at' (nI f) kd (e' - (1 : Int32)) c41 s := by
  unfold bX11_readStep_229
  rw [t_signMF hf, z_b]
  dsimp only
  rw [t_fineF hf, z_b, if_pos rfl]
  rfl
/-- the class's tail behind a fault -/
theorem x_gF (T : TXT b n t1 t2) (hu : 700 ≤ u) {e k q : Nat} (LF : LOOPF n t1 p gx e) (hk : k < 30) (hq : q ≤ n) {f : Int32} (hf : ¬ f = 0) (c st pl v : Int32) (x1 x2 x3 : Nat → Int32) : ∃ (o : sXo) (q' : Nat), q' ≤ n ∧ k_b (gx c x1 x2 x3 (nI n) (nI q) st f pl t1 (nI (pW p)) (nI (pH p)) (nI e)) (fun r37 => k_b (f_X8_sign u (nI n) r37.2.2.2.2.1 r37.2.2.2.2.2.2.1 r37.2.2.2.2.2.2.2 t1 (93 : Int32)) (fun r43 => k_b (k_i 30 (nI k) (k_i 30 (nI k) (some (r37.1, r37.2.1, (upd r37.2.2.1 k v), (upd r37.2.2.2.1 k ((r37.1 - nI k) - (1 : Int32))), r43.1, r37.2.2.2.2.2.1, r43.2.1, r43.2.2)))) (fun r173 => some (r173.1, r173.2.1, r173.2.2.1, r173.2.2.2.1, r173.2.2.2.2.1, r173.2.2.2.2.2.1, r173.2.2.2.2.2.2.1, r173.2.2.2.2.2.2.2)))) = some o ∧ o.2.2.2.2.1 = nI q' ∧ o.2.2.2.2.2.2.1 = f ∧ o.2.2.2.2.2.2.2 = pl := by
  obtain ⟨q1, o1, h1, e1, g1, g2, g3⟩ := LF q c st f pl x1 x2 x3 hq hf
  obtain ⟨q2, h2, e2⟩ := t_signF T hu h1 (c := 93) (k := 93) rfl (by omega) (by omega) hf (pl := pl)
  rw [e1, z_b, g1, g2, g3, e2, z_b, z_ki hk (by omega), z_ki hk (by omega), z_b]
  exact ⟨_, q2, h2, rfl, rfl, rfl, rfl⟩
theorem sb_5 (T : TXT b n t1 t2) (hu : 700 ≤ u) (hn : n ≤ 150) {e k q : Nat} (he : e ≤ 6) {pl : Int32} (LH : e < 6 → LOOPH u n b t1 t2 p pl gx gm (e + 1)) (LF : e < 6 → LOOPF n t1 p gx (e + 1)) (hq : q ≤ n) (hk5 : 5 * k ≤ q) (hk : k < 30) (hw : pkW b n (sk b n q) = ofW 30) (st bk : Int32) (x1 x2 x3 s : Nat → Int32) : SO u n t2 gm pl p e k x1 x2 x3 s (f_X6_readStep u gx (nI k) x1 x2 x3 (nI n) (nI (sk b n q)) st (0 : Int32) pl t1 (nI (pW p)) (nI (pH p)) (nI e)) (f_X11_readStep u gm (nI n) (nI (sk b n q)) (-1 : Int32) bk (nI e) (nI (pW p)) (nI (pH p)) (nI (3 * k)) t2 s) := by
  have hs := sk_le b hq
  have si := sk_id b hq
  have hg := sk_ge b n q
  have hwl := wl_le b hs
  have el := wl_w5 hw
  rw [x_st T hu hq hk (wid4_5 hw), if_neg (show ¬ nI 5 = (0 : Int32) by decide), if_neg (show ¬ nI 5 = (1 : Int32) by decide), if_neg (show ¬ nI 5 = (2 : Int32) by decide), if_neg (show ¬ nI 5 = (3 : Int32) by decide), if_neg (show ¬ nI 5 = (4 : Int32) by decide), if_pos (show nI 5 = (5 : Int32) from rfl), el]
  rw [el] at hwl
  unfold f_X11_readStep bX11_readStep_0
  rw [t_word T hu hs, z_b, si, hw, of_26 (by omega), z_b, if_neg (ow_ne ow_30 ow_26 (by omega) (by omega) (by omega)), of_27 (by omega), z_b, if_neg (ow_ne ow_30 ow_27 (by omega) (by omega) (by omega)), of_28 (by omega), z_b, if_neg (ow_ne ow_30 ow_28 (by omega) (by omega) (by omega)), of_25 (by omega), z_b, if_neg (ow_ne ow_30 ow_25 (by omega) (by omega) (by omega)), of_29 (by omega), z_b, if_neg (ow_ne ow_30 ow_29 (by omega) (by omega) (by omega)), of_30 (by omega), z_b, if_pos rfl]
  unfold f_X6_readAgain bX6_readAgain_0 f_X11_opensOne bX11_opensOne_0
  rw [t_fine, z_b, if_neg d_10, z_cl (show k < 2147483648 by omega)]
  by_cases h6 : e = 6
  · rw [if_neg (show ¬ nI e < (6 : Int32) from nI_nlt (b := 6) (by omega) (by omega)), t_fail, z_b, z_b, if_pos (show nI e = (6 : Int32) by rw [h6]; rfl), t_wrong, z_b]
    unfold bX11_opensOne_25
    dsimp only
    rw [t_fineF (show sk b n q < 2147483648 by omega), z_b, if_pos rfl]
    unfold bX11_opensOne_42
    rw [z_b]
    dsimp only
    rw [t_numMF (show sk b n q < 2147483648 by omega), z_b]
    dsimp only
    rw [m_tail2 (by omega) (show sk b n q < 2147483648 by omega)]
    exact ⟨_, (_, _, _, _, _, _), rfl, rfl, Or.inr ⟨3, sk b n q, sk b n q + 5, by omega, by omega, hs, hwl, rfl, rfl, rfl, rfl, rfl⟩⟩
  · have h5 : e < 6 := by omega
    rw [if_pos (show nI e < (6 : Int32) from nI_lt (b := 6) h5 (by omega)), if_neg (show ¬ nI e = (6 : Int32) from fun z => h6 ((nI_eq (b := 6) (by omega) (by omega)).mp z))]
    unfold bX11_opensOne_25
    rw [t_fine, z_b, if_neg d_10]
    unfold bX11_opensOne_42
    rw [z_b]
    dsimp only
    rw [show nI (sk b n q) + (5 : Int32) = nI (sk b n q + 5) from nI_add _ 5, show nI e + (1 : Int32) = nI (e + 1) from nI_1 e, show nI k + (1 : Int32) = nI (k + 1) from nI_1 k]
    simp only [kb_assoc]
    have ee : nI (e + 1) - (1 : Int32) = nI e := z_sub (b := 1) (by omega)
    refine nb (P := SO u n t2 gm pl p e k x1 x2 x3 s) (lo := 0) (hi := 20) T hu hwl rfl rfl (by omega) (by omega) (fun w q1 h1 h2 h3 h4 => ?_) (fun kd f q1 q' hkd hf hq1 => ?_)
    · have g1 := sk_ge b n (sk b n q + 5)
      have g2 := sk_ge b n q1
      have hs1 := sk_le b h4
      dsimp only
      cases h91 : atC b n (sk b n q1) 91 with
      | true =>
        have hl : sk b n q1 < n := by unfold atC at h91; exact (of_decide_eq_true h91).1
        rw [t_signX1 T hu h4 (c := 91) (k := 91) rfl (by omega) (by omega) _ _ h91, z_b, t_signM1 T hu h4 (c := 91) (k := 91) rfl (by omega) (by omega) _ h91, z_b]
        dsimp only
        rw [tells (c5 := 0) hk, z_b]
        dsimp only
        obtain ⟨o, o', e1, e2, hh⟩ := LH h5 (k + 1) (sk b n q1 + 1) (nI (sk b n (sk b n q + 5))) bk (upd x1 k (nI 5)) x2 x3 (upd (upd (upd s (3 * k) (5 : Int32)) (3 * k + 1) (nI w)) (3 * k + 2) (0 : Int32)) (nI (3 * k)) hl (by omega)
        rw [e1, z_b, e2]
        rcases hh with ⟨k', q2, Q, A, I, f, j1, j2, j3, j4, ⟨K1, K2⟩, PR, wf, i1, i2, i3, i4, i5, i6, i7, i8⟩ | ⟨i1, i2, i3, i4, i5⟩ | ⟨kd, f, q2, i1, i2, i3, i4, i5, i6, i7, i8, i9⟩
        · have hl2 : q2 < n := by unfold atC at j3; exact (of_decide_eq_true j3).1
          have j3' : atC b n (sk b n q2) 93 = true := by rw [j4]; exact j3
          rw [i1, i2, i3, i4, i5, i6, i7, i8, t_signX1 T hu (show q2 ≤ n by omega) (c := 93) (k := 93) rfl (by omega) (by omega) _ _ j3', z_b, z_ki hk (by omega), z_ki hk (by omega), z_b]
          unfold bX11_readStep_229
          rw [t_signM1 T hu (show q2 ≤ n by omega) (c := 93) (k := 93) rfl (by omega) (by omega) _ j3', z_b]
          dsimp only
          rw [t_fine, z_b, if_neg d_10, show nI (3 * k) + (2 : Int32) = nI (3 * k + 2) from nI_add _ 2, z_ki (show 3 * k + 2 < 150 by omega) (by omega), z_cl (by omega), ee, j4]
          unfold bX11_readStep_264
          rw [show nI k' - nI k - (1 : Int32) = nI (k' - k - 1) by rw [z_sub (show k ≤ k' by omega)]; exact z_sub (b := 1) (by omega)]
          refine ⟨_, (nI (q2 + 1), (-1 : Int32), o'.2.2.1, nI e, nI (3 * k'), upd o'.2.2.2.2.2 (3 * k + 2) (nI (3 * k'))), rfl, rfl, Or.inl ⟨k', q2 + 1, pickI k 5 Q, pickI k w A, pickI k (k' - k - 1) I, f + 1, by omega, by omega, hl2, ⟨fun j hj => ?_, fun j hj => ?_⟩, fun j l1 l2 => ?_, ?_, rfl, rfl, rfl, rfl, rfl, rfl, rfl, rfl⟩⟩
          · obtain ⟨a1, a2, a3⟩ := K1 j (by omega)
            simp only [z_upd] at a1 ⊢
            rw [if_neg (by omega)] at a1
            rw [if_neg (by omega), if_neg (by omega)]
            exact ⟨a1, a2, a3⟩
          · have a1 := K2 j (by omega)
            simp only [z_upd] at a1 ⊢
            rw [if_neg (by omega), if_neg (by omega), if_neg (by omega)] at a1
            rw [if_neg (by omega)]
            exact a1
          · by_cases y : j = k
            · subst y
              have a1 := (K1 j (by omega)).1
              have b1 := K2 (3 * j) (by omega)
              have b2 := K2 (3 * j + 1) (by omega)
              obtain ⟨c1, c2, c3⟩ := s_at (s := s) (k := j) (5 : Int32) (nI w) (0 : Int32)
              rw [c1] at b1
              rw [c2] at b2
              rw [u_at] at a1
              rw [pick_eq, pick_eq, pick_eq]
              refine ⟨by omega, a1, ?_, fun z => absurd z (by omega), fun z => absurd z (by omega), fun _ => ⟨u_at _, ?_, u_at _, ?_⟩⟩
              · simp only [z_upd]
                rw [if_neg (by omega)]; exact b1
              · simp only [z_upd]
                rw [if_neg (by omega)]; exact b2
              · simp only [z_upd]
                rw [if_pos trivial, show j + 1 + (k' - j - 1) = k' by omega]
            · have := PR j (by omega) l2
              rw [pick_ne _ _ y, pick_ne _ _ y, pick_ne _ _ y]
              simp only [z_upd, if_neg y]
              rw [if_neg (show ¬ 3 * j = 3 * k + 2 by omega), if_neg (show ¬ 3 * j + 1 = 3 * k + 2 by omega), if_neg (show ¬ 3 * j + 2 = 3 * k + 2 by omega)]
              exact this
          · refine Or.inr ⟨by omega, Or.inl ⟨pick_eq k 5 Q, h5, ?_, ?_, ?_, ?_⟩⟩
            · rw [pick_eq]; exact h2
            · rw [pick_eq]; omega
            · rw [pick_eq, show k + 1 + (k' - k - 1) = k' by omega]
              exact wfB_c f _ _ _ (fun j l1 l2 => ⟨pick_ne _ _ (by omega), fun _ => pick_ne _ _ (by omega), fun _ => ⟨pick_ne _ _ (by omega), pick_ne _ _ (by omega)⟩⟩) wf
            · rw [pick_eq, show k + 1 + (k' - k - 1) = k' by omega]
              exact wfB_id _ _ f
        · have hsn : sk b n n = n := by have := sk_le b (Nat.le_refl n); have := sk_ge b n n; omega
          have hc : atC b n (sk b n n) 93 = false := decide_eq_false (fun z => by rw [hsn] at z; omega)
          rw [i1, i2, i5, t_signX0 T hu (Nat.le_refl n) (c := 93) (k := 93) rfl (by omega) (by omega) _ _ hc, t_fail, z_b, z_b, z_ki hk (by omega), z_ki hk (by omega), z_b, i3, i4, m_229F (show n < 2147483648 by omega)]
          exact ⟨_, (_, _, _, _, _, _), rfl, rfl, Or.inr ⟨1, n, n, by omega, by omega, by omega, by omega, by rw [hsn], rfl, by rw [hsn], rfl, rfl⟩⟩
        · obtain ⟨q3, h9, e9⟩ := t_signF T hu i4 (c := 93) (k := 93) rfl (by omega) (by omega) (kf_0 i1 i2) (pl := nI f)
          rw [i5, i6, i7, e9, z_b, z_ki hk (by omega), z_ki hk (by omega), z_b, i8, m_229F (show f < 2147483648 by omega)]
          exact ⟨_, (o'.1, nI f, o'.2.2.1, o'.2.2.2.1 - (1 : Int32), o'.2.2.2.2.1, o'.2.2.2.2.2), rfl, rfl, Or.inr ⟨kd, f, q3, i1, i2, i3, h9, rfl, rfl, rfl, rfl, i9⟩⟩
      | false =>
        rw [t_signX0 T hu h4 (c := 91) (k := 91) rfl (by omega) (by omega) _ _ h91, t_fail, z_b, z_b]
        dsimp only
        obtain ⟨o, q2, h9, e9, i1, i2, i3⟩ := x_gF T hu (k := k) (LF h5) hk hs1 (show ¬ (1 : Int32) = 0 by decide) (nI (k + 1)) (nI (sk b n (sk b n q + 5))) (nI (sk b n q1)) (nI w) (upd x1 k (nI 5)) x2 x3
        rw [e9, t_signM0 T hu h4 (c := 91) (k := 91) rfl (by omega) (by omega) _ h91, z_b]
        dsimp only
        obtain ⟨u', hu'⟩ : ∃ k, u = k + 1 := ⟨u - 1, by omega⟩
        rw [tellsF (show sk b n q1 < 2147483648 by omega), z_b]
        have e206 : ∀ m, bX11_readStep_206 u gm (nI n) (nI (pW p)) (nI (pH p)) t2 (m + 1) (nI (sk b n q1)) (nI (sk b n q1)) (1 : Int32) (nI (e + 1)) (nI (3 * k)) s (nI (3 * k)) = bX11_readStep_229 u gm (nI n) (nI (pW p)) (nI (pH p)) t2 (nI (sk b n q1)) (nI (sk b n q1)) (1 : Int32) (nI (e + 1)) (nI (3 * k)) s (nI (3 * k)) := by
          intro m
          rw [bX11_readStep_206, t_fineF (show sk b n q1 < 2147483648 by omega), z_b, if_pos rfl]
        have e206u := e206 u'
        rw [← hu'] at e206u
        rw [e206u, m_229F (show sk b n q1 < 2147483648 by omega)]
        exact ⟨_, (_, _, _, _, _, _), rfl, rfl, Or.inr ⟨1, sk b n q1, q2, by omega, by omega, hs1, h9, i1, i2, i3, rfl, rfl⟩⟩
    · dsimp only
      obtain ⟨q2, h9, e9⟩ := t_signF T hu hq1 (c := 91) (k := 91) rfl (by omega) (by omega) (kf_1 hkd) (pl := nI f)
      rw [e9, z_b]
      dsimp only
      obtain ⟨o, q3, h10, e10, i1, i2, i3⟩ := x_gF T hu (k := k) (LF h5) hk h9 (kf_1 hkd) (nI (k + 1)) (nI (sk b n (sk b n q + 5))) (nI f) (nI 0) (upd x1 k (nI 5)) x2 x3
      rw [e10, m_tail2 (by omega) (show f < 2147483648 by omega)]
      exact ⟨_, (_, _, _, _, _, _), rfl, rfl, Or.inr ⟨kd, f, q3, by omega, by omega, hf, h10, i1, i2, i3, rfl, rfl⟩⟩
theorem m_none (T : TXT b n t1 t2) (hu : 700 ≤ u) {q : Nat} (hq : q ≤ n) (h26 : ¬ pkW b n (sk b n q) = ofW 26) (h27 : ¬ pkW b n (sk b n q) = ofW 27) (h28 : ¬ pkW b n (sk b n q) = ofW 28) (h25 : ¬ pkW b n (sk b n q) = ofW 25) (h29 : ¬ pkW b n (sk b n q) = ofW 29) (h30 : ¬ pkW b n (sk b n q) = ofW 30) (bk e' c41 : Int32) (s : Nat → Int32) : f_X11_readStep u gm (nI n) (nI (sk b n q)) (-1 : Int32) bk e' (nI (pW p)) (nI (pH p)) c41 t2 s = bX11_readStep_276 u gm (nI n) (nI (pW p)) (nI (pH p)) t2 (nI (sk b n q)) (nI (sk b n q)) (1 : Int32) e' c41 s := by
  have hs := sk_le b hq
  unfold f_X11_readStep bX11_readStep_0
  rw [t_word T hu hs, z_b, sk_id b hq, of_26 (by omega), z_b, if_neg (pk_ne ow_26 (by omega) h26), of_27 (by omega), z_b, if_neg (pk_ne ow_27 (by omega) h27), of_28 (by omega), z_b, if_neg (pk_ne ow_28 (by omega) h28), of_25 (by omega), z_b, if_neg (pk_ne ow_25 (by omega) h25), of_29 (by omega), z_b, if_neg (pk_ne ow_29 (by omega) h29), of_30 (by omega), z_b, if_neg (pk_ne ow_30 (by omega) h30), t_wrong, z_b]
theorem stepB (T : TXT b n t1 t2) (hu : 700 ≤ u) (hn : n ≤ 150) (P : pOK p) {e k q : Nat} (he : e ≤ 6) {pl : Int32} (LH : e < 6 → LOOPH u n b t1 t2 p pl gx gm (e + 1)) (LF : e < 6 → LOOPF n t1 p gx (e + 1)) (hq : q ≤ n) (hk5 : 5 * k ≤ q) (hk : k < 30) (st bk : Int32) (x1 x2 x3 s : Nat → Int32) : SO u n t2 gm pl p e k x1 x2 x3 s (f_X6_readStep u gx (nI k) x1 x2 x3 (nI n) (nI (sk b n q)) st (0 : Int32) pl t1 (nI (pW p)) (nI (pH p)) (nI e)) (f_X11_readStep u gm (nI n) (nI (sk b n q)) (-1 : Int32) bk (nI e) (nI (pW p)) (nI (pH p)) (nI (3 * k)) t2 s) := by
  by_cases h26 : pkW b n (sk b n q) = ofW 26
  · exact sb_0 T hu P hq hk5 hk h26 st pl bk x1 x2 x3 s
  by_cases h27 : pkW b n (sk b n q) = ofW 27
  · exact sb_1 T hu P hq hk5 hk h27 st pl bk x1 x2 x3 s
  by_cases h28 : pkW b n (sk b n q) = ofW 28
  · exact sb_2 T hu P hq hk5 hk h28 st pl bk x1 x2 x3 s
  by_cases h25 : pkW b n (sk b n q) = ofW 25
  · exact sb_3 T hu P hq hk5 hk h25 st pl bk x1 x2 x3 s
  by_cases h29 : pkW b n (sk b n q) = ofW 29
  · exact sb_4 T hu P hq hk5 hk h29 st pl bk x1 x2 x3 s
  by_cases h30 : pkW b n (sk b n q) = ofW 30
  · exact sb_5 T hu hn he LH LF hq hk5 hk h30 st bk x1 x2 x3 s
  have hs := sk_le b hq
  have hwl := wl_le b hs
  rw [m_none T hu hq h26 h27 h28 h25 h29 h30]
  unfold f_X6_readStep bX6_readStep_0
  rw [t_wordX T hu (si := 4) hs (by decide), sk_id b hq, wid_4, if_neg h26, if_neg h27, if_neg h28, if_neg h25, if_neg h29, if_neg h30]
  dsimp only
  rw [t_fail, z_b, z_b]
  dsimp only
  rw [t_goodF (show ¬ (1 : Int32) = 0 by decide), z_b, if_pos rfl]
  exact ⟨_, (_, _, _, _, _, _), rfl, rfl, Or.inr ⟨1, sk b n q, sk b n q + wl b n (sk b n q), by omega, by omega, hs, hwl, rfl, rfl, rfl, rfl, rfl⟩⟩
end STQ
