/-! LAWS, products and sums on both sides; the whole text -/
section LWS
variable {u n : Nat} {b : Nat → Nat} {a1 a2 : Nat → Int32}
theorem atC_n {p c : Nat} (h : ¬ p < n) : atC b n p c = false := decide_eq_false (fun w => h w.1)
theorem pkM_ne (T : TXT b n a1 a2) (p : Nat) {c : Int32} {k : Nat} (hc : c = nI k) (h0 : 0 < k) (hk : k < 128) (h : atC b n p k = false) : ¬ pkM b n p = c := by
  rw [hc, pkM_c T p h0 hk, h]; decide
theorem pkM_eq (T : TXT b n a1 a2) (p : Nat) {c : Int32} {k : Nat} (hc : c = nI k) (h0 : 0 < k) (hk : k < 128) (h : atC b n p k = true) : pkM b n p = c := by
  rw [hc, pkM_c T p h0 hk, h]
theorem productL (T : TXT b n a1 a2) (hu : 700 ≤ u) (hn : n ≤ 150) {g : (Int32 → (Nat → Int32) → Int32 → Int32 → Int32 → Int32 → Int32 → (Nat → Int32) → Int32 → Option (Int32 × (Nat → Int32) × Int32 × Int32 × Int32 × Int32))} {gm : (Int32 → Int32 → Int32 → Int32 → Int32 → Int32 → (Nat → Int32) → (Nat → Int32) → (Nat → Int32) → Option (Int32 × Int32 × Int32 × Int32 × Int32 × (Nat → Int32) × (Nat → Int32)))} {e : Nat} {pl : Int32} (hU : gSM n a1 a2 pl (f_X1_readUnit u g) (f_X11_readUnit u gm) e 2) {H : Nat} (hH1 : 1 ≤ H) (hH : H ≤ 3 * e + 2) :
    ∀ r k q o A A11 A12 p i st bk k1 k2, n ≤ p + r → r < k1 → r < k2 → 2 * i ≤ p → p ≤ n → CI k q o A A11 A12 → hts q k = H → k ≤ p → OUT n pl e k p H 0 (bX1_readProduct_8 u g (nI n) a1 k1 (nI k) A (nI p) st (0 : Int32) pl (nI e) (nI i)) (bX11_readProduct_4 u gm (nI n) a2 k2 (nI p) (-1 : Int32) bk (nI e) (nI k) A11 A12) := by
  have cF : ∀ (k1 : Nat) (k p : Nat) (A : Nat → Int32) (st v3 : Int32) (f pf : Nat), 1 ≤ f → f ≤ 4 → bX1_readProduct_8 u g (nI n) a1 (k1 + 1) (nI k) A (nI p) st (nI f) (nI pf) (nI e) v3 = some (nI k, A, nI p, st, nI f, nI pf) := by
    intro k1 k p A st v3 f pf h1 h4
    rw [bX1_readProduct_8, t_goodF (kf_0 h1 h4), z_b, if_pos rfl]
    by_cases z : (150 : Int32) ≤ v3
    · rw [if_pos z]
    · rw [if_neg z]
  intro r
  induction r with
  | zero =>
    intro k q o A A11 A12 p i st bk k1 k2 hr hk1 hk2 hi hp CC hh hk
    obtain ⟨k1, rfl⟩ := z_suc hk1
    obtain ⟨k2, rfl⟩ := z_suc hk2
    have hs := sk_le b hp
    have hge := sk_ge b n p
    have hid := sk_id b hp
    have hno : ¬ sk b n p < n := by omega
    rw [bX1_readProduct_8, if_neg (show ¬ (150 : Int32) ≤ nI i from nI_ge (b := 150) (by omega) (by omega)), t_good, z_b, if_neg d_10, t_isNext T hu hp (c := 42) (k := 42) rfl (by omega) (by omega), z_b, atC_n hno, if_pos (show zB false = (0 : Int32) from rfl), t_isNext T hu hs (c := 47) (k := 47) rfl (by omega) (by omega), z_b, hid, atC_n hno, if_pos (show zB false = (0 : Int32) from rfl)]
    rw [bX11_readProduct_4, t_fine, z_b, if_neg d_10, t_here T hu hp, z_b, if_neg (pkM_ne T _ (c := 42) (k := 42) rfl (by omega) (by omega) (atC_n hno)), t_here T hu hs, z_b, hid, if_neg (pkM_ne T _ (c := 47) (k := 47) rfl (by omega) (by omega) (atC_n hno))]
    exact Or.inl ⟨k, sk b n p, q, o, A, st, bk, A11, A12, rfl, rfl, CC, hh, by omega, by omega, hs⟩
  | succ r ih =>
    intro k q o A A11 A12 p i st bk k1 k2 hr hk1 hk2 hi hp CC hh hk
    obtain ⟨k1, rfl⟩ := z_suc hk1
    obtain ⟨k2, rfl⟩ := z_suc hk2
    obtain ⟨k1, rfl⟩ := z_suc (show 0 < k1 by omega)
    obtain ⟨k2, rfl⟩ := z_suc (show 0 < k2 by omega)
    have hs := sk_le b hp
    have hge := sk_ge b n p
    have hid := sk_id b hp
    -- one more part
    have go : ∀ (c v : Nat) (cc w sg : Int32), atC b n (sk b n p) c = true → 0 < c → c < 128 → sg = nI c → cc = cnum v 0 → w = nI v → 2 ≤ v → v ≤ 7 → OUT n pl e k p H 0 (k_b (f_X8_sign u (nI n) (nI (sk b n p)) (0 : Int32) pl a1 sg) (fun r58 => k_b (f_X1_readUnit u g (nI k) A (nI n) r58.1 st r58.2.1 r58.2.2 a1 (nI e)) (fun r64 => bX1_readProduct_80 u g (nI n) a1 (bX1_readProduct_8 u g (nI n) a1 (k1 + 1)) r64.1 r64.2.1 r64.2.2.1 r64.2.2.2.1 r64.2.2.2.2.1 r64.2.2.2.2.2 (nI e) (nI i) cc))) (bX11_readProduct_43 u gm (nI n) a2 (bX11_readProduct_4 u gm (nI n) a2 (k2 + 1)) (nI (sk b n p)) (-1 : Int32) bk (nI e) (nI k) A11 A12 w) := by
      intro c v cc w sg hc h0 h128 hsg hcc hw hv2 hv7
      have hlt : sk b n p < n := by unfold atC at hc; exact (of_decide_eq_true hc).1
      unfold bX11_readProduct_43
      rw [t_signX1 T hu hs (c := sg) (k := c) hsg h0 h128 _ _ (by rw [hid]; exact hc), z_b, hid, show nI (sk b n p) + (1 : Int32) = nI (sk b n p + 1) from nI_1 _]
      rcases hU k q o A A11 A12 (sk b n p + 1) st bk CC (by omega) (by omega) (by omega) with ⟨j2, p2, q2, o2, A2, st2, bk2, B11, B12, s1, s2, s3, s4, s5, s6, s7⟩ | ⟨j2, p2, f, pf, A2, st2, at2, op2, c2, B11, B12, s1, s2, s3, s4, s5, s6, s7⟩
      · rw [s1, s2, z_b, z_b]
        unfold bX1_readProduct_80
        obtain ⟨t1, t2, q6, o6, t3, t4⟩ := CI_put (u := u) s3 (show j2 < 150 by omega) (v := v) (w := 0) hv7 (fun h => by omega) (fun h => by omega) (by intro h; omega) (by intro _; omega)
        rw [hcc, hw, show f_X1_put u (nI j2, A2, nI p2, st2, (0 : Int32), pl).1 (nI j2, A2, nI p2, st2, (0 : Int32), pl).2.1 (cnum v 0) = _ from t1, z_b]
        show OUT n pl e k p H 0 _ (k_b (f_X11_emit u (-1 : Int32) (nI j2) B11 B12 (nI v) (0 : Int32)) _)
        rw [show f_X11_emit u (-1 : Int32) (nI j2) B11 B12 (nI v) (0 : Int32) = _ from t2, z_b, show nI i + (1 : Int32) = nI (i + 1) from nI_1 i]
        have h4 : hts q6 (j2 + 1) = H := by rw [t4, if_neg (by omega)]; omega
        rcases ih (j2 + 1) q6 o6 _ _ _ p2 (i + 1) st2 bk2 (k1 + 1) (k2 + 1) (by omega) (by omega) (by omega) (by omega) s7 t3 h4 (by omega) with ⟨j3, p3, q3, o3, A3, st3, bk3, D11, D12, w1, w2, w3, w4, w5, w6, w7⟩ | ⟨j3, p3, f, pf, A3, st3, at3, op3, c3, D11, D12, w1, w2, w3, w4, w5, w6, w7⟩
        · exact Or.inl ⟨j3, p3, q3, o3, A3, st3, bk3, D11, D12, w1, w2, w3, w4, by omega, by omega, w7⟩
        · exact Or.inr ⟨j3, p3, f, pf, A3, st3, at3, op3, c3, D11, D12, w1, w2, w3, w4, w5, w6, w7⟩
      · rw [s6, s7, z_b, z_b]
        unfold bX1_readProduct_80
        obtain ⟨j3, A3, hj3, e3⟩ := putF (u := u) s1 A2 cc
        rw [show f_X1_put u (nI j2, A2, nI p2, st2, nI f, nI pf).1 (nI j2, A2, nI p2, st2, nI f, nI pf).2.1 cc = _ from e3, z_b]
        show OUT n pl e k p H 0 _ (k_b (f_X11_emit u (nI pf) c2 B11 B12 w (0 : Int32)) _)
        rw [emitF (show pf < 2147483648 by omega), z_b]
        refine Or.inr ⟨j3, p2, f, pf, A3, st2, at2, op2, c2, B11, B12, hj3, s2, s3, s4, s5, cF k1 j3 p2 A3 st2 _ f pf s4 s5, ?_⟩
        rw [bX11_readProduct_4, t_fineF (show pf < 2147483648 by omega), z_b, if_pos rfl]
    rw [bX1_readProduct_8, if_neg (show ¬ (150 : Int32) ≤ nI i from nI_ge (b := 150) (by omega) (by omega)), t_good, z_b, if_neg d_10, t_isNext T hu hp (c := 42) (k := 42) rfl (by omega) (by omega), z_b, bX11_readProduct_4, t_fine, z_b, if_neg d_10, t_here T hu hp, z_b]
    unfold bX1_readProduct_45 bX1_readProduct_58 bX11_readProduct_29
    cases h1 : atC b n (sk b n p) 42 with
    | true =>
      rw [if_neg (show ¬ zB true = (0 : Int32) from d_10), if_pos (pkM_eq T _ (c := 42) (k := 42) rfl (by omega) (by omega) h1), t_here T hu hs, z_b, hid, if_pos (pkM_eq T _ (c := 42) (k := 42) rfl (by omega) (by omega) h1)]
      exact go 42 4 (-13) 4 42 h1 (by omega) (by omega) rfl (by decide) rfl (by omega) (by omega)
    | false =>
      rw [if_pos (show zB false = (0 : Int32) from rfl), if_neg (pkM_ne T _ (c := 42) (k := 42) rfl (by omega) (by omega) h1), t_isNext T hu hs (c := 47) (k := 47) rfl (by omega) (by omega), z_b, hid, t_here T hu hs, z_b, hid]
      cases h2 : atC b n (sk b n p) 47 with
      | true =>
        rw [if_neg (show ¬ zB true = (0 : Int32) from d_10), if_pos (pkM_eq T _ (c := 47) (k := 47) rfl (by omega) (by omega) h2), t_here T hu hs, z_b, hid, if_neg (pkM_ne T _ (c := 42) (k := 42) rfl (by omega) (by omega) h1)]
        exact go 47 5 (-14) 5 47 h2 (by omega) (by omega) rfl (by decide) rfl (by omega) (by omega)
      | false =>
        rw [if_pos (show zB false = (0 : Int32) from rfl), if_neg (pkM_ne T _ (c := 47) (k := 47) rfl (by omega) (by omega) h2)]
        exact Or.inl ⟨k, sk b n p, q, o, A, st, bk, A11, A12, rfl, rfl, CC, hh, by omega, by omega, hs⟩
theorem productS (T : TXT b n a1 a2) (hu : 700 ≤ u) (hn : n ≤ 150) {g : (Int32 → (Nat → Int32) → Int32 → Int32 → Int32 → Int32 → Int32 → (Nat → Int32) → Int32 → Option (Int32 × (Nat → Int32) × Int32 × Int32 × Int32 × Int32))} {gm : (Int32 → Int32 → Int32 → Int32 → Int32 → Int32 → (Nat → Int32) → (Nat → Int32) → (Nat → Int32) → Option (Int32 × Int32 × Int32 × Int32 × Int32 × (Nat → Int32) × (Nat → Int32)))} {e : Nat} {pl : Int32} (hU : gSM n a1 a2 pl (f_X1_readUnit u g) (f_X11_readUnit u gm) e 2) : gSM n a1 a2 pl (f_X1_readProduct u g) (f_X11_readProduct u gm) e 1 := by
  intro k q o A A11 A12 p st bk CC hh hk hp
  unfold f_X1_readProduct bX1_readProduct_0 f_X11_readProduct bX11_readProduct_0
  rcases hU k q o A A11 A12 p st bk CC (by omega) hk hp with ⟨j2, p2, q2, o2, A2, st2, bk2, B11, B12, s1, s2, s3, s4, s5, s6, s7⟩ | ⟨j2, p2, f, pf, A2, st2, at2, op2, c2, B11, B12, s1, s2, s3, s4, s5, s6, s7⟩
  · rw [s1, s2, z_b, z_b]
    rcases productL T hu hn hU (H := hts q k + 1) (by omega) (by omega) (n - p2) j2 q2 o2 A2 B11 B12 p2 0 st2 bk2 u u (by omega) (by omega) (by omega) (by omega) s7 s3 s4 (by omega) with ⟨j3, p3, q3, o3, A3, st3, bk3, D11, D12, w1, w2, w3, w4, w5, w6, w7⟩ | ⟨j3, p3, f, pf, A3, st3, at3, op3, c3, D11, D12, w1, w2, w3, w4, w5, w6, w7⟩
    · exact Or.inl ⟨j3, p3, q3, o3, A3, st3, bk3, D11, D12, w1, w2, w3, w4, by omega, by omega, w7⟩
    · exact Or.inr ⟨j3, p3, f, pf, A3, st3, at3, op3, c3, D11, D12, w1, w2, w3, w4, w5, w6, w7⟩
  · rw [s6, s7, z_b, z_b]
    refine Or.inr ⟨j2, p2, f, pf, A2, st2, at2, op2, c2, B11, B12, s1, s2, s3, s4, s5, ?_, ?_⟩
    · obtain ⟨m, hm⟩ : ∃ m, u = m + 1 := ⟨u - 1, by omega⟩
      show bX1_readProduct_8 u g (nI n) a1 u (nI j2) A2 (nI p2) st2 (nI f) (nI pf) (nI e) (0 : Int32) = _
      have : ∀ w, bX1_readProduct_8 w g (nI n) a1 (m + 1) (nI j2) A2 (nI p2) st2 (nI f) (nI pf) (nI e) (0 : Int32) = some (nI j2, A2, nI p2, st2, nI f, nI pf) := by
        intro w
        rw [bX1_readProduct_8, if_neg (show ¬ (150 : Int32) ≤ 0 by decide), t_goodF (kf_0 s4 s5), z_b, if_pos rfl]
      rw [← hm] at this
      exact this u
    · obtain ⟨m, hm⟩ : ∃ m, u = m + 1 := ⟨u - 1, by omega⟩
      show bX11_readProduct_4 u gm (nI n) a2 u at2 (nI pf) (nI f) op2 c2 B11 B12 = _
      have : ∀ w, bX11_readProduct_4 w gm (nI n) a2 (m + 1) at2 (nI pf) (nI f) op2 c2 B11 B12 = some (at2, nI pf, nI f, op2, c2, B11, B12) := by
        intro w
        rw [bX11_readProduct_4, t_fineF (show pf < 2147483648 by omega), z_b, if_pos rfl]
      rw [← hm] at this
      exact this u
theorem sumL (T : TXT b n a1 a2) (hu : 700 ≤ u) (hn : n ≤ 150) {g : (Int32 → (Nat → Int32) → Int32 → Int32 → Int32 → Int32 → Int32 → (Nat → Int32) → Int32 → Option (Int32 × (Nat → Int32) × Int32 × Int32 × Int32 × Int32))} {gm : (Int32 → Int32 → Int32 → Int32 → Int32 → Int32 → (Nat → Int32) → (Nat → Int32) → (Nat → Int32) → Option (Int32 × Int32 × Int32 × Int32 × Int32 × (Nat → Int32) × (Nat → Int32)))} {e : Nat} {pl : Int32} (hU : gSM n a1 a2 pl (f_X1_readProduct u g) (f_X11_readProduct u gm) e 1) {H : Nat} (hH1 : 1 ≤ H) (hH : H ≤ 3 * e + 1) :
    ∀ r k q o A A11 A12 p i st bk k1 k2, n ≤ p + r → r < k1 → r < k2 → 2 * i ≤ p → p ≤ n → CI k q o A A11 A12 → hts q k = H → k ≤ p → OUT n pl e k p H 0 (bX1_readSum_8 u g (nI n) a1 k1 (nI k) A (nI p) st (0 : Int32) pl (nI e) (nI i)) (bX11_readSum_4 u gm (nI n) a2 k2 (nI p) (-1 : Int32) bk (nI e) (nI k) A11 A12) := by
  have cF : ∀ (k1 : Nat) (k p : Nat) (A : Nat → Int32) (st v3 : Int32) (f pf : Nat), 1 ≤ f → f ≤ 4 → bX1_readSum_8 u g (nI n) a1 (k1 + 1) (nI k) A (nI p) st (nI f) (nI pf) (nI e) v3 = some (nI k, A, nI p, st, nI f, nI pf) := by
    intro k1 k p A st v3 f pf h1 h4
    rw [bX1_readSum_8, t_goodF (kf_0 h1 h4), z_b, if_pos rfl]
    by_cases z : (150 : Int32) ≤ v3
    · rw [if_pos z]
    · rw [if_neg z]
  intro r
  induction r with
  | zero =>
    intro k q o A A11 A12 p i st bk k1 k2 hr hk1 hk2 hi hp CC hh hk
    obtain ⟨k1, rfl⟩ := z_suc hk1
    obtain ⟨k2, rfl⟩ := z_suc hk2
    have hs := sk_le b hp
    have hge := sk_ge b n p
    have hid := sk_id b hp
    have hno : ¬ sk b n p < n := by omega
    rw [bX1_readSum_8, if_neg (show ¬ (150 : Int32) ≤ nI i from nI_ge (b := 150) (by omega) (by omega)), t_good, z_b, if_neg d_10, t_isNext T hu hp (c := 43) (k := 43) rfl (by omega) (by omega), z_b, atC_n hno, if_pos (show zB false = (0 : Int32) from rfl), t_isNext T hu hs (c := 45) (k := 45) rfl (by omega) (by omega), z_b, hid, atC_n hno, if_pos (show zB false = (0 : Int32) from rfl)]
    rw [bX11_readSum_4, t_fine, z_b, if_neg d_10, t_here T hu hp, z_b, if_neg (pkM_ne T _ (c := 43) (k := 43) rfl (by omega) (by omega) (atC_n hno)), t_here T hu hs, z_b, hid, if_neg (pkM_ne T _ (c := 45) (k := 45) rfl (by omega) (by omega) (atC_n hno))]
    exact Or.inl ⟨k, sk b n p, q, o, A, st, bk, A11, A12, rfl, rfl, CC, hh, by omega, by omega, hs⟩
  | succ r ih =>
    intro k q o A A11 A12 p i st bk k1 k2 hr hk1 hk2 hi hp CC hh hk
    obtain ⟨k1, rfl⟩ := z_suc hk1
    obtain ⟨k2, rfl⟩ := z_suc hk2
    obtain ⟨k1, rfl⟩ := z_suc (show 0 < k1 by omega)
    obtain ⟨k2, rfl⟩ := z_suc (show 0 < k2 by omega)
    have hs := sk_le b hp
    have hge := sk_ge b n p
    have hid := sk_id b hp
    -- one more part
    have go : ∀ (c v : Nat) (cc w sg : Int32), atC b n (sk b n p) c = true → 0 < c → c < 128 → sg = nI c → cc = cnum v 0 → w = nI v → 2 ≤ v → v ≤ 7 → OUT n pl e k p H 0 (k_b (f_X8_sign u (nI n) (nI (sk b n p)) (0 : Int32) pl a1 sg) (fun r58 => k_b (f_X1_readProduct u g (nI k) A (nI n) r58.1 st r58.2.1 r58.2.2 a1 (nI e)) (fun r64 => bX1_readSum_80 u g (nI n) a1 (bX1_readSum_8 u g (nI n) a1 (k1 + 1)) r64.1 r64.2.1 r64.2.2.1 r64.2.2.2.1 r64.2.2.2.2.1 r64.2.2.2.2.2 (nI e) (nI i) cc))) (bX11_readSum_43 u gm (nI n) a2 (bX11_readSum_4 u gm (nI n) a2 (k2 + 1)) (nI (sk b n p)) (-1 : Int32) bk (nI e) (nI k) A11 A12 w) := by
      intro c v cc w sg hc h0 h128 hsg hcc hw hv2 hv7
      have hlt : sk b n p < n := by unfold atC at hc; exact (of_decide_eq_true hc).1
      unfold bX11_readSum_43
      rw [t_signX1 T hu hs (c := sg) (k := c) hsg h0 h128 _ _ (by rw [hid]; exact hc), z_b, hid, show nI (sk b n p) + (1 : Int32) = nI (sk b n p + 1) from nI_1 _]
      rcases hU k q o A A11 A12 (sk b n p + 1) st bk CC (by omega) (by omega) (by omega) with ⟨j2, p2, q2, o2, A2, st2, bk2, B11, B12, s1, s2, s3, s4, s5, s6, s7⟩ | ⟨j2, p2, f, pf, A2, st2, at2, op2, c2, B11, B12, s1, s2, s3, s4, s5, s6, s7⟩
      · rw [s1, s2, z_b, z_b]
        unfold bX1_readSum_80
        obtain ⟨t1, t2, q6, o6, t3, t4⟩ := CI_put (u := u) s3 (show j2 < 150 by omega) (v := v) (w := 0) hv7 (fun h => by omega) (fun h => by omega) (by intro h; omega) (by intro _; omega)
        rw [hcc, hw, show f_X1_put u (nI j2, A2, nI p2, st2, (0 : Int32), pl).1 (nI j2, A2, nI p2, st2, (0 : Int32), pl).2.1 (cnum v 0) = _ from t1, z_b]
        show OUT n pl e k p H 0 _ (k_b (f_X11_emit u (-1 : Int32) (nI j2) B11 B12 (nI v) (0 : Int32)) _)
        rw [show f_X11_emit u (-1 : Int32) (nI j2) B11 B12 (nI v) (0 : Int32) = _ from t2, z_b, show nI i + (1 : Int32) = nI (i + 1) from nI_1 i]
        have h4 : hts q6 (j2 + 1) = H := by rw [t4, if_neg (by omega)]; omega
        rcases ih (j2 + 1) q6 o6 _ _ _ p2 (i + 1) st2 bk2 (k1 + 1) (k2 + 1) (by omega) (by omega) (by omega) (by omega) s7 t3 h4 (by omega) with ⟨j3, p3, q3, o3, A3, st3, bk3, D11, D12, w1, w2, w3, w4, w5, w6, w7⟩ | ⟨j3, p3, f, pf, A3, st3, at3, op3, c3, D11, D12, w1, w2, w3, w4, w5, w6, w7⟩
        · exact Or.inl ⟨j3, p3, q3, o3, A3, st3, bk3, D11, D12, w1, w2, w3, w4, by omega, by omega, w7⟩
        · exact Or.inr ⟨j3, p3, f, pf, A3, st3, at3, op3, c3, D11, D12, w1, w2, w3, w4, w5, w6, w7⟩
      · rw [s6, s7, z_b, z_b]
        unfold bX1_readSum_80
        obtain ⟨j3, A3, hj3, e3⟩ := putF (u := u) s1 A2 cc
        rw [show f_X1_put u (nI j2, A2, nI p2, st2, nI f, nI pf).1 (nI j2, A2, nI p2, st2, nI f, nI pf).2.1 cc = _ from e3, z_b]
        show OUT n pl e k p H 0 _ (k_b (f_X11_emit u (nI pf) c2 B11 B12 w (0 : Int32)) _)
        rw [emitF (show pf < 2147483648 by omega), z_b]
        refine Or.inr ⟨j3, p2, f, pf, A3, st2, at2, op2, c2, B11, B12, hj3, s2, s3, s4, s5, cF k1 j3 p2 A3 st2 _ f pf s4 s5, ?_⟩
        rw [bX11_readSum_4, t_fineF (show pf < 2147483648 by omega), z_b, if_pos rfl]
    rw [bX1_readSum_8, if_neg (show ¬ (150 : Int32) ≤ nI i from nI_ge (b := 150) (by omega) (by omega)), t_good, z_b, if_neg d_10, t_isNext T hu hp (c := 43) (k := 43) rfl (by omega) (by omega), z_b, bX11_readSum_4, t_fine, z_b, if_neg d_10, t_here T hu hp, z_b]
    unfold bX1_readSum_45 bX1_readSum_58 bX11_readSum_29
    cases h1 : atC b n (sk b n p) 43 with
    | true =>
      rw [if_neg (show ¬ zB true = (0 : Int32) from d_10), if_pos (pkM_eq T _ (c := 43) (k := 43) rfl (by omega) (by omega) h1), t_here T hu hs, z_b, hid, if_pos (pkM_eq T _ (c := 43) (k := 43) rfl (by omega) (by omega) h1)]
      exact go 43 2 (-11) 2 43 h1 (by omega) (by omega) rfl (by decide) rfl (by omega) (by omega)
    | false =>
      rw [if_pos (show zB false = (0 : Int32) from rfl), if_neg (pkM_ne T _ (c := 43) (k := 43) rfl (by omega) (by omega) h1), t_isNext T hu hs (c := 45) (k := 45) rfl (by omega) (by omega), z_b, hid, t_here T hu hs, z_b, hid]
      cases h2 : atC b n (sk b n p) 45 with
      | true =>
        rw [if_neg (show ¬ zB true = (0 : Int32) from d_10), if_pos (pkM_eq T _ (c := 45) (k := 45) rfl (by omega) (by omega) h2), t_here T hu hs, z_b, hid, if_neg (pkM_ne T _ (c := 43) (k := 43) rfl (by omega) (by omega) h1)]
        exact go 45 3 (-12) 3 45 h2 (by omega) (by omega) rfl (by decide) rfl (by omega) (by omega)
      | false =>
        rw [if_pos (show zB false = (0 : Int32) from rfl), if_neg (pkM_ne T _ (c := 45) (k := 45) rfl (by omega) (by omega) h2)]
        exact Or.inl ⟨k, sk b n p, q, o, A, st, bk, A11, A12, rfl, rfl, CC, hh, by omega, by omega, hs⟩
theorem sumS (T : TXT b n a1 a2) (hu : 700 ≤ u) (hn : n ≤ 150) {g : (Int32 → (Nat → Int32) → Int32 → Int32 → Int32 → Int32 → Int32 → (Nat → Int32) → Int32 → Option (Int32 × (Nat → Int32) × Int32 × Int32 × Int32 × Int32))} {gm : (Int32 → Int32 → Int32 → Int32 → Int32 → Int32 → (Nat → Int32) → (Nat → Int32) → (Nat → Int32) → Option (Int32 × Int32 × Int32 × Int32 × Int32 × (Nat → Int32) × (Nat → Int32)))} {e : Nat} {pl : Int32} (hU : gSM n a1 a2 pl (f_X1_readProduct u g) (f_X11_readProduct u gm) e 1) : gSM n a1 a2 pl (f_X1_readSum u g) (f_X11_readSum u gm) e 0 := by
  intro k q o A A11 A12 p st bk CC hh hk hp
  unfold f_X1_readSum bX1_readSum_0 f_X11_readSum bX11_readSum_0
  rcases hU k q o A A11 A12 p st bk CC (by omega) hk hp with ⟨j2, p2, q2, o2, A2, st2, bk2, B11, B12, s1, s2, s3, s4, s5, s6, s7⟩ | ⟨j2, p2, f, pf, A2, st2, at2, op2, c2, B11, B12, s1, s2, s3, s4, s5, s6, s7⟩
  · rw [s1, s2, z_b, z_b]
    rcases sumL T hu hn hU (H := hts q k + 1) (by omega) (by omega) (n - p2) j2 q2 o2 A2 B11 B12 p2 0 st2 bk2 u u (by omega) (by omega) (by omega) (by omega) s7 s3 s4 (by omega) with ⟨j3, p3, q3, o3, A3, st3, bk3, D11, D12, w1, w2, w3, w4, w5, w6, w7⟩ | ⟨j3, p3, f, pf, A3, st3, at3, op3, c3, D11, D12, w1, w2, w3, w4, w5, w6, w7⟩
    · exact Or.inl ⟨j3, p3, q3, o3, A3, st3, bk3, D11, D12, w1, w2, w3, w4, by omega, by omega, w7⟩
    · exact Or.inr ⟨j3, p3, f, pf, A3, st3, at3, op3, c3, D11, D12, w1, w2, w3, w4, w5, w6, w7⟩
  · rw [s6, s7, z_b, z_b]
    refine Or.inr ⟨j2, p2, f, pf, A2, st2, at2, op2, c2, B11, B12, s1, s2, s3, s4, s5, ?_, ?_⟩
    · obtain ⟨m, hm⟩ : ∃ m, u = m + 1 := ⟨u - 1, by omega⟩
      show bX1_readSum_8 u g (nI n) a1 u (nI j2) A2 (nI p2) st2 (nI f) (nI pf) (nI e) (0 : Int32) = _
      have : ∀ w, bX1_readSum_8 w g (nI n) a1 (m + 1) (nI j2) A2 (nI p2) st2 (nI f) (nI pf) (nI e) (0 : Int32) = some (nI j2, A2, nI p2, st2, nI f, nI pf) := by
        intro w
        rw [bX1_readSum_8, if_neg (show ¬ (150 : Int32) ≤ 0 by decide), t_goodF (kf_0 s4 s5), z_b, if_pos rfl]
      rw [← hm] at this
      exact this u
    · obtain ⟨m, hm⟩ : ∃ m, u = m + 1 := ⟨u - 1, by omega⟩
      show bX11_readSum_4 u gm (nI n) a2 u at2 (nI pf) (nI f) op2 c2 B11 B12 = _
      have : ∀ w, bX11_readSum_4 w gm (nI n) a2 (m + 1) at2 (nI pf) (nI f) op2 c2 B11 B12 = some (at2, nI pf, nI f, op2, c2, B11, B12) := by
        intro w
        rw [bX11_readSum_4, t_fineF (show pf < 2147483648 by omega), z_b, if_pos rfl]
      rw [← hm] at this
      exact this u
theorem readS (T : TXT b n a1 a2) (hu : 700 ≤ u) (hn : n ≤ 150) {pl : Int32} : ∀ d e, 8 ≤ d + e → e ≤ 6 → gSM n a1 a2 pl (f_X1_readSum_r u d) (f_X11_readSum_r u d) e 0 := by
  intro d
  induction d with
  | zero => intro e h1 h2; omega
  | succ d ih =>
    intro e h1 h2
    exact sumS T hu hn (productS T hu hn (unitS T hu hn h2 (readMF (by omega) (by omega)) (fun h => readXF T hu d (e + 1) (by omega) (by omega)) (fun h => ih (e + 1) (by omega) (by omega))))
end LWS
