/-! PIT: orders -/
section PTC
variable {u n : Nat} {b : Nat → Nat} {t1 t2 : Nat → Int32}
theorem numX_sk (T : TXT b n t1 t2) (hu : 700 ≤ u) {p : Nat} (hp : p ≤ n) (st f pl lo hi : Int32) : f_X8_number u (nI n) (nI p) st f pl t1 lo hi = f_X8_number u (nI n) (nI (sk b n p)) st f pl t1 lo hi := by
  unfold f_X8_number bX8_number_0
  rw [t_peek T hu hp, t_peek T hu (sk_le b hp), sk_id b hp, z_b]
theorem numX_no (T : TXT b n t1 t2) (hu : 700 ≤ u) {p : Nat} (hp : p ≤ n) (h : atD b n (sk b n p) = false) (st pl lo hi : Int32) : f_X8_number u (nI n) (nI p) st (0 : Int32) pl t1 lo hi = some (lo, nI (sk b n p), nI (sk b n p), (1 : Int32), nI (sk b n p)) := by
  have hn := T.1
  have hs := sk_le b hp
  have h0 : ((0 = 0 ∧ 0 ≤ 9999) ∨ (10000 ≤ 0 ∧ 0 < 200000 ∧ 10000 ≤ 0 ∧ 0 < 200000)) := Or.inl ⟨rfl, by omega⟩
  have eX := t_ndX T hu (nI (sk b n p)) (0 : Int32) pl lo hi (n - sk b n p) (sk b n p) u 0 0 (by omega) (by omega) h0
  have hq : (ndR b (n - sk b n p) (sk b n p) 0 0).2.2 = sk b n p := by
    by_cases z : sk b n p < n
    · obtain ⟨k, hk⟩ : ∃ k, n - sk b n p = k + 1 := ⟨n - sk b n p - 1, by omega⟩
      rw [hk]
      unfold ndR
      rw [if_neg (fun w => by unfold atD at h; exact absurd ⟨z, w⟩ (of_decide_eq_false h))]
    · rw [show n - sk b n p = 0 by omega]
      rfl
  unfold f_X8_number bX8_number_0
  rw [t_peek T hu hp, z_b, show bX8_number_15 u (nI n) t1 u (nI (sk b n p)) (nI (sk b n p)) (0 : Int32) pl lo hi (0 : Int32) = _ from eX]
  unfold bX8_number_96 bX8_number_129 bX8_number_138
  rw [hq, if_pos rfl, t_fail, z_b, if_neg (show ¬ (1 : Int32) = 0 by decide)]
theorem o_8 (O v : Nat) : nI O * (8 : Int32) + nI v = nI (8 * O + v) := by
  rw [show nI O * (8 : Int32) = nI (O * 8) from (Int32.ofNat_mul O 8).symm, nI_add, Nat.mul_comm]
theorem o_10 (O : Nat) : (10 : Int32) * nI O = nI (10 * O) := (Int32.ofNat_mul 10 O).symm
theorem o_w {v : Nat} (hv : v ≤ 8) : (if (8 : Int32) < nI v then (8 : Int32) else nI v) = nI v := if_neg (nI_nlt (a := 8) hv (by omega))
/-- the class's order behind a fault -/
theorem ordF (T : TXT b n t1 t2) (hu : 700 ≤ u) {O v q : Nat} (hO : O < 6) (hv : v ≤ 9) (hq : q ≤ n) (m : Nat) (A4 A5 A6 : Nat → Int32) {f : Int32} (hf : ¬ f = 0) (st pl : Int32) : ∃ q' A5' st', q' ≤ n ∧ bX5_readOrder_37 u (nI n) t1 (m + 1) (nI O) A4 A5 A6 (nI q) st f pl (nI v) = some (nI (O + 1), A4, A5', A6, nI q', st', f, pl) := by
  obtain ⟨q', h1, e⟩ := t_wordF T hu (si := 2) hq (by decide) st hf pl
  have key : ∃ A5', bX5_readOrder_107 u (nI n) t1 (nI O) A4 A5 A6 (nI q) st f pl (nI v) = some (nI (O + 1), A4, A5', A6, nI q', nI (sk b n q), f, pl) := by
    unfold bX5_readOrder_107
    rw [e, z_b, z_ki hO (by omega), show nI O + (1 : Int32) = nI (O + 1) from nI_1 O]
    exact ⟨_, rfl⟩
  obtain ⟨A5', e2⟩ := key
  refine ⟨q', A5', nI (sk b n q), h1, ?_⟩
  rw [bX5_readOrder_37]
  by_cases z : 8 < v
  · rw [if_pos (show (8 : Int32) < nI v from nI_lt (a := 8) z (by omega))]; exact e2
  · rw [if_neg (show ¬ (8 : Int32) < nI v from nI_nlt (a := 8) (by omega) (by omega)), t_goodF hf, z_b, if_pos rfl]; exact e2
abbrev oXo : Type := Int32 × (Nat → Int32) × (Nat → Int32) × (Nat → Int32) × Int32 × Int32 × Int32 × Int32
abbrev oMo : Type := Int32 × Int32 × Int32 × Int32 × (Nat → Int32)
def OUTO (n O w : Nat) (pl : Int32) (A4 A5 a6 b6 : Nat → Int32) (X : Option oXo) (M : Option oMo) : Prop := ∃ o o', X = some o ∧ M = some o' ∧
  ((∃ (z : Nat) (N : Nat → Nat) (q : Nat), 1 ≤ z ∧ z ≤ 8 ∧ (∀ j, j < z → 1 ≤ N j ∧ N j ≤ 4) ∧ q ≤ n ∧ o.1 = nI (O + 1) ∧ o.2.1 = A4 ∧ o.2.2.1 = upd A5 O (nI z) ∧ (∀ k, k < 8 * O → o.2.2.2.1 k = a6 k) ∧ (∀ j, j < z → o.2.2.2.1 (8 * O + j) = nI (N j)) ∧ o.2.2.2.2.1 = nI q ∧ o.2.2.2.2.2.2.1 = 0 ∧ o.2.2.2.2.2.2.2 = pl ∧ o'.1 = nI q ∧ o'.2.1 = -1 ∧ o'.2.2.2.1 = nI (O + 1) ∧ (∀ k, k < 10 * O → o'.2.2.2.2 k = b6 k) ∧ o'.2.2.2.2 (10 * O) = nI w ∧ o'.2.2.2.2 (10 * O + 1) = nI z ∧ ∀ j, j < z → o'.2.2.2.2 (10 * O + 2 + j) = nI (N j)) ∨
   (∃ k f q, 1 ≤ k ∧ k ≤ 4 ∧ f ≤ n ∧ q ≤ n ∧ o.2.2.2.2.1 = nI q ∧ o.2.2.2.2.2.2.1 = nI k ∧ o.2.2.2.2.2.2.2 = nI f ∧ o'.2.1 = nI f ∧ o'.2.2.1 = nI k))
theorem ord_L (T : TXT b n t1 t2) (hu : 700 ≤ u) {O w : Nat} (hO : O < 6) {A4 A5 a6 b6 : Nat → Int32} {pl : Int32} : ∀ (r v m m' q : Nat) (A6 B6 : Nat → Int32) (N : Nat → Nat) (st bk : Int32), v + r = 8 → r + 1 < m → r + 1 < m' → q ≤ n → (∀ j, j < v → 1 ≤ N j ∧ N j ≤ 4 ∧ A6 (8 * O + j) = nI (N j) ∧ B6 (10 * O + 2 + j) = nI (N j)) → (∀ k, k < 8 * O → A6 k = a6 k) → (∀ k, k < 10 * O → B6 k = b6 k) → B6 (10 * O) = nI w →
    OUTO n O w pl A4 A5 a6 b6 (bX5_readOrder_37 u (nI n) t1 m (nI O) A4 A5 A6 (nI q) st (0 : Int32) pl (nI v)) (bX11_readOrder_23 u (nI n) t2 m' (nI q) (-1 : Int32) bk (nI O) B6 (nI (10 * O)) (nI v)) := by
  have hn := T.1
  have step : ∀ (v m m' q : Nat) (A6 B6 : Nat → Int32) (N : Nat → Nat) (st bk : Int32), v ≤ 8 → q ≤ n → (∀ j, j < v → 1 ≤ N j ∧ N j ≤ 4 ∧ A6 (8 * O + j) = nI (N j) ∧ B6 (10 * O + 2 + j) = nI (N j)) → (∀ k, k < 8 * O → A6 k = a6 k) → (∀ k, k < 10 * O → B6 k = b6 k) → B6 (10 * O) = nI w →
      (v < 8 → ∀ (x q' : Nat) (st' bk' : Int32), 1 ≤ x → x ≤ 4 → q' ≤ n → OUTO n O w pl A4 A5 a6 b6 (bX5_readOrder_37 u (nI n) t1 (m + 1) (nI O) A4 A5 (upd A6 (8 * O + v) (nI x)) (nI q') st' (0 : Int32) pl (nI (v + 1))) (bX11_readOrder_23 u (nI n) t2 m' (nI q') (-1 : Int32) bk' (nI O) (upd B6 (10 * O + 2 + v) (nI x)) (nI (10 * O)) (nI (v + 1)))) →
      OUTO n O w pl A4 A5 a6 b6 (bX5_readOrder_37 u (nI n) t1 (m + 2) (nI O) A4 A5 A6 (nI q) st (0 : Int32) pl (nI v)) (bX11_readOrder_23 u (nI n) t2 (m' + 1) (nI q) (-1 : Int32) bk (nI O) B6 (nI (10 * O)) (nI v)) := by
    intro v m m' q A6 B6 N st bk hv hq hN hA hB hw nx
    have hs := sk_le b hq
    rw [bX5_readOrder_37, if_neg (show ¬ (8 : Int32) < nI v from nI_nlt (a := 8) hv (by omega)), t_good, z_b, if_neg d_10, bX11_readOrder_23, t_fine, z_b, if_neg d_10, t_here T hu hq, z_b, t_digM T, z_b]
    cases hd : atD b n (sk b n q) with
    | true =>
      have eX : (if nI v = (0 : Int32) then bX5_readOrder_61 u (nI n) t1 (bX5_readOrder_37 u (nI n) t1 (m + 1)) (nI O) A4 A5 A6 (nI q) st (0 : Int32) pl (nI v) else k_b (f_X8_isDigitNext u (nI n) (nI q) t1) (fun r55 => (if r55.1 = (0 : Int32) then (bX5_readOrder_107 u (nI n) t1 (nI O) A4 A5 A6 r55.2 st (0 : Int32) pl (nI v)) else (bX5_readOrder_61 u (nI n) t1 (bX5_readOrder_37 u (nI n) t1 (m + 1)) (nI O) A4 A5 A6 r55.2 st (0 : Int32) pl (nI v))))) = bX5_readOrder_61 u (nI n) t1 (bX5_readOrder_37 u (nI n) t1 (m + 1)) (nI O) A4 A5 A6 (nI (sk b n q)) st (0 : Int32) pl (nI v) := by
        by_cases z : nI v = (0 : Int32)
        · rw [if_pos z]
          unfold bX5_readOrder_61
          rw [numX_sk T hu hq]
        · rw [if_neg z, t_digitX T hu hq, z_b, hd, if_neg (show ¬ zB true = (0 : Int32) from d_10)]
      rw [eX, if_neg (show ¬ zB true = (0 : Int32) from d_10)]
      unfold bX5_readOrder_61
      have si := sk_id b hq
      refine nb (P := OUTO n O w pl A4 A5 a6 b6) (lo := 1) (hi := 4) T hu hs rfl rfl (by omega) (by omega) (fun x q' k1 k2 k3 k4 => ?_) (fun k f q' q2 hk hf hq' => ?_)
      · dsimp only
        rw [t_fine, z_b, if_neg d_10]
        by_cases z8 : v = 8
        · rw [if_pos (show (8 : Int32) ≤ nI v from nI_le (a := 8) (by omega) (by omega)), t_fail, z_b, if_pos (show nI v = (8 : Int32) by rw [z8]; rfl), t_wrong, z_b]
          unfold bX5_readOrder_101 bX11_readOrder_72
          dsimp only
          rw [t_fineF (by omega), z_b, if_pos rfl, show nI v + (1 : Int32) = nI (v + 1) from nI_1 v]
          obtain ⟨q3, A5', st', h3, e⟩ := ordF T hu hO (show v + 1 ≤ 9 by omega) k4 m A4 A5 A6 (show ¬ (3 : Int32) = 0 by decide) (nI (sk b n (sk b n q))) (nI (sk b n (sk b n q)))
          rw [e]
          exact ⟨_, _, rfl, rfl, Or.inr ⟨3, sk b n q, q3, by omega, by omega, hs, h3, rfl, rfl, by rw [si], rfl, rfl⟩⟩
        · have n8 : ¬ nI v = (8 : Int32) := fun e => z8 ((nI_eq (b := 8) (by omega) (by omega)).mp e)
          rw [if_neg (show ¬ (8 : Int32) ≤ nI v from nI_ge (b := 8) (by omega) (by omega)), if_neg n8, o_8, z_ki (show 8 * O + v < 48 by omega) (by omega), z_cl (by omega)]
          unfold bX5_readOrder_101 bX11_readOrder_72
          rw [t_fine, z_b, if_neg d_10, show nI (10 * O) + (2 : Int32) + nI v = nI (10 * O + 2 + v) by rw [show nI (10 * O) + (2 : Int32) = nI (10 * O + 2) from nI_add _ 2, nI_add], z_ki (show 10 * O + 2 + v < 60 by omega) (by omega), z_cl (by omega), show nI v + (1 : Int32) = nI (v + 1) from nI_1 v]
          exact nx (by omega) x q' _ _ k1 k2 k4
      · dsimp only
        have hk0 := kf_1 hk
        have xF : ∃ o q3, q3 ≤ n ∧ (if (8 : Int32) ≤ nI v then k_b (f_X8_fail u (nI k) (nI f) (3 : Int32) (nI (sk b n (sk b n q)))) (fun r98 => bX5_readOrder_101 u (nI n) t1 (bX5_readOrder_37 u (nI n) t1 (m + 1)) (nI O) A4 A5 A6 (nI q') (nI (sk b n (sk b n q))) r98.1 r98.2 (nI v)) else k_i 48 (nI O * (8 : Int32) + nI v) (bX5_readOrder_101 u (nI n) t1 (bX5_readOrder_37 u (nI n) t1 (m + 1)) (nI O) A4 A5 (upd A6 ((nI O * (8 : Int32) + nI v).toNatClampNeg) (nI 1)) (nI q') (nI (sk b n (sk b n q))) (nI k) (nI f) (nI v))) = some o ∧ o.2.2.2.2.1 = nI q3 ∧ o.2.2.2.2.2.2.1 = nI k ∧ o.2.2.2.2.2.2.2 = nI f := by
          unfold bX5_readOrder_101
          rw [show nI v + (1 : Int32) = nI (v + 1) from nI_1 v]
          by_cases z8 : v = 8
          · rw [if_pos (show (8 : Int32) ≤ nI v from nI_le (a := 8) (by omega) (by omega)), t_failF hk0, z_b]
            obtain ⟨q3, A5', st', h3, e⟩ := ordF T hu hO (show v + 1 ≤ 9 by omega) hq' m A4 A5 A6 hk0 (nI (sk b n (sk b n q))) (nI f)
            exact ⟨_, q3, h3, e, rfl, rfl, rfl⟩
          · rw [if_neg (show ¬ (8 : Int32) ≤ nI v from nI_ge (b := 8) (by omega) (by omega)), o_8, z_ki (show 8 * O + v < 48 by omega) (by omega)]
            obtain ⟨q3, A5', st', h3, e⟩ := ordF T hu hO (show v + 1 ≤ 9 by omega) hq' m A4 A5 (upd A6 ((nI (8 * O + v)).toNatClampNeg) (nI 1)) hk0 (nI (sk b n (sk b n q))) (nI f)
            exact ⟨_, q3, h3, e, rfl, rfl, rfl⟩
        obtain ⟨o, q3, h3, e, e1, e2, e3⟩ := xF
        rw [e, t_fineF (show f < 2147483648 by omega), z_b, if_pos rfl]
        unfold bX11_readOrder_72
        rw [t_fineF (show f < 2147483648 by omega), z_b, if_pos rfl]
        exact ⟨_, _, rfl, rfl, Or.inr ⟨k, f, q3, by omega, by omega, hf, h3, e1, e2, e3, rfl, rfl⟩⟩
    | false =>
      rw [if_pos (show zB false = (0 : Int32) from rfl)]
      unfold bX11_readOrder_98
      rw [t_fine, z_b, if_neg d_10]
      by_cases z0 : v = 0
      · have e0 : nI v = (0 : Int32) := by rw [z0]; rfl
        rw [if_pos e0, if_pos e0]
        unfold bX5_readOrder_61 bX11_readOrder_121
        rw [numX_no T hu hq hd, z_b, t_wrong, z_b]
        unfold bX11_readOrder_130
        rw [if_neg (show ¬ (8 : Int32) ≤ nI v from nI_ge (b := 8) (by omega) (by omega)), o_8, z_ki (show 8 * O + v < 48 by omega) (by omega)]
        unfold bX5_readOrder_101
        dsimp only
        rw [t_fineF (show sk b n q < 2147483648 by omega), z_b, if_pos rfl, show nI v + (1 : Int32) = nI (v + 1) from nI_1 v]
        obtain ⟨q3, A5', st', h3, e⟩ := ordF T hu hO (show v + 1 ≤ 9 by omega) hs m A4 A5 (upd A6 ((nI (8 * O + v)).toNatClampNeg) (1 : Int32)) (show ¬ (1 : Int32) = 0 by decide) (nI (sk b n q)) (nI (sk b n q))
        rw [e]
        exact ⟨_, _, rfl, rfl, Or.inr ⟨1, sk b n q, q3, by omega, by omega, hs, h3, rfl, rfl, rfl, rfl, rfl⟩⟩
      · have e0 : ¬ nI v = (0 : Int32) := fun e => z0 ((nI_eq (b := 0) (by omega) (by omega)).mp e)
        rw [if_neg e0, if_neg e0, t_digitX T hu hq, z_b, hd, if_pos (show zB false = (0 : Int32) from rfl), t_word T hu hs, z_b, of_15 (by omega), z_b, sk_id b hq]
        unfold bX5_readOrder_107
        rw [t_wordX T hu (si := 2) hs (by decide), sk_id b hq, wid_2]
        by_cases zw : pkW b n (sk b n q) = ofW 15
        · rw [if_pos zw, if_pos (show nI (pkW b n (sk b n q)) = nI (ofW 15) by rw [zw])]
          dsimp only
          rw [if_pos rfl, z_b, z_ki hO (by omega), z_cl (by omega), o_w hv]
          unfold bX11_readOrder_130
          rw [t_fine, z_b, if_neg d_10, t_pass T hu hs, z_b, show nI (10 * O) + (1 : Int32) = nI (10 * O + 1) from nI_1 _, z_ki (show 10 * O + 1 < 60 by omega) (by omega), z_cl (by omega), show nI O + (1 : Int32) = nI (O + 1) from nI_1 O]
          refine ⟨_, _, rfl, rfl, Or.inl ⟨v, N, sk b n q + wl b n (sk b n q), by omega, hv, fun j hj => ⟨(hN j hj).1, (hN j hj).2.1⟩, wl_le b hs, rfl, rfl, rfl, hA, fun j hj => (hN j hj).2.2.1, rfl, rfl, rfl, rfl, rfl, rfl, fun k hk => ?_, ?_, ?_, fun j hj => ?_⟩⟩
          · show upd B6 (10 * O + 1) (nI v) k = _
            simp only [z_upd]
            rw [if_neg (by omega)]; exact hB k hk
          · show upd B6 (10 * O + 1) (nI v) (10 * O) = _
            simp only [z_upd]
            rw [if_neg (by omega)]; exact hw
          · show upd B6 (10 * O + 1) (nI v) (10 * O + 1) = _
            simp only [z_upd]
            rw [if_pos trivial]
          · show upd B6 (10 * O + 1) (nI v) (10 * O + 2 + j) = _
            simp only [z_upd]
            rw [if_neg (by omega)]; exact (hN j hj).2.2.2
        · rw [if_neg zw, if_neg (pk_ne ow_15 (by omega) zw)]
          dsimp only
          rw [t_fail, z_b, z_b, z_ki hO (by omega)]
          unfold bX11_readOrder_121
          rw [t_wrong, z_b]
          unfold bX11_readOrder_130
          dsimp only
          rw [t_fineF (show sk b n q < 2147483648 by omega), z_b, if_pos rfl]
          exact ⟨_, _, rfl, rfl, Or.inr ⟨1, sk b n q, _, by omega, by omega, hs, wl_le b hs, rfl, rfl, rfl, rfl, rfl⟩⟩
  intro r
  induction r with
  | zero =>
    intro v m m' q A6 B6 N st bk hv hm hm' hq hN hA hB hw
    obtain ⟨m, rfl⟩ : ∃ k, m = k + 2 := ⟨m - 2, by omega⟩
    obtain ⟨m', rfl⟩ : ∃ k, m' = k + 1 := ⟨m' - 1, by omega⟩
    exact step v m m' q A6 B6 N st bk (by omega) hq hN hA hB hw (fun h => absurd h (by omega))
  | succ r ih =>
    intro v m m' q A6 B6 N st bk hv hm hm' hq hN hA hB hw
    obtain ⟨m, rfl⟩ : ∃ k, m = k + 2 := ⟨m - 2, by omega⟩
    obtain ⟨m', rfl⟩ : ∃ k, m' = k + 1 := ⟨m' - 1, by omega⟩
    refine step v m m' q A6 B6 N st bk (by omega) hq hN hA hB hw (fun h x q' st' bk' h1 h2 h3 => ?_)
    refine ih (v + 1) (m + 1) m' q' _ _ (fun j => if j = v then x else N j) st' bk' (by omega) (by omega) (by omega) h3 (fun j hj => ?_) (fun k hk => ?_) (fun k hk => ?_) ?_
    · simp only [z_upd]
      by_cases y : j = v
      · rw [if_pos y, y, if_pos rfl, if_pos rfl]; exact ⟨h1, h2, rfl, rfl⟩
      · rw [if_neg y, if_neg (by omega), if_neg (by omega)]; exact hN j (by omega)
    · simp only [z_upd]
      rw [if_neg (by omega)]; exact hA k hk
    · simp only [z_upd]
      rw [if_neg (by omega)]; exact hB k hk
    · simp only [z_upd]
      rw [if_neg (by omega)]; exact hw
variable {p : aP} {s : Nat} {x0 x1 x7 x8 x9 x10 : Int32} {x6 : Int64} {a1 a2 a3 a4 a5 a6 : Nat → Int32} {m18 m19 m20 m21 m22 m23 m24 : Int32} {b3 b4 b5 b6 : Nat → Int32}
theorem cl_7 (T : TXT b n t1 t2) (hu : 700 ≤ u) (P : pOK p) (hs : s ≤ 4) (X : PX p s x0 x1 x7 x8 x9 x10 x6 a1 a2 a3 a4 a5 a6) (M : PM p s m18 m19 m20 m21 m22 m23 m24 b3 b4 b5 b6) (hO : pO p < 6) {q0 : Nat} (hq0 : q0 ≤ n) (st pl bk v : Int32) : OUTC n pl (bX5_readClause_22 u (nI n) t1 x0 x1 x7 x8 x9 x10 x6 a1 a2 a3 a4 a5 a6 (nI q0) st (0 : Int32) pl v (7 : Int32)) (f_X11_readClause u (nI n) (nI q0) (-1 : Int32) bk m18 m19 m20 m21 m22 m23 m24 t2 b3 b4 b5 b6 (nI (ofW 14))) := by
  obtain ⟨rfl, rfl, rfl, rfl, rfl, rfl, X6, XK, XP, XO⟩ := X
  obtain ⟨rfl, rfl, MD, rfl, rfl, rfl, rfl, MK, MP, MO⟩ := M
  rw [bX5_readClause_22, t_good, z_b, if_neg d_10, if_neg (show ¬ (7 : Int32) = 0 by decide), if_neg (show ¬ (7 : Int32) = 1 by decide), if_neg (show ¬ (7 : Int32) = 2 by decide), if_neg (show ¬ (7 : Int32) = 3 by decide), if_neg (show ¬ (7 : Int32) = 4 by decide), if_neg (show ¬ (7 : Int32) = 5 by decide), if_neg (show ¬ (7 : Int32) = 6 by decide), f_X11_readClause, bX11_readClause_0, of_7 (by omega), z_b, if_neg (ow_ne ow_14 ow_7 (by omega) (by omega) (by omega)), of_8 (by omega), z_b, if_neg (ow_ne ow_14 ow_8 (by omega) (by omega) (by omega)), of_9 (by omega), z_b, if_neg (ow_ne ow_14 ow_9 (by omega) (by omega) (by omega)), of_10 (by omega), z_b, if_neg (ow_ne ow_14 ow_10 (by omega) (by omega) (by omega)), of_11 (by omega), z_b, if_neg (ow_ne ow_14 ow_11 (by omega) (by omega) (by omega)), of_12 (by omega), z_b, if_neg (ow_ne ow_14 ow_12 (by omega) (by omega) (by omega)), of_13 (by omega), z_b, if_neg (ow_ne ow_14 ow_13 (by omega) (by omega) (by omega))]
  have hn := T.1
  rw [f_X5_readOrder, bX5_readOrder_0, if_pos (show nI (pO p) < (6 : Int32) from nI_lt (b := 6) hO (by omega)), f_X11_readOrder, bX11_readOrder_0]
  simp only [kb_assoc]
  refine nb (P := OUTC n pl) (lo := 1) (hi := 60) T hu hq0 rfl rfl (by omega) (by omega) (fun w q h1 h2 h3 h4 => ?_) (fun k f q q' hk hf hq => ?_)
  · dsimp only
    rw [z_ki hO (by omega), z_cl (by omega), o_10, z_ki (show 10 * pO p < 60 by omega) (by omega), z_cl (by omega)]
    obtain ⟨o, o', e1, e2, hh⟩ := ord_L T hu hO (w := w) (A4 := upd a4 (pO p) (nI w)) (A5 := a5) (a6 := a6) (b6 := b6) (pl := pl) 8 0 u u q a6 (upd b6 (10 * pO p) (nI w)) (fun _ => 0) (nI (sk b n q0)) bk (by omega) (by omega) (by omega) h4 (fun j hj => absurd hj (Nat.not_lt_zero j)) (fun k hk => rfl) (fun k hk => by simp only [z_upd]; rw [if_neg (by omega)]) (by simp only [z_upd]; rw [if_pos trivial])
    refine kb_e (P := OUTC n pl) e1 (kb_eM (P := OUTC n pl) e2 ?_)
    rcases hh with ⟨z, N, q2, g1, g2, g3, g4, g5, g6, g7, g8, g9, f1, f2, f3, f4, f5, f6, f7, f8, f9, f10⟩ | ⟨k, f, q2, g1, g2, g3, g4, g5, g6, g7, g8, g9⟩
    · obtain ⟨O1, O2, O3⟩ := P.2.2.2.2.1
      refine ⟨_, _, rfl, rfl, Or.inl ⟨(pW p, pH p, pO p + 1, pC p, pSt p, pK p, pB p, pP p, fun i => if i = pO p then w else pT p i, fun i => if i = pO p then z else pZ p i, fun i j => if i = pO p then N j else pN p i j, pD p), s, q2, ⟨P.1, P.2.1, P.2.2.1, P.2.2.2.1, ⟨hO, fun i hi => ?_, fun i j hi hj => ?_⟩, P.2.2.2.2.2⟩, hs, g4, ⟨rfl, rfl, rfl, rfl, rfl, g5, X6, XK, XP, fun i hi => ?_, fun i hi => ?_, fun i j hi hj => ?_⟩, ⟨rfl, rfl, MD, rfl, rfl, rfl, f6, MK, MP, fun i hi => ?_, fun i hi => ?_, fun i j hi hj => ?_⟩, f1, f2, f3, f4, f5⟩⟩
      · show 1 ≤ (if i = pO p then w else pT p i) ∧ (if i = pO p then w else pT p i) ≤ 60 ∧ 1 ≤ (if i = pO p then z else pZ p i) ∧ (if i = pO p then z else pZ p i) ≤ 8
        by_cases y : i = pO p
        · simp only [if_pos y]; exact ⟨h1, h2, g1, g2⟩
        · simp only [if_neg y]; exact O2 i (by have : i < pO p + 1 := hi; omega)
      · show 1 ≤ (if i = pO p then N j else pN p i j) ∧ (if i = pO p then N j else pN p i j) ≤ 4
        have hj' : j < (if i = pO p then z else pZ p i) := hj
        by_cases y : i = pO p
        · simp only [if_pos y] at hj' ⊢; exact g3 j hj'
        · simp only [if_neg y] at hj' ⊢; exact O3 i j (by have : i < pO p + 1 := hi; omega) hj'
      · show o.2.1 i = nI (if i = pO p then w else pT p i)
        rw [g6]
        simp only [z_upd]
        by_cases y : i = pO p
        · rw [if_pos y, if_pos y]
        · rw [if_neg y, if_neg y]; exact XO.1 i (by have : i < pO p + 1 := hi; omega)
      · show o.2.2.1 i = nI (if i = pO p then z else pZ p i)
        rw [g7]
        simp only [z_upd]
        by_cases y : i = pO p
        · rw [if_pos y, if_pos y]
        · rw [if_neg y, if_neg y]; exact XO.2.1 i (by have : i < pO p + 1 := hi; omega)
      · show o.2.2.2.1 (8 * i + j) = nI (if i = pO p then N j else pN p i j)
        have hj' : j < (if i = pO p then z else pZ p i) := hj
        by_cases y : i = pO p
        · simp only [if_pos y] at hj' ⊢
          rw [y]; exact g9 j hj'
        · simp only [if_neg y] at hj' ⊢
          have hi' : i < pO p := by have : i < pO p + 1 := hi; omega
          have := (O2 i hi').2.2.2
          rw [g8 _ (by omega)]; exact XO.2.2 i j hi' hj'
      · show o'.2.2.2.2 (10 * i) = nI (if i = pO p then w else pT p i)
        by_cases y : i = pO p
        · rw [if_pos y, y]; exact f8
        · rw [if_neg y]
          have hi' : i < pO p := by have : i < pO p + 1 := hi; omega
          rw [f7 _ (by omega)]; exact MO.1 i hi'
      · show o'.2.2.2.2 (10 * i + 1) = nI (if i = pO p then z else pZ p i)
        by_cases y : i = pO p
        · rw [if_pos y, y]; exact f9
        · rw [if_neg y]
          have hi' : i < pO p := by have : i < pO p + 1 := hi; omega
          rw [f7 _ (by omega)]; exact MO.2.1 i hi'
      · show o'.2.2.2.2 (10 * i + 2 + j) = nI (if i = pO p then N j else pN p i j)
        have hj' : j < (if i = pO p then z else pZ p i) := hj
        by_cases y : i = pO p
        · simp only [if_pos y] at hj' ⊢
          rw [y]; exact f10 j hj'
        · simp only [if_neg y] at hj' ⊢
          have hi' : i < pO p := by have : i < pO p + 1 := hi; omega
          have := (O2 i hi').2.2.2
          rw [f7 _ (by omega)]; exact MO.2.2 i j hi' hj'
    · exact ⟨_, _, rfl, rfl, Or.inr ⟨k, f, q2, pH p, g1, g2, g3, g4, P.2.1.2, rfl, g5, g6, g7, g8, g9⟩⟩
  · dsimp only
    obtain ⟨u', rfl⟩ : ∃ k, u = k + 1 := ⟨u - 1, by omega⟩
    rw [z_ki hO (by omega), o_10, z_ki (show 10 * pO p < 60 by omega) (by omega)]
    obtain ⟨q3, A5', st', h3, e⟩ := ordF T hu hO (show 0 ≤ 9 by omega) hq u' (upd a4 ((nI (pO p)).toNatClampNeg) (nI 1)) a5 a6 (kf_1 hk) (nI (sk b n q0)) (nI f)
    rw [show bX5_readOrder_37 (u' + 1) (nI n) t1 (u' + 1) (nI (pO p)) (upd a4 ((nI (pO p)).toNatClampNeg) (nI 1)) a5 a6 (nI q) (nI (sk b n q0)) (nI k) (nI f) (0 : Int32) = _ from e, z_b]
    unfold bX11_readOrder_23 bX11_readOrder_98 bX11_readOrder_130
    rw [t_fineF (show f < 2147483648 by omega), z_b, if_pos rfl, z_b, if_pos rfl, z_b, if_pos rfl, z_b]
    exact ⟨_, _, rfl, rfl, Or.inr ⟨k, f, q3, pH p, by omega, by omega, hf, h3, P.2.1.2, rfl, rfl, rfl, rfl, rfl, rfl⟩⟩
end PTC
