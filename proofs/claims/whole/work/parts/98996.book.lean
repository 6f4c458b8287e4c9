/-! BOOK -/
section BOK
variable {u n : Nat} {b : Nat → Nat} {a1 a2 : Nat → Int32}
/-- the lines read so far -/
def bkI (L : Nat) (bk : Nat → Nat × Nat) (A2 A25 : Nat → Int32) (v : Int32) : Prop := L ≤ 8 ∧ (∀ i, i < L → (bk i).1 < 8 ∧ (bk i).2 ≤ 6 ∧ A25 (2 * i) = nI (bk i).1 ∧ A25 (2 * i + 1) = nI (bk i).2 ∧ A2 (bk i).1 = nI (bk i).2) ∧ (∀ i j, i < L → j < L → (bk i).1 = (bk j).1 → i = j) ∧ (∀ x, x < 8 → (∀ i, i < L → (bk i).1 ≠ x) → A2 x = -1) ∧ ∀ x, x < 8 → bt v x = inB bk x L
theorem cntB_one {p : Nat → Bool} {x0 : Nat} (hp : p x0 = false) : ∀ n, cntB (fun x => p x || decide (x0 = x)) n = cntB p n + (if x0 < n then 1 else 0)
  | 0 => rfl
  | n + 1 => by
    have e1 : cntB (fun x => p x || decide (x0 = x)) (n + 1) = cntB (fun x => p x || decide (x0 = x)) n + (if (p n || decide (x0 = n)) = true then 1 else 0) := rfl
    have e2 : cntB p (n + 1) = cntB p n + (if p n = true then 1 else 0) := rfl
    rw [e1, e2, cntB_one hp n]
    by_cases z : x0 = n
    · subst z
      rw [hp, decide_eq_true rfl]
      simp
    · rw [decide_eq_false z, Bool.or_false]
      by_cases y : x0 < n
      · rw [if_pos y, if_pos (show x0 < n + 1 by omega)]; omega
      · rw [if_neg y, if_neg (show ¬ x0 < n + 1 by omega)]; omega
theorem in_cnt {bk : Nat → Nat × Nat} : ∀ L, (∀ i, i < L → (bk i).1 < 8) → (∀ i j, i < L → j < L → (bk i).1 = (bk j).1 → i = j) → cntB (fun x => inB bk x L) 8 = L
  | 0, _, _ => by
    show cntB (fun _ => false) 8 = 0
    rfl
  | L + 1, h1, h2 => by
    have hno : inB bk (bk L).1 L = false := by
      cases z : inB bk (bk L).1 L with
      | false => rfl
      | true =>
        obtain ⟨i, hi, e⟩ := (inB_iff bk (bk L).1 L).mp z
        have := h2 i L (by omega) (by omega) e
        omega
    have e : (fun x => inB bk x (L + 1)) = (fun x => inB bk x L || decide ((bk L).1 = x)) := rfl
    rw [e, cntB_one (p := fun x => inB bk x L) hno, in_cnt L (fun i hi => h1 i (by omega)) (fun i j hi hj => h2 i j (by omega) (by omega)), if_pos (h1 L (by omega))]
theorem in_all {bk : Nat → Nat × Nat} (h1 : ∀ i, i < 8 → (bk i).1 < 8) (h2 : ∀ i j, i < 8 → j < 8 → (bk i).1 = (bk j).1 → i = j) {x : Nat} (hx : x < 8) : inB bk x 8 = true := by
  cases z : inB bk x 8 with
  | true => rfl
  | false =>
    have := (cntB_lt (p := fun x => inB bk x 8) (q := fun _ => true) (fun _ _ => rfl) 8).2 ⟨x, hx, rfl, z⟩
    rw [in_cnt 8 h1 h2] at this
    exact absurd this (by decide)
/-- behind a fault the class reads on, and nothing that is seen changes -/
theorem xbk_12F (T : TXT b n a1 a2) (hu : 700 ≤ u) {p : Nat} (hp : p ≤ n) {f : Int32} (hf : ¬ f = 0) (k : Nat) (ln : Int32) (sd A : Nat → Int32) (st pl v2 v3 : Int32) : ∃ at', bX9_read_12 u (nI n) a1 (k + 1) ln sd A (nI p) st f pl v2 v3 = some (ln, sd, A, at', st, f, pl) := by
  have fin_ : ∀ q, bX9_read_83 u (nI n) a1 ln sd A q st f pl v2 = some (ln, sd, A, q, st, f, pl) := by
    intro q
    unfold bX9_read_83
    rw [t_goodF hf, z_b, if_pos rfl]
  rw [bX9_read_12]
  by_cases z : (100 : Int32) ≤ v3
  · rw [if_pos z]; exact ⟨_, fin_ _⟩
  · rw [if_neg z, t_moreF T hu hp hf, z_b, if_pos rfl]; exact ⟨_, fin_ _⟩
theorem xbk_54F (T : TXT b n a1 a2) (hu : 700 ≤ u) {p x : Nat} (hp : p ≤ n) (hx : x < 8) {f : Int32} (hf : ¬ f = 0) (k : Nat) (ln : Int32) (sd A : Nat → Int32) (st pl v2 v3 : Int32) : ∃ A' at' st', bX9_read_54 u (nI n) a1 (bX9_read_12 u (nI n) a1 (k + 1)) ln sd A (nI p) st f pl v2 v3 (nI x) = some (ln, sd, A', at', st', f, pl) := by
  obtain ⟨q, hq, e⟩ := t_numF T hu hp hf st pl (0 : Int32) (6 : Int32)
  obtain ⟨q2, hq2, e2⟩ := t_signF T hu hq (c := 59) (k := 59) rfl (by omega) (by omega) hf (pl := pl)
  unfold bX9_read_54
  rw [e, z_b, z_ki (by omega) (by omega), z_cl (by omega), e2, z_b]
  obtain ⟨at', e3⟩ := xbk_12F T hu hq2 hf k ln sd (upd A x (0 : Int32)) (nI (sk b n p)) pl (v2 + (1 : Int32)) (v3 + (1 : Int32))
  exact ⟨_, _, _, e3⟩
/-- the reference, behind a fault -/
theorem mbk_181F {f : Nat} (hf : f < 2147483648) (c0 c2 c3 c4 bk c7 c8 c54 : Int32) (m1 A25 A26 : Nat → Int32) (v2 : Int32) : bX11_book_181 u a2 c0 c2 c3 c4 (nI f) bk c7 c8 c54 m1 A25 A26 v2 = some (bk - (10 : Int32), c0, c2, c3, c4, nI f, bk, c7, nI f, c54, m1, A25, A26) := by
  unfold bX11_book_181 f_X11_result bX11_result_0
  rw [t_fineF hf, z_b, if_pos rfl, z_b, if_neg (nI_m hf)]
theorem mbk_121F {f : Nat} (hf : f < 2147483648) (k48 : Int32 → Int32 → Int32 → Int32 → Int32 → Int32 → Int32 → Int32 → Int32 → (Nat → Int32) → (Nat → Int32) → (Nat → Int32) → Int32 → Int32 → Option (Int32 × Int32 × Int32 × Int32 × Int32 × Int32 × Int32 × Int32 × Int32 × Int32 × (Nat → Int32) × (Nat → Int32) × (Nat → Int32))) (c0 c2 c3 c4 bk c7 c8 c54 : Int32) (m1 A25 A26 : Nat → Int32) (v2 v3 v5 : Int32) : bX11_book_121 u a2 k48 c0 c2 c3 c4 (nI f) bk c7 c8 c54 m1 A25 A26 v2 v3 v5 = some (bk - (10 : Int32), c0, c2, c3, c4, nI f, bk, c7, nI f, c54, m1, A25, A26) := by
  unfold bX11_book_121
  rw [t_numMF hf, z_b, t_signMF hf, z_b, t_fineF hf, z_b, if_pos rfl]
  exact mbk_181F hf _ _ _ _ _ _ _ _ _ _ _ _
theorem mbk_101F {f : Nat} (hf : f < 2147483648) (k48 : Int32 → Int32 → Int32 → Int32 → Int32 → Int32 → Int32 → Int32 → Int32 → (Nat → Int32) → (Nat → Int32) → (Nat → Int32) → Int32 → Int32 → Option (Int32 × Int32 × Int32 × Int32 × Int32 × Int32 × Int32 × Int32 × Int32 × Int32 × (Nat → Int32) × (Nat → Int32) × (Nat → Int32))) (c0 c2 c3 c4 bk c7 c8 c54 : Int32) (m1 A25 A26 : Nat → Int32) (v2 v3 v4 v5 : Int32) : bX11_book_101 u a2 k48 c0 c2 c3 c4 (nI f) bk c7 c8 c54 m1 A25 A26 v2 v3 v4 v5 = some (bk - (10 : Int32), c0, c2, c3, c4, nI f, bk, c7, nI f, c54, m1, A25, A26) := by
  unfold bX11_book_101
  rw [t_fineF hf, z_b, if_pos rfl]
  exact mbk_121F hf k48 _ _ _ _ _ _ _ _ _ _ _ _ _ _
/-- the outcome -/
def bkO (said A26 : Nat → Int32) (ln c0 c54 : Int32) (m1 : Nat → Int32) (o : Int32 × (Nat → Int32) × (Nat → Int32) × Int32 × Int32 × Int32 × Int32) (o' : Int32 × Int32 × Int32 × Int32 × Int32 × Int32 × Int32 × Int32 × Int32 × Int32 × (Nat → Int32) × (Nat → Int32) × (Nat → Int32)) (c2 : Int32) : Prop :=
  o'.2.1 = c0 ∧ o'.2.2.1 = c2 ∧ o'.2.2.2.2.2.2.2.2.2.2.1 = m1 ∧ o.2.2.2.2.2.2 = o'.2.2.2.2.2.2.2.2.1 ∧
  ((o.2.2.2.2.2.1 = 0 ∧ ∃ L bk, (∃ A2 A25 v, bkI L bk A2 A25 v ∧ (∀ j, j < 8 → o.2.1 j = A2 j) ∧ ∀ j, j < 2 * L → o'.2.2.2.2.2.2.2.2.2.2.2.2 j = A25 j) ∧ o.1 = nI L ∧ o'.1 = nI L ∧ o'.2.2.2.2.2.2.2.2.2.1 = nI L) ∨
   (¬ o.2.2.2.2.2.1 = 0 ∧ o.1 = ln ∧ o.2.1 = said ∧ o'.1 = o.2.2.2.2.2.1 - (10 : Int32) ∧ o'.2.2.2.2.2.2.2.2.2.1 = c54 ∧ o'.2.2.2.2.2.2.2.2.2.2.2.2 = A26))
theorem bk_sim (T : TXT b n a1 a2) (hu : 700 ≤ u) (said A26 : Nat → Int32) (ln c0 c2 c7 c8 c54 : Int32) (m1 : Nat → Int32) :
    ∀ r L bk A2 A25 v p st i k1 k2 bd, L + r = 9 → i + r ≤ 90 → r + 1 < k1 → r < k2 → p ≤ n → bkI L bk A2 A25 v → ∃ o o', bX9_read_12 u (nI n) a1 k1 ln said A2 (nI p) st (0 : Int32) (-1 : Int32) (nI L) (nI i) = some o ∧ bX11_book_48 u a2 k2 c0 c2 (nI n) (nI p) (-1 : Int32) bd c7 c8 c54 m1 A25 A26 (nI L) v = some o' ∧ bkO said A26 ln c0 c54 m1 o o' c2 := by
  have hn := T.1
  intro r
  induction r with
  | zero =>
    intro L bk A2 A25 v p st i k1 k2 bd hL _ _ _ _ hI
    have := hI.1
    omega
  | succ r ih =>
    intro L bk A2 A25 v p st i k1 k2 bd hL hi hk1 hk2 hp hI
    obtain ⟨k1, rfl⟩ := z_suc hk1
    obtain ⟨k2, rfl⟩ := z_suc hk2
    obtain ⟨k1, rfl⟩ := z_suc (show 0 < k1 by omega)
    obtain ⟨hL8, i1, i2, i3, i4⟩ := hI
    have hs := sk_le b hp
    rw [bX9_read_12, bX11_book_48, if_neg (show ¬ (100 : Int32) ≤ nI i from nI_ge (b := 100) (by omega) (by omega)), t_moreX T hu hp, z_b, t_fine, z_b, if_neg d_10, t_moreM T hu hp, z_b]
    by_cases hm : sk b n p < n
    · rw [decide_eq_true hm, if_neg (show ¬ zB true = (0 : Int32) from d_10), if_neg (show ¬ zB true = (0 : Int32) from d_10)]
      have hsk := sk_id b hp
      rcases t_num T hu hs (lo := 0) (hi := 7) (by omega) (by omega) st (-1 : Int32) bd with ⟨x, q, -, hx, hq1, hq2, e1, e2⟩ | ⟨k, f, q, hk, hf, hq, e1, q', e2⟩
      · rw [hsk] at e1 hq1
        rw [show f_X8_number u (nI n) (nI (sk b n p)) st (0 : Int32) (-1 : Int32) a1 (0 : Int32) (7 : Int32) = _ from e1, show f_X11_readNumber u (nI n) (nI (sk b n p)) (-1 : Int32) bd a2 (0 : Int32) (7 : Int32) = _ from e2, z_b, z_b, t_fine, z_b, if_neg d_10, z_ki (show x < 8 by omega) (by omega), z_cl (by omega), b_ts (show x < 32 by omega), i4 x (by omega)]
        cases hT : inB bk x L with
        | true =>
          obtain ⟨j, hj, ej⟩ := (inB_iff bk x L).mp hT
          obtain ⟨g1, g2, g3, g4, g5⟩ := i1 j hj
          rw [ej] at g5
          rw [if_neg (show ¬ A2 x = (-1 : Int32) by rw [g5]; exact nI_m (by omega)), if_pos (show (if true = true then (1 : Int32) else 0) = 1 by decide), t_fail, z_b, t_wrong, z_b]
          obtain ⟨A', at', st', e3⟩ := xbk_54F T hu hq2 (show x < 8 by omega) (f := 2) (by decide) k1 ln said A2 (nI (sk b n p)) (nI (sk b n p)) (nI L) (nI i)
          refine ⟨_, _, e3, mbk_101F (show sk b n p < 2147483648 by omega) _ _ _ _ _ _ _ _ _ _ _ _ _ _ _ _, rfl, rfl, rfl, rfl, Or.inr ⟨d_20, rfl, rfl, rfl, rfl, rfl⟩⟩
        | false =>
          have hno : ∀ j, j < L → (bk j).1 ≠ x := fun j hj e => by
            have := (inB_iff bk x L).mpr ⟨j, hj, e⟩
            rw [hT] at this
            exact absurd this (by decide)
          have hL7 : L < 8 := by
            by_cases z : L = 8
            · have := in_all (bk := bk) (fun i hi => (i1 i (by omega)).1) (fun i j hi hj => i2 i j (by omega) (by omega)) (show x < 8 by omega)
              rw [z] at hT
              rw [hT] at this
              exact absurd this (by decide)
            · omega
          rw [if_pos (i3 x (by omega) hno), if_neg (show ¬ (if false = true then (1 : Int32) else 0) = 1 by decide)]
          unfold bX9_read_54 bX11_book_101
          rw [t_fine, z_b, if_neg d_10, if_neg (show ¬ nI L = (8 : Int32) from fun w => by have := (nI_eq (b := 8) (by omega) (by omega)).mp w; omega)]
          unfold bX11_book_121
          rcases t_num T hu hq2 (lo := 0) (hi := 6) (by omega) (by omega) (nI (sk b n p)) (-1 : Int32) bd with ⟨d, q2, -, hd, hq3, hq4, e3, e4⟩ | ⟨k, f, q2, hk, hf, hq4, e3, q', e4⟩
          · rw [show f_X8_number u (nI n) (nI q) (nI (sk b n p)) (0 : Int32) (-1 : Int32) a1 (0 : Int32) (6 : Int32) = _ from e3, show f_X11_readNumber u (nI n) (nI q) (-1 : Int32) bd a2 (0 : Int32) (6 : Int32) = _ from e4, z_b, z_b, z_ki (show x < 8 by omega) (by omega), z_cl (by omega)]
            cases hsg : atC b n (sk b n q2) 59 with
            | true =>
              have hlt : sk b n q2 < n := by unfold atC at hsg; exact (of_decide_eq_true hsg).1
              rw [t_signX1 T hu hq4 (c := 59) (k := 59) rfl (by omega) (by omega) _ _ hsg, t_signM1 T hu hq4 (c := 59) (k := 59) rfl (by omega) (by omega) _ hsg, z_b, z_b, t_fine, z_b, if_neg d_10]
              have eL2 : (2 : Int32) * nI L = nI (2 * L) := (Int32.ofNat_mul 2 L).symm
              rw [eL2, show nI (2 * L) + (1 : Int32) = nI (2 * L + 1) from nI_1 _, z_ki (show 2 * L < 16 by omega) (by omega), z_ki (show 2 * L + 1 < 16 by omega) (by omega), z_cl (by omega), z_cl (by omega), show nI L + (1 : Int32) = nI (L + 1) from nI_1 L, show nI i + (1 : Int32) = nI (i + 1) from nI_1 i]
              obtain ⟨bk', hb1, hb2⟩ : ∃ bk' : Nat → Nat × Nat, bk' L = (x, d) ∧ ∀ j, j ≠ L → bk' j = bk j := ⟨fun j => if j = L then (x, d) else bk j, if_pos rfl, fun j h => if_neg h⟩
              have u1 : ∀ j, j ≠ 2 * L → j ≠ 2 * L + 1 → upd (upd A25 (2 * L) (nI x)) (2 * L + 1) (nI d) j = A25 j := fun j h1 h2 => by
                simp only [z_upd]
                rw [if_neg h2, if_neg h1]
              have u2 : upd (upd A25 (2 * L) (nI x)) (2 * L + 1) (nI d) (2 * L) = nI x := by
                simp only [z_upd]
                rw [if_neg (by omega)]
                exact if_pos trivial
              have u3 : upd (upd A25 (2 * L) (nI x)) (2 * L + 1) (nI d) (2 * L + 1) = nI d := by
                simp only [z_upd]
                exact if_pos trivial
              have u4 : upd A2 x (nI d) x = nI d := by
                simp only [z_upd]
                exact if_pos trivial
              have u5 : ∀ y, y ≠ x → upd A2 x (nI d) y = A2 y := fun y h => by
                simp only [z_upd]
                exact if_neg h
              refine ih (L + 1) bk' _ _ _ (sk b n q2 + 1) _ (i + 1) (k1 + 1) k2 bd (by omega) (by omega) (by omega) (by omega) (by omega) ⟨by omega, ?_, ?_, ?_, ?_⟩
              · intro j hj
                by_cases z : j = L
                · rw [z, hb1]
                  exact ⟨by omega, hd, u2, u3, u4⟩
                · obtain ⟨g1, g2, g3, g4, g5⟩ := i1 j (by omega)
                  rw [hb2 j z]
                  exact ⟨g1, g2, by rw [u1 _ (by omega) (by omega)]; exact g3, by rw [u1 _ (by omega) (by omega)]; exact g4, by rw [u5 _ (hno j (by omega))]; exact g5⟩
              · intro j l hj hl he
                by_cases z : j = L
                · by_cases y : l = L
                  · omega
                  · rw [z, hb1, hb2 l y] at he
                    exact absurd he.symm (hno l (by omega))
                · by_cases y : l = L
                  · rw [y, hb1, hb2 j z] at he
                    exact absurd he (hno j (by omega))
                  · rw [hb2 j z, hb2 l y] at he
                    exact i2 j l (by omega) (by omega) he
              · intro y hy h
                have hxy : x ≠ y := by
                  have := h L (by omega)
                  rw [hb1] at this
                  exact this
                rw [u5 y (fun w => hxy w.symm)]
                refine i3 y hy (fun j hj => ?_)
                have := h j (by omega)
                rw [hb2 j (by omega)] at this
                exact this
              · intro y hy
                have e0 : ∀ m, m ≤ L → inB bk' y m = inB bk y m := by
                  intro m
                  induction m with
                  | zero => intro _; rfl
                  | succ m ihm =>
                    intro hm
                    show (inB bk' y m || decide ((bk' m).1 = y)) = (inB bk y m || decide ((bk m).1 = y))
                    rw [ihm (by omega), hb2 m (by omega)]
                have e : inB bk' y (L + 1) = (inB bk y L || decide (x = y)) := by
                  show (inB bk' y L || decide ((bk' L).1 = y)) = _
                  rw [e0 L (Nat.le_refl _), hb1]
                rw [e, b_or, b_shl1 (by omega) (by omega), i4 y hy]
                by_cases z : y = x
                · rw [decide_eq_true z, decide_eq_true z.symm]
                · rw [decide_eq_false z, decide_eq_false (fun w => z w.symm)]
            | false =>
              rw [t_signX0 T hu hq4 (c := 59) (k := 59) rfl (by omega) (by omega) _ _ hsg, t_fail, z_b, z_b, t_signM0 T hu hq4 (c := 59) (k := 59) rfl (by omega) (by omega) _ hsg, z_b]
              have hs2 := sk_le b hq4
              rw [t_fineF (show sk b n q2 < 2147483648 by omega), z_b, if_pos rfl]
              obtain ⟨at', e5⟩ := xbk_12F T hu hs2 (f := 1) (by decide) k1 ln said (upd A2 x (nI d)) (nI (sk b n q)) (nI (sk b n q2)) (nI L + (1 : Int32)) (nI i + (1 : Int32))
              exact ⟨_, _, e5, mbk_181F (show sk b n q2 < 2147483648 by omega) _ _ _ _ _ _ _ _ _ _ _ _, rfl, rfl, rfl, rfl, Or.inr ⟨d_10, rfl, rfl, rfl, rfl, rfl⟩⟩
          · rw [show f_X8_number u (nI n) (nI q) (nI (sk b n p)) (0 : Int32) (-1 : Int32) a1 (0 : Int32) (6 : Int32) = _ from e3, show f_X11_readNumber u (nI n) (nI q) (-1 : Int32) bd a2 (0 : Int32) (6 : Int32) = _ from e4, z_b, z_b, z_ki (show x < 8 by omega) (by omega), z_cl (by omega)]
            have hk0 : ¬ nI k = (0 : Int32) := by rcases hk with rfl | rfl <;> decide
            obtain ⟨q5, hq5, e5⟩ := t_signF T hu hq4 (c := 59) (k := 59) rfl (by omega) (by omega) hk0 (pl := nI f)
            rw [e5, z_b, t_signMF (show f < 2147483648 by omega), z_b, t_fineF (show f < 2147483648 by omega), z_b, if_pos rfl]
            obtain ⟨at', e6⟩ := xbk_12F T hu hq5 hk0 k1 ln said (upd A2 x (nI 0)) (nI (sk b n q)) (nI f) (nI L + (1 : Int32)) (nI i + (1 : Int32))
            exact ⟨_, _, e6, mbk_181F (show f < 2147483648 by omega) _ _ _ _ _ _ _ _ _ _ _ _, rfl, rfl, rfl, rfl, Or.inr ⟨hk0, rfl, rfl, rfl, rfl, rfl⟩⟩
      · rw [show f_X8_number u (nI n) (nI (sk b n p)) st (0 : Int32) (-1 : Int32) a1 (0 : Int32) (7 : Int32) = _ from e1, show f_X11_readNumber u (nI n) (nI (sk b n p)) (-1 : Int32) bd a2 (0 : Int32) (7 : Int32) = _ from e2, z_b, z_b, t_fineF (show f < 2147483648 by omega), z_b, if_pos rfl, z_ki (show 0 < 8 by omega) (by omega), z_cl (by omega)]
        have hk0 : ¬ nI k = (0 : Int32) := by rcases hk with rfl | rfl <;> decide
        have x54 : ∃ A' at' st', (if A2 0 = (-1 : Int32) then bX9_read_54 u (nI n) a1 (bX9_read_12 u (nI n) a1 (k1 + 1)) ln said A2 (nI q) (nI (sk b n (sk b n p))) (nI k) (nI f) (nI L) (nI i) (nI 0) else k_b (f_X8_fail u (nI k) (nI f) (2 : Int32) (nI (sk b n (sk b n p)))) (fun r51 => bX9_read_54 u (nI n) a1 (bX9_read_12 u (nI n) a1 (k1 + 1)) ln said A2 (nI q) (nI (sk b n (sk b n p))) r51.1 r51.2 (nI L) (nI i) (nI 0))) = some (ln, said, A', at', st', nI k, nI f) := by
          obtain ⟨A', at', st', e3⟩ := xbk_54F T hu hq (show 0 < 8 by omega) hk0 k1 ln said A2 (nI (sk b n (sk b n p))) (nI f) (nI L) (nI i)
          refine ⟨A', at', st', ?_⟩
          by_cases z : A2 0 = (-1 : Int32)
          · rw [if_pos z]; exact e3
          · rw [if_neg z, t_failF hk0, z_b]; exact e3
        obtain ⟨A', at', st', e3⟩ := x54
        exact ⟨_, _, e3, mbk_101F (show f < 2147483648 by omega) _ _ _ _ _ _ _ _ _ _ _ _ _ _ _ _, rfl, rfl, rfl, rfl, Or.inr ⟨hk0, rfl, rfl, rfl, rfl, rfl⟩⟩
    · rw [decide_eq_false hm, if_pos (show zB false = (0 : Int32) from rfl), if_pos (show zB false = (0 : Int32) from rfl)]
      unfold bX9_read_83 bX11_book_181 f_X11_result bX11_result_0
      have eL2 : (2 : Int32) * nI L = nI (2 * L) := (Int32.ofNat_mul 2 L).symm
      obtain ⟨g, g1, g2, g3⟩ := cp_25_26 (u := u) (by omega) A25 A26 (show 2 * L ≤ 16 by omega)
      rw [t_good, z_b, if_neg d_10, t_fine, z_b, if_neg d_10, z_b, if_pos rfl, eL2, g1, z_b]
      exact ⟨_, _, rfl, rfl, rfl, rfl, rfl, rfl, Or.inl ⟨rfl, L, bk, ⟨A2, A25, v, ⟨hL8, i1, i2, i3, i4⟩, fun j hj => sb_cpy0 hj, g2⟩, rfl, rfl, rfl⟩⟩
end BOK
