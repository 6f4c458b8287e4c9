/-! HOLDING: the reference; masks -/
section HLM
variable {u : Nat} {LF : (Nat → Int32) → Int32} {K B : Nat → Nat} {sh : Nat}
def enc (o : Option Nat) : Int64 := match o with | some d => lN d | none => -1
theorem enc_no {d : Nat} (h : d < 1073741824) : ¬ lg_cmp (lN d) (-1 : Int64) = (0 : Int32) := by
  intro w
  have e : lN d = (-1 : Int64) := by
    unfold lg_cmp at w
    by_cases z : lN d > (-1 : Int64)
    · rw [if_pos z] at w; exact absurd w (by decide)
    · rw [if_neg z] at w
      by_cases y : lN d = (-1 : Int64)
      · exact y
      · rw [if_neg y] at w; exact absurd w (by decide)
  have h2 := congrArg Int64.toInt e
  rw [pf_lI (show d < 2 ^ 63 by omega)] at h2
  have : (-1 : Int64).toInt = -1 := rfl
  omega
theorem hs_lt : ∀ r m c S dg v, c + r = 48 → (dg + 1) * 64 ^ m ≤ 1073741824 → hs LF K B sh r m c S dg = some v → v < 1073741824
  | 0, m, c, S, dg, v, hc, hb, h => by
    unfold hs at h
    by_cases z : m = 0
    · rw [if_pos z] at h
      by_cases q : allQ LF K B sh S = true
      · rw [if_pos q] at h
        rw [z] at hb
        have := Option.some.inj h
        omega
      · rw [if_neg q] at h; exact absurd h (by simp)
    · rw [if_neg z] at h; exact absurd h (by simp)
  | r + 1, m, c, S, dg, v, hc, hb, h => by
    unfold hs at h
    by_cases z : m = 0
    · rw [if_pos z] at h
      by_cases q : allQ LF K B sh S = true
      · rw [if_pos q] at h
        rw [z] at hb
        have := Option.some.inj h
        omega
      · rw [if_neg q] at h; exact absurd h (by simp)
    · rw [if_neg z] at h
      have hb2 : (64 * dg + c + 1 + 1) * 64 ^ (m - 1) ≤ 1073741824 := by
        have e : (64 : Nat) ^ m = 64 * 64 ^ (m - 1) := (congrArg (fun k => 64 ^ k) (show m = (m - 1) + 1 by omega)).trans Nat.pow_succ'
        rw [e, ← Nat.mul_assoc] at hb
        refine Nat.le_trans (Nat.mul_le_mul_right _ ?_) hb
        omega
      by_cases w : S c = 1
      · rw [if_pos w] at h
        cases q : hs LF K B sh r (m - 1) (c + 1) (upP S c) (64 * dg + c + 1) with
        | some t =>
          rw [q] at h
          have := hs_lt r (m - 1) (c + 1) _ _ t (by omega) hb2 q
          have := Option.some.inj h
          omega
        | none =>
          rw [q] at h
          exact hs_lt r m (c + 1) S dg v (by omega) hb h
      · rw [if_neg w] at h
        exact hs_lt r m (c + 1) S dg v (by omega) hb h
theorem stOK_up {W H : Nat} {S : Nat → Nat} (St : stOK W H S) {c : Nat} (hc : c < 48) (h : S c = 1) : stOK W H (upP S c) := by
  refine ⟨fun k hk => ?_, fun k hk hg => ?_⟩
  · unfold upP; split
    · omega
    · exact St.1 k hk
  · unfold upP
    by_cases z : k = c
    · have := St.2 k hk hg
      rw [z] at this
      omega
    · rw [if_neg z]; exact St.2 k hk hg
variable {W H : Nat} {a7 a8 m13 m14 m15 : Nat → Int32}
theorem m_holdsOn (hW : W ≤ 8) (hH : H ≤ 6) (E : kbA a7 a8 K B) (L : lawM 0 m13 m14 m15 LF) (hc' : lcong LF) (hu : 160 ≤ u) :
    ∀ m d r c S dg g b16 b17 b23, c + r = 48 → m < d → sA g S → stOK W H S → g 69 = nI sh → (dg + 1) * 64 ^ m ≤ 1073741824 → ∃ d16 d17 d23, f_X11_holdsOn_r u d (nI W) (nI H) a7 a8 m13 m14 m15 b16 b17 g b23 (nI m) (nI c) (lN dg) = some (enc (hs LF K B sh r m c S dg), d16, d17, g, d23) := by
  intro m
  induction m with
  | zero =>
    intro d r c S dg g b16 b17 b23 hc hd A St hsh hb
    obtain ⟨d, rfl⟩ : ∃ k, d = k + 1 := ⟨d - 1, by omega⟩
    obtain ⟨d16, d17, d23, f1, -⟩ := m_fallNow (u := u) hW hH A St E hsh L hc' hu b16 b17 b23
    show ∃ d16 d17 d23, bX11_holdsOn_0 u (f_X11_holdsOn_r u d) (nI W) (nI H) a7 a8 m13 m14 m15 b16 b17 g b23 (nI 0) (nI c) (lN dg) = _
    unfold bX11_holdsOn_0
    rw [if_pos (show nI 0 = (0 : Int32) from rfl), f1, z_b, hs_0]
    have hle := cntB_le (fl LF S K B sh) 48
    by_cases z : cntB (fl LF S K B sh) 48 = 0
    · rw [z, if_pos (show nI 0 = (0 : Int32) from rfl), if_pos (show allQ LF K B sh S = true by unfold allQ; rw [z]; rfl)]
      exact ⟨d16, d17, d23, rfl⟩
    · rw [if_neg (show ¬ nI (cntB (fl LF S K B sh) 48) = (0 : Int32) from fun w => z ((nI_eq (b := 0) (by omega) (by omega)).mp w)), if_neg (show ¬ allQ LF K B sh S = true from fun w => z (by unfold allQ at w; exact beq_iff_eq.mp w))]
      exact ⟨d16, d17, d23, rfl⟩
  | succ m ihm =>
    intro d r c S dg g b16 b17 b23 hc hd A St hsh hb
    obtain ⟨d, rfl⟩ : ∃ k, d = k + 1 := ⟨d - 1, by omega⟩
    have key : ∀ r k n b16 b17 b23, k + r = 48 → r < n → ∃ d16 d17 d23, bX11_holdsOn_22 u (f_X11_holdsOn_r u d) (nI W) (nI H) a7 a8 m13 m14 m15 n b16 b17 g b23 (nI (m + 1)) (lN dg) (nI k) = some (enc (hs LF K B sh r (m + 1) k S dg), d16, d17, g, d23) := by
      intro r
      induction r with
      | zero =>
        intro k n b16 b17 b23 hk hn
        obtain ⟨n, rfl⟩ := z_suc hn
        obtain rfl : k = 48 := by omega
        rw [bX11_holdsOn_22, if_pos (show (48 : Int32) ≤ nI 48 by decide)]
        exact ⟨_, _, _, rfl⟩
      | succ r ih =>
        intro k n b16 b17 b23 hk hn
        obtain ⟨n, rfl⟩ := z_suc hn
        have hk2 : k < 48 := by omega
        have hS3 := St.1 k hk2
        have ek : nI k + (1 : Int32) = nI (k + 1) := nI_1 k
        have eh : hs LF K B sh (r + 1) (m + 1) k S dg = (if S k = 1 then (match hs LF K B sh r m (k + 1) (upP S k) (64 * dg + k + 1) with | some v => some v | none => hs LF K B sh r (m + 1) (k + 1) S dg) else hs LF K B sh r (m + 1) (k + 1) S dg) := by
          show (if m + 1 = 0 then _ else _) = _
          rw [if_neg (by omega)]
          rfl
        rw [bX11_holdsOn_22, if_neg (show ¬ (48 : Int32) ≤ nI k from nI_ge (a := k) (b := 48) hk2 (by omega)), z_ki (by omega) (by omega), z_cl (by omega), A k hk2, eh]
        unfold bX11_holdsOn_95
        rw [ek]
        by_cases z : S k = 1
        · rw [if_pos z, z, if_pos (show nI 1 = (1 : Int32) from rfl), z_ki (by omega) (by omega)]
          have A' : sA (upd g k (2 : Int32)) (upP S k) := by
            intro j hj
            simp only [z_upd]
            unfold upP
            by_cases y : j = k
            · rw [if_pos y, if_pos y]; rfl
            · rw [if_neg y, if_neg y]; exact A j hj
          have hb2 : (64 * dg + k + 1 + 1) * 64 ^ m ≤ 1073741824 := by
            have e : (64 : Nat) ^ (m + 1) = 64 * 64 ^ m := Nat.pow_succ'
            rw [e, ← Nat.mul_assoc] at hb
            refine Nat.le_trans (Nat.mul_le_mul_right _ ?_) hb
            omega
          have ed : (64 : Int64) * lN dg + (nI k).toInt64 + (1 : Int64) = lN (64 * dg + k + 1) := by
            rw [nI_l (by omega), show (64 : Int64) = lN 64 from rfl, lN_mul, lN_add, show (1 : Int64) = lN 1 from rfl, lN_add]
          obtain ⟨d16, d17, d23, q⟩ := ihm d r (k + 1) (upP S k) (64 * dg + k + 1) (upd g k (2 : Int32)) b16 b17 b23 (by omega) (by omega) A' (stOK_up St hk2 z) (by simp only [z_upd]; rw [if_neg (by omega)]; exact hsh) hb2
          rw [ed, show nI (m + 1) - (1 : Int32) = nI m from nI_pred m, q, z_b, z_ki (by omega) (by omega)]
          have hg : upd (upd g k (2 : Int32)) k (1 : Int32) = g := by
            rw [fa_upd_twice]
            exact fa_upd_same (by rw [A k hk2, z]; rfl)
          cases hq : hs LF K B sh r m (k + 1) (upP S k) (64 * dg + k + 1) with
          | some v =>
            have hv := hs_lt r m (k + 1) _ _ v (by omega) hb2 hq
            show ∃ d16' d17' d23', (if lg_cmp (lN v) (-1 : Int64) = (0 : Int32) then _ else _) = _
            rw [if_neg (enc_no hv)]
            exact ⟨d16, d17, d23, by rw [show upd (enc (some v), d16, d17, upd g k (2 : Int32), d23).2.2.2.1 k (1 : Int32) = g from hg]⟩
          | none =>
            show ∃ d16' d17' d23', (if lg_cmp (-1 : Int64) (-1 : Int64) = (0 : Int32) then _ else _) = _
            rw [if_pos (show lg_cmp (-1 : Int64) (-1 : Int64) = (0 : Int32) by decide)]
            rw [show upd (enc (none : Option Nat), d16, d17, upd g k (2 : Int32), d23).2.2.2.1 k (1 : Int32) = g from hg]
            exact ih (k + 1) n d16 d17 d23 (by omega) (by omega)
        · rw [if_neg z, if_neg (show ¬ nI (S k) = (1 : Int32) from fun w => z ((nI_eq (b := 1) (by omega) (by omega)).mp w))]
          exact ih (k + 1) n b16 b17 b23 (by omega) (by omega)
    show ∃ d16 d17 d23, bX11_holdsOn_0 u (f_X11_holdsOn_r u d) (nI W) (nI H) a7 a8 m13 m14 m15 b16 b17 g b23 (nI (m + 1)) (nI c) (lN dg) = _
    unfold bX11_holdsOn_0
    rw [if_neg (show ¬ nI (m + 1) = (0 : Int32) from nI_ne0 (by omega) (by
      have h1 : 64 ^ (m + 1) ≤ 1073741824 := Nat.le_trans (Nat.le_mul_of_pos_left _ (by omega)) hb
      have h2 : m + 1 < 64 ^ (m + 1) := Nat.lt_pow_self (by omega)
      omega))]
    exact key r c u b16 b17 b23 hc (by omega)
/-- what HOLD answers -/
def hldV (LF : (Nat → Int32) → Int32) (K B : Nat → Nat) (sh : Nat) (S : Nat → Nat) (w : Int32) : Int64 := if nmn LF K B sh S 6 0 ≤ 4 then (if w = 0 then (nI (nmn LF K B sh S 6 0)).toInt64 else lN (dmn LF K B sh S 6 0 0)) else -1
theorem m_hold (hW : W ≤ 8) (hH : H ≤ 6) (E : kbA a7 a8 K B) (L : lawM 0 m13 m14 m15 LF) (hc' : lcong LF) (hu : 160 ≤ u) {S : Nat → Nat} {g : Nat → Int32} (A : sA g S) (St : stOK W H S) (hsh : g 69 = nI sh) (a20 : Nat → Int32) (c0 : Int32) (a1 : Nat → Int32) (w : Int32) :
    ∀ r k n b16 b17 b23, k + r = 5 → r < n → k ≤ nmn LF K B sh S 6 0 → ∃ o, bX11_hold_28 u (nI W) (nI H) a7 a8 m13 m14 m15 a20 n c0 a1 b16 b17 g b23 w (nI k) = some o ∧ o.1 = hldV LF K B sh S w ∧ o.2.1 = c0 ∧ o.2.2.1 = a1 := by
  intro r
  induction r with
  | zero =>
    intro k n b16 b17 b23 hk hn hN
    obtain ⟨n, rfl⟩ := z_suc hn
    obtain rfl : k = 5 := by omega
    rw [bX11_hold_28, if_pos (show (4 : Int32) < nI 5 by decide)]
    unfold hldV
    rw [if_neg (by omega)]
    exact ⟨_, rfl, rfl, rfl, rfl⟩
  | succ r ih =>
    intro k n b16 b17 b23 hk hn hN
    obtain ⟨n, rfl⟩ := z_suc hn
    have hk4 : k ≤ 4 := by omega
    have ek : nI k + (1 : Int32) = nI (k + 1) := nI_1 k
    have hb : (0 + 1) * 64 ^ k ≤ 1073741824 := by
      have : 64 ^ k ≤ 64 ^ 4 := Nat.pow_le_pow_right (by omega) hk4
      omega
    obtain ⟨d16, d17, d23, q⟩ := m_holdsOn (u := u) (LF := LF) (K := K) (B := B) (sh := sh) hW hH E L hc' hu k 6 48 0 S 0 g b16 b17 b23 (by omega) (by omega) A St hsh hb
    have hall := hs_all (LF := LF) (K := K) (B := B) (sh := sh) S hk4
    rw [bX11_hold_28, if_neg (show ¬ (4 : Int32) < nI k from nI_nlt (a := 4) (b := k) hk4 (by omega)), show f_X11_holdsOn_r u 6 (nI W) (nI H) a7 a8 m13 m14 m15 b16 b17 g b23 (nI k) (0 : Int32) (0 : Int64) = _ from q, z_b, ek]
    by_cases z : nmn LF K B sh S 6 0 = k
    · rw [if_pos z] at hall
      have hv := hs_lt 48 k 0 S 0 _ (by omega) hb hall
      rw [hall]
      show ∃ o, (if lg_cmp (lN (dmn LF K B sh S 6 0 0)) (-1 : Int64) = (0 : Int32) then _ else _) = _ ∧ _
      rw [if_neg (enc_no hv)]
      have e : hldV LF K B sh S w = if w = 0 then (nI k).toInt64 else lN (dmn LF K B sh S 6 0 0) := by
        unfold hldV
        rw [if_pos (by omega), z]
      rw [e]
      by_cases y : w = 0
      · rw [if_pos y, if_pos y]; exact ⟨_, rfl, rfl, rfl, rfl⟩
      · rw [if_neg y, if_neg y]; exact ⟨_, rfl, rfl, rfl, rfl⟩
    · rw [if_neg z, if_pos (by omega)] at hall
      rw [hall]
      show ∃ o, (if lg_cmp (-1 : Int64) (-1 : Int64) = (0 : Int32) then _ else _) = _ ∧ _
      rw [if_pos (show lg_cmp (-1 : Int64) (-1 : Int64) = (0 : Int32) by decide)]
      exact ih (k + 1) n d16 d17 d23 (by omega) (by omega) (by omega)
/-! masks of a row -/
def fnd (p : Nat → Bool) : List Nat → Option Nat
  | [] => none
  | a :: l => if p a = true then some a else fnd p l
theorem fnd_app (p : Nat → Bool) : ∀ l l', fnd p (l ++ l') = (match fnd p l with | some a => some a | none => fnd p l')
  | [], l' => rfl
  | a :: l, l' => by
    show (if p a = true then some a else fnd p (l ++ l')) = (match (if p a = true then some a else fnd p l) with | some a => some a | none => fnd p l')
    by_cases z : p a = true
    · rw [if_pos z, if_pos z]
    · rw [if_neg z, if_neg z]; exact fnd_app p l l'
theorem fnd_map {p q : Nat → Bool} {f : Nat → Nat} : ∀ l, (∀ a, a ∈ l → p (f a) = q a) → fnd p (l.map f) = (match fnd q l with | some a => some (f a) | none => none)
  | [], _ => rfl
  | a :: l, h => by
    show (if p (f a) = true then some (f a) else fnd p (l.map f)) = (match (if q a = true then some a else fnd q l) with | some a => some (f a) | none => none)
    rw [h a (List.mem_cons_self ..)]
    by_cases z : q a = true
    · rw [if_pos z, if_pos z]
    · rw [if_neg z, if_neg z]; exact fnd_map l (fun b hb => h b (List.mem_cons_of_mem _ hb))
theorem fnd_no {p : Nat → Bool} : ∀ l, (∀ a, a ∈ l → p a = false) → fnd p l = none
  | [], _ => rfl
  | a :: l, h => by
    show (if p a = true then some a else fnd p l) = none
    rw [h a (List.mem_cons_self ..), if_neg (by decide)]
    exact fnd_no l (fun b hb => h b (List.mem_cons_of_mem _ hb))
theorem fnd_mem {p : Nat → Bool} {a : Nat} : ∀ l, fnd p l = some a → a ∈ l ∧ p a = true
  | [], h => by exact absurd h (by simp [fnd])
  | b :: l, h => by
    have h' : (if p b = true then some b else fnd p l) = some a := h
    by_cases z : p b = true
    · rw [if_pos z] at h'
      have := Option.some.inj h'
      subst this
      exact ⟨List.mem_cons_self .., z⟩
    · rw [if_neg z] at h'
      have := fnd_mem l h'
      exact ⟨List.mem_cons_of_mem _ this.1, this.2⟩
/-- sets of j of a row's cells from x on, in their order -/
def lexl : Nat → Nat → Nat → List Nat
  | 0, j, _ => if j = 0 then [0] else []
  | r + 1, j, x => if j = 0 then [0] else (lexl r (j - 1) (x + 1)).map (fun k => 2 ^ x ||| k) ++ lexl r j (x + 1)
theorem lexl_b : ∀ r j x a, a ∈ lexl r j x → ∀ i, i < x → a.testBit i = false
  | 0, j, x, a, h, i, hi => by
    unfold lexl at h
    by_cases z : j = 0
    · rw [if_pos z, List.mem_singleton] at h
      rw [h]; exact Nat.zero_testBit i
    · rw [if_neg z] at h; exact absurd h (by simp)
  | r + 1, j, x, a, h, i, hi => by
    unfold lexl at h
    by_cases z : j = 0
    · rw [if_pos z, List.mem_singleton] at h
      rw [h]; exact Nat.zero_testBit i
    · rw [if_neg z, List.mem_append, List.mem_map] at h
      rcases h with ⟨k, h1, h2⟩ | h
      · rw [← h2, Nat.testBit_or, Nat.testBit_two_pow, lexl_b r (j - 1) (x + 1) k h1 i (by omega), decide_eq_false (by omega)]
        rfl
      · exact lexl_b r j (x + 1) a h i (by omega)
def app (S : Nat → Nat) (y mk : Nat) : Nat → Nat := fun k => if k / 8 = y ∧ mk.testBit (k % 8) = true then 2 else S k
def sub (S : Nat → Nat) (y mk : Nat) : Bool := (List.range 8).all (fun x => !mk.testBit x || S (8 * y + x) == 1)
theorem sub_iff (S : Nat → Nat) (y mk : Nat) : sub S y mk = true ↔ ∀ x, x < 8 → mk.testBit x = true → S (8 * y + x) = 1 := by
  unfold sub
  rw [List.all_eq_true]
  constructor
  · intro h x hx hb
    have := h x (List.mem_range.mpr hx)
    rw [hb] at this
    exact beq_iff_eq.mp this
  · intro h x hx
    cases z : mk.testBit x with
    | false => rfl
    | true => rw [h x (List.mem_range.mp hx) z]; rfl
def okM (LF : (Nat → Int32) → Int32) (K B : Nat → Nat) (sh : Nat) (S : Nat → Nat) (y mk : Nat) : Bool := sub S y mk && rowQ LF K B sh (app S y mk) y
def dgF (y mk : Nat) : Nat → Nat → Nat → Nat
  | 0, _, dg => dg
  | r + 1, x, dg => dgF y mk r (x + 1) (if mk.testBit x = true then 64 * dg + (8 * y + x) + 1 else dg)
theorem dgF_0 (y : Nat) : ∀ r x dg, dgF y 0 r x dg = dg
  | 0, _, _ => rfl
  | r + 1, x, dg => by
    show dgF y 0 r (x + 1) (if Nat.testBit 0 x = true then 64 * dg + (8 * y + x) + 1 else dg) = dg
    rw [Nat.zero_testBit, if_neg (by decide)]
    exact dgF_0 y r (x + 1) dg
theorem dgF_c (y : Nat) {a b : Nat} : ∀ r x dg, (∀ i, x ≤ i → a.testBit i = b.testBit i) → dgF y a r x dg = dgF y b r x dg
  | 0, _, _, _ => rfl
  | r + 1, x, dg, h => by
    show dgF y a r (x + 1) _ = dgF y b r (x + 1) _
    rw [h x (Nat.le_refl _)]
    exact dgF_c y r (x + 1) _ (fun i hi => h i (by omega))
theorem app_0 (S : Nat → Nat) (y : Nat) : app S y 0 = S := by
  funext k
  unfold app
  rw [if_neg]
  rintro ⟨-, w⟩
  rw [Nat.zero_testBit] at w
  exact absurd w (by decide)
theorem okM_0 (S : Nat → Nat) (y : Nat) : okM LF K B sh S y 0 = rowQ LF K B sh S y := by
  unfold okM
  rw [app_0, (sub_iff S y 0).mpr (fun x _ w => by rw [Nat.zero_testBit] at w; exact absurd w (by decide)), Bool.true_and]
theorem okM_up {S : Nat → Nat} {y x mk : Nat} (hx : x < 8) (hS : S (8 * y + x) = 1) (hb : mk.testBit x = false) : okM LF K B sh S y (2 ^ x ||| mk) = okM LF K B sh (upP S (8 * y + x)) y mk := by
  have e1 : app S y (2 ^ x ||| mk) = app (upP S (8 * y + x)) y mk := by
    funext k
    unfold app upP
    rw [Nat.testBit_or, Nat.testBit_two_pow]
    by_cases z : k = 8 * y + x
    · rw [z, show (8 * y + x) % 8 = x by omega, show (8 * y + x) / 8 = y by omega, if_pos ⟨rfl, by rw [decide_eq_true rfl]; rfl⟩, if_pos rfl]
      split <;> rfl
    · rw [if_neg z]
      by_cases q : k / 8 = y
      · have : ¬ x = k % 8 := by omega
        rw [decide_eq_false this, Bool.false_or]
      · rw [if_neg (fun w => q w.1), if_neg (fun w => q w.1)]
  have e2 : sub S y (2 ^ x ||| mk) = sub (upP S (8 * y + x)) y mk := by
    have key : sub S y (2 ^ x ||| mk) = true ↔ sub (upP S (8 * y + x)) y mk = true := by
      rw [sub_iff, sub_iff]
      constructor
      · intro h i hi hbi
        have := h i hi (by rw [Nat.testBit_or, hbi, Bool.or_true])
        unfold upP
        by_cases z : 8 * y + i = 8 * y + x
        · have : i = x := by omega
          rw [this, hb] at hbi
          exact absurd hbi (by decide)
        · rw [if_neg z]; exact this
      · intro h i hi hbi
        by_cases z : i = x
        · rw [z]; exact hS
        · rw [Nat.testBit_or, Nat.testBit_two_pow, decide_eq_false (by omega), Bool.false_or] at hbi
          have := h i hi hbi
          unfold upP at this
          rw [if_neg (by omega)] at this
          exact this
    cases a : sub S y (2 ^ x ||| mk) with
    | true => exact (key.mp a).symm
    | false =>
      cases b : sub (upP S (8 * y + x)) y mk with
      | false => rfl
      | true => rw [key.mpr b] at a; exact absurd a (by decide)
  unfold okM
  rw [e1, e2]
theorem rs_lex (y : Nat) : ∀ r j x S dg, x + r = 8 → rs LF K B sh y r j x S dg = (match fnd (okM LF K B sh S y) (lexl r j x) with | some mq => some (dgF y mq r x dg) | none => none)
  | 0, j, x, S, dg, hx => by
    unfold rs lexl
    by_cases z : j = 0
    · rw [if_pos z, if_pos z]
      unfold fnd
      rw [okM_0]
      by_cases q : rowQ LF K B sh S y = true
      · rw [if_pos q, if_pos q]; rfl
      · rw [if_neg q, if_neg q]; rfl
    · rw [if_neg z, if_neg z]; rfl
  | r + 1, j, x, S, dg, hx => by
    by_cases z : j = 0
    · subst z
      rw [rs_0]
      show _ = (match fnd (okM LF K B sh S y) [0] with | some mq => some (dgF y mq (r + 1) x dg) | none => none)
      unfold fnd
      rw [okM_0]
      by_cases q : rowQ LF K B sh S y = true
      · rw [if_pos q, if_pos q]
        show some dg = some (dgF y 0 (r + 1) x dg)
        rw [dgF_0]
      · rw [if_neg q, if_neg q]; rfl
    · have el : lexl (r + 1) j x = (lexl r (j - 1) (x + 1)).map (fun k => 2 ^ x ||| k) ++ lexl r j (x + 1) := by
        show (if j = 0 then _ else _) = _
        rw [if_neg z]
      have er : rs LF K B sh y (r + 1) j x S dg = (if S (8 * y + x) = 1 then (match rs LF K B sh y r (j - 1) (x + 1) (upP S (8 * y + x)) (64 * dg + (8 * y + x) + 1) with | some v => some v | none => rs LF K B sh y r j (x + 1) S dg) else rs LF K B sh y r j (x + 1) S dg) := by
        show (if j = 0 then _ else _) = _
        exact if_neg z
      have tail : (match fnd (okM LF K B sh S y) (lexl r j (x + 1)) with | some mq => some (dgF y mq (r + 1) x dg) | none => none) = rs LF K B sh y r j (x + 1) S dg := by
        rw [rs_lex y r j (x + 1) S dg (by omega)]
        cases q : fnd (okM LF K B sh S y) (lexl r j (x + 1)) with
        | none => rfl
        | some mk =>
          have := lexl_b r j (x + 1) mk (fnd_mem _ q).1 x (by omega)
          show some (dgF y mk r (x + 1) (if mk.testBit x = true then 64 * dg + (8 * y + x) + 1 else dg)) = some (dgF y mk r (x + 1) dg)
          rw [this, if_neg (by decide)]
      rw [el, er, fnd_app]
      by_cases w : S (8 * y + x) = 1
      · rw [if_pos w, fnd_map (q := okM LF K B sh (upP S (8 * y + x)) y) _ (fun a ha => okM_up (by omega) w (lexl_b r (j - 1) (x + 1) a ha x (by omega))), rs_lex y r (j - 1) (x + 1) (upP S (8 * y + x)) _ (by omega)]
        cases q : fnd (okM LF K B sh (upP S (8 * y + x)) y) (lexl r (j - 1) (x + 1)) with
        | some mk =>
          show some (dgF y mk r (x + 1) (64 * dg + (8 * y + x) + 1)) = some (dgF y (2 ^ x ||| mk) r (x + 1) (if (2 ^ x ||| mk).testBit x = true then 64 * dg + (8 * y + x) + 1 else dg))
          rw [Nat.testBit_or, Nat.testBit_two_pow, decide_eq_true rfl, Bool.true_or, if_pos rfl]
          rw [dgF_c y (a := 2 ^ x ||| mk) (b := mk) r (x + 1) _ (fun i hi => by rw [Nat.testBit_or, Nat.testBit_two_pow, decide_eq_false (by omega), Bool.false_or])]
        | none => exact tail.symm
      · rw [if_neg w, fnd_no (p := okM LF K B sh S y) ((lexl r (j - 1) (x + 1)).map (fun k => 2 ^ x ||| k)) (fun a ha => by
          obtain ⟨k, -, rfl⟩ := List.mem_map.mp ha
          cases q : okM LF K B sh S y (2 ^ x ||| k) with
          | false => rfl
          | true =>
            unfold okM at q
            rw [Bool.and_eq_true] at q
            exact absurd ((sub_iff S y _).mp q.1 x (by omega) (by rw [Nat.testBit_or, Nat.testBit_two_pow, decide_eq_true rfl, Bool.true_or])) w)]
        exact tail.symm
end HLM
