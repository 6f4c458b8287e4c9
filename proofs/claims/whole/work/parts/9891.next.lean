/-! QUERIES: the next tap -/
section NQ8
variable {u : Nat} {S : aT} {h : k_H}
def mxN (f : Nat → Nat) : Nat → Nat
  | 0 => 0
  | n + 1 => max (mxN f n) (f n)
theorem mxN_le (f : Nat → Nat) (b : Nat) : ∀ n, mxN f n ≤ b ↔ ∀ i, i < n → f i ≤ b
  | 0 => ⟨fun _ i hi => absurd hi (Nat.not_lt_zero i), fun _ => Nat.zero_le _⟩
  | n + 1 => by
    show max (mxN f n) (f n) ≤ b ↔ _
    rw [Nat.max_le, mxN_le f b n]
    constructor
    · rintro ⟨h1, h2⟩ i hi
      by_cases z : i = n
      · rw [z]; exact h2
      · exact h1 i (by omega)
    · intro h1
      exact ⟨fun i hi => h1 i (by omega), h1 n (by omega)⟩
theorem mxN_ge (f : Nat → Nat) {n i : Nat} (hi : i < n) : f i ≤ mxN f n := (mxN_le f _ n).mp (Nat.le_refl _) i hi
theorem mxN_up {f g : Nat → Nat} {n t : Nat} (ht : t < n) (h1 : ∀ i, i < n → i ≠ t → g i = f i) (h2 : f t ≤ g t) : mxN g n = max (mxN f n) (g t) := by
  apply Nat.le_antisymm
  · rw [mxN_le]
    intro i hi
    by_cases z : i = t
    · rw [z]; exact Nat.le_max_right _ _
    · rw [h1 i hi z]
      exact Nat.le_trans (mxN_ge f hi) (Nat.le_max_left _ _)
  · rw [Nat.max_le]
    refine ⟨?_, mxN_ge g ht⟩
    rw [mxN_le]
    intro i hi
    by_cases z : i = t
    · rw [z]; exact Nat.le_trans h2 (mxN_ge g ht)
    · rw [← h1 i hi z]; exact mxN_ge g hi
theorem mxN_ext {f : Nat → Nat} {n N : Nat} (hn : n ≤ N) (h0 : ∀ i, n ≤ i → i < N → f i = 0) : mxN f n = mxN f N := by
  apply Nat.le_antisymm
  · rw [mxN_le]
    intro i hi
    exact mxN_ge f (by omega)
  · rw [mxN_le]
    intro i hi
    by_cases z : i < n
    · exact mxN_ge f z
    · rw [h0 i (by omega) hi]; exact Nat.zero_le _
/-- the moves left by an answer of a tap -/
def cnM (p : aP) (v : Int32) (x : Nat) : Nat → Nat → Nat
  | 0, _ => 0
  | k + 1, a => cnM p v x k a + (if bt v k = true ∧ tp p (nI x - sv k).toInt = a then 1 else 0)
theorem cnM_le (p : aP) (v : Int32) (x : Nat) : ∀ k a, cnM p v x k a ≤ k
  | 0, _ => Nat.le_refl _
  | k + 1, a => by
    have := cnM_le p v x k a
    show cnM p v x k a + _ ≤ k + 1
    split <;> omega
theorem cnM_0 (p : aP) (v : Int32) (x : Nat) : ∀ k a, pH p < a → cnM p v x k a = 0
  | 0, _, _ => rfl
  | k + 1, a, ha => by
    show cnM p v x k a + _ = 0
    have := tp_le p (nI x - sv k).toInt
    rw [cnM_0 p v x k a ha, if_neg (by rintro ⟨-, w⟩; omega)]
def wst (p : aP) (v : Int32) (x : Nat) : Nat := mxN (cnM p v x 15) (pH p + 1)
theorem wst_le (p : aP) (v : Int32) (x : Nat) : wst p v x ≤ 15 := (mxN_le _ _ _).mpr (fun i _ => cnM_le p v x 15 i)
theorem mxN_le15 (p : aP) (v : Int32) (x k n : Nat) (hk : k ≤ 15) : mxN (cnM p v x k) n ≤ 15 := (mxN_le _ _ _).mpr (fun i _ => Nat.le_trans (cnM_le p v x k i) hk)
theorem x_mostLeft {p : aP} (P : pOK p) {a4 : Nat → Int32} (hK : ∀ c, c < 48 → a4 c = nI (pK p c)) (hu : 20 ≤ u) (v : Int32) (x : Nat) :
    f_X9_mostLeft u (nI (pW p)) (nI (pH p)) a4 v (nI x) = some (nI (wst p v x)) := by
  have h6 := P.2.1.2
  have row : ∀ (k5 : Int32 → Int32 → Int32 → Int32 → Option Int32) (m a : Nat), m ≤ 15 → a ≤ 6 → ∀ r k n, k + r = 15 → r < n → bX9_mostLeft_24 u (nI (pW p)) (nI (pH p)) a4 k5 n v (nI x) (nI m) (nI a) (nI (cnM p v x k a)) (sv k) = k5 v (nI x) (nI (max m (cnM p v x 15 a))) (nI (a + 1)) := by
    intro k5 m a hm ha r
    have ea : nI a + (1 : Int32) = nI (a + 1) := nI_1 a
    induction r with
    | zero =>
      intro k n hk hn
      obtain ⟨n, rfl⟩ := z_suc hn
      obtain rfl : k = 15 := by omega
      have hc := cnM_le p v x 15 a
      rw [bX9_mostLeft_24]
      refine (if_pos sv_15).trans ?_
      rw [ea]
      by_cases z : m < cnM p v x 15 a
      · rw [if_pos (nI_lt z (by omega)), show max m (cnM p v x 15 a) = cnM p v x 15 a by omega]
      · rw [if_neg (nI_nlt (by omega) (by omega)), show max m (cnM p v x 15 a) = m by omega]
    | succ r ih =>
      intro k n hk hn
      obtain ⟨n, rfl⟩ := z_suc hn
      have hc := cnM_le p v x k a
      have ec : nI (cnM p v x k a) + (1 : Int32) = nI (cnM p v x k a + 1) := nI_1 _
      have st : cnM p v x (k + 1) a = cnM p v x k a + (if bt v k = true ∧ tp p (nI x - sv k).toInt = a then 1 else 0) := rfl
      have nx := ih (k + 1) n (by omega) (by omega)
      rw [st] at nx
      rw [bX9_mostLeft_24]
      refine (if_neg (sv_lt k (by omega))).trans ?_
      unfold bX9_mostLeft_58
      rw [sv_7 k (by omega), sv_1 k (by omega), b_tu (by omega)]
      cases hb : bt v k with
      | false =>
        rw [hb, if_neg (by rintro ⟨w, -⟩; exact absurd w (by decide))] at nx
        rw [if_pos (show (if false = true then (1 : Int32) else 0) = 0 by decide)]
        exact nx
      | true =>
        rw [if_neg (show ¬ (if true = true then (1 : Int32) else 0) = 0 by decide), x_heard P hK (by omega), z_b]
        have ht := tp_le p (nI x - sv k).toInt
        by_cases z : tp p (nI x - sv k).toInt = a
        · rw [if_pos ⟨hb, z⟩] at nx
          rw [if_pos (by rw [z]), ec]
          exact nx
        · rw [if_neg (fun w => z w.2)] at nx
          rw [if_neg (fun w => z ((nI_eq (by omega) (by omega)).mp w))]
          exact nx
  have key : ∀ r k n, k + r = pH p + 1 → r < n → bX9_mostLeft_5 u (nI (pW p)) (nI (pH p)) a4 n v (nI x) (nI (mxN (cnM p v x 15) k)) (nI k) = some (nI (wst p v x)) := by
    intro r
    induction r with
    | zero =>
      intro k n hk hn
      obtain ⟨n, rfl⟩ := z_suc hn
      obtain rfl : k = pH p + 1 := by omega
      rw [bX9_mostLeft_5]
      exact if_pos (nI_lt (by omega) (by omega))
    | succ r ih =>
      intro k n hk hn
      obtain ⟨n, rfl⟩ := z_suc hn
      rw [bX9_mostLeft_5]
      refine (if_neg (nI_nlt (by omega) (by omega))).trans ?_
      have e := row (bX9_mostLeft_5 u (nI (pW p)) (nI (pH p)) a4 n) (mxN (cnM p v x 15) k) k (mxN_le15 p v x 15 k (by omega)) (by omega) 15 0 u (by omega) (by omega)
      rw [sv_0] at e
      refine Eq.trans e ?_
      exact ih (k + 1) n (by omega) (by omega)
  exact key (pH p + 1) 0 u (by omega) (by omega)
theorem m_worst {p : aP} (P : pOK p) {a7 : Nat → Int32} (hK : ∀ c, c < 48 → a7 c = nI (pK p c)) (hu : 20 ≤ u) (v : Int32) (x : Nat) (a30 : Nat → Int32) :
    ∃ b30, f_X11_worstAt u (nI (pW p)) (nI (pH p)) a7 a30 (nI x) v = some (nI (wst p v x), b30) := by
  have h6 := P.2.1.2
  have row : ∀ r k n (b : Nat → Int32), k + r = 15 → r < n → (∀ a, a < 7 → b a = nI (cnM p v x k a)) → ∃ b30, bX11_worstAt_27 u (nI (pW p)) (nI (pH p)) a7 n b (nI x) v (nI (mxN (cnM p v x k) 7)) (sv k) = some (nI (wst p v x), b30) := by
    intro r
    induction r with
    | zero =>
      intro k n b hk hn hb
      obtain ⟨n, rfl⟩ := z_suc hn
      obtain rfl : k = 15 := by omega
      have : wst p v x = mxN (cnM p v x 15) 7 := mxN_ext (by omega) (fun i h1 h2 => cnM_0 p v x 15 i (by omega))
      rw [bX11_worstAt_27, this]
      exact ⟨b, if_pos sv_15⟩
    | succ r ih =>
      intro k n b hk hn hb
      obtain ⟨n, rfl⟩ := z_suc hn
      rw [bX11_worstAt_27]
      have hk15 : k < 15 := by omega
      rw [if_neg (sv_lt k hk15)]
      unfold bX11_worstAt_92 bX11_worstAt_93
      rw [sv_7 k hk15, sv_1 k hk15, b_ts (by omega)]
      cases hbt : bt v k with
      | false =>
        rw [if_pos (show (if false = true then (1 : Int32) else 0) = 0 by decide)]
        have hs : ∀ a, cnM p v x (k + 1) a = cnM p v x k a := by
          intro a
          show cnM p v x k a + _ = _
          rw [if_neg (by rintro ⟨w, -⟩; rw [hbt] at w; exact absurd w (by decide))]
          rfl
        have hf : cnM p v x (k + 1) = cnM p v x k := funext hs
        have := ih (k + 1) n b (by omega) (by omega) (by rw [hf]; exact hb)
        rw [hf] at this
        exact this
      | true =>
        have ht := tp_le p (nI x - sv k).toInt
        rw [if_neg (show ¬ (if true = true then (1 : Int32) else 0) = 0 by decide), m_tapAt P hK (by omega), z_b, z_ki (by omega) (by omega), z_ki (by omega) (by omega), z_ki (by omega) (by omega), z_ki (by omega) (by omega), z_cl (by omega)]
        have hc := cnM_le p v x k (tp p (nI x - sv k).toInt)
        have hup : upd b (tp p (nI x - sv k).toInt) (b (tp p (nI x - sv k).toInt) + (1 : Int32)) (tp p (nI x - sv k).toInt) = nI (cnM p v x k (tp p (nI x - sv k).toInt) + 1) := by
          simp only [z_upd]
          rw [if_pos trivial, hb _ (by omega)]
          exact nI_1 _
        have s1 : cnM p v x (k + 1) (tp p (nI x - sv k).toInt) = cnM p v x k (tp p (nI x - sv k).toInt) + 1 := by
          show cnM p v x k _ + _ = _
          rw [if_pos ⟨hbt, rfl⟩]
        have s2 : ∀ a, a ≠ tp p (nI x - sv k).toInt → cnM p v x (k + 1) a = cnM p v x k a := by
          intro a ha
          show cnM p v x k a + _ = _
          rw [if_neg (fun w => ha w.2.symm)]
          rfl
        have hm : mxN (cnM p v x (k + 1)) 7 = max (mxN (cnM p v x k) 7) (cnM p v x k (tp p (nI x - sv k).toInt) + 1) := by
          rw [mxN_up (f := cnM p v x k) (t := tp p (nI x - sv k).toInt) (by omega) (fun i _ hi => s2 i hi) (by omega), s1]
        have hM := mxN_le15 p v x k 7 (by omega)
        have hb' : ∀ a, a < 7 → upd b (tp p (nI x - sv k).toInt) (b (tp p (nI x - sv k).toInt) + (1 : Int32)) a = nI (cnM p v x (k + 1) a) := by
          intro a ha
          by_cases z : a = tp p (nI x - sv k).toInt
          · rw [z, hup, s1]
          · rw [s2 a z, ← hb a ha]
            simp only [z_upd]
            rw [if_neg z]
        have nx := ih (k + 1) n _ (by omega) (by omega) hb'
        rw [hm] at nx
        rw [hup]
        by_cases z : cnM p v x k (tp p (nI x - sv k).toInt) + 1 ≤ mxN (cnM p v x k) 7
        · rw [if_pos (nI_le z (by omega))]
          rw [show max (mxN (cnM p v x k) 7) (cnM p v x k (tp p (nI x - sv k).toInt) + 1) = mxN (cnM p v x k) 7 by omega] at nx
          exact nx
        · rw [if_neg (nI_ge (by omega) (by omega))]
          rw [show max (mxN (cnM p v x k) 7) (cnM p v x k (tp p (nI x - sv k).toInt) + 1) = cnM p v x k (tp p (nI x - sv k).toInt) + 1 by omega] at nx
          exact nx
  have clr : ∀ r k n (b : Nat → Int32), k + r = 7 → r < n → (∀ a, a < k → b a = (0 : Int32)) → ∃ b30, bX11_worstAt_2 u (nI (pW p)) (nI (pH p)) a7 n b (nI x) v (nI k) = some (nI (wst p v x), b30) := by
    intro r
    induction r with
    | zero =>
      intro k n b hk hn hb
      obtain ⟨n, rfl⟩ := z_suc hn
      obtain rfl : k = 7 := by omega
      rw [bX11_worstAt_2]
      rw [if_pos (show (6 : Int32) < nI 7 by decide)]
      have := row 15 0 u b (by omega) (by omega) (fun a ha => hb a ha)
      rw [sv_0] at this
      exact this
    | succ r ih =>
      intro k n b hk hn hb
      obtain ⟨n, rfl⟩ := z_suc hn
      have e1 : nI k + (1 : Int32) = nI (k + 1) := nI_1 k
      rw [bX11_worstAt_2]
      rw [if_neg (show ¬ (6 : Int32) < nI k from nI_nlt (a := 6) (b := k) (by omega) (by omega)), z_ki (by omega) (by omega), z_cl (by omega), e1]
      refine ih (k + 1) n _ (by omega) (by omega) (fun a ha => ?_)
      simp only [z_upd]
      by_cases z : a = k
      · rw [if_pos z]
      · rw [if_neg z]; exact hb a (by omega)
  exact clr 7 0 u a30 (by omega) (by omega) (fun a ha => absurd ha (Nat.not_lt_zero a))
/-- whether a column is in a line -/
def inB (bk : Nat → Nat × Nat) (x : Nat) : Nat → Bool
  | 0 => false
  | n + 1 => inB bk x n || decide ((bk n).1 = x)
theorem inB_iff (bk : Nat → Nat × Nat) (x : Nat) : ∀ n, inB bk x n = true ↔ ∃ i, i < n ∧ (bk i).1 = x
  | 0 => ⟨fun w => absurd (show false = true from w) (by decide), fun ⟨i, hi, _⟩ => absurd hi (Nat.not_lt_zero i)⟩
  | n + 1 => by
    show (inB bk x n || _) = true ↔ _
    rw [Bool.or_eq_true, inB_iff bk x n, decide_eq_true_eq]
    constructor
    · rintro (⟨i, hi, e⟩ | e)
      · exact ⟨i, by omega, e⟩
      · exact ⟨n, by omega, e⟩
    · rintro ⟨i, hi, e⟩
      by_cases z : i = n
      · right; rw [← z]; exact e
      · left; exact ⟨i, by omega, e⟩
theorem m_isTapped (hu : 20 ≤ u) {a26 : Nat → Int32} {L : Nat} (hL : L ≤ 8) {bk : Nat → Nat × Nat} (b1 : ∀ i, i < L → (bk i).1 < 8 ∧ a26 (2 * i) = nI (bk i).1) {x : Nat} (hx : x < 8) :
    f_X11_isTapped u (nI L) a26 (nI x) = some (zB (inB bk x L)) := by
  have key : ∀ r k n, k + r = L → r < n → (∀ i, i < k → (bk i).1 ≠ x) → bX11_isTapped_2 u (nI L) a26 n (nI x) (nI k) = some (zB (inB bk x L)) := by
    intro r
    induction r with
    | zero =>
      intro k n hk hn hI
      obtain ⟨n, rfl⟩ := z_suc hn
      obtain rfl : k = L := by omega
      rw [bX11_isTapped_2]
      refine (if_pos (nI_le (Nat.le_refl _) (by omega))).trans ?_
      have : inB bk x k = false := by
        cases hf : inB bk x k with
        | false => rfl
        | true =>
          obtain ⟨i, hi, e⟩ := (inB_iff bk x k).mp hf
          exact absurd e (hI i hi)
      rw [this]; rfl
    | succ r ih =>
      intro k n hk hn hI
      obtain ⟨n, rfl⟩ := z_suc hn
      have e1 : nI k + (1 : Int32) = nI (k + 1) := nI_1 k
      have e2 : (2 : Int32) * nI k = nI (2 * k) := (Int32.ofNat_mul 2 k).symm
      obtain ⟨g1, g2⟩ := b1 k (by omega)
      rw [bX11_isTapped_2, e2, e1]
      refine (if_neg (nI_ge (a := k) (b := L) (by omega) (by omega))).trans ?_
      rw [z_ki (by omega) (by omega), z_cl (by omega), g2]
      by_cases z : (bk k).1 = x
      · rw [if_pos (by rw [z]), (inB_iff bk x L).mpr ⟨k, by omega, z⟩]; rfl
      · rw [if_neg (fun w => z ((nI_eq (by omega) (by omega)).mp w))]
        refine ih (k + 1) n (by omega) (by omega) (fun i hi => ?_)
        by_cases y : i = k
        · rw [y]; exact z
        · exact hI i (by omega)
  exact key L 0 u (by omega) (by omega) (fun i hi => absurd hi (Nat.not_lt_zero i))
def nxV (T : Nat → Bool) (w : Nat → Nat) : Nat → Nat → Int32 → Int32 → Int32 × Int32
  | 0, _, b, f => (b, f)
  | r + 1, k, b, f => if T k = true then nxV T w r (k + 1) b f else if b = -1 then nxV T w r (k + 1) (nI k) (nI (w k)) else if f ≤ nI (w k) then nxV T w r (k + 1) b f else nxV T w r (k + 1) (nI k) (nI (w k))
theorem x_next {p : aP} (P : pOK p) {a4 a59 : Nat → Int32} (hK : ∀ c, c < 48 → a4 c = nI (pK p c)) (hu : 20 ≤ u) {L : Nat} {bk : Nat → Nat × Nat} (b1 : ∀ i, i < L → (bk i).1 < 8 ∧ (bk i).2 ≤ 6 ∧ a59 (bk i).1 = nI (bk i).2) (b2 : ∀ x, x < 8 → (∀ i, i < L → (bk i).1 ≠ x) → a59 x = -1) (v w : Int32) :
    ∀ r k n b f, k + r = pW p → r < n → bX9_nextTap_13 u a59 (nI (pW p)) (nI (pH p)) a4 n w v b f (nI k) = some (if w = 0 then (nxV (fun x => inB bk x L) (wst p v) r k b f).1 else (nxV (fun x => inB bk x L) (wst p v) r k b f).2) := by
  have h8 := P.1.2
  intro r
  induction r with
  | zero =>
    intro k n b f hk hn
    obtain ⟨n, rfl⟩ := z_suc hn
    obtain rfl : k = pW p := by omega
    rw [bX9_nextTap_13]
    refine (if_pos (nI_le (Nat.le_refl _) (by omega))).trans ?_
    by_cases z : w = 0
    · rw [if_pos z, if_pos z]; rfl
    · rw [if_neg z, if_neg z]; rfl
  | succ r ih =>
    intro k n b f hk hn
    obtain ⟨n, rfl⟩ := z_suc hn
    have e1 : nI k + (1 : Int32) = nI (k + 1) := nI_1 k
    rw [bX9_nextTap_13]
    refine (if_neg (nI_ge (a := k) (b := pW p) (by omega) (by omega))).trans ?_
    rw [z_ki (by omega) (by omega), z_cl (by omega)]
    unfold bX9_nextTap_57 bX9_nextTap_64
    rw [e1]
    have st : nxV (fun x => inB bk x L) (wst p v) (r + 1) k b f = if inB bk k L = true then nxV (fun x => inB bk x L) (wst p v) r (k + 1) b f else if b = -1 then nxV (fun x => inB bk x L) (wst p v) r (k + 1) (nI k) (nI (wst p v k)) else if f ≤ nI (wst p v k) then nxV (fun x => inB bk x L) (wst p v) r (k + 1) b f else nxV (fun x => inB bk x L) (wst p v) r (k + 1) (nI k) (nI (wst p v k)) := rfl
    rw [st]
    cases hT : inB bk k L with
    | true =>
      obtain ⟨i, hi, e⟩ := (inB_iff bk k L).mp hT
      obtain ⟨g1, g2, g3⟩ := b1 i hi
      rw [e] at g3
      have hm1 : ¬ a59 k = -1 := by
        rw [g3]
        exact (show ∀ m, m ≤ 6 → ¬ nI m = (-1 : Int32) by decide) _ g2
      rw [if_neg hm1, if_pos rfl]
      exact ih (k + 1) n b f (by omega) (by omega)
    | false =>
      have hm1 : a59 k = -1 := b2 k (by omega) (fun i hi e => by
        have := (inB_iff bk k L).mpr ⟨i, hi, e⟩
        rw [hT] at this
        exact absurd this (by decide))
      rw [if_pos hm1, if_neg (show ¬ false = true by decide), x_mostLeft P hK hu v k, z_b]
      by_cases z : b = -1
      · rw [if_pos z, if_pos z]
        exact ih (k + 1) n _ _ (by omega) (by omega)
      · rw [if_neg z, if_neg z]
        by_cases y : f ≤ nI (wst p v k)
        · rw [if_pos y, if_pos y]
          exact ih (k + 1) n _ _ (by omega) (by omega)
        · rw [if_neg y, if_neg y]
          exact ih (k + 1) n _ _ (by omega) (by omega)
theorem mq_next {p : aP} (P : pOK p) {a7 a26 : Nat → Int32} (hK : ∀ c, c < 48 → a7 c = nI (pK p c)) (hu : 20 ≤ u) {L : Nat} (hL : L ≤ 8) {bk : Nat → Nat × Nat} (b1 : ∀ i, i < L → (bk i).1 < 8 ∧ a26 (2 * i) = nI (bk i).1) (v w c0 : Int32) (a1 : Nat → Int32) :
    ∀ r k n b f a30, k + r = pW p → r < n → ∃ b30, bX11_next__35 u (nI (pW p)) (nI (pH p)) (nI L) a7 a26 n c0 a1 a30 w v b f (nI k) = some (if w = 0 then (nxV (fun x => inB bk x L) (wst p v) r k b f).1 else (nxV (fun x => inB bk x L) (wst p v) r k b f).2, c0, a1, b30) := by
  have h8 := P.1.2
  intro r
  induction r with
  | zero =>
    intro k n b f a30 hk hn
    obtain ⟨n, rfl⟩ := z_suc hn
    obtain rfl : k = pW p := by omega
    rw [bX11_next__35]
    refine ⟨a30, (if_pos (nI_le (Nat.le_refl _) (by omega))).trans ?_⟩
    by_cases z : w = 0
    · rw [if_pos z, if_pos z]; rfl
    · rw [if_neg z, if_neg z]; rfl
  | succ r ih =>
    intro k n b f a30 hk hn
    obtain ⟨n, rfl⟩ := z_suc hn
    have e1 : nI k + (1 : Int32) = nI (k + 1) := nI_1 k
    rw [bX11_next__35]
    rw [if_neg (nI_ge (a := k) (b := pW p) (by omega) (by omega)), m_isTapped hu hL b1 (x := k) (by omega), z_b]
    unfold bX11_next__80 bX11_next__87
    rw [e1]
    have st : nxV (fun x => inB bk x L) (wst p v) (r + 1) k b f = if inB bk k L = true then nxV (fun x => inB bk x L) (wst p v) r (k + 1) b f else if b = -1 then nxV (fun x => inB bk x L) (wst p v) r (k + 1) (nI k) (nI (wst p v k)) else if f ≤ nI (wst p v k) then nxV (fun x => inB bk x L) (wst p v) r (k + 1) b f else nxV (fun x => inB bk x L) (wst p v) r (k + 1) (nI k) (nI (wst p v k)) := rfl
    rw [st]
    cases hT : inB bk k L with
    | true =>
      rw [if_neg (show ¬ zB true = (0 : Int32) from d_10), if_pos rfl]
      exact ih (k + 1) n b f a30 (by omega) (by omega)
    | false =>
      obtain ⟨b30, hw⟩ := m_worst (u := u) P hK hu v k a30
      rw [if_pos (show zB false = (0 : Int32) from rfl), if_neg (show ¬ false = true by decide), hw, z_b]
      by_cases z : b = -1
      · rw [if_pos z, if_pos z]
        exact ih (k + 1) n _ _ b30 (by omega) (by omega)
      · rw [if_neg z, if_neg z]
        by_cases y : f ≤ nI (wst p v k)
        · rw [if_pos y, if_neg (fun q => (fa_of_lt q).2.1 y)]
          exact ih (k + 1) n _ _ b30 (by omega) (by omega)
        · rw [if_neg y, if_pos (fa_of_nle y)]
          exact ih (k + 1) n _ _ b30 (by omega) (by omega)
theorem n_24 (hu : 700 ≤ u) (R : Rel S h) (a1 : Int32) : N_24 u h a1 := by
  obtain ⟨-, ⟨P, ⟨xw, xh, xa, xs, xc, xo, xk, xp, xor⟩, ⟨mw, mh, ms, mc, mo, mk, mp, mor⟩⟩, -, -, ⟨bL, b1, b2, b3, b4, b5⟩, -, ⟨r, -, -⟩, -, -⟩ := R
  have h8 := P.1.2
  unfold N_24
  rw [xw, xh, mw, mh, b2]
  unfold f_X10_next bX10_next_0 f_X11_next_ bX11_next__0
  rcases d_either (u := u) a1 with ⟨q, e3, e4⟩ | ⟨e3, e4⟩
  · have f1 := x_fits (u := u) P xk.1 (by omega) (fun i hi => ⟨(b3 i hi).1, (b3 i hi).2.1, (b3 i hi).2.2.2.2⟩) b5
    have f2 := m_fits (u := u) P mk.1 (by omega) bL (fun i hi => ⟨(b3 i hi).1, (b3 i hi).2.1, (b3 i hi).2.2.1, (b3 i hi).2.2.2.1⟩)
    have g1 := fun v w => x_next (u := u) P xk.1 (by omega) (fun i hi => ⟨(b3 i hi).1, (b3 i hi).2.1, (b3 i hi).2.2.2.2⟩) b5 v w (pW (rS_P S)) 0 u (-1 : Int32) (-1 : Int32) (by omega) (by omega)
    obtain ⟨b30, g2⟩ := mq_next (u := u) P mk.1 (by omega) bL (fun i hi => ⟨(b3 i hi).1, (b3 i hi).2.2.1⟩) (fitV (fun s => ftA (rS_P S) (rS_B S) s (rS_L S)) 15) a1 (0 : Int32) (h.2.1 71) (pW (rS_P S)) 0 u (-1 : Int32) (-1 : Int32) (h.2.1 100) (by omega) (by omega)
    rw [e3, e4, z_b, z_b, x_need1, m_need1, z_b, z_b, if_pos rfl, if_neg d_10, f2, z_b]
    unfold bX10_next_22 f_X9_nextTap bX9_nextTap_0
    rw [f1]
    rcases q with rfl | rfl
    · rw [if_neg (show ¬ (0 : Int32) = 1 by decide), z_b, show bX9_nextTap_13 u (h.2.1 59) (nI (pW (rS_P S))) (nI (pH (rS_P S))) (h.2.1 4) u (0 : Int32) _ (-1 : Int32) (-1 : Int32) (0 : Int32) = _ from g1 _ 0, z_b]
      exact ⟨_, _, rfl, g2, Or.inl ⟨rfl, rfl, rfl⟩, r⟩
    · rw [if_pos rfl, z_b, show bX9_nextTap_13 u (h.2.1 59) (nI (pW (rS_P S))) (nI (pH (rS_P S))) (h.2.1 4) u (1 : Int32) _ (-1 : Int32) (-1 : Int32) (0 : Int32) = _ from g1 _ 1, z_b]
      exact ⟨_, _, rfl, g2, Or.inl ⟨rfl, rfl, rfl⟩, r⟩
  · rw [e3, e4, z_b, z_b, x_need0, m_need0, z_b, z_b, if_neg d_30, if_pos rfl]
    exact ⟨_, _, rfl, rfl, Or.inr ⟨rfl, rfl⟩, r_upd r (by omega)⟩
end NQ8
