/-! QUERIES: rows as bits, canons, books, the next tap -/
section NQ6
variable {u : Nat} {S : aT} {h : k_H}
theorem b_1 : ∀ i, i < 32 → bt 1 i = decide (i = 0) := by decide +kernel
theorem b_shl1 {k : Nat} (hk : k < 31) {i : Nat} (hi : i < 32) : bt ((1 : Int32) <<< (nI k &&& 31)) i = decide (i = k) := by
  rw [b_shl k (by omega) 1 hi]
  by_cases z : k ≤ i
  · rw [decide_eq_true z, Bool.true_and, b_1 (i - k) (by omega)]
    by_cases y : i = k
    · rw [decide_eq_true y, decide_eq_true (by omega)]
    · rw [decide_eq_false y, decide_eq_false (by omega)]
  · rw [decide_eq_false z, Bool.false_and, decide_eq_false (by omega)]
theorem b_a1 (v : Int32) : v &&& 1 = (if bt v 0 then (1 : Int32) else 0) := by
  apply b_ext
  intro i hi
  rw [b_and, b_1 i hi]
  cases hb : bt v 0 with
  | true =>
    rw [if_pos rfl, b_1 i hi]
    by_cases z : i = 0
    · rw [z, hb]; rfl
    · rw [decide_eq_false z, Bool.and_false]
  | false =>
    rw [if_neg (by decide), b_0]
    by_cases z : i = 0
    · rw [z, hb]; rfl
    · rw [decide_eq_false z, Bool.and_false]
theorem b_tu {v : Int32} {k : Nat} (hk : k < 32) : (v.toUInt32 >>> ((nI k).toUInt32 &&& Int32.toUInt32 31)).toInt32 &&& 1 = (if bt v k then (1 : Int32) else 0) := by
  rw [b_a1, b_ushr k hk]; rfl
theorem b_ts {v : Int32} {k : Nat} (hk : k < 32) : (v >>> (nI k &&& 31)) &&& 1 = (if bt v k then (1 : Int32) else 0) := by
  rw [b_a1, b_sshr k hk v (by omega), if_pos (show k + 0 < 32 by omega)]; rfl
theorem d_01 : ((if true = true then (1 : Int32) else 0) = 0) = False := by decide
/-- cells of a row as bits -/
def rowI (F : Nat → Bool) : Nat → Int32
  | 0 => 0
  | k + 1 => rowI F k ||| (if F k then (1 : Int32) <<< (nI k &&& 31) else 0)
theorem rowI_bt (F : Nat → Bool) : ∀ n, n ≤ 31 → ∀ i, i < 32 → bt (rowI F n) i = (decide (i < n) && F i)
  | 0, _, i, _ => by rw [decide_eq_false (by omega)]; exact b_0 i
  | n + 1, hn, i, hi => by
    show bt (rowI F n ||| _) i = _
    rw [b_or, rowI_bt F n (by omega) i hi]
    by_cases z : i = n
    · subst z
      rw [decide_eq_false (by omega), decide_eq_true (by omega), Bool.false_and, Bool.false_or, Bool.true_and]
      cases hF : F i with
      | true => rw [if_pos rfl, b_shl1 (by omega) hi, decide_eq_true rfl]
      | false => rw [if_neg (by decide), b_0]
    · have e : bt (if F n = true then (1 : Int32) <<< (nI n &&& 31) else 0) i = false := by
        cases hF : F n with
        | true => rw [if_pos rfl, b_shl1 (by omega) hi, decide_eq_false z]
        | false => rw [if_neg (by decide), b_0]
      rw [e, Bool.or_false]
      by_cases y : i < n
      · rw [decide_eq_true y, decide_eq_true (by omega)]
      · rw [decide_eq_false y, decide_eq_false (by omega)]
theorem rowI_sh (F : Nat → Bool) {n N : Nat} (hN : N ≤ 31) (h : n ≤ N) (hF : ∀ i, n ≤ i → i < N → F i = false) : rowI F n = rowI F N := by
  apply b_ext
  intro i hi
  rw [rowI_bt F n (by omega) i hi, rowI_bt F N hN i hi]
  by_cases z : i < n
  · rw [decide_eq_true z, decide_eq_true (by omega)]
  · rw [decide_eq_false z]
    by_cases y : i < N
    · rw [decide_eq_true y, hF i (by omega) y]; rfl
    · rw [decide_eq_false y]
theorem x_rowOf {m : Int64} {F : Nat → Bool} (hm : lS m F) {y : Nat} (hy : y < 6) : f_X10_rowOf u m (nI y) = some (rowI (fun x => F (8 * y + x)) 8) := by
  unfold f_X10_rowOf bX10_rowOf_0
  have e : (8 : Int32) * nI y = nI (8 * y) := (Int32.ofNat_mul 8 y).symm
  rw [e]
  apply congrArg some
  apply b_ext
  intro i hi
  rw [rowI_bt _ 8 (by omega) i hi, b_and, b_255]
  by_cases z : i < 8
  · rw [decide_eq_true z, Bool.and_true, Bool.true_and]
    have h1 : bt ((m.toUInt64 >>> (((nI (8 * y))).toInt64.toUInt64 &&& Int64.toUInt64 63)).toInt64).toInt32 i = lb ((m.toUInt64 >>> (((nI (8 * y))).toInt64.toUInt64 &&& Int64.toUInt64 63)).toInt64) i := by
      unfold bt lb
      rw [Int64.toBitVec_toInt32, BitVec.getLsbD_signExtend, decide_eq_true hi, Bool.true_and, if_pos (by omega)]
    rw [h1, lb_ushr m (by omega) i, show i + 8 * y = 8 * y + i by omega]
    exact lS_get hm (by omega)
  · rw [decide_eq_false z, Bool.and_false, Bool.false_and]
theorem m_openRow {W H : Nat} (hW : W ≤ 8) (hH : H ≤ 6) {g a20 : Nat → Int32} {T : Nat → Nat} (A : sA g T) (B : stOK W H T) {y : Nat} (hy : y < 6) (c0 : Int32) (a1 : Nat → Int32) :
    ∀ r k n, k + r = W → r < n → bX11_open_41 u (nI W) (nI H) a20 n c0 a1 g (nI y) (rowI (fun x => opn T (8 * y + x)) k) (nI k) = some (rowI (fun x => opn T (8 * y + x)) W, c0, a1, g) := by
  intro r
  induction r with
  | zero =>
    intro k n hk hn
    obtain ⟨n, rfl⟩ := z_suc hn
    obtain rfl : k = W := by omega
    rw [bX11_open_41]
    exact if_pos (nI_le (Nat.le_refl _) (by omega))
  | succ r ih =>
    intro k n hk hn
    obtain ⟨n, rfl⟩ := z_suc hn
    rw [bX11_open_41]
    refine (if_neg (nI_ge (a := k) (b := W) (by omega) (by omega))).trans ?_
    rw [m_open (u := u) hW hH A B (show k < 9 by omega) (show y < 9 by omega), z_b, decide_eq_true (show k < 8 by omega), decide_eq_true hy]
    have e1 : nI k + (1 : Int32) = nI (k + 1) := nI_1 k
    have st : rowI (fun x => opn T (8 * y + x)) (k + 1) = rowI (fun x => opn T (8 * y + x)) k ||| (if opn T (8 * y + k) then (1 : Int32) <<< (nI k &&& 31) else 0) := rfl
    have := ih (k + 1) n (by omega) (by omega)
    rw [st] at this
    unfold bX11_open_66
    rw [e1]
    cases ho : opn T (8 * y + k) with
    | true => rw [if_neg (show ¬ zB (true && true && true) = (0 : Int32) from d_10)]; rw [ho] at this; exact this
    | false => rw [if_pos (show zB (true && true && false) = (0 : Int32) from rfl)]; rw [ho] at this; exact this
theorem n_33 (hu : 700 ≤ u) (R : Rel S h) (a1 : Int32) : N_33 u h a1 := by
  obtain ⟨-, ⟨P, ⟨xw, xh, xa, xs, xc, xo, xk, xp, xor⟩, ⟨mw, mh, ms, mc, mo, mk, mp, mor⟩⟩, -, ⟨I, X, M⟩, -, -, ⟨r, -, -⟩, -, -⟩ := R
  obtain ⟨Mx, hb, hsh, hdg, hpr, hwe, -⟩ := X
  have h8 := P.1.2
  have h6 := P.2.1.2
  unfold N_33
  rw [xh, mw, mh]
  unfold f_X10_open bX10_open_0 f_X11_open bX11_open_0
  have bad : ∃ o o', bX10_open_20 u (nI (pH (rS_P S))) (h.2.2.1 26 3) (h.2.2.1 26 4) (h.2.1 69) a1 = some o ∧ bX11_open_22 u (nI (pW (rS_P S))) (nI (pH (rS_P S))) (h.2.1 90) (0 : Int32) (h.2.1 71) (h.2.1 91) a1 = some o' ∧ ((o.1 = 0 ∧ o'.2.1 = 0 ∧ o.2.1 = o'.1) ∨ (o.1 = 3 ∧ o'.2.1 = 1)) ∧ ∀ k, k < 3 → o.2.2 k = o'.2.2.1 k := by
    unfold bX11_open_22 bX11_open_23
    rw [m_need0, z_b, if_pos rfl]
    exact ⟨_, _, rfl, rfl, Or.inr ⟨rfl, rfl⟩, r_upd r (by omega)⟩
  rcases d_in (x := a1) (n := pH (rS_P S)) (by omega) with ⟨y, hy, rfl, q1, q2, q3⟩ | q1 | ⟨q1, q2, q3⟩
  · rw [if_neg q1, if_neg q2, if_neg q1, if_neg q2]
    unfold bX10_open_21 bX11_open_23
    obtain ⟨g, e3, e4⟩ := m_take (u := u) (by omega) M (h.2.1 91)
    have o2 : lS (h.2.2.1 26 3 ||| h.2.2.1 26 4) (opn (aS (rS_M S))) := lS_open Mx.1 Mx.2.1
    rw [x_need1, m_need1, z_b, z_b, if_pos rfl, if_neg d_10, x_open, z_b, x_rowOf o2 (show y < 6 by omega), z_b, e3, z_b]
    have := m_openRow (u := u) (a20 := h.2.1 90) h8 h6 e4.1 I.1 (show y < 6 by omega) (0 : Int32) (h.2.1 71) (pW (rS_P S)) 0 u (by omega) (by omega)
    refine ⟨_, _, rfl, this, Or.inl ⟨rfl, rfl, ?_⟩, r⟩
    refine (rowI_sh _ (by omega) h8 ?_).symm
    intro i hi1 hi2
    have : aS (rS_M S) (8 * y + i) = 0 := I.1.2 _ (by omega) (by
      unfold inG
      rw [show (8 * y + i) % 8 = i by omega, decide_eq_false (by omega)]; rfl)
    show opn (aS (rS_M S)) (8 * y + i) = false
    unfold opn
    rw [this]; rfl
  · rw [if_pos q1, if_pos q1]; exact bad
  · rw [if_neg q1, if_pos q2, if_neg q1, if_pos q2]; exact bad
/-! CANONS -/
def cnC (K : Nat → Nat) (i j d : Nat) : Nat → Nat
  | 0 => 0
  | k + 1 => cnC K i j d k + (if (1 ≤ K (8 * k + j) ∧ K (8 * k + j) ≤ 4) ∧ K (8 * k + j) = K (8 * (k + d) + i) then 1 else 0)
theorem cnC_le (K : Nat → Nat) (i j d : Nat) : ∀ k, cnC K i j d k ≤ k
  | 0 => Nat.le_refl _
  | k + 1 => by
    have := cnC_le K i j d k
    show cnC K i j d k + _ ≤ k + 1
    split <;> omega
/-- how far and how many, by the shifts below d -/
def cnB (H : Nat) (K : Nat → Nat) (i j : Nat) : Nat → Nat × Nat
  | 0 => (0, 0)
  | d + 1 => if (cnB H K i j d).2 < cnC K i j d (H - d) then (d, cnC K i j d (H - d)) else cnB H K i j d
theorem cnB_le (H : Nat) (K : Nat → Nat) (i j : Nat) : ∀ d, (cnB H K i j d).1 ≤ d ∧ (cnB H K i j d).2 ≤ H
  | 0 => ⟨Nat.le_refl _, Nat.zero_le _⟩
  | d + 1 => by
    have h1 := cnB_le H K i j d
    have h2 := cnC_le K i j d (H - d)
    unfold cnB
    split
    · exact ⟨by show d ≤ d + 1; omega, by show cnC K i j d (H - d) ≤ H; omega⟩
    · exact ⟨by omega, h1.2⟩
theorem x_canR {H : Nat} (hH : H ≤ 6) {K : Nat → Nat} {a4 : Nat → Int32} (hK : ∀ c, c < 48 → K c ≤ 5 ∧ a4 c = nI (K c)) {i j d : Nat} (hi : i < 8) (hj : j < 8) (hd : d < H) (k9 : Int32 → Int32 → Int32 → Int32 → Int32 → Int32 → Option (Int32)) (w v4 : Int32) {b : Nat} (hb : b ≤ 6) :
    ∀ r k n, k + r = H - d → r < n → bX9_canonOf_27 u (nI H) a4 k9 n (nI i) (nI j) w v4 (nI b) (nI d) (nI (cnC K i j d k)) (nI k) = (if b < cnC K i j d (H - d) then k9 (nI i) (nI j) w (nI d) (nI (cnC K i j d (H - d))) (nI (d + 1)) else k9 (nI i) (nI j) w v4 (nI b) (nI (d + 1))) := by
  have e2 : nI d + (1 : Int32) = nI (d + 1) := nI_1 d
  intro r
  induction r with
  | zero =>
    intro k n hk hn
    obtain ⟨n, rfl⟩ := z_suc hn
    obtain rfl : k = H - d := by omega
    have hc := cnC_le K i j d (H - d)
    rw [bX9_canonOf_27]
    refine (if_pos (by rw [nI_add]; exact nI_le (by omega) (by omega))).trans ?_
    by_cases z : b < cnC K i j d (H - d)
    · rw [if_neg (nI_ge (a := b) (b := cnC K i j d (H - d)) z (by omega)), if_pos z]
      unfold bX9_canonOf_114
      rw [e2]
    · rw [if_pos (nI_le (by omega) (by omega)), if_neg z]
      unfold bX9_canonOf_114
      rw [e2]
  | succ r ih =>
    intro k n hk hn
    obtain ⟨n, rfl⟩ := z_suc hn
    have hc := cnC_le K i j d k
    have ek : nI k + nI d = nI (k + d) := nI_add k d
    have e3 : (8 : Int32) * nI k + nI j = nI (8 * k + j) := by rw [show (8 : Int32) * nI k = nI (8 * k) from (Int32.ofNat_mul 8 k).symm, nI_add]
    have e4 : (8 : Int32) * nI (k + d) + nI i = nI (8 * (k + d) + i) := by rw [show (8 : Int32) * nI (k + d) = nI (8 * (k + d)) from (Int32.ofNat_mul 8 (k + d)).symm, nI_add]
    have e1 : nI k + (1 : Int32) = nI (k + 1) := nI_1 k
    have e5 : nI (cnC K i j d k) + (1 : Int32) = nI (cnC K i j d k + 1) := nI_1 _
    have q1 := hK (8 * k + j) (by omega)
    have q2 := hK (8 * (k + d) + i) (by omega)
    have st : cnC K i j d (k + 1) = cnC K i j d k + (if (1 ≤ K (8 * k + j) ∧ K (8 * k + j) ≤ 4) ∧ K (8 * k + j) = K (8 * (k + d) + i) then 1 else 0) := rfl
    have := ih (k + 1) n (by omega) (by omega)
    rw [st] at this
    rw [bX9_canonOf_27, ek, e3, e4]
    refine (if_neg (nI_ge (a := k + d) (b := H) (by omega) (by omega))).trans ?_
    rw [z_ki (by omega) (by omega), z_cl (by omega), z_cl (by omega), q1.2, q2.2, x_music _ q1.1, z_b]
    unfold bX9_canonOf_93
    rw [e1]
    by_cases z : 1 ≤ K (8 * k + j) ∧ K (8 * k + j) ≤ 4
    · rw [decide_eq_true z, if_neg (show ¬ zB true = (0 : Int32) from d_10), z_ki (by omega) (by omega)]
      by_cases y : K (8 * k + j) = K (8 * (k + d) + i)
      · rw [if_pos (by rw [y]), e5]
        rw [if_pos ⟨z, y⟩] at this
        exact this
      · rw [if_neg (fun w => y ((nI_eq (by omega) (by omega)).mp w))]
        rw [if_neg (fun w => y w.2)] at this
        exact this
    · rw [decide_eq_false z, if_pos (show zB false = (0 : Int32) from rfl)]
      rw [if_neg (fun w => z w.1)] at this
      exact this
theorem x_canA {H : Nat} (hH : H ≤ 6) {K : Nat → Nat} {a4 : Nat → Int32} (hK : ∀ c, c < 48 → K c ≤ 5 ∧ a4 c = nI (K c)) {i j : Nat} (hi : i < 8) (hj : j < 8) (hu : 10 ≤ u) (w : Int32) :
    ∀ r k n, k + r = H → r < n → bX9_canonOf_9 u (nI H) a4 n (nI i) (nI j) w (nI (cnB H K i j k).1) (nI (cnB H K i j k).2) (nI k) = some (if w = 0 then nI (cnB H K i j H).1 else nI (cnB H K i j H).2) := by
  intro r
  induction r with
  | zero =>
    intro k n hk hn
    obtain ⟨n, rfl⟩ := z_suc hn
    obtain rfl : k = H := by omega
    rw [bX9_canonOf_9]
    refine (if_pos (nI_le (Nat.le_refl _) (by omega))).trans ?_
    by_cases z : w = 0
    · rw [if_pos z, if_pos z]
    · rw [if_neg z, if_neg z]
  | succ r ih =>
    intro k n hk hn
    obtain ⟨n, rfl⟩ := z_suc hn
    have hb := cnB_le H K i j k
    rw [bX9_canonOf_9]
    refine (if_neg (nI_ge (a := k) (b := H) (by omega) (by omega))).trans ?_
    have e := x_canR (u := u) hH hK hi hj (d := k) (by omega) (bX9_canonOf_9 u (nI H) a4 n) w (nI (cnB H K i j k).1) (show (cnB H K i j k).2 ≤ 6 by omega) (H - k) 0 u (by omega) (by omega)
    refine Eq.trans e ?_
    have := ih (k + 1) n (by omega) (by omega)
    have st : cnB H K i j (k + 1) = if (cnB H K i j k).2 < cnC K i j k (H - k) then (k, cnC K i j k (H - k)) else cnB H K i j k := rfl
    rw [st] at this
    by_cases z : (cnB H K i j k).2 < cnC K i j k (H - k)
    · rw [if_pos z] at this ⊢; exact this
    · rw [if_neg z] at this ⊢; exact this
theorem m_canR {W : Int32} {H : Nat} (hH : H ≤ 6) {K : Nat → Nat} {a7 : Nat → Int32} (hK : ∀ c, c < 48 → K c ≤ 5 ∧ a7 c = nI (K c)) {i j d : Nat} (hi : i < 8) (hj : j < 8) (hd : d < H) (k55 : Int32 → (Nat → Int32) → Int32 → Int32 → Int32 → Int32 → Int32 → Int32 → Option (Int32 × Int32 × (Nat → Int32))) (c0 : Int32) (a1 : Nat → Int32) (w v4 v5 : Int32) :
    ∀ r k n, k + r = H - d → r < n → bX11_canon_70 u W (nI H) a7 k55 n c0 a1 (nI i) (nI j) w v4 v5 (nI d) (nI (cnC K i j d k)) (nI k) = (if v5 < nI (cnC K i j d (H - d)) then k55 c0 a1 (nI i) (nI j) w (nI d) (nI (cnC K i j d (H - d))) (nI (d + 1)) else k55 c0 a1 (nI i) (nI j) w v4 v5 (nI (d + 1))) := by
  have e2 : nI d + (1 : Int32) = nI (d + 1) := nI_1 d
  intro r
  induction r with
  | zero =>
    intro k n hk hn
    obtain ⟨n, rfl⟩ := z_suc hn
    obtain rfl : k = H - d := by omega
    rw [bX11_canon_70]
    refine (if_pos (by rw [nI_add]; exact nI_le (by omega) (by omega))).trans ?_
    unfold bX11_canon_162
    rw [e2]
  | succ r ih =>
    intro k n hk hn
    obtain ⟨n, rfl⟩ := z_suc hn
    have hc := cnC_le K i j d k
    have ek : nI k + nI d = nI (k + d) := nI_add k d
    have e3 : (8 : Int32) * nI k + nI j = nI (8 * k + j) := by rw [show (8 : Int32) * nI k = nI (8 * k) from (Int32.ofNat_mul 8 k).symm, nI_add]
    have e4 : (8 : Int32) * nI (k + d) + nI i = nI (8 * (k + d) + i) := by rw [show (8 : Int32) * nI (k + d) = nI (8 * (k + d)) from (Int32.ofNat_mul 8 (k + d)).symm, nI_add]
    have e1 : nI k + (1 : Int32) = nI (k + 1) := nI_1 k
    have e5 : nI (cnC K i j d k) + (1 : Int32) = nI (cnC K i j d k + 1) := nI_1 _
    have e6 : nI (cnC K i j d k) + (0 : Int32) = nI (cnC K i j d k + 0) := nI_add _ 0
    have q1 := hK (8 * k + j) (by omega)
    have q2 := hK (8 * (k + d) + i) (by omega)
    have st : cnC K i j d (k + 1) = cnC K i j d k + (if (1 ≤ K (8 * k + j) ∧ K (8 * k + j) ≤ 4) ∧ K (8 * k + j) = K (8 * (k + d) + i) then 1 else 0) := rfl
    have := ih (k + 1) n (by omega) (by omega)
    rw [st] at this
    rw [bX11_canon_70, ek, e3, e4]
    refine (if_neg (nI_ge (a := k + d) (b := H) (by omega) (by omega))).trans ?_
    rw [z_ki (by omega) (by omega), z_cl (by omega), z_cl (by omega), q1.2, q2.2]
    unfold bX11_canon_134 bX11_canon_135
    rw [e1]
    by_cases z1 : 1 ≤ K (8 * k + j)
    · rw [if_neg (show ¬ nI (K (8 * k + j)) < (1 : Int32) from nI_nlt (a := K (8 * k + j)) (b := 1) z1 (by omega))]
      by_cases z2 : K (8 * k + j) ≤ 4
      · rw [if_neg (show ¬ (4 : Int32) < nI (K (8 * k + j)) from nI_nlt (a := 4) (b := K (8 * k + j)) z2 (by omega)), z_ki (by omega) (by omega)]
        by_cases y : K (8 * k + j) = K (8 * (k + d) + i)
        · rw [if_pos (by rw [y]), e5]
          rw [if_pos ⟨⟨z1, z2⟩, y⟩] at this
          exact this
        · rw [if_neg (fun w => y ((nI_eq (by omega) (by omega)).mp w)), e6]
          rw [if_neg (fun w => y w.2)] at this
          exact this
      · rw [if_pos (show (4 : Int32) < nI (K (8 * k + j)) from nI_lt (a := 4) (b := K (8 * k + j)) (by omega) (by omega)), e6]
        rw [if_neg (fun w => z2 w.1.2)] at this
        exact this
    · rw [if_pos (show nI (K (8 * k + j)) < (1 : Int32) from nI_lt (a := K (8 * k + j)) (b := 1) (by omega) (by omega)), e6]
      rw [if_neg (fun w => z1 w.1.1)] at this
      exact this
theorem m_canA {W : Int32} {H : Nat} (hH : H ≤ 6) {K : Nat → Nat} {a7 : Nat → Int32} (hK : ∀ c, c < 48 → K c ≤ 5 ∧ a7 c = nI (K c)) {i j : Nat} (hi : i < 8) (hj : j < 8) (hu : 10 ≤ u) (c0 : Int32) (a1 : Nat → Int32) (w : Int32) :
    ∀ r k n, k + r = H → r < n → bX11_canon_55 u W (nI H) a7 n c0 a1 (nI i) (nI j) w (nI (cnB H K i j k).1) (nI (cnB H K i j k).2) (nI k) = some (if w = 0 then nI (cnB H K i j H).1 else nI (cnB H K i j H).2, c0, a1) := by
  intro r
  induction r with
  | zero =>
    intro k n hk hn
    obtain ⟨n, rfl⟩ := z_suc hn
    obtain rfl : k = H := by omega
    rw [bX11_canon_55]
    refine (if_pos (nI_le (Nat.le_refl _) (by omega))).trans ?_
    by_cases z : w = 0
    · rw [if_pos z, if_pos z]
    · rw [if_neg z, if_neg z]
  | succ r ih =>
    intro k n hk hn
    obtain ⟨n, rfl⟩ := z_suc hn
    have hb := cnB_le H K i j k
    have hc := cnC_le K i j k (H - k)
    rw [bX11_canon_55]
    refine (if_neg (nI_ge (a := k) (b := H) (by omega) (by omega))).trans ?_
    have e := m_canR (u := u) (W := W) hH hK hi hj (d := k) (by omega) (bX11_canon_55 u W (nI H) a7 n) c0 a1 w (nI (cnB H K i j k).1) (nI (cnB H K i j k).2) (H - k) 0 u (by omega) (by omega)
    refine Eq.trans e ?_
    have := ih (k + 1) n (by omega) (by omega)
    have st : cnB H K i j (k + 1) = if (cnB H K i j k).2 < cnC K i j k (H - k) then (k, cnC K i j k (H - k)) else cnB H K i j k := rfl
    rw [st] at this
    by_cases z : (cnB H K i j k).2 < cnC K i j k (H - k)
    · rw [if_pos (nI_lt z (by omega))]
      rw [if_pos z] at this; exact this
    · rw [if_neg (nI_nlt (by omega) (by omega))]
      rw [if_neg z] at this; exact this
theorem m_canY {W : Int32} {H : Nat} (h1 : 1 ≤ H) (hH : H ≤ 6) {K : Nat → Nat} {a7 : Nat → Int32} (hK : ∀ c, c < 48 → K c ≤ 5 ∧ a7 c = nI (K c)) {i j : Nat} (hi : i < 8) (hj : j < 8) (hu : 20 ≤ u) (c0 : Int32) (a1 : Nat → Int32) (w : Int32) :
    bX11_canon_55 u W (nI H) a7 u c0 a1 (nI i) (nI j) w (0 : Int32) (-1 : Int32) (0 : Int32) = some (if w = 0 then nI (cnB H K i j H).1 else nI (cnB H K i j H).2, c0, a1) := by
  obtain ⟨n, hn⟩ : ∃ n, u = n + 1 := z_suc (x := 0) (by omega)
  have hc := cnC_le K i j 0 (H - 0)
  have key : ∀ n, 10 < n → bX11_canon_55 u W (nI H) a7 (n + 1) c0 a1 (nI i) (nI j) w (0 : Int32) (-1 : Int32) (0 : Int32) = some (if w = 0 then nI (cnB H K i j H).1 else nI (cnB H K i j H).2, c0, a1) := by
    intro n hn
    rw [bX11_canon_55]
    refine (if_neg (nI_ge (a := 0) (b := H) (by omega) (by omega))).trans ?_
    have e := m_canR (u := u) (W := W) hH hK hi hj (d := 0) (by omega) (bX11_canon_55 u W (nI H) a7 n) c0 a1 w (0 : Int32) (-1 : Int32) (H - 0) 0 u (by omega) (by omega)
    refine Eq.trans e ?_
    have hm : (-1 : Int32) < nI (cnC K i j 0 (H - 0)) := by
      rw [Int32.lt_iff_toInt_lt, nI_toInt (by omega)]
      have : (-1 : Int32).toInt = -1 := rfl
      rw [this]; omega
    rw [if_pos hm]
    have := m_canA (u := u) (W := W) hH hK hi hj (by omega) c0 a1 w (H - 1) 1 n (by omega) (by omega)
    have st : cnB H K i j 1 = (0, cnC K i j 0 (H - 0)) := by
      show (if 0 < cnC K i j 0 (H - 0) then (0, cnC K i j 0 (H - 0)) else (0, 0)) = _
      by_cases z : 0 < cnC K i j 0 (H - 0)
      · rw [if_pos z]
      · rw [if_neg z, show cnC K i j 0 (H - 0) = 0 by omega]
    rw [st] at this
    exact this
  have := key n (by omega)
  rw [← hn] at this
  exact this
theorem n_25 (hu : 700 ≤ u) (R : Rel S h) (a1 a2 a3 : Int32) : N_25 u h a1 a2 a3 := by
  obtain ⟨-, ⟨P, ⟨xw, xh, xa, xs, xc, xo, xk, xp, xor⟩, ⟨mw, mh, ms, mc, mo, mk, mp, mor⟩⟩, -, -, -, -, ⟨r, -, -⟩, -, -⟩ := R
  have kb := P.2.2.2.2.2.1
  have h8 := P.1.2
  have h6 := P.2.1.2
  unfold N_25
  rw [xw, xh, mw, mh]
  have bx : ∀ v1 v2 v3, bX10_canon_28 u (nI (pW (rS_P S))) (nI (pH (rS_P S))) (h.2.1 4) (h.2.1 69) v1 v2 v3 = some ((3 : Int32), (0 : Int32), upd (h.2.1 69) 2 (h.2.1 69 2 + (1 : Int32))) := fun _ _ _ => rfl
  have bm : ∀ v1 v2 v3, bX11_canon_35 u (nI (pW (rS_P S))) (nI (pH (rS_P S))) (h.2.1 77) (0 : Int32) (h.2.1 71) v1 v2 v3 = some ((0 : Int32), (1 : Int32), upd (h.2.1 71) 2 (h.2.1 71 2 + (1 : Int32))) := by
    intro v1 v2 v3
    unfold bX11_canon_35 bX11_canon_36
    rw [m_need0, z_b, if_pos rfl]
  have bad : ∃ o o', some ((3 : Int32), (0 : Int32), upd (h.2.1 69) 2 (h.2.1 69 2 + (1 : Int32))) = some o ∧ some ((0 : Int32), (1 : Int32), upd (h.2.1 71) 2 (h.2.1 71 2 + (1 : Int32))) = some o' ∧ ((o.1 = 0 ∧ o'.2.1 = 0 ∧ o.2.1 = o'.1) ∨ (o.1 = 3 ∧ o'.2.1 = 1)) ∧ ∀ k, k < 3 → o.2.2 k = o'.2.2 k := ⟨_, _, rfl, rfl, Or.inr ⟨rfl, rfl⟩, r_upd r (by omega)⟩
  unfold f_X10_canon bX10_canon_0 f_X11_canon bX11_canon_0
  rcases d_col (u := u) h8 a1 with ⟨i, hi, rfl, e1, e2⟩ | ⟨e1, e2⟩
  · rw [e1, e2, z_b, z_b, if_neg d_10, if_neg d_10]
    rcases d_col (u := u) h8 a2 with ⟨j, hj, rfl, e1, e2⟩ | ⟨e1, e2⟩
    · rw [e1, e2, z_b, z_b, if_neg d_10, if_neg d_10]
      rcases d_either (u := u) a3 with ⟨q, e3, e4⟩ | ⟨e3, e4⟩
      · rw [e3, e4, z_b, z_b, if_neg d_10, if_neg d_10]
        unfold bX10_canon_29 bX11_canon_36
        rw [x_need1, m_need1, z_b, z_b, if_pos rfl, if_neg d_10]
        unfold bX10_canon_48 f_X9_canonOf bX9_canonOf_0
        have g1 := m_canY (u := u) (W := nI (pW (rS_P S))) P.2.1.1 h6 (K := pK (rS_P S)) (fun c hc => ⟨(kb c hc).1, mk.1 c hc⟩) (i := i) (j := j) (by omega) (by omega) (by omega) (0 : Int32) (h.2.1 71) a3
        have g2 := fun w => x_canA (u := u) h6 (K := pK (rS_P S)) (fun c hc => ⟨(kb c hc).1, xk.1 c hc⟩) (i := i) (j := j) (by omega) (by omega) (by omega) w (pH (rS_P S)) 0 u (by omega) (by omega)
        rcases q with rfl | rfl
        · rw [if_neg (show ¬ (0 : Int32) = 1 by decide), show bX9_canonOf_9 u (nI (pH (rS_P S))) (h.2.1 4) u (nI i) (nI j) (0 : Int32) (0 : Int32) (0 : Int32) (0 : Int32) = _ from g2 0, z_b]
          exact ⟨_, _, rfl, g1, Or.inl ⟨rfl, rfl, rfl⟩, r⟩
        · rw [if_pos rfl, show bX9_canonOf_9 u (nI (pH (rS_P S))) (h.2.1 4) u (nI i) (nI j) (1 : Int32) (0 : Int32) (0 : Int32) (0 : Int32) = _ from g2 1, z_b]
          exact ⟨_, _, rfl, g1, Or.inl ⟨rfl, rfl, rfl⟩, r⟩
      · rw [e3, e4, z_b, z_b, if_pos rfl, if_pos rfl, bx, bm]; exact bad
    · rw [e1, e2, z_b, z_b, if_pos rfl, if_pos rfl, bx, bm]; exact bad
  · rw [e1, e2, z_b, z_b, if_pos rfl, if_pos rfl, bx, bm]; exact bad
end NQ6
