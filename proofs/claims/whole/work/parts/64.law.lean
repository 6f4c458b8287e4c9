/-! WIDE, SIGHT, THE LAW -/
theorem z_10 : (nI 1 = nI 0) = False := by decide
theorem z_plt {a b : Nat} (ha : a < 1073741824) (hb : b < 1073741824) : (nI a - nI 1 < nI b) = (a < b + 1) := by
  rw [eq_iff_iff, fa_lt, pk_sub_toInt ha (by omega), z_ti (by omega)]; omega
theorem z_ple {a b : Nat} (ha : a < 1073741824) (hb : b < 1073741824) : (nI b ≤ nI a - nI 1) = (b + 1 ≤ a) := by
  rw [eq_iff_iff, fa_le, pk_sub_toInt ha (by omega), z_ti (by omega)]; omega
theorem z_ps (a : Nat) : nI (a + 1) - nI 1 = nI a := by rw [z_sub (by omega)]; rfl
theorem z_an (a b : Int32) : a + -b = a - b := (Int32.sub_eq_add_neg a b).symm
theorem z_suc {n x : Nat} (h : x < n) : ∃ k, n = k + 1 := ⟨n - 1, by omega⟩
def runL (p : Nat → Bool) : Nat → Nat
  | 0 => 0
  | x + 1 => if p x then runL p x + 1 else 0
def runR (p : Nat → Bool) : Nat → Nat → Nat
  | 0, _ => 0
  | n + 1, x => if p x then runR p n (x + 1) + 1 else 0
theorem runL_le (p : Nat → Bool) : ∀ x, runL p x ≤ x
  | 0 => Nat.le_refl 0
  | x + 1 => by
    have := runL_le p x
    unfold runL
    split <;> omega
theorem runR_le (p : Nat → Bool) : ∀ n x, runR p n x ≤ n
  | 0, _ => Nat.le_refl 0
  | n + 1, x => by
    have := runR_le p n (x + 1)
    unfold runR
    split <;> omega
def rowp (S : Nat → Nat) (y : Nat) : Nat → Bool := fun j => S (8 * y + j) == 1
def wd (S : Nat → Nat) (c : Nat) : Nat := if S c = 1 then 1 + runL (rowp S (c / 8)) (c % 8) + runR (rowp S (c / 8)) (7 - c % 8) (c % 8 + 1) else 0
theorem wd_le (S : Nat → Nat) (c : Nat) : wd S c ≤ 8 := by
  unfold wd
  have h1 := runL_le (rowp S (c / 8)) (c % 8)
  have h2 := runR_le (rowp S (c / 8)) (7 - c % 8) (c % 8 + 1)
  split <;> omega
theorem x_wl {u : Nat} {dug : Int64} {S : Nat → Nat} (h : lS dug (fun c => S c == 1)) (at' : Int32) {y : Nat} (hy : y < 6) : ∀ x, x ≤ 8 → ∀ n m, x < n → bX3_wide_29 u dug n at' (nI (8 * y)) (nI m) (nI (8 * y + x) - nI 1) = bX3_wide_58 u dug at' (nI (8 * y)) (nI (m + runL (rowp S y) x)) := by
  intro x
  induction x with
  | zero =>
    intro _ n m hn
    obtain ⟨n, rfl⟩ := z_suc hn
    rw [bX3_wide_29, if_pos (by rw [z_plt (by omega) (by omega)]; omega)]
    rfl
  | succ x ih =>
    intro hx n m hn
    obtain ⟨n, rfl⟩ := z_suc hn
    rw [show 8 * y + (x + 1) = (8 * y + x) + 1 by omega, z_ps, bX3_wide_29]
    simp (disch := omega) only [z_lit, z_lt, lb_t, lS_get h, nI_add, z_an]
    rw [if_neg (by omega)]
    by_cases q : S (8 * y + x) = 1
    · rw [if_neg (by simp [q]), ih (by omega) n (m + 1) (by omega)]
      simp only [runL, rowp, q]
      congr 2
      simp
      omega
    · rw [if_pos (by simp [q])]
      simp [runL, rowp, q]
theorem x_wr {u : Nat} {dug : Int64} {S : Nat → Nat} (h : lS dug (fun c => S c == 1)) {y : Nat} (hy : y < 6) : ∀ k x, x + k = 8 → ∀ n m, k < n → bX3_wide_63 u dug n (nI (8 * y)) (nI m) (nI (8 * y + x)) = some (nI (m + runR (rowp S y) k x)) := by
  intro k
  induction k with
  | zero =>
    intro x hx n m hn
    obtain ⟨n, rfl⟩ := z_suc hn
    rw [bX3_wide_63]
    simp (disch := omega) only [z_lit, nI_add, z_le]
    rw [if_pos (by omega)]
    rfl
  | succ k ih =>
    intro x hx n m hn
    obtain ⟨n, rfl⟩ := z_suc hn
    rw [bX3_wide_63]
    simp (disch := omega) only [z_lit, z_le, lb_t, lS_get h, nI_add]
    rw [if_neg (by omega)]
    by_cases q : S (8 * y + x) = 1
    · rw [if_neg (by simp [q]), Nat.add_assoc, ih (x + 1) (by omega) n (m + 1) (by omega)]
      simp only [runR, rowp, q]
      congr 2
      simp
      omega
    · rw [if_pos (by simp [q])]
      simp [runR, rowp, q]
theorem x_wide {u : Nat} {dug : Int64} {S : Nat → Nat} (h : lS dug (fun c => S c == 1)) {c : Nat} (hc : c < 48) (hu : 10 ≤ u) : f_X3_wide u dug (nI c) = some (nI (wd S c)) := by
  unfold f_X3_wide bX3_wide_0 wd
  simp (disch := omega) only [z_lit, lb_t, lS_get h, z_div, pk_mul, z_sub]
  by_cases q : S c = 1
  · rw [if_neg (by simp [q]), if_pos q, show c - (c - c / 8 * 8) = 8 * (c / 8) by omega]
    have e : nI c - nI 1 = nI (8 * (c / 8) + c % 8) - nI 1 := by congr 2; omega
    rw [e, x_wl h (nI c) (by omega) (c % 8) (by omega) u 1 (by omega)]
    unfold bX3_wide_58
    simp (disch := omega) only [z_lit, nI_add]
    rw [show c + 1 = 8 * (c / 8) + (c % 8 + 1) by omega, x_wr h (by omega) (7 - c % 8) (c % 8 + 1) (by omega) u _ (by omega)]
  · rw [if_pos (by simp [q]), if_neg q]
/-! the reference's cells -/
theorem m_isIn {u W H x y : Nat} (hW : W < 1073741824) (hH : H < 1073741824) (hx : x < 1073741824) (hy : y < 1073741824) : f_X11_isIn u (nI W) (nI H) (nI x) (nI y) = some (zB (decide (x < W) && decide (y < H))) := by
  unfold f_X11_isIn bX11_isIn_0
  simp (disch := omega) only [z_lit, z_lt, z_le]
  by_cases q : x < W
  · by_cases r : y < H
    · simp [q, r, show ¬ W ≤ x by omega, show ¬ H ≤ y by omega]; rfl
    · simp [q, r, show ¬ W ≤ x by omega, show H ≤ y by omega]; rfl
  · simp [q, show W ≤ x by omega]; rfl
/-- one less than a number; 0 for the first -/
theorem m_isInL {u W H x : Nat} {b : Int32} (hx : x < 1073741824) : x = 0 → f_X11_isIn u (nI W) (nI H) (nI x - nI 1) b = some (zB false) := by
  intro e
  subst e
  unfold f_X11_isIn bX11_isIn_0
  rw [if_pos (by decide)]
  rfl
theorem m_isInT {u W H x y : Nat} (hW : W < 1073741824) (hH : H < 1073741824) (hx : x < 1073741824) (hy : y = 0) : f_X11_isIn u (nI W) (nI H) (nI x) (nI y - nI 1) = some (zB false) := by
  subst hy
  unfold f_X11_isIn bX11_isIn_0
  rw [if_neg (show ¬ nI x < (0 : Int32) from nI_pos (by omega))]
  by_cases q : nI W ≤ nI x
  · rw [if_pos q]; rfl
  · rw [if_neg q, if_pos (show nI 0 - nI 1 < (0 : Int32) by decide)]; rfl
/-- the reference's states: its array s at 0 to 47 -/
def sA (a : Nat → Int32) (S : Nat → Nat) : Prop := ∀ c, c < 48 → a c = nI (S c)
theorem m_open {u W H x y : Nat} {a21 : Nat → Int32} {S : Nat → Nat} (hW : W ≤ 8) (hH : H ≤ 6) (A : sA a21 S) (B : stOK W H S) (hx : x < 9) (hy : y < 9) : f_X11_isOpen u (nI W) (nI H) a21 (nI x) (nI y) = some (zB (decide (x < 8) && decide (y < 6) && opn S (8 * y + x))) := by
  unfold f_X11_isOpen bX11_isOpen_0
  rw [m_isIn (by omega) (by omega) (by omega) (by omega), z_b]
  by_cases q : x < W ∧ y < H
  · have e := A (8 * y + x) (by omega)
    have e3 := B.1 (8 * y + x) (by omega)
    simp (disch := omega) only [z_lit, zB_eq0, q.1, q.2, decide_true, Bool.and_self, pk_mul, nI_add, z_ki, z_cl, e, z_eq]
    unfold opn
    rcases (show S (8 * y + x) = 0 ∨ S (8 * y + x) = 1 ∨ S (8 * y + x) = 2 ∨ S (8 * y + x) = 3 by omega) with r | r | r | r <;> simp [r, show x < 8 by omega, show y < 6 by omega] <;> rfl
  · have e1 : (decide (x < W) && decide (y < H)) = false := by simpa using q
    rw [e1]
    have e5 : ∀ X : Option Int32, (if zB false = (0 : Int32) then some (0 : Int32) else X) = some (nI 0) := fun X => if_pos rfl
    rw [e5]
    by_cases r : x < 8 ∧ y < 6
    · have e2 : S (8 * y + x) = 0 := B.2 (8 * y + x) (by omega) (by
        unfold inG
        rw [show (8 * y + x) % 8 = x by omega, show (8 * y + x) / 8 = y by omega]
        exact e1)
      unfold opn
      rw [e2]
      simp
      rfl
    · have e4 : (decide (x < 8) && decide (y < 6)) = false := by simpa using r
      rw [e4]
      rfl
theorem m_openL {u W H x : Nat} {a21 : Nat → Int32} {b : Int32} (hx : x = 0) : f_X11_isOpen u (nI W) (nI H) a21 (nI x - nI 1) b = some (zB false) := by
  unfold f_X11_isOpen bX11_isOpen_0
  rw [m_isInL (by omega) hx, z_b]
  rfl
theorem m_openT {u W H x y : Nat} {a21 : Nat → Int32} (hW : W ≤ 8) (hH : H ≤ 6) (hx : x < 9) (hy : y = 0) : f_X11_isOpen u (nI W) (nI H) a21 (nI x) (nI y - nI 1) = some (zB false) := by
  unfold f_X11_isOpen bX11_isOpen_0
  rw [m_isInT (by omega) (by omega) (by omega) hy, z_b]
  rfl
/-- the shafts of the reference: bits of an int -/
def shA (d : Int32) (D : Nat → Bool) : Prop := ∀ x, x < 8 → (d >>> (nI x &&& nI 31)) &&& nI 1 = zB (D x)
theorem m_hand {u W H : Nat} {a21 : Nat → Int32} {d : Int32} {S : Nat → Nat} {D : Nat → Bool} (hW : W ≤ 8) (hH : H ≤ 6) (A : sA a21 S) (B : stOK W H S) (E : shA d D) {c : Nat} (hc : c < 48) : f_X11_isAtHand u (nI W) (nI H) d a21 (nI c) = some (zB (bsd (opn S) c || (decide (c < 8) && D c))) := by
  unfold f_X11_isAtHand bX11_isAtHand_0
  have e0 : c - c / 8 * 8 = c % 8 := by omega
  simp (disch := omega) only [z_lit, z_div, pk_mul, z_sub, e0, nI_add]
  have l1 : f_X11_isOpen u (nI W) (nI H) a21 (nI (c % 8) - nI 1) (nI (c / 8)) = some (zB (decide (0 < c % 8) && opn S (c - 1))) := by
    by_cases q : c % 8 = 0
    · rw [m_openL q]; simp [q]
    · rw [z_sub (by omega), m_open hW hH A B (by omega) (by omega), show 8 * (c / 8) + (c % 8 - 1) = c - 1 by omega]
      simp [show 0 < c % 8 by omega, show c % 8 - 1 < 8 by omega, show c / 8 < 6 by omega]
  have l2 : f_X11_isOpen u (nI W) (nI H) a21 (nI (c % 8 + 1)) (nI (c / 8)) = some (zB (decide (c % 8 < 7) && opn S (c + 1))) := by
    rw [m_open hW hH A B (by omega) (by omega), show 8 * (c / 8) + (c % 8 + 1) = c + 1 by omega]
    congr 2
    simp [show c / 8 < 6 by omega, show (c % 8 + 1 < 8) = (c % 8 < 7) by rw [eq_iff_iff]; omega]
  have l3 : f_X11_isOpen u (nI W) (nI H) a21 (nI (c % 8)) (nI (c / 8) - nI 1) = some (zB (decide (8 ≤ c) && opn S (c - 8))) := by
    by_cases q : c / 8 = 0
    · rw [m_openT hW hH (by omega) q]; simp [show ¬ 8 ≤ c by omega]
    · rw [z_sub (by omega), m_open hW hH A B (by omega) (by omega), show 8 * (c / 8 - 1) + c % 8 = c - 8 by omega]
      simp [show 8 ≤ c by omega, show c % 8 < 8 by omega, show c / 8 - 1 < 6 by omega]
  have l4 : f_X11_isOpen u (nI W) (nI H) a21 (nI (c % 8)) (nI (c / 8 + 1)) = some (zB (decide (c < 40) && opn S (c + 8))) := by
    rw [m_open hW hH A B (by omega) (by omega), show 8 * (c / 8 + 1) + c % 8 = c + 8 by omega]
    congr 2
    by_cases q : c < 40
    · simp [q, show c % 8 < 8 by omega, show c / 8 + 1 < 6 by omega]
    · simp [q, show ¬ c / 8 + 1 < 6 by omega]
  rw [l1, z_b, l2]
  simp only [z_b, zB_eq0]
  rw [l3]
  simp only [z_b, zB_eq0]
  rw [l4]
  simp only [z_b, zB_eq0]
  unfold bsd
  cases decide (0 < c % 8) && opn S (c - 1)
  · cases decide (c % 8 < 7) && opn S (c + 1)
    · cases decide (8 ≤ c) && opn S (c - 8)
      · cases decide (c < 40) && opn S (c + 8)
        · by_cases q : c < 8
          · simp (disch := omega) only [z_eq, show c / 8 = 0 by omega, show c % 8 = c by omega, E c q, zB_eq1, q]
            cases D c <;> rfl
          · simp (disch := omega) only [z_eq, show ¬ c / 8 = 0 by omega, q]
            rfl
        · rfl
      · rfl
    · rfl
  · rfl
