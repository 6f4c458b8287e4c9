/-! QUERIES: the book, the next tap -/
section NQ7
variable {u : Nat} {S : aT} {h : k_H}
def sv (k : Nat) : Int32 := nI k - (7 : Int32)
theorem sv_lt : ∀ k, k < 15 → ¬ (7 : Int32) < sv k := by decide +kernel
theorem sv_15 : (7 : Int32) < sv 15 := by decide
theorem sv_1 : ∀ k, k < 15 → sv k + (1 : Int32) = sv (k + 1) := by decide +kernel
theorem sv_7 : ∀ k, k < 15 → sv k + (7 : Int32) = nI k := by decide +kernel
theorem sv_0 : sv 0 = (-7 : Int32) := by decide
/-- whether a move is right in the book's first lines -/
def ftA (p : aP) (bk : Nat → Nat × Nat) (s : Int32) : Nat → Bool
  | 0 => true
  | n + 1 => ftA p bk s n && (decide ((bk n).1 < pW p) && decide (tp p (nI (bk n).1 - s).toInt = (bk n).2))
theorem ftA_iff (p : aP) (bk : Nat → Nat × Nat) (s : Int32) : ∀ n, ftA p bk s n = true ↔ ∀ i, i < n → (bk i).1 < pW p ∧ tp p (nI (bk i).1 - s).toInt = (bk i).2
  | 0 => ⟨fun _ i hi => absurd hi (Nat.not_lt_zero i), fun _ => rfl⟩
  | n + 1 => by
    show (ftA p bk s n && _) = true ↔ _
    rw [Bool.and_eq_true, ftA_iff p bk s n, Bool.and_eq_true, decide_eq_true_eq, decide_eq_true_eq]
    constructor
    · rintro ⟨h1, h2⟩ i hi
      by_cases z : i = n
      · rw [z]; exact h2
      · exact h1 i (by omega)
    · intro h1
      exact ⟨fun i hi => h1 i (by omega), h1 n (by omega)⟩
/-- the moves by which the book is right -/
def fitV (F : Int32 → Bool) : Nat → Int32
  | 0 => 0
  | k + 1 => if F (sv k) then fitV F k ||| ((1 : Int32) <<< (nI k &&& 31)) else fitV F k
theorem x_isRight {p : aP} (P : pOK p) {a4 a59 : Nat → Int32} (hK : ∀ c, c < 48 → a4 c = nI (pK p c)) (hu : 20 ≤ u) {L : Nat} {bk : Nat → Nat × Nat} (b1 : ∀ i, i < L → (bk i).1 < 8 ∧ (bk i).2 ≤ 6 ∧ a59 (bk i).1 = nI (bk i).2) (b2 : ∀ x, x < 8 → (∀ i, i < L → (bk i).1 ≠ x) → a59 x = -1) (s : Int32) :
    f_X9_isRight u a59 (nI (pW p)) (nI (pH p)) a4 s = some (zB (ftA p bk s L)) := by
  have h8 := P.1.2
  have h6 := P.2.1.2
  have key : ∀ r k n, k + r = 8 → r < n → (∀ i, i < L → (bk i).1 < k → (bk i).1 < pW p ∧ tp p (nI (bk i).1 - s).toInt = (bk i).2) → bX9_isRight_2 u a59 (nI (pW p)) (nI (pH p)) a4 n s (nI k) = some (zB (ftA p bk s L)) := by
    intro r
    induction r with
    | zero =>
      intro k n hk hn hI
      obtain ⟨n, rfl⟩ := z_suc hn
      obtain rfl : k = 8 := by omega
      rw [bX9_isRight_2]
      refine (if_pos (show (8 : Int32) ≤ nI 8 by decide)).trans ?_
      rw [(ftA_iff p bk s L).mpr (fun i hi => hI i hi (b1 i hi).1)]
      rfl
    | succ r ih =>
      intro k n hk hn hI
      obtain ⟨n, rfl⟩ := z_suc hn
      have e1 : nI k + (1 : Int32) = nI (k + 1) := nI_1 k
      rw [bX9_isRight_2]
      refine (if_neg (nI_ge (a := k) (b := 8) (by omega) (by omega))).trans ?_
      rw [z_ki (by omega) (by omega), z_cl (by omega)]
      unfold bX9_isRight_46
      rw [e1]
      by_cases z : ∀ i, i < L → (bk i).1 ≠ k
      · rw [if_pos (b2 k (by omega) z)]
        exact ih (k + 1) n (by omega) (by omega) (fun i hi hlt => hI i hi (by have := z i hi; omega))
      · obtain ⟨i0, hi0⟩ := Classical.not_forall.mp z
        obtain ⟨hL, hne⟩ := Classical.not_imp.mp hi0
        have hk0 : (bk i0).1 = k := Classical.not_not.mp hne
        obtain ⟨g1, g2, g3⟩ := b1 i0 hL
        rw [hk0] at g3
        have hm1 : ¬ a59 k = -1 := by
          rw [g3]
          exact (show ∀ m, m ≤ 6 → ¬ nI m = (-1 : Int32) by decide) _ g2
        rw [if_neg hm1]
        have hfalse : ¬ ((bk i0).1 < pW p ∧ tp p (nI (bk i0).1 - s).toInt = (bk i0).2) → (zB (ftA p bk s L)) = (0 : Int32) := by
          intro hn
          have : ftA p bk s L = false := by
            cases hf : ftA p bk s L with
            | false => rfl
            | true => exact absurd ((ftA_iff p bk s L).mp hf i0 hL) hn
          rw [this]; rfl
        by_cases hw : k < pW p
        · rw [if_neg (nI_ge hw (by omega)), x_heard P hK (by omega), z_b, z_ki (by omega) (by omega), g3]
          by_cases ht : tp p (nI k - s).toInt = (bk i0).2
          · rw [if_pos (by rw [ht])]
            refine ih (k + 1) n (by omega) (by omega) (fun i hi hlt => ?_)
            by_cases y : (bk i).1 = k
            · have : bk i = bk i0 ∨ True := Or.inr trivial
              refine ⟨by omega, ?_⟩
              have h5 := (b1 i hi).2.2
              rw [y, g3] at h5
              have h7 := (b1 i hi).2.1
              have h9 : (bk i0).2 = (bk i).2 := (nI_eq (by omega) (by omega)).mp h5
              rw [y, ht, h9]
            · exact hI i hi (by omega)
          · have hle := tp_le p (nI k - s).toInt
            rw [if_neg (fun w => ht ((nI_eq (by omega) (by omega)).mp w)), hfalse (fun w => ht (by have := w.2; rw [hk0] at this; exact this))]
        · rw [if_pos (nI_le (by omega) (by omega)), hfalse (fun w => hw (by have := w.1; rw [hk0] at this; exact this))]
  exact key 8 0 u (by omega) (by omega) (fun i hi hlt => absurd hlt (Nat.not_lt_zero _))
theorem x_fits {p : aP} (P : pOK p) {a4 a59 : Nat → Int32} (hK : ∀ c, c < 48 → a4 c = nI (pK p c)) (hu : 20 ≤ u) {L : Nat} {bk : Nat → Nat × Nat} (b1 : ∀ i, i < L → (bk i).1 < 8 ∧ (bk i).2 ≤ 6 ∧ a59 (bk i).1 = nI (bk i).2) (b2 : ∀ x, x < 8 → (∀ i, i < L → (bk i).1 ≠ x) → a59 x = -1) :
    f_X9_fitting u a59 (nI (pW p)) (nI (pH p)) a4 = some (fitV (fun s => ftA p bk s L) 15) := by
  have key : ∀ r k n, k + r = 15 → r < n → bX9_fitting_5 u a59 (nI (pW p)) (nI (pH p)) a4 n (fitV (fun s => ftA p bk s L) k) (sv k) = some (fitV (fun s => ftA p bk s L) 15) := by
    intro r
    induction r with
    | zero =>
      intro k n hk hn
      obtain ⟨n, rfl⟩ := z_suc hn
      obtain rfl : k = 15 := by omega
      rw [bX9_fitting_5]
      exact if_pos sv_15
    | succ r ih =>
      intro k n hk hn
      obtain ⟨n, rfl⟩ := z_suc hn
      rw [bX9_fitting_5]
      refine (if_neg (sv_lt k (by omega))).trans ?_
      rw [x_isRight P hK hu b1 b2 (sv k), z_b]
      unfold bX9_fitting_28
      rw [sv_1 k (by omega), sv_7 k (by omega)]
      have := ih (k + 1) n (by omega) (by omega)
      have st : fitV (fun s => ftA p bk s L) (k + 1) = if ftA p bk (sv k) L then fitV (fun s => ftA p bk s L) k ||| ((1 : Int32) <<< (nI k &&& 31)) else fitV (fun s => ftA p bk s L) k := rfl
      rw [st] at this
      cases hf : ftA p bk (sv k) L with
      | true => rw [if_neg (show ¬ zB true = (0 : Int32) from d_10)]; rw [hf] at this; exact this
      | false => rw [if_pos (show zB false = (0 : Int32) from rfl)]; rw [hf] at this; exact this
  have := key 15 0 u (by omega) (by omega)
  rw [sv_0] at this
  exact this
theorem m_fits {p : aP} (P : pOK p) {a7 a26 : Nat → Int32} (hK : ∀ c, c < 48 → a7 c = nI (pK p c)) (hu : 20 ≤ u) {L : Nat} (hL : L ≤ 8) {bk : Nat → Nat × Nat} (b1 : ∀ i, i < L → (bk i).1 < 8 ∧ (bk i).2 ≤ 6 ∧ a26 (2 * i) = nI (bk i).1 ∧ a26 (2 * i + 1) = nI (bk i).2) :
    f_X11_fitsNow u (nI (pW p)) (nI (pH p)) (nI L) a7 a26 = some (fitV (fun s => ftA p bk s L) 15) := by
  have h8 := P.1.2
  have h6 := P.2.1.2
  have row : ∀ (k5 : Int32 → Int32 → Option Int32) (v1 : Int32) (q : Nat), q < 15 → ∀ r k n, k + r = L → r < n → bX11_fitsNow_16 u (nI (pW p)) (nI (pH p)) (nI L) a7 a26 k5 n v1 (sv q) (zB (ftA p bk (sv q) k)) (nI k) = k5 (if ftA p bk (sv q) L then v1 ||| ((1 : Int32) <<< (nI q &&& 31)) else v1) (sv (q + 1)) := by
    intro k5 v1 q hq r
    induction r with
    | zero =>
      intro k n hk hn
      obtain ⟨n, rfl⟩ := z_suc hn
      obtain rfl : k = L := by omega
      rw [bX11_fitsNow_16]
      refine (if_pos (nI_le (Nat.le_refl _) (by omega))).trans ?_
      unfold bX11_fitsNow_101
      rw [sv_1 q hq, sv_7 q hq]
      cases hf : ftA p bk (sv q) k with
      | true => rw [if_neg (show ¬ zB true = (0 : Int32) from d_10)]; rfl
      | false => rw [if_pos (show zB false = (0 : Int32) from rfl), Int32.or_zero]; rfl
    | succ r ih =>
      intro k n hk hn
      obtain ⟨n, rfl⟩ := z_suc hn
      have e1 : nI k + (1 : Int32) = nI (k + 1) := nI_1 k
      have e2 : (2 : Int32) * nI k = nI (2 * k) := (Int32.ofNat_mul 2 k).symm
      have e3 : nI (2 * k) + (1 : Int32) = nI (2 * k + 1) := nI_1 _
      obtain ⟨g1, g2, g3, g4⟩ := b1 k (by omega)
      have st : ftA p bk (sv q) (k + 1) = (ftA p bk (sv q) k && (decide ((bk k).1 < pW p) && decide (tp p (nI (bk k).1 - sv q).toInt = (bk k).2))) := rfl
      have nx := ih (k + 1) n (by omega) (by omega)
      rw [bX11_fitsNow_16, e2, e3]
      refine (if_neg (nI_ge (a := k) (b := L) (by omega) (by omega))).trans ?_
      unfold bX11_fitsNow_78 bX11_fitsNow_79
      rw [e1]
      have no : ftA p bk (sv q) (k + 1) = false → bX11_fitsNow_16 u (nI (pW p)) (nI (pH p)) (nI L) a7 a26 k5 n v1 (sv q) (0 : Int32) (nI (k + 1)) = k5 (if ftA p bk (sv q) L then v1 ||| ((1 : Int32) <<< (nI q &&& 31)) else v1) (sv (q + 1)) := by
        intro hf
        rw [hf] at nx
        exact nx
      cases hf : ftA p bk (sv q) k with
      | false =>
        rw [if_pos (show zB false = (0 : Int32) from rfl)]
        exact no (by rw [st, hf]; rfl)
      | true =>
        rw [if_neg (show ¬ zB true = (0 : Int32) from d_10), z_ki (by omega) (by omega), z_cl (by omega), g3]
        by_cases hw : (bk k).1 < pW p
        · have hcol : f_X11_isColumn u (nI (pW p)) (nI (bk k).1) = some (1 : Int32) := by
            rcases d_col (u := u) h8 (nI (bk k).1) with ⟨i, hi, hx, -, e⟩ | ⟨e, -⟩
            · exact e
            · exfalso
              unfold f_X10_isColumn bX10_isColumn_0 at e
              rw [if_neg (nI_pos (by omega)), if_neg (nI_ge hw (by omega))] at e
              exact absurd e (by decide)
          rw [hcol, z_b, if_neg d_10, z_ki (by omega) (by omega), m_tapAt P hK (by omega), z_b, z_ki (by omega) (by omega), z_cl (by omega), g4]
          by_cases ht : tp p (nI (bk k).1 - sv q).toInt = (bk k).2
          · rw [if_pos (by rw [ht])]
            have : ftA p bk (sv q) (k + 1) = true := by rw [st, hf, decide_eq_true hw, decide_eq_true ht]; rfl
            rw [this] at nx
            exact nx
          · have hle := tp_le p (nI (bk k).1 - sv q).toInt
            rw [if_neg (fun w => ht ((nI_eq (by omega) (by omega)).mp w))]
            exact no (by rw [st, decide_eq_false ht, Bool.and_false, Bool.and_false])
        · have hcol : f_X11_isColumn u (nI (pW p)) (nI (bk k).1) = some (0 : Int32) := by
            rcases d_col (u := u) h8 (nI (bk k).1) with ⟨i, hi, hx, -, e⟩ | ⟨-, e⟩
            · exact absurd ((nI_eq (by omega) (by omega)).mp hx) (by omega)
            · exact e
          rw [hcol, z_b, if_pos rfl]
          exact no (by rw [st, decide_eq_false hw, Bool.false_and, Bool.and_false])
  have key : ∀ r k n, k + r = 15 → r < n → bX11_fitsNow_5 u (nI (pW p)) (nI (pH p)) (nI L) a7 a26 n (fitV (fun s => ftA p bk s L) k) (sv k) = some (fitV (fun s => ftA p bk s L) 15) := by
    intro r
    induction r with
    | zero =>
      intro k n hk hn
      obtain ⟨n, rfl⟩ := z_suc hn
      obtain rfl : k = 15 := by omega
      rw [bX11_fitsNow_5]
      exact if_pos sv_15
    | succ r ih =>
      intro k n hk hn
      obtain ⟨n, rfl⟩ := z_suc hn
      rw [bX11_fitsNow_5]
      refine (if_neg (sv_lt k (by omega))).trans ?_
      have e := row (bX11_fitsNow_5 u (nI (pW p)) (nI (pH p)) (nI L) a7 a26 n) (fitV (fun s => ftA p bk s L) k) k (by omega) L 0 u (by omega) (by omega)
      refine Eq.trans e ?_
      exact ih (k + 1) n (by omega) (by omega)
  have := key 15 0 u (by omega) (by omega)
  rw [sv_0] at this
  exact this
theorem n_23 (hu : 700 ≤ u) (R : Rel S h) : N_23 u h := by
  obtain ⟨-, ⟨P, ⟨xw, xh, xa, xs, xc, xo, xk, xp, xor⟩, ⟨mw, mh, ms, mc, mo, mk, mp, mor⟩⟩, -, -, ⟨bL, b1, b2, b3, b4, b5⟩, -, -⟩ := R
  unfold N_23
  rw [xw, xh, mw, mh, b2]
  unfold f_X10_fits bX10_fits_0 f_X11_fits bX11_fits_0
  rw [x_fits P xk.1 (by omega) (fun i hi => ⟨(b3 i hi).1, (b3 i hi).2.1, (b3 i hi).2.2.2.2⟩) b5, z_b, m_fits P mk.1 (by omega) bL (fun i hi => ⟨(b3 i hi).1, (b3 i hi).2.1, (b3 i hi).2.2.1, (b3 i hi).2.2.2.1⟩), z_b]
  exact ⟨_, _, rfl, rfl, rfl⟩
end NQ7
