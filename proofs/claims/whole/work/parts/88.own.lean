/-! OWNERS: what one gets; whether none of 0 to n gets more -/
def gts (P a b : Nat) : Nat := a * (P - a - b)
def mxg (P b : Nat) : Nat → Nat
  | 0 => 0
  | n + 1 => if mxg P b n < gts P n b then gts P n b else mxg P b n
/-- nobody gets more by another number up to n -/
def rstB (P n a b : Nat) : Bool := decide (gts P a b = mxg P b (n + 1))
theorem gts_le {P a b : Nat} (hP : P ≤ 99) (ha : a ≤ 20) : gts P a b ≤ 1980 := by
  unfold gts
  have := Nat.mul_le_mul ha (show P - a - b ≤ 99 by omega)
  omega
theorem mxg_ge (P b : Nat) : ∀ n k, k < n → gts P k b ≤ mxg P b n
  | 0, k, h => absurd h (Nat.not_lt_zero k)
  | n + 1, k, h => by
    unfold mxg
    by_cases e : k = n
    · subst e; split <;> omega
    · have := mxg_ge P b n k (by omega)
      split <;> omega
theorem mxg_at (P b : Nat) : ∀ n, 0 < n → ∃ k, k < n ∧ mxg P b n = gts P k b
  | 0, h => absurd h (Nat.lt_irrefl 0)
  | n + 1, _ => by
    unfold mxg
    by_cases q : mxg P b n < gts P n b
    · exact ⟨n, by omega, by rw [if_pos q]⟩
    · rw [if_neg q]
      by_cases z : n = 0
      · subst z
        refine ⟨0, by omega, ?_⟩
        show 0 = gts P 0 b
        unfold gts
        rw [Nat.zero_mul]
      · obtain ⟨k, h1, h2⟩ := mxg_at P b n (by omega)
        exact ⟨k, by omega, h2⟩
theorem mxg_le {P b : Nat} (hP : P ≤ 99) : ∀ n, n ≤ 21 → mxg P b n ≤ 1980
  | 0, _ => Nat.zero_le _
  | n + 1, h => by
    have := mxg_le (b := b) hP n (by omega)
    have := gts_le (b := b) hP (show n ≤ 20 by omega)
    unfold mxg
    split <;> omega
section OWN
variable {u : Nat}
theorem gs_eq {P a b : Nat} (hP : P ≤ 99) (ha : a ≤ 20) (hb : b ≤ 20) : (0 < a + b → True) ∧ ((nI P - nI a - nI b : Int32) ≤ 0 ↔ P ≤ a + b) ∧ (¬ P ≤ a + b → nI P - nI a - nI b = nI (P - a - b)) := by
  refine ⟨fun _ => trivial, ?_, ?_⟩
  · have e : nI P - nI a - nI b = zI ((P : Int) - a - b) := by rw [zI_n, zI_n, zI_n, zI_sub, zI_sub]
    rw [e, show (0 : Int32) = zI 0 from rfl, zI_le (by omega) (by omega) (by omega) (by omega)]
    omega
  · intro h
    rw [z_sub (by omega), z_sub (by omega)]
theorem x_gets {P a b : Nat} (hP : P ≤ 99) (ha : a ≤ 20) (hb : b ≤ 20) : f_X2_gets u (nI P) (nI a) (nI b) = some (nI (gts P a b)) := by
  obtain ⟨-, h1, h2⟩ := gs_eq hP ha hb
  unfold f_X2_gets bX2_gets_0 gts
  by_cases q : P ≤ a + b
  · have e : (if (0 : Int32) < nI P - nI a - nI b then nI P - nI a - nI b else (0 : Int32)) = nI 0 := if_neg (fun h => (fa_of_lt h).2.1 (h1.mpr q))
    rw [e, pk_mul, show P - a - b = 0 by omega]
  · have e : (if (0 : Int32) < nI P - nI a - nI b then nI P - nI a - nI b else (0 : Int32)) = nI (P - a - b) := (if_pos (fa_of_nle (fun h => q (h1.mp h)))).trans (h2 q)
    rw [e, pk_mul]
theorem m_getsOf {P a b k : Nat} {a9 : Nat → Int32} (hk : k < 5) (hP : P ≤ 99) (h9 : a9 k = nI P) (ha : a ≤ 20) (hb : b ≤ 20) : f_X11_getsOf u a9 (nI k) (nI a) (nI b) = some (nI (gts P a b)) := by
  obtain ⟨-, h1, h2⟩ := gs_eq hP ha hb
  unfold f_X11_getsOf bX11_getsOf_0 gts
  rw [z_ki (by omega) (by omega), z_cl (by omega), h9]
  by_cases q : P ≤ a + b
  · refine (if_pos (h1.mpr q)).trans ?_
    rw [show P - a - b = 0 by omega, Nat.mul_zero]
    rfl
  · refine (if_neg (fun h => q (h1.mp h))).trans ?_
    rw [h2 q, pk_mul]
theorem m_isBest {P a b k n : Nat} {a9 : Nat → Int32} (hk : k < 5) (hP : P ≤ 99) (h9 : a9 k = nI P) (ha : a ≤ n) (hb : b ≤ 20) (hn : n ≤ 20) (hu : 60 ≤ u) : f_X11_isBest u a9 (nI k) (nI a) (nI b) (nI n) = some (zB (rstB P n a b)) := by
  have top := mxg_ge P b (n + 1) a (by omega)
  have g0 := gts_le (b := b) hP (show a ≤ 20 by omega)
  have key : ∀ r j, j + r = n + 1 → (∀ i, i < j → gts P i b ≤ gts P a b) → ∀ m, r < m → bX11_isBest_3 u a9 m (nI k) (nI a) (nI b) (nI n) (nI j) = some (zB (rstB P n a b)) := by
    intro r
    induction r with
    | zero =>
      intro j hj hi m hm
      obtain ⟨m, rfl⟩ := z_suc hm
      rw [bX11_isBest_3]
      refine (if_pos (nI_lt (a := n) (b := j) (by omega) (by omega))).trans ?_
      obtain ⟨i, h1, h2⟩ := mxg_at P b (n + 1) (by omega)
      have := hi i (by omega)
      unfold rstB
      rw [decide_eq_true (by omega)]
      rfl
    | succ r ih =>
      intro j hj hi m hm
      obtain ⟨m, rfl⟩ := z_suc hm
      have e1 : nI j + (1 : Int32) = nI (j + 1) := nI_1 j
      have gj := gts_le (b := b) hP (show j ≤ 20 by omega)
      rw [bX11_isBest_3]
      refine (if_neg (nI_nlt (a := n) (b := j) (by omega) (by omega))).trans ?_
      rw [m_getsOf hk hP h9 (by omega) hb, z_b, m_getsOf hk hP h9 (by omega) hb, z_b, e1]
      by_cases q : gts P j b ≤ gts P a b
      · refine (if_pos (nI_le q (by omega))).trans ?_
        exact ih (j + 1) (by omega) (fun i h => by
          by_cases e : i = j
          · subst e; exact q
          · exact hi i (by omega)) m (by omega)
      · refine (if_neg (nI_ge (a := gts P a b) (b := gts P j b) (by omega) (by omega))).trans ?_
        have := mxg_ge P b (n + 1) j (by omega)
        unfold rstB
        rw [decide_eq_false (by omega)]
        rfl
  exact key (n + 1) 0 (by omega) (fun i h => absurd h (Nat.not_lt_zero i)) u (by omega)
end OWN
