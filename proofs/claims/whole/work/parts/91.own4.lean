/-! OWNERS, the reference: the same counts -/
def oM (s : oS) (v4 v5 : Int32) : Prop := v4 = nI s.1 ∧ v5 = (if s.1 = 0 then -nI 1 else nI (100 * s.2.1 + s.2.2))
theorem oM_c {s : oS} {a b : Nat} {v4 v5 : Int32} (h : oM s v4 v5) (hs : s.1 ≤ 1000) (hr : s.2.1 ≤ 20 ∧ s.2.2 ≤ 20) : oM (cntS s a b) (v4 + (1 : Int32)) (if v5 = -nI 1 then nI (100 * a + b) else v5) := by
  obtain ⟨rfl, rfl⟩ := h
  have e1 : nI s.1 + (1 : Int32) = nI (s.1 + 1) := nI_1 s.1
  rw [e1]
  by_cases z : s.1 = 0
  · have c : cntS s a b = (1, a, b) := if_pos z
    rw [c, if_pos z, if_pos rfl, z]
    exact ⟨rfl, rfl⟩
  · have c : cntS s a b = (s.1 + 1, s.2) := if_neg z
    have ne : ¬ nI (100 * s.2.1 + s.2.2) = -nI 1 := by
      rw [z_em (by omega) (by omega)]; omega
    rw [c, if_neg z, if_neg ne]
    exact ⟨rfl, (if_neg (Nat.succ_ne_zero _)).symm⟩
section OWN4
variable {u : Nat}
theorem m_cntB {P n a k : Nat} {s : oS} {a9 : Nat → Int32} {c0 v3 : Int32} (hk : k < 5) (hP : P ≤ 99) (h9 : a9 k = nI P) (hn : n ≤ 20) (ha : a ≤ n) (hu : 60 ≤ u) (hs : s.1 ≤ 500) (hr : s.2.1 ≤ 20 ∧ s.2.2 ≤ 20) {k58 : Int32 → (Nat → Int32) → Int32 → Int32 → Int32 → Int32 → Int32 → Int32 → Option (Int32 × Int32 × (Nat → Int32))} {a1 : Nat → Int32} :
    ∀ r b m v4 v5, b + r = n + 1 → r < m → oM (scB P n a s b) v4 v5 → ∃ d4 d5, bX11_owners_67 u a9 k58 m c0 a1 (nI k) (nI n) v3 v4 v5 (nI a) (nI b) = k58 c0 a1 (nI k) (nI n) v3 d4 d5 (nI (a + 1)) ∧ oM (scB P n a s (n + 1)) d4 d5 := by
  intro r
  induction r with
  | zero =>
    intro b m v4 v5 hb hm h
    obtain ⟨m, rfl⟩ := z_suc hm
    have ea : nI a + (1 : Int32) = nI (a + 1) := nI_1 a
    refine ⟨v4, v5, ?_, by rw [show n + 1 = b by omega]; exact h⟩
    rw [bX11_owners_67]
    refine (if_pos (nI_lt (a := n) (b := b) (by omega) (by omega))).trans ?_
    rw [ea]
  | succ r ih =>
    intro b m v4 v5 hb hm h
    obtain ⟨m, rfl⟩ := z_suc hm
    have eb : nI b + (1 : Int32) = nI (b + 1) := nI_1 b
    have sl := scB_le P n a s b
    have sr := scB_r (P := P) (n := n) (show a ≤ 20 by omega) hr b (by omega)
    rw [bX11_owners_67]
    have goon : ∀ d4 d5, oM (scB P n a s (b + 1)) d4 d5 → ∃ e4 e5, bX11_owners_126 u a9 k58 (bX11_owners_67 u a9 k58 m) c0 a1 (nI k) (nI n) v3 d4 d5 (nI a) (nI b) = k58 c0 a1 (nI k) (nI n) v3 e4 e5 (nI (a + 1)) ∧ oM (scB P n a s (n + 1)) e4 e5 := by
      intro d4 d5 hd
      unfold bX11_owners_126
      rw [eb]
      exact ih (b + 1) m d4 d5 (by omega) (by omega) hd
    have same : restB P n a b = false → oM (scB P n a s (b + 1)) v4 v5 := by
      intro q
      rw [scB_s, q]
      exact h
    have go : ∀ {x y : Option (Int32 × Int32 × (Nat → Int32))} {o : oS}, x = y → (∃ d4 d5, y = k58 c0 a1 (nI k) (nI n) v3 d4 d5 (nI (a + 1)) ∧ oM o d4 d5) → ∃ d4 d5, x = k58 c0 a1 (nI k) (nI n) v3 d4 d5 (nI (a + 1)) ∧ oM o d4 d5 := fun e h => e ▸ h
    refine go (if_neg (nI_nlt (a := n) (b := b) (by omega) (by omega))) ?_
    rw [m_isBest hk hP h9 ha (by omega) hn hu, z_b]
    by_cases q : rstB P n a b = true
    · rw [q]
      refine go (if_neg (show ¬ zB true = (0 : Int32) by decide)) ?_
      rw [m_isBest hk hP h9 (by omega) (by omega) hn hu, z_b]
      by_cases q2 : rstB P n b a = true
      · rw [q2]
        refine go (if_neg (show ¬ zB true = (0 : Int32) by decide)) ?_
        have c := oM_c (a := a) (b := b) h (by omega) sr
        have hh : oM (scB P n a s (b + 1)) (v4 + (1 : Int32)) (if v5 = -nI 1 then nI (100 * a + b) else v5) := by
          rw [scB_s, show restB P n a b = true by unfold restB; rw [q, q2]; rfl]
          exact c
        have ec : ((100 : Int32) * nI a) + nI b = nI (100 * a + b) := by rw [show (100 : Int32) = nI 100 from rfl, pk_mul, nI_add]
        rw [ec]
        by_cases q5 : v5 = -nI 1
        · rw [if_pos q5] at hh
          refine go (if_pos q5) ?_
          exact goon _ _ hh
        · rw [if_neg q5] at hh
          refine go (if_neg q5) ?_
          exact goon _ _ hh
      · have q3 : rstB P n b a = false := by cases h : rstB P n b a <;> first | rfl | exact absurd h q2
        rw [q3]
        refine go (if_pos (show zB false = (0 : Int32) from rfl)) ?_
        exact goon _ _ (same (by unfold restB; rw [q, q3]; rfl))
    · have q3 : rstB P n a b = false := by cases h : rstB P n a b <;> first | rfl | exact absurd h q
      rw [q3]
      refine go (if_pos (show zB false = (0 : Int32) from rfl)) ?_
      exact goon _ _ (same (by unfold restB; rw [q3]; rfl))
/-- the reference's answer from the counts -/
def oA (P : Nat) (s : oS) (w : Nat) : Int32 := if w = 0 then nI s.1 else if w = 1 then (if s.1 = 0 then -nI 1 else nI (100 * s.2.1 + s.2.2)) else if s.1 = 0 then nI 0 else nI (gts P s.2.1 s.2.2)
theorem m_cntA {P n k w : Nat} {a9 : Nat → Int32} {c0 : Int32} (hk : k < 5) (hP : P ≤ 99) (h9 : a9 k = nI P) (hn : n ≤ 20) (hu : 60 ≤ u) (hw : w ≤ 2) {a1 : Nat → Int32} :
    ∀ r a m v4 v5, a + r = n + 1 → r < m → oM (scA P n a) v4 v5 → bX11_owners_58 u a9 m c0 a1 (nI k) (nI n) (nI w) v4 v5 (nI a) = some (oA P (scA P n (n + 1)) w, c0, a1) := by
  intro r
  induction r with
  | zero =>
    intro a m v4 v5 hb hm h
    obtain ⟨m, rfl⟩ := z_suc hm
    have en : a = n + 1 := by omega
    subst en
    obtain ⟨rfl, rfl⟩ := h
    have sr := scA_r P hn (n + 1) (by omega)
    rw [bX11_owners_58]
    refine (if_pos (nI_lt (a := n) (b := n + 1) (by omega) (by omega))).trans ?_
    have w3 : w = 0 ∨ w = 1 ∨ w = 2 := by omega
    rcases w3 with rfl | rfl | rfl
    · exact if_pos rfl
    · refine (if_neg (show ¬ nI 1 = (0 : Int32) by decide)).trans ?_
      exact if_pos rfl
    · refine (if_neg (show ¬ nI 2 = (0 : Int32) by decide)).trans ?_
      refine (if_neg (show ¬ nI 2 = (1 : Int32) by decide)).trans ?_
      by_cases z : (scA P n (n + 1)).1 = 0
      · rw [if_pos z, show oA P (scA P n (n + 1)) 2 = nI 0 from if_pos z]
        exact if_pos rfl
      · rw [if_neg z, show oA P (scA P n (n + 1)) 2 = nI (gts P (scA P n (n + 1)).2.1 (scA P n (n + 1)).2.2) from if_neg z]
        generalize scA P n (n + 1) = s at *
        refine (if_neg (show ¬ nI (100 * s.2.1 + s.2.2) = -nI 1 by rw [z_em (by omega) (by omega)]; omega)).trans ?_
        rw [show (100 : Int32) = nI 100 from rfl, z_rem (by omega) (by omega) (by omega), z_div (by omega) (by omega) (by omega), show (100 * s.2.1 + s.2.2) / 100 = s.2.1 by omega, show (100 * s.2.1 + s.2.2) % 100 = s.2.2 by omega, m_getsOf hk hP h9 (by omega) (by omega), z_b]
  | succ r ih =>
    intro a m v4 v5 hb hm h
    obtain ⟨m, rfl⟩ := z_suc hm
    have sl := scA_le P hn a
    have sr := scA_r P hn a (by omega)
    obtain ⟨d4, d5, e, hd⟩ := m_cntB (u := u) (s := scA P n a) (k58 := bX11_owners_58 u a9 m) (c0 := c0) (v3 := nI w) (a1 := a1) hk hP h9 hn (show a ≤ n by omega) hu (by omega) sr (n + 1) 0 u v4 v5 (by omega) (by omega) h
    rw [bX11_owners_58]
    refine (if_neg (nI_nlt (a := n) (b := a) (by omega) (by omega))).trans ?_
    exact e.trans (ih (a + 1) m d4 d5 (by omega) (by omega) hd)
end OWN4
