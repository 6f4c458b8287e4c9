/-! OWNERS, the reference's whole method -/
section OWN5
variable {u : Nat}
theorem m_ownN {a1 a9 : Nat → Int32} {v1 v2 v3 : Int32} : bX11_owners_38 u a9 (0 : Int32) a1 v1 v2 v3 = some (nI 0, nI 1, upd a1 2 (a1 2 + (1 : Int32))) := by
  unfold bX11_owners_38 bX11_owners_39
  have h := m_may (u := u) false (1 : Int32) (by decide) (k := 2) (by omega) a1
  have h2 : f_X11_may u (0 : Int32) a1 (0 : Int32) (1 : Int32) (2 : Int32) = some (nI 0, nI 1, upd a1 2 (a1 2 + (1 : Int32))) := h
  rw [h2, z_b]
  exact if_pos rfl
theorem m_ownersN {a1 a9 : Nat → Int32} {c0 v1 v2 v3 : Int32} (h : ((decide ((1 : Int32) ≤ v1) && decide (v1 ≤ (4 : Int32))) && (decide ((0 : Int32) ≤ v2) && decide (v2 ≤ (20 : Int32))) && (decide ((0 : Int32) ≤ v3) && decide (v3 ≤ (2 : Int32)))) = false) :
    f_X11_owners u c0 a1 a9 v1 v2 v3 = some (nI 0, nI 1, upd a1 2 (a1 2 + (1 : Int32))) := by
  unfold f_X11_owners bX11_owners_0
  rw [m_within, z_b]
  generalize (decide ((1 : Int32) ≤ v1) && decide (v1 ≤ (4 : Int32))) = b1 at *
  cases b1 with
  | false => exact (if_pos (show zB false = (0 : Int32) from rfl)).trans m_ownN
  | true =>
    refine (if_neg (show ¬ zB true = (0 : Int32) by decide)).trans ?_
    rw [m_within, z_b]
    generalize (decide ((0 : Int32) ≤ v2) && decide (v2 ≤ (20 : Int32))) = b2 at *
    cases b2 with
    | false => exact (if_pos (show zB false = (0 : Int32) from rfl)).trans m_ownN
    | true =>
      refine (if_neg (show ¬ zB true = (0 : Int32) by decide)).trans ?_
      rw [m_within, z_b]
      generalize (decide ((0 : Int32) ≤ v3) && decide (v3 ≤ (2 : Int32))) = b3 at *
      cases b3 with
      | false => exact (if_pos (show zB false = (0 : Int32) from rfl)).trans m_ownN
      | true => exact absurd h (by decide)
theorem m_wi {lo hi k : Nat} (h1 : lo ≤ k) (h2 : k ≤ hi) (h3 : hi < 2147483648) : (decide (nI lo ≤ nI k) && decide (nI k ≤ nI hi)) = true := by
  rw [decide_eq_true (nI_le h1 (by omega)), decide_eq_true (nI_le h2 h3)]
  rfl
theorem m_ownersY {P n k w : Nat} {a1 a9 : Nat → Int32} {c0 : Int32} (h0 : 1 ≤ k) (hk : k ≤ 4) (hP : P ≤ 99) (h9 : a9 k = nI P) (hn : n ≤ 20) (hu : 60 ≤ u) (hw : w ≤ 2) :
    f_X11_owners u c0 a1 a9 (nI k) (nI n) (nI w) = some (oA P (scA P n (n + 1)) w, nI 0, a1) := by
  unfold f_X11_owners bX11_owners_0
  have w1 : f_X11_within u (nI k) (1 : Int32) (4 : Int32) = some (zB true) := (m_within _ _ _).trans (by rw [show (1 : Int32) = nI 1 from rfl, show (4 : Int32) = nI 4 from rfl, m_wi h0 hk (by omega)])
  have w2 : f_X11_within u (nI n) (0 : Int32) (20 : Int32) = some (zB true) := (m_within _ _ _).trans (by rw [show (0 : Int32) = nI 0 from rfl, show (20 : Int32) = nI 20 from rfl, m_wi (Nat.zero_le _) hn (by omega)])
  have w3 : f_X11_within u (nI w) (0 : Int32) (2 : Int32) = some (zB true) := (m_within _ _ _).trans (by rw [show (0 : Int32) = nI 0 from rfl, show (2 : Int32) = nI 2 from rfl, m_wi (Nat.zero_le _) hw (by omega)])
  rw [w1, z_b]
  refine (if_neg (show ¬ zB true = (0 : Int32) by decide)).trans ?_
  rw [w2, z_b]
  refine (if_neg (show ¬ zB true = (0 : Int32) by decide)).trans ?_
  rw [w3, z_b]
  refine (if_neg (show ¬ zB true = (0 : Int32) by decide)).trans ?_
  unfold bX11_owners_39
  have h := m_may (u := u) true (1 : Int32) (by decide) (k := 2) (by omega) a1
  have h2 : f_X11_may u (0 : Int32) a1 (1 : Int32) (1 : Int32) (2 : Int32) = some (nI 1, nI 0, a1) := h
  rw [h2, z_b]
  refine (if_neg (show ¬ nI 1 = (0 : Int32) by decide)).trans ?_
  exact m_cntA (by omega) hP h9 hn hu hw (n + 1) 0 u (0 : Int32) (-1 : Int32) (by omega) (by omega) ⟨rfl, rfl⟩
end OWN5
