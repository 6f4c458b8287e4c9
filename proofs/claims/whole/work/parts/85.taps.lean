/-! TAPS: what a column says -/
section TAPS
/-- the first cell with music of column x from y on, r left; the height without -/
def tpc (p : aP) (x : Nat) : Nat → Nat → Nat
  | 0, _ => pH p
  | r + 1, y => if 1 ≤ pK p (8 * y + x) ∧ pK p (8 * y + x) ≤ 4 then y else tpc p x r (y + 1)
def tp (p : aP) (z : Int) : Nat := if 0 ≤ z ∧ z < (pW p : Int) then tpc p z.toNat (pH p) 0 else pH p
variable {u : Nat} {p : aP} {a4 : Nat → Int32}
theorem tpc_le (p : aP) (x : Nat) : ∀ r y, y + r = pH p → tpc p x r y ≤ pH p
  | 0, _, _ => Nat.le_refl _
  | r + 1, y, h => by
    have := tpc_le p x r (y + 1) (by omega)
    unfold tpc
    split <;> omega
theorem tp_le (p : aP) (z : Int) : tp p z ≤ pH p := by
  unfold tp
  split
  · exact tpc_le p _ (pH p) 0 (by omega)
  · exact Nat.le_refl _
theorem x_music (k : Nat) (hk : k ≤ 5) : f_X10_isMusic u (nI k) = some (zB (decide (1 ≤ k ∧ k ≤ 4))) := by
  unfold f_X10_isMusic bX10_isMusic_0
  by_cases a : k < 1
  · refine (if_pos (nI_lt (b := 1) a (by omega))).trans ?_
    rw [show decide (1 ≤ k ∧ k ≤ 4) = false from decide_eq_false (by omega)]
    rfl
  · refine (if_neg (nI_nlt (a := k) (b := 1) (by omega) (by omega))).trans ?_
    by_cases b : 4 < k
    · refine (if_pos (nI_lt (a := 4) b (by omega))).trans ?_
      rw [show decide (1 ≤ k ∧ k ≤ 4) = false from decide_eq_false (by omega)]
      rfl
    · refine (if_neg (nI_nlt (a := 4) (b := k) (by omega) (by omega))).trans ?_
      rw [show decide (1 ≤ k ∧ k ≤ 4) = true from decide_eq_true (by omega)]
      rfl
theorem x_heard (P : pOK p) (hK : ∀ c, c < 48 → a4 c = nI (pK p c)) (hu : 10 ≤ u) (x s : Int32) : f_X9_heard u (nI (pW p)) (nI (pH p)) a4 x s = some (nI (tp p (x - s).toInt)) := by
  have hW := P.1.2
  have hH := P.2.1.2
  unfold f_X9_heard bX9_heard_0 tp
  by_cases h0 : x - s < 0
  · refine (if_pos h0).trans ?_
    rw [fa_lt] at h0
    rw [if_neg (fun h => by have h2 : (0 : Int32).toInt = 0 := by decide
                            omega)]
  · refine (if_neg h0).trans ?_
    obtain ⟨j, hj, e⟩ := nI_of h0
    rw [e, nI_toInt hj]
    by_cases h1 : j < pW p
    · refine (if_pos (nI_lt h1 (by omega))).trans ?_
      rw [if_pos ⟨by omega, by omega⟩, Int.toNat_natCast]
      have key : ∀ r y, y + r = pH p → ∀ n, r < n → bX9_heard_30 u (nI (pW p)) (nI (pH p)) a4 n (nI j) (nI y) = some (nI (tpc p j r y)) := by
        intro r
        induction r with
        | zero =>
          intro y hy n hn
          obtain ⟨n, rfl⟩ := z_suc hn
          rw [bX9_heard_30]
          exact if_pos (nI_le (a := pH p) (b := y) (by omega) (by omega))
        | succ r ih =>
          intro y hy n hn
          obtain ⟨n, rfl⟩ := z_suc hn
          have e8 : (8 : Int32) * nI y + nI j = nI (8 * y + j) := by rw [show (8 : Int32) = nI 8 from rfl, pk_mul, nI_add]
          have e1 : nI y + (1 : Int32) = nI (y + 1) := nI_1 y
          have hk := (P.2.2.2.2.2.1 (8 * y + j) (by omega)).1
          rw [bX9_heard_30]
          refine (if_neg (nI_ge (a := y) (b := pH p) (by omega) (by omega))).trans ?_
          rw [e8, z_ki (by omega) (by omega), z_cl (by omega), hK _ (by omega), x_music _ hk, z_b]
          unfold tpc
          by_cases m : 1 ≤ pK p (8 * y + j) ∧ pK p (8 * y + j) ≤ 4
          · rw [if_pos m, decide_eq_true m]
            exact if_neg (show ¬ zB true = (0 : Int32) by decide)
          · rw [if_neg m, decide_eq_false m, e1]
            refine (if_pos (show zB false = (0 : Int32) from rfl)).trans ?_
            exact ih (y + 1) (by omega) n (by omega)
      exact key (pH p) 0 (by omega) u (by omega)
    · refine (if_neg (nI_nlt (a := j) (b := pW p) (by omega) (by omega))).trans ?_
      rw [if_neg (fun h => by omega)]
theorem m_tapAt (P : pOK p) (hK : ∀ c, c < 48 → a4 c = nI (pK p c)) (hu : 10 ≤ u) (v : Int32) : f_X11_tapAt u (nI (pW p)) (nI (pH p)) a4 v = some (nI (tp p v.toInt)) := by
  have hW := P.1.2
  have hH := P.2.1.2
  unfold f_X11_tapAt bX11_tapAt_0 tp
  by_cases h0 : v < 0
  · refine (if_pos h0).trans ?_
    rw [fa_lt] at h0
    rw [if_neg (fun h => by have h2 : (0 : Int32).toInt = 0 := by decide
                            omega)]
  · refine (if_neg h0).trans ?_
    obtain ⟨j, hj, e⟩ := nI_of h0
    rw [e, nI_toInt hj]
    by_cases h1 : j < pW p
    · refine (if_pos (nI_lt h1 (by omega))).trans ?_
      rw [if_pos ⟨by omega, by omega⟩, Int.toNat_natCast]
      have key : ∀ r y, y + r = pH p → ∀ n, r < n → bX11_tapAt_19 u (nI (pW p)) (nI (pH p)) a4 n (nI j) (nI y) = some (nI (tpc p j r y)) := by
        intro r
        induction r with
        | zero =>
          intro y hy n hn
          obtain ⟨n, rfl⟩ := z_suc hn
          rw [bX11_tapAt_19]
          exact if_pos (nI_le (a := pH p) (b := y) (by omega) (by omega))
        | succ r ih =>
          intro y hy n hn
          obtain ⟨n, rfl⟩ := z_suc hn
          have e8 : (8 : Int32) * nI y + nI j = nI (8 * y + j) := by rw [show (8 : Int32) = nI 8 from rfl, pk_mul, nI_add]
          have e1 : nI y + (1 : Int32) = nI (y + 1) := nI_1 y
          have hk := (P.2.2.2.2.2.1 (8 * y + j) (by omega)).1
          rw [bX11_tapAt_19]
          unfold bX11_tapAt_59
          refine (if_neg (nI_ge (a := y) (b := pH p) (by omega) (by omega))).trans ?_
          rw [e8, z_ki (by omega) (by omega), z_cl (by omega), hK _ (by omega), e1]
          unfold tpc
          by_cases m1 : pK p (8 * y + j) < 1
          · rw [if_neg (show ¬ (1 ≤ pK p (8 * y + j) ∧ pK p (8 * y + j) ≤ 4) by omega)]
            refine (if_pos (nI_lt (b := 1) m1 (by omega))).trans ?_
            exact ih (y + 1) (by omega) n (by omega)
          · refine (if_neg (nI_nlt (a := pK p (8 * y + j)) (b := 1) (by omega) (by omega))).trans ?_
            rw [z_ki (by omega) (by omega)]
            by_cases m2 : 4 < pK p (8 * y + j)
            · rw [if_neg (show ¬ (1 ≤ pK p (8 * y + j) ∧ pK p (8 * y + j) ≤ 4) by omega)]
              refine (if_pos (nI_lt (a := 4) m2 (by omega))).trans ?_
              exact ih (y + 1) (by omega) n (by omega)
            · rw [if_pos (show 1 ≤ pK p (8 * y + j) ∧ pK p (8 * y + j) ≤ 4 by omega)]
              exact if_neg (nI_nlt (a := 4) (b := pK p (8 * y + j)) (by omega) (by omega))
      exact key (pH p) 0 (by omega) u (by omega)
    · refine (if_neg (nI_nlt (a := j) (b := pW p) (by omega) (by omega))).trans ?_
      rw [if_neg (fun h => by omega)]
end TAPS
