/-! LEVEL: the richest row -/
def rsm (p : aP) (m : aM) (y : Nat) : Nat := nsm (fun x => brl (aS m) (pB p) (8 * y + x)) 8
/-- the richest of the first n + 1 rows, and its bars -/
def lvS (p : aP) (m : aM) : Nat → Nat × Nat
  | 0 => (0, rsm p m 0)
  | n + 1 => if (lvS p m n).2 < rsm p m (n + 1) then (n + 1, rsm p m (n + 1)) else lvS p m n
section LEVEL
variable {u : Nat} {p : aP} {m : aM}
theorem rsm_le (P : pOK p) {y : Nat} (hy : y < 6) : rsm p m y ≤ 72 := by
  have := nsm_le (f := fun x => brl (aS m) (pB p) (8 * y + x)) (b := 9) (n := 8) (fun x hx => brl9 P (show 8 * y + x < 48 by omega) (aS m))
  exact this
theorem lvS_le (P : pOK p) : ∀ n, n < 6 → (lvS p m n).2 ≤ 72 ∧ (lvS p m n).1 ≤ n
  | 0, h => ⟨rsm_le P h, Nat.le_refl _⟩
  | n + 1, h => by
    have ih := lvS_le P n (by omega)
    have := rsm_le (m := m) P h
    unfold lvS
    split
    · exact ⟨this, Nat.le_refl _⟩
    · exact ⟨ih.1, by omega⟩
theorem brl_out (P : pOK p) {c : Nat} (hc : c < 48) (h : inG (pW p) (pH p) c = false) : brl (aS m) (pB p) c = 0 := by
  have := ((P.2.2.2.2.2.1 c hc).2.2.2 h).2
  unfold brl
  split <;> omega
theorem rsm_W (P : pOK p) {y : Nat} (hy : y < 6) : nsm (fun x => brl (aS m) (pB p) (8 * y + x)) (pW p) = rsm p m y := by
  have hW := P.1.2
  have e := nsm_split (fun x => brl (aS m) (pB p) (8 * y + x)) (pW p) (8 - pW p)
  rw [show pW p + (8 - pW p) = 8 by omega] at e
  have z : nsm (fun k => brl (aS m) (pB p) (8 * y + (pW p + k))) (8 - pW p) = nsm (fun _ => 0) (8 - pW p) := nsm_cong (fun k hk => brl_out P (by omega) (by
    unfold inG
    rw [show (8 * y + (pW p + k)) % 8 = pW p + k by omega]
    rw [decide_eq_false (by omega)]
    rfl))
  have z2 : ∀ n, nsm (fun _ => 0) n = 0 := by
    intro n
    induction n with
    | zero => rfl
    | succ n ih => show nsm (fun _ => 0) n + 0 = 0; rw [ih]
  rw [z, z2] at e
  unfold rsm
  rw [e, Nat.add_zero]
theorem x_level (P : pOK p) (I : mOK p m) {dug prp fal : Int64} {a7 : Nat → Int32} (M : mS dug prp fal (aS m)) (hB : ∀ c, c < 48 → a7 c = nI (pB p c)) (hu : 60 ≤ u) : f_X3_richestRow u dug prp fal (nI (pH p)) a7 = some (nI (lvS p m (pH p - 1)).1) := by
  have hH := P.2.1
  have row : ∀ {k6 : Int32 → Int32 → Int32 → Option Int32} (v1 v2 : Int32) (y : Nat), y < 6 → ∀ r x, x + r = 8 → ∀ n, r < n → bX3_richestRow_23 u dug prp fal (nI (pH p)) a7 k6 n v1 v2 (nI y) (nI (nsm (fun x => brl (aS m) (pB p) (8 * y + x)) x)) (nI x) = if nI (rsm p m y) ≤ v2 then k6 v1 v2 (nI (y + 1)) else k6 (nI y) (nI (rsm p m y)) (nI (y + 1)) := by
    intro k6 v1 v2 y hy r
    induction r with
    | zero =>
      intro x hx n hn
      obtain ⟨n, rfl⟩ := z_suc hn
      have : x = 8 := by omega
      subst this
      have ey : nI y + (1 : Int32) = nI (y + 1) := nI_1 y
      rw [bX3_richestRow_23]
      refine (if_pos (nI_le (a := 8) (Nat.le_refl _) (by omega))).trans ?_
      unfold bX3_richestRow_63
      rw [ey]
      rfl
    | succ r ih =>
      intro x hx n hn
      obtain ⟨n, rfl⟩ := z_suc hn
      have e1 : nI x + (1 : Int32) = nI (x + 1) := nI_1 x
      have e8 : (8 : Int32) * nI y + nI x = nI (8 * y + x) := by rw [show (8 : Int32) = nI 8 from rfl, pk_mul, nI_add]
      rw [bX3_richestRow_23]
      refine (if_neg (nI_ge (a := x) (b := 8) (by omega) (by omega))).trans ?_
      rw [e8, x_bars M hB (by omega) (I.1.1 _ (by omega)), z_b, nI_add, e1]
      exact ih (x + 1) (by omega) n (by omega)
  have key : ∀ r y, y + r + 1 = pH p → ∀ n, r < n → bX3_richestRow_6 u dug prp fal (nI (pH p)) a7 n (nI (lvS p m y).1) (nI (lvS p m y).2) (nI (y + 1)) = some (nI (lvS p m (pH p - 1)).1) := by
    intro r
    induction r with
    | zero =>
      intro y hy n hn
      obtain ⟨n, rfl⟩ := z_suc hn
      rw [bX3_richestRow_6]
      refine (if_pos (nI_le (a := pH p) (b := y + 1) (by omega) (by omega))).trans ?_
      rw [show pH p - 1 = y by omega]
    | succ r ih =>
      intro y hy n hn
      obtain ⟨n, rfl⟩ := z_suc hn
      have l1 := lvS_le (m := m) P y (by omega)
      have l2 := rsm_le (m := m) P (show y + 1 < 6 by omega)
      have ih2 := ih (y + 1) (by omega) n (by omega)
      have es : lvS p m (y + 1) = if (lvS p m y).2 < rsm p m (y + 1) then (y + 1, rsm p m (y + 1)) else lvS p m y := rfl
      rw [bX3_richestRow_6]
      refine (if_neg (nI_ge (a := y + 1) (b := pH p) (by omega) (by omega))).trans ?_
      refine (row _ _ (y + 1) (by omega) 8 0 rfl u (by omega)).trans ?_
      by_cases q : (lvS p m y).2 < rsm p m (y + 1)
      · refine (if_neg (nI_ge q (by omega))).trans ?_
        rw [es, if_pos q] at ih2
        exact ih2
      · refine (if_pos (nI_le (a := rsm p m (y + 1)) (by omega) (by omega))).trans ?_
        rw [es, if_neg q] at ih2
        exact ih2
  unfold f_X3_richestRow bX3_richestRow_0
  obtain ⟨u, rfl⟩ := z_suc (show 0 < u by omega)
  rw [bX3_richestRow_6]
  refine (if_neg (show ¬ nI (pH p) ≤ nI 0 from nI_ge (a := 0) (b := pH p) (by omega) (by omega))).trans ?_
  refine (row _ _ 0 (by omega) 8 0 rfl (u + 1) (by omega)).trans ?_
  have k0 := key (pH p - 1) 0 (by omega) u (by omega)
  have l0 := rsm_le (m := m) P (show 0 < 6 by omega)
  by_cases q : rsm p m 0 = 0
  · refine (if_pos (by rw [q]; decide)).trans ?_
    have e0 : lvS p m 0 = (0, 0) := by show (0, rsm p m 0) = (0, 0); rw [q]
    rw [e0] at k0
    exact k0
  · refine (if_neg (show ¬ nI (rsm p m 0) ≤ nI 0 from nI_ge (a := 0) (by omega) (by omega))).trans ?_
    exact k0
theorem m_level (P : pOK p) (I : mOK p m) {a8 a20 : Nat → Int32} (hB : ∀ c, c < 48 → a8 c = nI (pB p c)) (X : mMine m a20) (hu : 160 ≤ u) (c0 : Int32) (b21 : Nat → Int32) : ∃ d21, f_X11_level u c0 (nI (pW p)) (nI (pH p)) a8 a20 b21 = some (nI (lvS p m (pH p - 1)).1, nI 0, d21) := by
  have hH := P.2.1
  have hW := P.1.2
  obtain ⟨g, e, G⟩ := m_take (u := u) (by omega) X b21
  refine ⟨g, ?_⟩
  unfold f_X11_level bX11_level_0
  rw [e, z_b]
  have row : ∀ {k15 : Int32 → (Nat → Int32) → Int32 → Int32 → Int32 → Option (Int32 × Int32 × (Nat → Int32))} (c1 v1 v2 : Int32) (y : Nat), y < pH p → ∀ r x, x + r = pW p → ∀ n, r < n → bX11_level_29 u (nI (pW p)) (nI (pH p)) a8 a20 k15 n c1 g v1 v2 (nI y) (nI (nsm (fun x => brl (aS m) (pB p) (8 * y + x)) x)) (nI x) = if v2 < nI (rsm p m y) then k15 c1 g (nI y) (nI (rsm p m y)) (nI (y + 1)) else k15 c1 g v1 v2 (nI (y + 1)) := by
    intro k15 c1 v1 v2 y hy r
    induction r with
    | zero =>
      intro x hx n hn
      obtain ⟨n, rfl⟩ := z_suc hn
      have : x = pW p := by omega
      subst this
      have ey : nI y + (1 : Int32) = nI (y + 1) := nI_1 y
      rw [bX11_level_29, rsm_W P (by omega)]
      refine (if_pos (nI_le (Nat.le_refl _) (by omega))).trans ?_
      unfold bX11_level_74
      rw [ey]
    | succ r ih =>
      intro x hx n hn
      obtain ⟨n, rfl⟩ := z_suc hn
      have e1 : nI x + (1 : Int32) = nI (x + 1) := nI_1 x
      have e8 : (8 : Int32) * nI y + nI x = nI (8 * y + x) := by rw [show (8 : Int32) = nI 8 from rfl, pk_mul, nI_add]
      rw [bX11_level_29]
      refine (if_neg (nI_ge (a := x) (b := pW p) (by omega) (by omega))).trans ?_
      rw [e8, m_barsIn P G.1 I.1 hB (by omega), z_b, nI_add, e1]
      exact ih (x + 1) (by omega) n (by omega)
  have key : ∀ r y, y + r + 1 = pH p → ∀ n, r < n → bX11_level_15 u (nI (pW p)) (nI (pH p)) a8 a20 n (nI 0) g (nI (lvS p m y).1) (nI (lvS p m y).2) (nI (y + 1)) = some (nI (lvS p m (pH p - 1)).1, nI 0, g) := by
    intro r
    induction r with
    | zero =>
      intro y hy n hn
      obtain ⟨n, rfl⟩ := z_suc hn
      rw [bX11_level_15]
      refine (if_pos (nI_le (a := pH p) (b := y + 1) (by omega) (by omega))).trans ?_
      rw [show pH p - 1 = y by omega]
    | succ r ih =>
      intro y hy n hn
      obtain ⟨n, rfl⟩ := z_suc hn
      have l1 := lvS_le (m := m) P y (by omega)
      have l2 := rsm_le (m := m) P (show y + 1 < 6 by omega)
      have ih2 := ih (y + 1) (by omega) n (by omega)
      have es : lvS p m (y + 1) = if (lvS p m y).2 < rsm p m (y + 1) then (y + 1, rsm p m (y + 1)) else lvS p m y := rfl
      rw [bX11_level_15]
      refine (if_neg (nI_ge (a := y + 1) (b := pH p) (by omega) (by omega))).trans ?_
      refine (row _ _ _ (y + 1) (by omega) (pW p) 0 (by omega) u (by omega)).trans ?_
      by_cases q : (lvS p m y).2 < rsm p m (y + 1)
      · refine (if_pos (nI_lt q (by omega))).trans ?_
        rw [es, if_pos q] at ih2
        exact ih2
      · refine (if_neg (nI_nlt (a := (lvS p m y).2) (by omega) (by omega))).trans ?_
        rw [es, if_neg q] at ih2
        exact ih2
  obtain ⟨u', hu'⟩ := z_suc (show 0 < u by omega)
  have l0 := rsm_le (m := m) P (show 0 < 6 by omega)
  have start : bX11_level_15 u (nI (pW p)) (nI (pH p)) a8 a20 (u' + 1) (nI 0) g (nI 0) (-nI 1) (nI 0) = some (nI (lvS p m (pH p - 1)).1, nI 0, g) := by
    rw [bX11_level_15]
    refine (if_neg (nI_ge (a := 0) (b := pH p) (by omega) (by omega))).trans ?_
    refine (row _ _ _ 0 (by omega) (pW p) 0 (by omega) u (by omega)).trans ?_
    refine (if_pos (show -nI 1 < nI (rsm p m 0) by rw [z_ml (by omega) (by omega)]; omega)).trans ?_
    exact key (pH p - 1) 0 (by omega) u' (by omega)
  rw [← hu'] at start
  exact start
end LEVEL
