/-! QUERIES: taking a row, pick, whole bars, the richest row -/
theorem m_copy77 {u : Nat} (hu : 100 ≤ u) (a b : Nat → Int32) : ∃ g, f_X11_take u a b = some g ∧ ∀ j, j < 77 → g j = a j := by
  have key : ∀ r k, k + r = 77 → ∀ n g, r < n → (∀ j, j < k → g j = a j) → ∃ g', bX11_copies_20_21_3 u a n g (nI 77) (nI k) = some g' ∧ ∀ j, j < 77 → g' j = a j := by
    intro r
    induction r with
    | zero =>
      intro k hk n g hn hg
      obtain ⟨n, rfl⟩ := z_suc hn
      have : k = 77 := by omega
      subst this
      exact ⟨g, by rw [bX11_copies_20_21_3]; exact if_pos (nI_le (Nat.le_refl _) (by omega)), hg⟩
    | succ r ih =>
      intro k hk n g hn hg
      obtain ⟨n, rfl⟩ := z_suc hn
      obtain ⟨g', e, f⟩ := ih (k + 1) (by omega) n (upd g k (a k)) (by omega) (fun j hj => by
        simp only [z_upd]
        by_cases q : j = k
        · rw [if_pos q, q]
        · rw [if_neg q]; exact hg j (by omega))
      refine ⟨g', ?_, f⟩
      rw [bX11_copies_20_21_3]
      refine (if_neg (nI_ge (a := k) (b := 77) (by omega) (by omega))).trans ?_
      have e1 : nI k + (1 : Int32) = nI (k + 1) := nI_1 k
      rw [z_ki (by omega) (by omega), z_ki (by omega) (by omega), z_cl (by omega), e1]
      exact e
  obtain ⟨g, e, f⟩ := key 77 0 rfl u b (by omega) (fun j hj => absurd hj (Nat.not_lt_zero j))
  refine ⟨g, ?_, f⟩
  unfold f_X11_take bX11_take_0 f_X11_copies_20_21 bX11_copies_20_21_0
  have e2 : bX11_copies_20_21_3 u a u b (77 : Int32) (0 : Int32) = some g := e
  rw [e2, z_b]
theorem mMine_cong {m : aM} {g h : Nat → Int32} (e : ∀ j, j < 77 → h j = g j) (X : mMine m g) : mMine m h := by
  obtain ⟨A, hb, h69, h70, h71, h74, h72, h73, h75, h76, hso, hgo, hfa⟩ := X
  refine ⟨fun c hc => by rw [e c (by omega)]; exact A c hc, fun k hk => by rw [e (48 + k) (by omega)]; exact hb k hk, ?_, ?_, ?_, ?_, ?_, ?_, ?_, ?_, fun k hk => by rw [e (53 + k) (by omega)]; exact hso k hk, fun k hk => by rw [e (58 + k) (by omega)]; exact hgo k hk, fun k hk => by rw [e (63 + k) (by omega)]; exact hfa k hk⟩
  · rw [e 69 (by omega)]; exact h69
  · rw [e 70 (by omega)]; exact h70
  · rw [e 71 (by omega)]; exact h71
  · rw [e 74 (by omega)]; exact h74
  · rw [e 72 (by omega)]; exact h72
  · rw [e 73 (by omega)]; exact h73
  · rw [e 75 (by omega)]; exact h75
  · rw [e 76 (by omega)]; exact h76
theorem m_take {u : Nat} {m : aM} (hu : 100 ≤ u) {a : Nat → Int32} (X : mMine m a) (b : Nat → Int32) : ∃ g, f_X11_take u a b = some g ∧ mMine m g := by
  obtain ⟨g, e, f⟩ := m_copy77 hu a b
  exact ⟨g, e, mMine_cong f X⟩
/-! PICK -/
section PICK
variable (p : aP) (m : aM)
def cand (k : Nat) : Bool := able (pW p) (pH p) (pD p) (aS m) (aW m) k && decide (pK p k ≠ 5)
/-- one more than the best of the cells below n, 0 without -/
def pkb : Nat → Nat
  | 0 => 0
  | n + 1 => if cand p m n = true ∧ (pkb n = 0 ∨ brl (aS m) (pB p) (pkb n - 1) < brl (aS m) (pB p) n) then n + 1 else pkb n
theorem pkb_le : ∀ n, pkb p m n ≤ n
  | 0 => Nat.le_refl 0
  | n + 1 => by
    have := pkb_le n
    unfold pkb
    split <;> omega
theorem pkb_c : ∀ n, pkb p m n ≠ 0 → cand p m (pkb p m n - 1) = true
  | 0, h => absurd rfl h
  | n + 1, h => by
    unfold pkb at h ⊢
    by_cases q : cand p m n = true ∧ (pkb p m n = 0 ∨ brl (aS m) (pB p) (pkb p m n - 1) < brl (aS m) (pB p) n)
    · rw [if_pos q]; exact q.1
    · rw [if_neg q] at h ⊢; exact pkb_c n h
end PICK
section PICK2
variable {u : Nat} {p : aP} {m : aM}
theorem brl9 (P : pOK p) {c : Nat} (hc : c < 48) (S : Nat → Nat) : brl S (pB p) c ≤ 9 := by
  have := (P.2.2.2.2.2.1 c hc).2.1
  unfold brl
  split <;> omega
theorem x_pick (P : pOK p) (I : mOK p m) {dug prp fal all shf : Int64} {a6 a7 : Nat → Int32} (M : mS dug prp fal (aS m)) (E : kbA a6 a7 (pK p) (pB p)) (hall : lS all (inG (pW p) (pH p))) (hshf : lS shf (fun c => decide (c < 8) && pD p c)) (hu : 60 ≤ u) :
    f_X3_richestCell u (nI (aW m)) dug prp fal all shf a6 a7 = some (nI (pkb p m 48) - nI 1) := by
  have hwH := I.2.2.2.2.2.1
  have hH := P.2.1.2
  obtain ⟨r, hr, hr2⟩ := x_able (u := u) (w := aW m) M.1 M.2.1 hall hshf (by omega)
  have key : ∀ j k, k + j = 48 → ∀ n, j < n → bX3_richestCell_13 u (nI (aW m)) dug prp fal all shf a6 a7 n r (nI (pkb p m k) - nI 1) (if pkb p m k = 0 then -nI 1 else nI (brl (aS m) (pB p) (pkb p m k - 1))) (nI k) = some (nI (pkb p m 48) - nI 1) := by
    intro j
    induction j with
    | zero =>
      intro k hk n hn
      obtain ⟨n, rfl⟩ := z_suc hn
      have : k = 48 := by omega
      subst this
      rw [bX3_richestCell_13]
      exact if_pos (nI_le (a := 48) (Nat.le_refl _) (by omega))
    | succ j ih =>
      intro k hk n hn
      obtain ⟨n, rfl⟩ := z_suc hn
      have e1 : nI k + (1 : Int32) = nI (k + 1) := nI_1 k
      have ihk := ih (k + 1) (by omega) n (by omega)
      have hle := pkb_le p m k
      have hk9 := brl9 P (show k < 48 by omega) (aS m)
      rw [bX3_richestCell_13]
      unfold bX3_richestCell_67
      rw [e1]
      refine (if_neg (nI_ge (a := k) (b := 48) (by omega) (by omega))).trans ?_
      have eg : (lg_cmp ((r.toUInt64 >>> ((nI k).toInt64.toUInt64 &&& Int64.toUInt64 63)).toInt64 &&& 1) 0 = (0 : Int32)) = (able (pW p) (pH p) (pD p) (aS m) (aW m) k = false) := by
        have := lb_t (m := r) (show k < 64 by omega)
        rw [lS_get hr2 (by omega)] at this
        exact this
      have skip : cand p m k = false → pkb p m (k + 1) = pkb p m k := by
        intro h
        show (if cand p m k = true ∧ _ then k + 1 else pkb p m k) = pkb p m k
        rw [if_neg (fun q => by rw [h] at q; exact Bool.noConfusion q.1)]
      cases ha : able (pW p) (pH p) (pD p) (aS m) (aW m) k with
      | false =>
        refine (if_pos (by rw [eg]; exact ha)).trans ?_
        rw [skip (by unfold cand; rw [ha]; rfl)] at ihk
        exact ihk
      | true =>
        refine (if_neg (by rw [eg, ha]; exact Bool.noConfusion)).trans ?_
        rw [z_ki (by omega) (by omega), z_cl (by omega), E.1 k (by omega)]
        have hK := (P.2.2.2.2.2.1 k (by omega)).1
        by_cases k5 : pK p k = 5
        · refine (if_pos (show nI (pK p k) = (5 : Int32) by rw [k5]; rfl)).trans ?_
          rw [skip (by unfold cand; simp [k5])] at ihk
          exact ihk
        · refine (if_neg (show ¬ nI (pK p k) = (5 : Int32) from fun h => k5 ((nI_eq (b := 5) (by omega) (by omega)).mp h))).trans ?_
          have hc : cand p m k = true := by unfold cand; simp [ha, k5]
          rw [x_bars M E.2 (by omega) (I.1.1 k (by omega)), z_b]
          have es : pkb p m (k + 1) = if cand p m k = true ∧ (pkb p m k = 0 ∨ brl (aS m) (pB p) (pkb p m k - 1) < brl (aS m) (pB p) k) then k + 1 else pkb p m k := rfl
          by_cases b0 : pkb p m k = 0
          · rw [if_pos b0]
            refine (if_neg (show ¬ nI (brl (aS m) (pB p) k) ≤ -nI 1 by rw [z_lem (by omega) (by omega)]; omega)).trans ?_
            rw [z_b]
            rw [es, if_pos ⟨hc, Or.inl b0⟩, if_neg (by omega), z_ps] at ihk
            exact ihk
          · rw [if_neg b0]
            have hb9 := brl9 P (show pkb p m k - 1 < 48 by omega) (aS m)
            by_cases q : brl (aS m) (pB p) (pkb p m k - 1) < brl (aS m) (pB p) k
            · refine (if_neg (nI_ge q (by omega))).trans ?_
              rw [z_b]
              rw [es, if_pos ⟨hc, Or.inr q⟩, if_neg (by omega), z_ps] at ihk
              exact ihk
            · refine (if_pos (nI_le (a := brl (aS m) (pB p) k) (by omega) (by omega))).trans ?_
              rw [es, if_neg (fun h => by rcases h.2 with h | h <;> omega), if_neg b0] at ihk
              exact ihk
  unfold f_X3_richestCell bX3_richestCell_0
  rw [hr, z_b]
  exact key 48 0 rfl u (by omega)
theorem why_able {c : Nat} (hg : inG (pW p) (pH p) c = true) : (why (pW p) (pH p) (pD p) (aS m) (aW m) c = 0) = (able (pW p) (pH p) (pD p) (aS m) (aW m) c = true) := by
  unfold why able wet
  rw [hg]
  cases opn (aS m) c with
  | true => simp
  | false =>
    cases hnd (pW p) (pH p) (pD p) (aS m) c with
    | false => simp
    | true =>
      by_cases z : aW m ≤ c / 8
      · simp [z]
      · simp [z]
theorem m_barsIn (P : pOK p) {a8 a21 : Nat → Int32} (A : sA a21 (aS m)) (St : stOK (pW p) (pH p) (aS m)) (hB : ∀ c, c < 48 → a8 c = nI (pB p c)) {c : Nat} (hc : c < 48) : f_X11_barsIn u a8 a21 (nI c) = some (nI (brl (aS m) (pB p) c)) := by
  have := St.1 c hc
  unfold f_X11_barsIn bX11_barsIn_0 brl
  rw [z_ki (by omega) (by omega), z_cl (by omega), A c hc]
  by_cases q : aS m c = 0
  · rw [if_pos q]
    refine (if_pos (by rw [q]; rfl)).trans ?_
    rw [z_ki (by omega) (by omega), hB c hc]
  · rw [if_neg q]
    exact if_neg (fun h => q ((nI_eq (b := 0) (by omega) (by omega)).mp h))
theorem m_pick (P : pOK p) (I : mOK p m) {c25 c26 c27 : Int32} {a7 a8 g : Nat → Int32} (h25 : c25 = nI (pW p)) (h26 : c26 = nI (pH p)) (hD : shA c27 (pD p)) (E : kbA a7 a8 (pK p) (pB p)) (X : mMine m g) (hu : 60 ≤ u) : f_X11_pickNow u c25 c26 c27 a7 a8 g = some (nI (pkb p m 48) - nI 1) := by
  subst h25; subst h26
  obtain ⟨A, hb, h69, h70, h71, h74, -⟩ := X
  have hwH := I.2.2.2.2.2.1
  have hH := P.2.1.2
  have key : ∀ j k, k + j = 48 → ∀ n, j < n → bX11_pickNow_4 u (nI (pW p)) (nI (pH p)) c27 a7 a8 g n (nI (pkb p m k) - nI 1) (nI k) = some (nI (pkb p m 48) - nI 1) := by
    intro j
    induction j with
    | zero =>
      intro k hk n hn
      obtain ⟨n, rfl⟩ := z_suc hn
      have : k = 48 := by omega
      subst this
      rw [bX11_pickNow_4]
      exact if_pos (nI_le (a := 48) (Nat.le_refl _) (by omega))
    | succ j ih =>
      intro k hk n hn
      obtain ⟨n, rfl⟩ := z_suc hn
      have e1 : nI k + (1 : Int32) = nI (k + 1) := nI_1 k
      have ihk := ih (k + 1) (by omega) n (by omega)
      have hle := pkb_le p m k
      have hk9 := brl9 P (show k < 48 by omega) (aS m)
      have e8 : nI k / (8 : Int32) = nI (k / 8) := pk_div (d := 8) (by omega) (by omega) (by omega)
      have e9 : nI k - nI (k / 8) * (8 : Int32) = nI (k % 8) := by
        rw [show (8 : Int32) = nI 8 from rfl, pk_mul, z_sub (by omega), show k - k / 8 * 8 = k % 8 by omega]
      rw [bX11_pickNow_4]
      unfold bX11_pickNow_64 bX11_pickNow_66
      rw [e1, e8, e9]
      refine (if_neg (nI_ge (a := k) (b := 48) (by omega) (by omega))).trans ?_
      rw [m_isIn (by have := P.1.2; omega) (by omega) (by omega) (by omega), z_b]
      have skip : cand p m k = false → pkb p m (k + 1) = pkb p m k := by
        intro h
        show (if cand p m k = true ∧ _ then k + 1 else pkb p m k) = pkb p m k
        rw [if_neg (fun q => by rw [h] at q; exact Bool.noConfusion q.1)]
      cases hg : (decide (k % 8 < pW p) && decide (k / 8 < pH p)) with
      | false =>
        refine (if_pos rfl).trans ?_
        have : able (pW p) (pH p) (pD p) (aS m) (aW m) k = false := by
          unfold able hnd inG
          rw [hg]
          rfl
        rw [skip (by unfold cand; rw [this]; rfl)] at ihk
        exact ihk
      | true =>
        have hg2 : inG (pW p) (pH p) k = true := hg
        refine (if_neg (by decide)).trans ?_
        rw [z_ki (by omega) (by omega), z_cl (by omega), E.1 k (by omega)]
        have hK := (P.2.2.2.2.2.1 k (by omega)).1
        by_cases k5 : pK p k = 5
        · refine (if_pos (show nI (pK p k) = (5 : Int32) by rw [k5]; rfl)).trans ?_
          rw [skip (by unfold cand; simp [k5])] at ihk
          exact ihk
        · refine (if_neg (show ¬ nI (pK p k) = (5 : Int32) from fun h => k5 ((nI_eq (b := 5) (by omega) (by omega)).mp h))).trans ?_
          rw [m_why P.1.2 hH A I.1 hD h74 (by omega) (by omega) hg2, z_b]
          have hw := why_able (p := p) (m := m) hg2
          have hw3 : why (pW p) (pH p) (pD p) (aS m) (aW m) k ≤ 3 := by
            unfold why
            split
            · omega
            · split
              · split <;> omega
              · omega
          by_cases w : why (pW p) (pH p) (pD p) (aS m) (aW m) k = 0
          · have ha : able (pW p) (pH p) (pD p) (aS m) (aW m) k = true := by rw [← hw]; exact w
            have hc : cand p m k = true := by unfold cand; simp [ha, k5]
            refine (if_pos (show nI (why (pW p) (pH p) (pD p) (aS m) (aW m) k) = (0 : Int32) by rw [w]; rfl)).trans ?_
            have es : pkb p m (k + 1) = if cand p m k = true ∧ (pkb p m k = 0 ∨ brl (aS m) (pB p) (pkb p m k - 1) < brl (aS m) (pB p) k) then k + 1 else pkb p m k := rfl
            by_cases b0 : pkb p m k = 0
            · refine (if_pos (by rw [b0]; decide)).trans ?_
              rw [es, if_pos ⟨hc, Or.inl b0⟩, z_ps] at ihk
              exact ihk
            · rw [z_sub (by omega)]
              refine (if_neg (show ¬ nI (pkb p m k - 1) = (-1 : Int32) by
                show ¬ nI (pkb p m k - 1) = -nI 1
                rw [z_em (by omega) (by omega)]; omega)).trans ?_
              have hb9 := brl9 P (show pkb p m k - 1 < 48 by omega) (aS m)
              rw [m_barsIn P A I.1 E.2 (by omega), z_b, m_barsIn P A I.1 E.2 (by omega), z_b]
              by_cases q : brl (aS m) (pB p) (pkb p m k - 1) < brl (aS m) (pB p) k
              · refine (if_neg (nI_ge q (by omega))).trans ?_
                rw [es, if_pos ⟨hc, Or.inr q⟩, z_ps] at ihk
                exact ihk
              · refine (if_pos (nI_le (a := brl (aS m) (pB p) k) (by omega) (by omega))).trans ?_
                rw [es, if_neg (fun h => by rcases h.2 with h | h <;> omega), z_sub (by omega)] at ihk
                exact ihk
          · have ha : able (pW p) (pH p) (pD p) (aS m) (aW m) k = false := by
              cases z : able (pW p) (pH p) (pD p) (aS m) (aW m) k with
              | false => rfl
              | true => rw [← hw] at z; exact absurd z w
            refine (if_neg (show ¬ nI (why (pW p) (pH p) (pD p) (aS m) (aW m) k) = (0 : Int32) from fun h => w ((nI_eq (b := 0) (by omega) (by omega)).mp h))).trans ?_
            rw [skip (by unfold cand; rw [ha]; rfl)] at ihk
            exact ihk
  exact key 48 0 rfl u (by omega)
end PICK2
