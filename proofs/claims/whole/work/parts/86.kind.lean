/-! KIND; the reference's 'within' and 'may' -/
def wb (p : aP) (m : aM) (k : Nat) : Nat := nsm (fun c => if pK p c = k then brl (aS m) (pB p) c else 0) 48
section KIND
variable {u : Nat} {p : aP} {m : aM}
theorem m_within (v lo hi : Int32) : f_X11_within u v lo hi = some (zB (decide (lo ≤ v) && decide (v ≤ hi))) := by
  unfold f_X11_within bX11_within_0
  by_cases a : v < lo
  · refine (if_pos a).trans ?_
    rw [decide_eq_false (fa_of_lt a).2.1]
    rfl
  · refine (if_neg a).trans ?_
    rw [decide_eq_true (fa_of_nlt a)]
    by_cases b : hi < v
    · refine (if_pos b).trans ?_
      rw [decide_eq_false (fa_of_lt b).2.1]
      rfl
    · refine (if_neg b).trans ?_
      rw [decide_eq_true (fa_of_nlt b)]
      rfl
theorem m_may (b : Bool) (code : Int32) (hc : ¬ code = 0) {k : Nat} (hk : k < 3) (a1 : Nat → Int32) : f_X11_may u (nI 0) a1 (zB b) code (nI k) = some (zB b, (if b then nI 0 else code), (if b then a1 else upd a1 k (a1 k + (1 : Int32)))) := by
  unfold f_X11_may bX11_may_0 bX11_may_26
  cases b with
  | true =>
    refine (if_neg (show ¬ zB true = (0 : Int32) by decide)).trans ?_
    exact if_pos rfl
  | false =>
    refine (if_pos (show zB false = (0 : Int32) from rfl)).trans ?_
    refine (if_pos rfl).trans ?_
    rw [z_ki (by omega) (by omega), z_ki (by omega) (by omega), z_cl (by omega)]
    exact if_neg hc
theorem x_wb (P : pOK p) (I : mOK p m) {dug prp fal : Int64} {a6 a7 : Nat → Int32} (M : mS dug prp fal (aS m)) (E : kbA a6 a7 (pK p) (pB p)) (hu : 60 ≤ u) {k : Nat} (hk : k ≤ 5) : f_X3_wholeBars u dug prp fal a6 a7 (nI k) = some (nI (wb p m k)) := by
  have key : ∀ r c, c + r = 48 → ∀ n, r < n → bX3_wholeBars_4 u dug prp fal a6 a7 n (nI k) (nI (nsm (fun c => if pK p c = k then brl (aS m) (pB p) c else 0) c)) (nI c) = some (nI (wb p m k)) := by
    intro r
    induction r with
    | zero =>
      intro c hc n hn
      obtain ⟨n, rfl⟩ := z_suc hn
      have : c = 48 := by omega
      subst this
      rw [bX3_wholeBars_4]
      exact if_pos (nI_le (a := 48) (Nat.le_refl _) (by omega))
    | succ r ih =>
      intro c hc n hn
      obtain ⟨n, rfl⟩ := z_suc hn
      have e1 : nI c + (1 : Int32) = nI (c + 1) := nI_1 c
      have ih2 := ih (c + 1) (by omega) n (by omega)
      have e3 : nsm (fun c => if pK p c = k then brl (aS m) (pB p) c else 0) (c + 1) = nsm (fun c => if pK p c = k then brl (aS m) (pB p) c else 0) c + (if pK p c = k then brl (aS m) (pB p) c else 0) := rfl
      rw [e3] at ih2
      have hK := (P.2.2.2.2.2.1 c (by omega)).1
      rw [bX3_wholeBars_4]
      unfold bX3_wholeBars_33
      refine (if_neg (nI_ge (a := c) (b := 48) (by omega) (by omega))).trans ?_
      rw [z_ki (by omega) (by omega), z_cl (by omega), E.1 c (by omega), e1]
      by_cases q : pK p c = k
      · refine (if_pos (by rw [q])).trans ?_
        rw [x_bars M E.2 (by omega) (I.1.1 c (by omega)), z_b, nI_add]
        rw [if_pos q] at ih2
        exact ih2
      · refine (if_neg (show ¬ nI (pK p c) = nI k from fun h => q ((nI_eq (by omega) (by omega)).mp h))).trans ?_
        rw [if_neg q] at ih2
        have e2 : nI (nsm (fun c => if pK p c = k then brl (aS m) (pB p) c else 0) c) + (0 : Int32) = nI (nsm (fun c => if pK p c = k then brl (aS m) (pB p) c else 0) c + 0) := nI_add _ 0
        rw [e2]
        exact ih2
  exact key 48 0 rfl u (by omega)
theorem m_wb (P : pOK p) (I : mOK p m) {a7 a8 a9 g : Nat → Int32} (E : kbA a7 a8 (pK p) (pB p)) (X : mMine m g) (hu : 60 ≤ u) {k : Nat} (hk : k ≤ 5) (c0 : Int32) (a1 : Nat → Int32) : bX11_kind_106 u a7 a8 a9 g u c0 a1 (nI k) (nI 0) (nI 0) = some (nI (wb p m k), c0, a1) := by
  have key : ∀ r c, c + r = 48 → ∀ n, r < n → bX11_kind_106 u a7 a8 a9 g n c0 a1 (nI k) (nI (nsm (fun c => if pK p c = k then brl (aS m) (pB p) c else 0) c)) (nI c) = some (nI (wb p m k), c0, a1) := by
    intro r
    induction r with
    | zero =>
      intro c hc n hn
      obtain ⟨n, rfl⟩ := z_suc hn
      have : c = 48 := by omega
      subst this
      rw [bX11_kind_106]
      exact if_pos (nI_le (a := 48) (Nat.le_refl _) (by omega))
    | succ r ih =>
      intro c hc n hn
      obtain ⟨n, rfl⟩ := z_suc hn
      have e1 : nI c + (1 : Int32) = nI (c + 1) := nI_1 c
      have ih2 := ih (c + 1) (by omega) n (by omega)
      have e3 : nsm (fun c => if pK p c = k then brl (aS m) (pB p) c else 0) (c + 1) = nsm (fun c => if pK p c = k then brl (aS m) (pB p) c else 0) c + (if pK p c = k then brl (aS m) (pB p) c else 0) := rfl
      rw [e3] at ih2
      have hK := (P.2.2.2.2.2.1 c (by omega)).1
      have hS := I.1.1 c (by omega)
      rw [bX11_kind_106]
      unfold bX11_kind_145 bX11_kind_146
      refine (if_neg (nI_ge (a := c) (b := 48) (by omega) (by omega))).trans ?_
      rw [z_ki (by omega) (by omega), z_cl (by omega), E.1 c (by omega), e1]
      have e2 : nI (nsm (fun c => if pK p c = k then brl (aS m) (pB p) c else 0) c) + (0 : Int32) = nI (nsm (fun c => if pK p c = k then brl (aS m) (pB p) c else 0) c + 0) := nI_add _ 0
      by_cases q : pK p c = k
      · refine (if_pos (by rw [q])).trans ?_
        rw [if_pos q] at ih2
        rw [z_ki (by omega) (by omega), X.1 c (by omega)]
        unfold brl at ih2 ⊢
        by_cases s : aS m c = 0
        · refine (if_pos (by rw [s]; rfl)).trans ?_
          rw [z_ki (by omega) (by omega), E.2 c (by omega), nI_add]
          rw [if_pos s] at ih2
          exact ih2
        · refine (if_neg (show ¬ nI (aS m c) = (0 : Int32) from fun h => s ((nI_eq (b := 0) (by omega) (by omega)).mp h))).trans ?_
          rw [if_neg s] at ih2
          have e4 := e2
          unfold brl at e4
          rw [e4]
          exact ih2
      · refine (if_neg (show ¬ nI (pK p c) = nI k from fun h => q ((nI_eq (by omega) (by omega)).mp h))).trans ?_
        rw [if_neg q] at ih2
        rw [e2]
        exact ih2
  exact key 48 0 rfl u (by omega)
end KIND
