/-! THE END OF A SHIFT -/
section ES
variable (T Z : Nat → Nat) (N : Nat → Nat → Nat) (P : Nat → Nat) (sh : Nat)
/-- belts behind i orders -/
def esB (bl : Nat → Nat) : Nat → Nat → Nat
  | 0 => bl
  | i + 1 => if T i = sh ∧ lck (fun k => cnN N i k (Z i)) (esB bl i) = 0 then (fun k => esB bl i k - cnN N i k (Z i)) else esB bl i
def esO (bl : Nat → Nat) (i : Nat) : Bool := decide (T i = sh ∧ lck (fun k => cnN N i k (Z i)) (esB T Z N sh bl i) = 0)
def esP (bl : Nat → Nat) (p : Int32) : Nat → Int32
  | 0 => p
  | i + 1 => if esO T Z N sh bl i then esP bl p i + nI (nsm (fun j => P (N i j)) (Z i)) else esP bl p i
def esG (bl : Nat → Nat) (g : Nat → Int32) : Nat → Nat → Int32
  | 0 => g
  | i + 1 => if esO T Z N sh bl i then (fun k => esG bl g i k + nI (cnN N i k (Z i))) else esG bl g i
def esF (bl : Nat → Nat) (f : Nat → Int32) : Nat → Nat → Int32
  | 0 => f
  | i + 1 => if T i = sh then upd (esF bl f i) i (if esO T Z N sh bl i then nI 1 else nI 2) else esF bl f i
theorem esB_le (bl : Nat → Nat) : ∀ i k, esB T Z N sh bl i k ≤ bl k
  | 0, _ => Nat.le_refl _
  | i + 1, k => by
    have := esB_le bl i k
    unfold esB
    split
    · show esB T Z N sh bl i k - _ ≤ _; omega
    · exact this
end ES
theorem lck_0 {wt bl : Nat → Nat} (h : lck wt bl = 0) {k : Nat} (hk : k < 5) : wt k ≤ bl k := by
  have := nsm_ge (f := fun k => wt k - bl k) hk
  unfold lck at h
  have h2 : wt k - bl k ≤ 0 := by rw [← h]; exact this
  omega
theorem lck_le (wt bl : Nat → Nat) {b : Nat} (h : ∀ k, k < 5 → wt k ≤ b) : lck wt bl ≤ 5 * b := by
  unfold lck
  exact nsm_le (fun k hk => by have := h k hk; show wt k - bl k ≤ b; omega)
section SH
variable {u O sh : Nat} {T Z P bl : Nat → Nat} {N : Nat → Nat → Nat} {a8 a9 a10 a11 : Nat → Int32}
theorem x_settle (K : ordOK O T Z N) (X : ordX O T Z N a9 a10 a11) (hP : ∀ k, k < 5 → a8 k = nI (P k)) (hu : 20 ≤ u) (hb : ∀ k, k < 5 → bl k ≤ 1000000) {i : Nat} (hi : i < O) {a1 a3 a4 : Nat → Int32} {pe : Int32} (h1 : ∀ k, k < 5 → a1 k = nI (bl k)) :
    ∃ b1 b3, f_X3_settle u pe a1 a3 a4 (nI O) a8 a10 a11 (nI i) = some (if lck (fun k => cnN N i k (Z i)) bl = 0 then pe + nI (nsm (fun j => P (N i j)) (Z i)) else pe, b1, b3, upd a4 i (if lck (fun k => cnN N i k (Z i)) bl = 0 then nI 1 else nI 2))
      ∧ (∀ k, k < 5 → b1 k = nI (if lck (fun k => cnN N i k (Z i)) bl = 0 then bl k - cnN N i k (Z i) else bl k)) ∧ ∀ k, k < 5 → b3 k = if lck (fun k => cnN N i k (Z i)) bl = 0 then a3 k + nI (cnN N i k (Z i)) else a3 k := by
  have hO := K.1
  have hcn : ∀ k, cnN N i k (Z i) ≤ 8 := fun k => by have := cnN_le N i k (Z i); have := (K.2.1 i hi).2.2.2; omega
  have c0 := cnN_0 K hi (Z i) (Nat.le_refl _)
  have hl := lck_le (fun k => cnN N i k (Z i)) bl (b := 8) (fun k _ => hcn k)
  unfold f_X3_settle bX3_settle_0
  rw [x_lack K X hu hb h1 hi, z_b]
  by_cases q : lck (fun k => cnN N i k (Z i)) bl = 0
  · have key : ∀ r k, k + r = 5 → 1 ≤ k → ∀ n g1 g3, r < n → (∀ j, j < 5 → g1 j = nI (if j < k then bl j - cnN N i j (Z i) else bl j)) → (∀ j, j < 5 → g3 j = if j < k then a3 j + nI (cnN N i j (Z i)) else a3 j) →
        ∃ b1 b3, bX3_settle_18 u (nI O) a8 a10 a11 n (pe + nI (nsm (fun k => cnN N i k (Z i) * P k) k)) g1 g3 a4 (nI i) (nI k) = some (pe + nI (nsm (fun k => cnN N i k (Z i) * P k) 5), b1, b3, upd a4 i (nI 1)) ∧ (∀ k, k < 5 → b1 k = nI (bl k - cnN N i k (Z i))) ∧ ∀ k, k < 5 → b3 k = a3 k + nI (cnN N i k (Z i)) := by
      intro r
      induction r with
      | zero =>
        intro k hk _ n g1 g3 hn f1 f3
        obtain ⟨n, rfl⟩ := z_suc hn
        have : k = 5 := by omega
        subst this
        refine ⟨g1, g3, ?_, fun j hj => by rw [f1 j hj, if_pos hj], fun j hj => by rw [f3 j hj, if_pos hj]⟩
        rw [bX3_settle_18]
        refine (if_pos (by decide)).trans ?_
        rw [z_ki (by omega) (by omega), z_cl (by omega)]
        rfl
      | succ r ih =>
        intro k hk hk1 n g1 g3 hn f1 f3
        obtain ⟨n, rfl⟩ := z_suc hn
        have e1 : nI k + (1 : Int32) = nI (k + 1) := nI_1 k
        have hle := lck_0 q (show k < 5 by omega)
        have g1k : g1 k = nI (bl k) := by rw [f1 k (by omega), if_neg (by omega)]
        have g3k : g3 k = a3 k := by rw [f3 k (by omega), if_neg (by omega)]
        obtain ⟨b1, b3, e, x1, x3⟩ := ih (k + 1) (by omega) (by omega) n (upd g1 k (g1 k - nI (cnN N i k (Z i)))) (upd g3 k (g3 k + nI (cnN N i k (Z i)))) (by omega) (fun j hj => by
          simp only [z_upd]
          by_cases z : j = k
          · rw [if_pos z, g1k, z_sub hle, if_pos (by omega), z]
          · rw [if_neg z, f1 j hj]
            by_cases y : j < k
            · rw [if_pos y, if_pos (by omega)]
            · rw [if_neg y, if_neg (by omega)]) (fun j hj => by
          simp only [z_upd]
          by_cases z : j = k
          · rw [if_pos z, g3k, if_pos (by omega), z]
          · rw [if_neg z, f3 j hj]
            by_cases y : j < k
            · rw [if_pos y, if_pos (by omega)]
            · rw [if_neg y, if_neg (by omega)])
        refine ⟨b1, b3, ?_, x1, x3⟩
        rw [bX3_settle_18]
        refine (if_neg (show ¬ (4 : Int32) < nI k from nI_nlt (a := 4) (b := k) (by omega) (by omega))).trans ?_
        rw [x_wanted K X hu hi (by omega), z_b, z_ki (by omega) (by omega), z_ki (by omega) (by omega), z_ki (by omega) (by omega), z_ki (by omega) (by omega), z_ki (by omega) (by omega), z_cl (by omega), hP k (by omega), pk_mul, e1, Int32.add_assoc, nI_add]
        exact e
    obtain ⟨b1, b3, e, x1, x3⟩ := key 4 1 rfl (Nat.le_refl _) u a1 a3 (by omega) (fun j hj => by
      rw [h1 j hj]
      by_cases y : j < 1
      · rw [if_pos y, show j = 0 by omega, c0]; rfl
      · rw [if_neg y]) (fun j hj => by
      by_cases y : j < 1
      · rw [if_pos y, show j = 0 by omega, c0]
        have : a3 0 + nI 0 = a3 0 := Int32.add_zero _
        rw [this]
      · rw [if_neg y])
    refine ⟨b1, b3, ?_, fun k hk => by rw [if_pos q]; exact x1 k hk, fun k hk => by rw [if_pos q]; exact x3 k hk⟩
    refine (if_pos (show nI (lck (fun k => cnN N i k (Z i)) bl) ≤ (0 : Int32) by rw [q]; decide)).trans ?_
    rw [if_pos q, if_pos q, ← worth_eq K P hi (Z i) (Nat.le_refl _)]
    have e0 : nsm (fun k => cnN N i k (Z i) * P k) 1 = 0 := by
      show 0 + cnN N i 0 (Z i) * P 0 = 0
      rw [c0]; omega
    rw [e0] at e
    have : pe + nI 0 = pe := Int32.add_zero _
    rw [this] at e
    exact e
  · refine ⟨a1, a3, ?_, fun k hk => by rw [if_neg q]; exact h1 k hk, fun k hk => by rw [if_neg q]⟩
    refine (if_neg (show ¬ nI (lck (fun k => cnN N i k (Z i)) bl) ≤ (0 : Int32) from nI_ge (a := 0) (by omega) (by omega))).trans ?_
    rw [if_neg q, if_neg q, z_ki (by omega) (by omega), z_cl (by omega)]
    rfl
theorem x_shift (K : ordOK O T Z N) (X : ordX O T Z N a9 a10 a11) (hP : ∀ k, k < 5 → a8 k = nI (P k)) (hu : 20 ≤ u) (hb : ∀ k, k < 5 → bl k ≤ 1000000) (hs : sh < 200) {a1 a3 a4 : Nat → Int32} {pe dg : Int32} (h1 : ∀ k, k < 5 → a1 k = nI (bl k)) :
    ∃ b1 b3, f_X3_endShift u (nI sh) dg pe a1 a3 a4 (nI O) a8 a9 a10 a11 = some (nI 1, nI (sh + 1), nI 0, esP T Z N P sh bl pe O, b1, b3, esF T Z N sh bl a4 O)
      ∧ (∀ k, k < 5 → b1 k = nI (esB T Z N sh bl O k)) ∧ ∀ k, k < 5 → b3 k = esG T Z N sh bl a3 O k := by
  have hO := K.1
  have key : ∀ r i, i + r = O → ∀ n g1 g3, r < n → (∀ k, k < 5 → g1 k = nI (esB T Z N sh bl i k)) → (∀ k, k < 5 → g3 k = esG T Z N sh bl a3 i k) →
      ∃ b1 b3, bX3_endShift_14 u (nI O) a8 a9 a10 a11 n (nI sh) dg (esP T Z N P sh bl pe i) g1 g3 (esF T Z N sh bl a4 i) (nI i) = some (nI 1, nI (sh + 1), nI 0, esP T Z N P sh bl pe O, b1, b3, esF T Z N sh bl a4 O) ∧ (∀ k, k < 5 → b1 k = nI (esB T Z N sh bl O k)) ∧ ∀ k, k < 5 → b3 k = esG T Z N sh bl a3 O k := by
    intro r
    induction r with
    | zero =>
      intro i hi n g1 g3 hn f1 f3
      obtain ⟨n, rfl⟩ := z_suc hn
      have : i = O := by omega
      subst this
      refine ⟨g1, g3, ?_, f1, f3⟩
      rw [bX3_endShift_14]
      refine (if_pos (nI_le (Nat.le_refl _) (by omega))).trans ?_
      have e1 : nI sh + (1 : Int32) = nI (sh + 1) := nI_1 sh
      rw [e1]
      rfl
    | succ r ih =>
      intro i hi n g1 g3 hn f1 f3
      obtain ⟨n, rfl⟩ := z_suc hn
      have e1 : nI i + (1 : Int32) = nI (i + 1) := nI_1 i
      have hT := K.2.1 i (by omega)
      rw [bX3_endShift_14]
      unfold bX3_endShift_46
      rw [e1]
      refine Exists.imp (fun b1 h => Exists.imp (fun b3 h2 => And.imp_left (fun h3 => (if_neg (nI_ge (a := i) (b := O) (by omega) (by omega))).trans h3) h2) h) ?_
      rw [z_ki (by omega) (by omega), z_cl (by omega), X.1 i (by omega)]
      have eB : esB T Z N sh bl (i + 1) = if T i = sh ∧ lck (fun k => cnN N i k (Z i)) (esB T Z N sh bl i) = 0 then (fun k => esB T Z N sh bl i k - cnN N i k (Z i)) else esB T Z N sh bl i := rfl
      have eP : esP T Z N P sh bl pe (i + 1) = if esO T Z N sh bl i then esP T Z N P sh bl pe i + nI (nsm (fun j => P (N i j)) (Z i)) else esP T Z N P sh bl pe i := rfl
      have eG : esG T Z N sh bl a3 (i + 1) = if esO T Z N sh bl i then (fun k => esG T Z N sh bl a3 i k + nI (cnN N i k (Z i))) else esG T Z N sh bl a3 i := rfl
      have eF : esF T Z N sh bl a4 (i + 1) = if T i = sh then upd (esF T Z N sh bl a4 i) i (if esO T Z N sh bl i then nI 1 else nI 2) else esF T Z N sh bl a4 i := rfl
      by_cases q : T i = sh
      · obtain ⟨b1, b3, e, x1, x3⟩ := x_settle (u := u) (P := P) (pe := esP T Z N P sh bl pe i) (a3 := g3) (a4 := esF T Z N sh bl a4 i) K X hP hu (fun k hk => Nat.le_trans (esB_le T Z N sh bl i k) (hb k hk)) (show i < O by omega) f1
        refine Exists.imp (fun b1 h => Exists.imp (fun b3 h2 => And.imp_left (fun h3 => (if_pos (show nI (T i) = nI sh by rw [q])).trans h3) h2) h) ?_
        rw [e, z_b]
        dsimp only
        have hi2 := ih (i + 1) (by omega) n b1 b3 (by omega)
        rw [eB, eP, eG, eF] at hi2
        by_cases y : lck (fun k => cnN N i k (Z i)) (esB T Z N sh bl i) = 0
        · have eO : esO T Z N sh bl i = true := by unfold esO; simp [q, y]
          simp only [y, q, eO, if_true, and_self] at hi2 x1 x3 ⊢
          exact hi2 x1 (fun k hk => by rw [x3 k hk, f3 k hk])
        · have eO : esO T Z N sh bl i = false := by unfold esO; simp [y]
          simp only [y, q, eO, if_true, if_false, and_false, Bool.false_eq_true] at hi2 x1 x3 ⊢
          exact hi2 x1 (fun k hk => by rw [x3 k hk, f3 k hk])
      · refine Exists.imp (fun b1 h => Exists.imp (fun b3 h2 => And.imp_left (fun h3 => (if_neg (show ¬ nI (T i) = nI sh from fun h => q ((nI_eq (by omega) (by omega)).mp h))).trans h3) h2) h) ?_
        have hi2 := ih (i + 1) (by omega) n g1 g3 (by omega)
        rw [eB, eP, eG, eF] at hi2
        have eO : esO T Z N sh bl i = false := by unfold esO; simp [q]
        simp only [q, eO, if_false, false_and, Bool.false_eq_true] at hi2
        exact hi2 f1 f3
  unfold f_X3_endShift bX3_endShift_0
  obtain ⟨b1, b3, e, x⟩ := key O 0 (by omega) u a1 a3 (by omega) h1 (fun _ _ => rfl)
  exact ⟨b1, b3, (if_pos (nI_lt (b := 200) hs (by omega))).trans e, x⟩
end SH
