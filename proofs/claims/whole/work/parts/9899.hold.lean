/-! HOLDING: the fewest props, over all cells and row by row -/
section HLD
variable (LF : (Nat → Int32) → Int32) (K B : Nat → Nat) (sh : Nat)
theorem runL_cong {p q : Nat → Bool} : ∀ x, (∀ i, i < x → p i = q i) → runL p x = runL q x
  | 0, _ => rfl
  | x + 1, h => by
    show (if p x then runL p x + 1 else 0) = (if q x then runL q x + 1 else 0)
    rw [h x (by omega), runL_cong x (fun i hi => h i (by omega))]
theorem runR_cong {p q : Nat → Bool} : ∀ n x, (∀ i, x ≤ i → i < x + n → p i = q i) → runR p n x = runR q n x
  | 0, _, _ => rfl
  | n + 1, x, h => by
    show (if p x then runR p n (x + 1) + 1 else 0) = (if q x then runR q n (x + 1) + 1 else 0)
    rw [h x (by omega) (by omega), runR_cong n (x + 1) (fun i h1 h2 => h i (by omega) (by omega))]
/-- a fall hangs on its own row, and on what is open -/
theorem fl_row {S T : Nat → Nat} {y : Nat} (h1 : ∀ x, x < 8 → S (8 * y + x) = T (8 * y + x)) (h2 : ∀ c, opn S c = opn T c) {c : Nat} (hc : c / 8 = y) : fl LF S K B sh c = fl LF T K B sh c := by
  have hr : ∀ d, d / 8 = y → S d = T d := fun d hd => by
    have := h1 (d % 8) (by omega)
    rw [show 8 * y + d % 8 = d by omega] at this
    exact this
  have hrow : ∀ i, i < 8 → rowp S (c / 8) i = rowp T (c / 8) i := fun i hi => by
    unfold rowp
    rw [hr (8 * (c / 8) + i) (by omega)]
  have hw : wd S c = wd T c := by
    unfold wd
    rw [hr c hc, runL_cong (c % 8) (fun i hi => hrow i (by omega)), runR_cong (7 - c % 8) (c % 8 + 1) (fun i h1 h2 => hrow i (by omega))]
  have hf : fav S K B sh (wd S c) c = fav T K B sh (wd T c) c := by
    rw [hw]
    funext i
    unfold fav
    apply congrArg nI
    unfold fct
    match i with
    | 0 => rfl
    | 1 => rfl
    | 2 => rfl
    | 3 => simp only [h2]
    | 4 =>
      have e1 : (if 0 < c % 8 ∧ S (c - 1) = 2 then 1 else 0) = (if 0 < c % 8 ∧ T (c - 1) = 2 then 1 else 0) := by
        by_cases z : 0 < c % 8
        · rw [hr (c - 1) (by omega)]
        · rw [if_neg (fun w => z w.1), if_neg (fun w => z w.1)]
      have e2 : (if c % 8 < 7 ∧ S (c + 1) = 2 then 1 else 0) = (if c % 8 < 7 ∧ T (c + 1) = 2 then 1 else 0) := by
        by_cases z : c % 8 < 7
        · rw [hr (c + 1) (by omega)]
        · rw [if_neg (fun w => z w.1), if_neg (fun w => z w.1)]
      show (if 0 < c % 8 ∧ S (c - 1) = 2 then 1 else 0) + (if c % 8 < 7 ∧ S (c + 1) = 2 then 1 else 0) = _
      rw [e1, e2]
      rfl
    | 5 => rfl
    | 6 => rfl
    | i + 7 => rfl
  unfold fl
  rw [hf, hr c hc]
def rowQ (S : Nat → Nat) (y : Nat) : Bool := (List.range 8).all (fun x => !fl LF S K B sh (8 * y + x))
theorem rowQ_iff (S : Nat → Nat) (y : Nat) : rowQ LF K B sh S y = true ↔ ∀ x, x < 8 → fl LF S K B sh (8 * y + x) = false := by
  unfold rowQ
  rw [List.all_eq_true]
  constructor
  · intro h x hx
    have := h x (List.mem_range.mpr hx)
    cases z : fl LF S K B sh (8 * y + x) with
    | false => rfl
    | true => rw [z] at this; exact absurd this (by decide)
  · intro h x hx
    rw [h x (List.mem_range.mp hx)]; rfl
theorem rowQ_cong {S T : Nat → Nat} {y : Nat} (h1 : ∀ x, x < 8 → S (8 * y + x) = T (8 * y + x)) (h2 : ∀ c, opn S c = opn T c) : rowQ LF K B sh S y = rowQ LF K B sh T y := by
  have key : ∀ S T : Nat → Nat, (∀ x, x < 8 → S (8 * y + x) = T (8 * y + x)) → (∀ c, opn S c = opn T c) → rowQ LF K B sh S y = true → rowQ LF K B sh T y = true := by
    intro S T h1 h2 h
    rw [rowQ_iff] at h ⊢
    intro x hx
    rw [← fl_row LF K B sh h1 h2 (show (8 * y + x) / 8 = y by omega)]
    exact h x hx
  cases a : rowQ LF K B sh S y with
  | true => exact (key S T h1 h2 a).symm
  | false =>
    cases b : rowQ LF K B sh T y with
    | false => rfl
    | true =>
      have := key T S (fun x hx => (h1 x hx).symm) (fun c => (h2 c).symm) b
      rw [a] at this
      exact absurd this (by decide)
def allQ (S : Nat → Nat) : Bool := cntB (fl LF S K B sh) 48 == 0
theorem cntB_0 (p : Nat → Bool) : ∀ n, cntB p n = 0 ↔ ∀ c, c < n → p c = false
  | 0 => ⟨fun _ c hc => absurd hc (Nat.not_lt_zero c), fun _ => rfl⟩
  | n + 1 => by
    have e : cntB p (n + 1) = cntB p n + (if p n then 1 else 0) := rfl
    rw [e]
    constructor
    · intro h c hc
      by_cases z : c = n
      · subst z
        cases q : p c with
        | false => rfl
        | true => rw [q, if_pos rfl] at h; omega
      · exact (cntB_0 p n).mp (by omega) c (by omega)
    · intro h
      rw [(cntB_0 p n).mpr (fun c hc => h c (by omega)), h n (by omega)]
      rfl
theorem allQ_iff (S : Nat → Nat) : allQ LF K B sh S = true ↔ ∀ y, y < 6 → rowQ LF K B sh S y = true := by
  unfold allQ
  rw [beq_iff_eq, cntB_0]
  constructor
  · intro h y hy
    rw [rowQ_iff]
    intro x hx
    exact h _ (by omega)
  · intro h c hc
    have := (rowQ_iff LF K B sh S (c / 8)).mp (h (c / 8) (by omega)) (c % 8) (by omega)
    rw [show 8 * (c / 8) + c % 8 = c by omega] at this
    exact this
def upP (S : Nat → Nat) (c : Nat) : Nat → Nat := fun k => if k = c then 2 else S k
theorem upP_o {S : Nat → Nat} {c : Nat} (h : S c = 1) : ∀ k, opn (upP S c) k = opn S k := by
  intro k
  unfold opn upP
  by_cases z : k = c
  · rw [if_pos z, z, h]; rfl
  · rw [if_neg z]
/-- the reference's search -/
def hs : Nat → Nat → Nat → (Nat → Nat) → Nat → Option Nat
  | 0, m, _, S, dg => if m = 0 then (if allQ LF K B sh S = true then some dg else none) else none
  | r + 1, m, c, S, dg => if m = 0 then (if allQ LF K B sh S = true then some dg else none) else if S c = 1 then (match hs r (m - 1) (c + 1) (upP S c) (64 * dg + c + 1) with | some v => some v | none => hs r m (c + 1) S dg) else hs r m (c + 1) S dg
/-- one row's -/
def rs (y : Nat) : Nat → Nat → Nat → (Nat → Nat) → Nat → Option Nat
  | 0, j, _, S, dg => if j = 0 then (if rowQ LF K B sh S y = true then some dg else none) else none
  | r + 1, j, x, S, dg => if j = 0 then (if rowQ LF K B sh S y = true then some dg else none) else if S (8 * y + x) = 1 then (match rs y r (j - 1) (x + 1) (upP S (8 * y + x)) (64 * dg + (8 * y + x) + 1) with | some v => some v | none => rs y r j (x + 1) S dg) else rs y r j (x + 1) S dg
def rsB (y : Nat) : Nat → Nat → Nat → (Nat → Nat) → Bool
  | 0, j, _, S => if j = 0 then rowQ LF K B sh S y else false
  | r + 1, j, x, S => if j = 0 then rowQ LF K B sh S y else if S (8 * y + x) = 1 then (rsB y r (j - 1) (x + 1) (upP S (8 * y + x)) || rsB y r j (x + 1) S) else rsB y r j (x + 1) S
theorem rs_B (y : Nat) : ∀ r j x S dg, (rs LF K B sh y r j x S dg).isSome = rsB LF K B sh y r j x S
  | 0, j, x, S, dg => by
    unfold rs rsB
    by_cases z : j = 0
    · rw [if_pos z, if_pos z]
      cases rowQ LF K B sh S y <;> rfl
    · rw [if_neg z, if_neg z]; rfl
  | r + 1, j, x, S, dg => by
    unfold rs rsB
    by_cases z : j = 0
    · rw [if_pos z, if_pos z]
      cases rowQ LF K B sh S y <;> rfl
    · rw [if_neg z, if_neg z]
      by_cases w : S (8 * y + x) = 1
      · rw [if_pos w, if_pos w]
        have h1 := rs_B y r (j - 1) (x + 1) (upP S (8 * y + x)) (64 * dg + (8 * y + x) + 1)
        have h2 := rs_B y r j (x + 1) S dg
        cases q : rs LF K B sh y r (j - 1) (x + 1) (upP S (8 * y + x)) (64 * dg + (8 * y + x) + 1) with
        | some v => rw [q] at h1; rw [← h1]; rfl
        | none => rw [q] at h1; rw [← h1, ← h2]; rfl
      · rw [if_neg w, if_neg w]
        exact rs_B y r j (x + 1) S dg
theorem rs_none {y r j x : Nat} {S : Nat → Nat} (h : rsB LF K B sh y r j x S = false) (dg : Nat) : rs LF K B sh y r j x S dg = none := by
  have := rs_B LF K B sh y r j x S dg
  rw [h] at this
  cases q : rs LF K B sh y r j x S dg with
  | none => rfl
  | some v => rw [q] at this; exact absurd (show true = false from this) (by decide)
theorem rs_some {y r j x : Nat} {S : Nat → Nat} (h : rsB LF K B sh y r j x S = true) (dg : Nat) : ∃ v, rs LF K B sh y r j x S dg = some v := by
  have := rs_B LF K B sh y r j x S dg
  rw [h] at this
  cases q : rs LF K B sh y r j x S dg with
  | none => rw [q] at this; exact absurd this (by decide)
  | some v => exact ⟨v, rfl⟩
theorem rs_cong {y : Nat} : ∀ r j x (S T : Nat → Nat) dg, (∀ x, x < 8 → S (8 * y + x) = T (8 * y + x)) → (∀ c, opn S c = opn T c) → x + r = 8 → rs LF K B sh y r j x S dg = rs LF K B sh y r j x T dg ∧ rsB LF K B sh y r j x S = rsB LF K B sh y r j x T
  | 0, j, x, S, T, dg, h1, h2, hx => by
    unfold rs rsB
    rw [rowQ_cong LF K B sh h1 h2]
    exact ⟨rfl, rfl⟩
  | r + 1, j, x, S, T, dg, h1, h2, hx => by
    have hS := h1 x (by omega)
    unfold rs rsB
    rw [rowQ_cong LF K B sh h1 h2, hS]
    obtain ⟨b1, b2⟩ := rs_cong r j (x + 1) S T dg h1 h2 (by omega)
    by_cases z : j = 0
    · rw [if_pos z, if_pos z, if_pos z, if_pos z]; exact ⟨rfl, rfl⟩
    · rw [if_neg z, if_neg z, if_neg z, if_neg z]
      by_cases w : T (8 * y + x) = 1
      · obtain ⟨a1, a2⟩ := rs_cong r (j - 1) (x + 1) (upP S (8 * y + x)) (upP T (8 * y + x)) (64 * dg + (8 * y + x) + 1) (fun i hi => by
          unfold upP
          by_cases e : 8 * y + i = 8 * y + x
          · rw [if_pos e, if_pos e]
          · rw [if_neg e, if_neg e]; exact h1 i hi) (fun c => by rw [upP_o (hS.trans w), upP_o w]; exact h2 c) (by omega)
        rw [if_pos w, if_pos w, if_pos w, if_pos w, a1, a2, b1, b2]
        exact ⟨rfl, rfl⟩
      · rw [if_neg w, if_neg w, if_neg w, if_neg w]
        exact ⟨b1, b2⟩
theorem rsB_0 (y r x : Nat) (S : Nat → Nat) : rsB LF K B sh y r 0 x S = rowQ LF K B sh S y := by
  cases r with
  | zero => unfold rsB; rw [if_pos rfl]
  | succ r => unfold rsB; rw [if_pos rfl]
theorem rs_0 (y r x : Nat) (S : Nat → Nat) (dg : Nat) : rs LF K B sh y r 0 x S dg = if rowQ LF K B sh S y = true then some dg else none := by
  cases r with
  | zero => unfold rs; rw [if_pos rfl]
  | succ r => unfold rs; rw [if_pos rfl]
/-- the fewest of a row; of the rows from y on; their digits -/
def kmn (S0 : Nat → Nat) (y : Nat) : Nat := fa_first (fun j => rsB LF K B sh y 8 j 0 S0) 9
def nmn (S0 : Nat → Nat) : Nat → Nat → Nat
  | 0, _ => 0
  | r + 1, y => kmn LF K B sh S0 y + nmn S0 r (y + 1)
def dmn (S0 : Nat → Nat) : Nat → Nat → Nat → Nat
  | 0, _, dg => dg
  | r + 1, y, dg => dmn S0 r (y + 1) ((rs LF K B sh y 8 (kmn LF K B sh S0 y) 0 S0 dg).getD 0)
variable {LF K B sh}
theorem kmn_le {S0 : Nat → Nat} {y j : Nat} (hj : j < 9) (h : rsB LF K B sh y 8 j 0 S0 = true) : kmn LF K B sh S0 y ≤ j := fa_first_min (p := fun j => rsB LF K B sh y 8 j 0 S0) hj h
theorem kmn_no {S0 : Nat → Nat} {y j : Nat} (h : j < kmn LF K B sh S0 y) : rsB LF K B sh y 8 j 0 S0 = false := fa_first_no (fun j => rsB LF K B sh y 8 j 0 S0) 9 j h
theorem kmn_yes {S0 : Nat → Nat} {y : Nat} (h : kmn LF K B sh S0 y < 9) : rsB LF K B sh y 8 (kmn LF K B sh S0 y) 0 S0 = true := fa_first_yes (fun j => rsB LF K B sh y 8 j 0 S0) 9 h
theorem kmn_0 {S0 : Nat → Nat} {y : Nat} (h : rowQ LF K B sh S0 y = true) : kmn LF K B sh S0 y = 0 := by
  have := kmn_le (LF := LF) (K := K) (B := B) (sh := sh) (S0 := S0) (y := y) (j := 0) (by omega) (by rw [rsB_0]; exact h)
  omega
theorem nmn_0 {S0 : Nat → Nat} : ∀ r y, (∀ i, y ≤ i → i < y + r → rowQ LF K B sh S0 i = true) → nmn LF K B sh S0 r y = 0 ∧ ∀ dg, dmn LF K B sh S0 r y dg = dg
  | 0, _, _ => ⟨rfl, fun _ => rfl⟩
  | r + 1, y, h => by
    obtain ⟨h1, h2⟩ := nmn_0 r (y + 1) (fun i a b => h i (by omega) (by omega))
    have h0 := h y (by omega) (by omega)
    have hk := kmn_0 h0
    refine ⟨?_, fun dg => ?_⟩
    · show kmn LF K B sh S0 y + nmn LF K B sh S0 r (y + 1) = 0
      rw [hk, h1]
    · show dmn LF K B sh S0 r (y + 1) ((rs LF K B sh y 8 (kmn LF K B sh S0 y) 0 S0 dg).getD 0) = dg
      rw [hk, rs_0, if_pos h0, h2]
      rfl
theorem nmn_0' {S0 : Nat → Nat} : ∀ r y, nmn LF K B sh S0 r y = 0 → ∀ i, y ≤ i → i < y + r → rowQ LF K B sh S0 i = true
  | 0, _, _, i, a, b => by omega
  | r + 1, y, h, i, a, b => by
    have e : nmn LF K B sh S0 (r + 1) y = kmn LF K B sh S0 y + nmn LF K B sh S0 r (y + 1) := rfl
    rw [e] at h
    by_cases z : i = y
    · have hk : kmn LF K B sh S0 y = 0 := by omega
      have := kmn_yes (LF := LF) (K := K) (B := B) (sh := sh) (S0 := S0) (y := y) (by omega)
      rw [hk, rsB_0] at this
      rw [z]; exact this
    · exact nmn_0' r (y + 1) (by omega) i (by omega) (by omega)
def bndO (o : Option Nat) (f : Nat → Nat) : Option Nat := match o with | some d => some (f d) | none => none
/-- the claim at a place -/
def Clm (LF : (Nat → Int32) → Int32) (K B : Nat → Nat) (sh : Nat) (S0 : Nat → Nat) (y x : Nat) : Prop := ∀ (m : Nat) (S : Nat → Nat) (dg : Nat), m ≤ 4 → (∀ i, y < i → i < 6 → ∀ x, x < 8 → S (8 * i + x) = S0 (8 * i + x)) → (∀ c, opn S c = opn S0 c) →
  (∀ v, hs LF K B sh (48 - (8 * y + x)) m (8 * y + x) S dg = some v → (∀ i, i < y → rowQ LF K B sh S i = true) ∧ ∃ j, j ≤ m ∧ rsB LF K B sh y (8 - x) j x S = true ∧ nmn LF K B sh S0 (5 - y) (y + 1) ≤ m - j) ∧
  (∀ j, (∀ i, i < y → rowQ LF K B sh S i = true) → m = nmn LF K B sh S0 (5 - y) (y + 1) + j → (∀ i, i < j → rsB LF K B sh y (8 - x) i x S = false) → hs LF K B sh (48 - (8 * y + x)) m (8 * y + x) S dg = bndO (rs LF K B sh y (8 - x) j x S dg) (dmn LF K B sh S0 (5 - y) (y + 1)))
theorem hs_0 (r c : Nat) (S : Nat → Nat) (dg : Nat) : hs LF K B sh r 0 c S dg = if allQ LF K B sh S = true then some dg else none := by
  cases r with
  | zero => unfold hs; rw [if_pos rfl]
  | succ r => unfold hs; rw [if_pos rfl]
/-- at the end of the last row -/
theorem clm_end (S0 : Nat → Nat) : Clm LF K B sh S0 5 8 := by
  intro m S dg hm hag hop
  have e48 : 48 - (8 * 5 + 8) = 0 := rfl
  rw [e48]
  constructor
  · intro v hv
    unfold hs at hv
    by_cases z : m = 0
    · rw [if_pos z] at hv
      by_cases q : allQ LF K B sh S = true
      · rw [allQ_iff] at q
        refine ⟨fun i hi => q i (by omega), 0, by omega, ?_, Nat.zero_le _⟩
        rw [rsB_0]; exact q 5 (by omega)
      · rw [if_neg q] at hv; exact absurd hv (by simp)
    · rw [if_neg z] at hv; exact absurd hv (by simp)
  · intro j hG hmj hmin
    have e0 : nmn LF K B sh S0 (5 - 5) (5 + 1) = 0 := rfl
    rw [e0] at hmj
    have hj : m = j := by omega
    subst hj
    show hs LF K B sh 0 m (8 * 5 + 8) S dg = bndO (rs LF K B sh 5 0 m 8 S dg) (dmn LF K B sh S0 0 6)
    unfold hs rs
    by_cases z : m = 0
    · rw [if_pos z, if_pos z]
      by_cases q : rowQ LF K B sh S 5 = true
      · rw [if_pos q, if_pos ((allQ_iff LF K B sh S).mpr (fun i hi => by
          by_cases w : i = 5
          · rw [w]; exact q
          · exact hG i (by omega)))]
        rfl
      · rw [if_neg q, if_neg (fun w => q ((allQ_iff LF K B sh S).mp w 5 (by omega)))]
        rfl
    · rw [if_neg z, if_neg z]; rfl
/-- from a row's beginning to the end of the row above -/
theorem clm_row {S0 : Nat → Nat} {y : Nat} (hy : y < 5) (C : Clm LF K B sh S0 (y + 1) 0) : Clm LF K B sh S0 y 8 := by
  intro m S dg hm hag hop
  have hc : 8 * y + 8 = 8 * (y + 1) + 0 := by omega
  obtain ⟨c1, c2⟩ := C m S dg hm (fun i h1 h2 => hag i (by omega) h2) hop
  have e5 : 5 - y = (5 - (y + 1)) + 1 := by omega
  have en : nmn LF K B sh S0 (5 - y) (y + 1) = kmn LF K B sh S0 (y + 1) + nmn LF K B sh S0 (5 - (y + 1)) (y + 1 + 1) := by rw [e5]; rfl
  have ed : ∀ dg, dmn LF K B sh S0 (5 - y) (y + 1) dg = dmn LF K B sh S0 (5 - (y + 1)) (y + 1 + 1) ((rs LF K B sh (y + 1) 8 (kmn LF K B sh S0 (y + 1)) 0 S0 dg).getD 0) := by intro dg; rw [e5]; rfl
  have cg := fun j dg => rs_cong LF K B sh (y := y + 1) 8 j 0 S S0 dg (hag (y + 1) (by omega) (by omega)) hop (by omega)
  have h1 : ∀ v, hs LF K B sh (48 - (8 * y + 8)) m (8 * y + 8) S dg = some v → (∀ i, i < y + 1 → rowQ LF K B sh S i = true) ∧ nmn LF K B sh S0 (5 - y) (y + 1) ≤ m := by
    intro v hv
    rw [hc] at hv
    obtain ⟨g, j, j1, j2, j3⟩ := c1 v hv
    refine ⟨g, ?_⟩
    have j2' : rsB LF K B sh (y + 1) 8 j 0 S = true := j2
    rw [(cg j dg).2] at j2'
    have := kmn_le (by omega) j2'
    omega
  constructor
  · intro v hv
    obtain ⟨g, h⟩ := h1 v hv
    refine ⟨fun i hi => g i (by omega), 0, by omega, ?_, by omega⟩
    rw [rsB_0]
    exact g y (by omega)
  · intro j hG hmj hmin
    show hs LF K B sh (48 - (8 * y + 8)) m (8 * y + 8) S dg = bndO (rs LF K B sh y 0 j 8 S dg) _
    by_cases z : j = 0
    · subst z
      rw [rs_0]
      by_cases q : rowQ LF K B sh S y = true
      · rw [if_pos q, hc]
        have hk : kmn LF K B sh S0 (y + 1) < 9 := by omega
        have := c2 (kmn LF K B sh S0 (y + 1)) (fun i hi => by
          by_cases w : i = y
          · rw [w]; exact q
          · exact hG i (by omega)) (by omega) (fun i hi => by
            show rsB LF K B sh (y + 1) 8 i 0 S = false
            rw [(cg i dg).2]; exact kmn_no hi)
        rw [this]
        show bndO (rs LF K B sh (y + 1) 8 (kmn LF K B sh S0 (y + 1)) 0 S dg) _ = some (dmn LF K B sh S0 (5 - y) (y + 1) dg)
        rw [(cg _ dg).1, ed dg]
        obtain ⟨v, hv⟩ := rs_some LF K B sh (kmn_yes hk) dg
        rw [hv]
        rfl
      · rw [if_neg q]
        cases hh : hs LF K B sh (48 - (8 * y + 8)) m (8 * y + 8) S dg with
        | none => rfl
        | some v => exact absurd ((h1 v hh).1 y (by omega)) q
    · have hq := hmin 0 (by omega)
      rw [rsB_0] at hq
      have : rs LF K B sh y 0 j 8 S dg = none := by unfold rs; rw [if_neg z]
      rw [this]
      cases hh : hs LF K B sh (48 - (8 * y + 8)) m (8 * y + 8) S dg with
      | none => rfl
      | some v =>
        have := (h1 v hh).1 y (by omega)
        rw [hq] at this
        exact absurd this (by decide)
/-- one cell further to the left -/
theorem clm_cell {S0 : Nat → Nat} {y x : Nat} (hy : y < 6) (hx : x < 8) (C : Clm LF K B sh S0 y (x + 1)) : Clm LF K B sh S0 y x := by
  intro m S dg hm hag hop
  have er : 48 - (8 * y + x) = (48 - (8 * y + (x + 1))) + 1 := by omega
  have e8 : 8 - x = (8 - (x + 1)) + 1 := by omega
  rw [er, e8]
  have exB : ∀ j, 0 < j → rsB LF K B sh y (8 - (x + 1) + 1) j x S = (if S (8 * y + x) = 1 then (rsB LF K B sh y (8 - (x + 1)) (j - 1) (x + 1) (upP S (8 * y + x)) || rsB LF K B sh y (8 - (x + 1)) j (x + 1) S) else rsB LF K B sh y (8 - (x + 1)) j (x + 1) S) := by
    intro j hj
    show (if j = 0 then _ else _) = _
    rw [if_neg (by omega)]
  have exR : ∀ j, 0 < j → rs LF K B sh y (8 - (x + 1) + 1) j x S dg = (if S (8 * y + x) = 1 then (match rs LF K B sh y (8 - (x + 1)) (j - 1) (x + 1) (upP S (8 * y + x)) (64 * dg + (8 * y + x) + 1) with | some v => some v | none => rs LF K B sh y (8 - (x + 1)) j (x + 1) S dg) else rs LF K B sh y (8 - (x + 1)) j (x + 1) S dg) := by
    intro j hj
    show (if j = 0 then _ else _) = _
    rw [if_neg (by omega)]
  by_cases hm0 : m = 0
  · subst hm0
    rw [hs_0]
    constructor
    · intro v hv
      by_cases q : allQ LF K B sh S = true
      · rw [allQ_iff] at q
        refine ⟨fun i hi => q i (by omega), 0, by omega, ?_, ?_⟩
        · rw [rsB_0]; exact q y hy
        · have := (nmn_0 (LF := LF) (K := K) (B := B) (sh := sh) (S0 := S0) (5 - y) (y + 1) (fun i a b => by
            rw [← rowQ_cong LF K B sh (hag i (by omega) (by omega)) hop]; exact q i (by omega))).1
          omega
      · rw [if_neg q] at hv; exact absurd hv (by simp)
    · intro j hG hmj hmin
      have hj : j = 0 := by omega
      subst hj
      have hn : nmn LF K B sh S0 (5 - y) (y + 1) = 0 := by omega
      have hrows := nmn_0' (5 - y) (y + 1) hn
      have hd := (nmn_0 (5 - y) (y + 1) hrows).2
      rw [rs_0]
      by_cases q : rowQ LF K B sh S y = true
      · rw [if_pos q, if_pos ((allQ_iff LF K B sh S).mpr (fun i hi => by
          by_cases w : i < y
          · exact hG i w
          · by_cases w2 : i = y
            · rw [w2]; exact q
            · rw [rowQ_cong LF K B sh (hag i (by omega) (by omega)) hop]; exact hrows i (by omega) (by omega)))]
        show some dg = some (dmn LF K B sh S0 (5 - y) (y + 1) dg)
        rw [hd]
      · rw [if_neg q, if_neg (fun w => q ((allQ_iff LF K B sh S).mp w y hy))]
        rfl
  · have exH : hs LF K B sh (48 - (8 * y + (x + 1)) + 1) m (8 * y + x) S dg = (if S (8 * y + x) = 1 then (match hs LF K B sh (48 - (8 * y + (x + 1))) (m - 1) (8 * y + (x + 1)) (upP S (8 * y + x)) (64 * dg + (8 * y + x) + 1) with | some v => some v | none => hs LF K B sh (48 - (8 * y + (x + 1))) m (8 * y + (x + 1)) S dg) else hs LF K B sh (48 - (8 * y + (x + 1))) m (8 * y + (x + 1)) S dg) := by
      show (if m = 0 then _ else _) = _
      rw [if_neg hm0]
      rfl
    rw [exH]
    obtain ⟨b1, b2⟩ := C m S dg hm hag hop
    have keep : ∀ j, rsB LF K B sh y (8 - (x + 1)) j (x + 1) S = true → rsB LF K B sh y (8 - (x + 1) + 1) j x S = true := by
      intro j h
      by_cases z : j = 0
      · rw [z, rsB_0] at h ⊢; exact h
      · rw [exB j (by omega)]
        by_cases w : S (8 * y + x) = 1
        · rw [if_pos w, h, Bool.or_true]
        · rw [if_neg w]; exact h
    have keepN : ∀ j, rsB LF K B sh y (8 - (x + 1) + 1) j x S = false → rsB LF K B sh y (8 - (x + 1)) j (x + 1) S = false := by
      intro j h
      cases q : rsB LF K B sh y (8 - (x + 1)) j (x + 1) S with
      | false => rfl
      | true => rw [keep j q] at h; exact absurd h (by decide)
    have same0 : rs LF K B sh y (8 - (x + 1) + 1) 0 x S dg = rs LF K B sh y (8 - (x + 1)) 0 (x + 1) S dg := by rw [rs_0, rs_0]
    by_cases hS : S (8 * y + x) = 1
    · have hop' : ∀ c, opn (upP S (8 * y + x)) c = opn S0 c := fun c => by rw [upP_o hS]; exact hop c
      have hrow' : ∀ i, i ≠ y → rowQ LF K B sh (upP S (8 * y + x)) i = rowQ LF K B sh S i := fun i hi => rowQ_cong LF K B sh (fun k hk => by unfold upP; rw [if_neg (by omega)]) (fun c => upP_o hS c)
      obtain ⟨a1, a2⟩ := C (m - 1) (upP S (8 * y + x)) (64 * dg + (8 * y + x) + 1) (by omega) (fun i h1 h2 k hk => by unfold upP; rw [if_neg (by omega)]; exact hag i h1 h2 k hk) hop'
      rw [if_pos hS]
      constructor
      · intro v hv
        cases q : hs LF K B sh (48 - (8 * y + (x + 1))) (m - 1) (8 * y + (x + 1)) (upP S (8 * y + x)) (64 * dg + (8 * y + x) + 1) with
        | some w =>
          obtain ⟨g, j, j1, j2, j3⟩ := a1 w q
          refine ⟨fun i hi => by rw [← hrow' i (by omega)]; exact g i hi, j + 1, by omega, ?_, by omega⟩
          rw [exB (j + 1) (by omega), if_pos hS, show j + 1 - 1 = j by omega, j2, Bool.true_or]
        | none =>
          rw [q] at hv
          obtain ⟨g, j, j1, j2, j3⟩ := b1 v hv
          exact ⟨g, j, j1, keep j j2, j3⟩
      · intro j hG hmj hmin
        have hG' : ∀ i, i < y → rowQ LF K B sh (upP S (8 * y + x)) i = true := fun i hi => by rw [hrow' i (by omega)]; exact hG i hi
        rw [b2 j hG hmj (fun i hi => keepN i (hmin i hi))]
        by_cases z : j = 0
        · subst z
          have hn : hs LF K B sh (48 - (8 * y + (x + 1))) (m - 1) (8 * y + (x + 1)) (upP S (8 * y + x)) (64 * dg + (8 * y + x) + 1) = none := by
            cases q : hs LF K B sh (48 - (8 * y + (x + 1))) (m - 1) (8 * y + (x + 1)) (upP S (8 * y + x)) (64 * dg + (8 * y + x) + 1) with
            | none => rfl
            | some w =>
              obtain ⟨g, j, j1, j2, j3⟩ := a1 w q
              omega
          rw [hn, same0]
        · rw [a2 (j - 1) hG' (by omega) (fun i hi => by
            have := hmin (i + 1) (by omega)
            rw [exB (i + 1) (by omega), if_pos hS, show i + 1 - 1 = i by omega, Bool.or_eq_false_iff] at this
            exact this.1), exR j (by omega), if_pos hS]
          cases rs LF K B sh y (8 - (x + 1)) (j - 1) (x + 1) (upP S (8 * y + x)) (64 * dg + (8 * y + x) + 1) with
          | none => rfl
          | some v => rfl
    · rw [if_neg hS]
      constructor
      · intro v hv
        obtain ⟨g, j, j1, j2, j3⟩ := b1 v hv
        exact ⟨g, j, j1, keep j j2, j3⟩
      · intro j hG hmj hmin
        rw [b2 j hG hmj (fun i hi => keepN i (hmin i hi))]
        by_cases z : j = 0
        · subst z
          rw [same0]
        · rw [exR j (by omega), if_neg hS]
theorem clm_all (S0 : Nat → Nat) : ∀ r y, y + r = 5 → Clm LF K B sh S0 y 0
  | 0, y, h => by
    have e : y = 5 := by omega
    subst e
    have go : ∀ k x, x + k = 8 → Clm LF K B sh S0 5 x := by
      intro k
      induction k with
      | zero =>
        intro x hx
        obtain rfl : x = 8 := by omega
        exact clm_end S0
      | succ k ih => intro x hx; exact clm_cell (by omega) (by omega) (ih (x + 1) (by omega))
    exact go 8 0 (by omega)
  | r + 1, y, h => by
    have C := clm_all S0 r (y + 1) (by omega)
    have go : ∀ k x, x + k = 8 → Clm LF K B sh S0 y x := by
      intro k
      induction k with
      | zero =>
        intro x hx
        obtain rfl : x = 8 := by omega
        exact clm_row (by omega) C
      | succ k ih => intro x hx; exact clm_cell (by omega) (by omega) (ih (x + 1) (by omega))
    exact go 8 0 (by omega)
/-- the whole search -/
theorem hs_all (S0 : Nat → Nat) {m : Nat} (hm : m ≤ 4) : hs LF K B sh 48 m 0 S0 0 = if nmn LF K B sh S0 6 0 = m then some (dmn LF K B sh S0 6 0 0) else if m < nmn LF K B sh S0 6 0 then none else hs LF K B sh 48 m 0 S0 0 := by
  obtain ⟨c1, c2⟩ := clm_all (LF := LF) (K := K) (B := B) (sh := sh) S0 5 0 (by omega) m S0 0 hm (fun i _ _ x _ => rfl) (fun c => rfl)
  have en : nmn LF K B sh S0 6 0 = kmn LF K B sh S0 0 + nmn LF K B sh S0 5 1 := rfl
  by_cases z : nmn LF K B sh S0 6 0 = m
  · rw [if_pos z]
    have := c2 (kmn LF K B sh S0 0) (fun i hi => absurd hi (Nat.not_lt_zero i)) (by show m = nmn LF K B sh S0 5 1 + _; omega) (fun i hi => kmn_no hi)
    refine Eq.trans this ?_
    obtain ⟨v, hv⟩ := rs_some LF K B sh (kmn_yes (LF := LF) (K := K) (B := B) (sh := sh) (S0 := S0) (y := 0) (by omega)) 0
    show bndO (rs LF K B sh 0 8 (kmn LF K B sh S0 0) 0 S0 0) (dmn LF K B sh S0 5 1) = some (dmn LF K B sh S0 5 1 ((rs LF K B sh 0 8 (kmn LF K B sh S0 0) 0 S0 0).getD 0))
    rw [hv]
    rfl
  · rw [if_neg z]
    by_cases w : m < nmn LF K B sh S0 6 0
    · rw [if_pos w]
      cases q : hs LF K B sh 48 m 0 S0 0 with
      | none => rfl
      | some v =>
        obtain ⟨-, j, j1, j2, j3⟩ := c1 v q
        have := kmn_le (by omega) (show rsB LF K B sh 0 8 j 0 S0 = true from j2)
        have j3' : nmn LF K B sh S0 5 1 ≤ m - j := j3
        omega
    · rw [if_neg w]
end HLD
