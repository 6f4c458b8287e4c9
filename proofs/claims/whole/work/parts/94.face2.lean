/-! FACE: the row, for any cells -/
def ptF (b : Nat → Bool) (x : Nat) : Nat → Nat
  | 0 => 0
  | r + 1 => 2 * ptF b (x + 1) r + (if b x = true then 1 else 0)
theorem ptF_lt (b : Nat → Bool) : ∀ r x, ptF b x r < 2 ^ r
  | 0, _ => Nat.one_pos
  | r + 1, x => by
    have h := ptF_lt b r (x + 1)
    have e : 2 ^ (r + 1) = 2 * 2 ^ r := by rw [Nat.pow_succ, Nat.mul_comm]
    show 2 * ptF b (x + 1) r + (if b x = true then 1 else 0) < 2 ^ (r + 1)
    rw [e]
    split <;> omega
theorem ptF_b (b : Nat → Bool) : ∀ r x i, i < r → (ptF b x r).testBit i = b (x + i)
  | 0, _, i, h => absurd h (Nat.not_lt_zero i)
  | r + 1, x, 0, _ => by
    show (2 * ptF b (x + 1) r + (if b x = true then 1 else 0)).testBit 0 = b x
    rw [Nat.testBit_zero]
    cases h : b x with
    | true => rw [if_pos rfl]; exact decide_eq_true (by omega)
    | false => rw [if_neg Bool.false_ne_true]; exact decide_eq_false (by omega)
  | r + 1, x, i + 1, h => by
    show (2 * ptF b (x + 1) r + (if b x = true then 1 else 0)).testBit (i + 1) = b (x + (i + 1))
    rw [Nat.testBit_succ, show (2 * ptF b (x + 1) r + (if b x = true then 1 else 0)) / 2 = ptF b (x + 1) r by split <;> omega, ptF_b b r (x + 1) i (by omega), show x + 1 + i = x + (i + 1) by omega]
theorem fcX_c {b c : Nat → Bool} (M : Nat) : ∀ x, (∀ i, i < x → b i = c i) → fcX b M x = fcX c M x
  | 0, _ => rfl
  | x + 1, h => by
    have e := fcX_c M x (fun i hi => h i (by omega))
    unfold fcX
    rw [e, h x (by omega)]
theorem lnF_c {b c : Nat → Bool} : ∀ r x, (∀ i, i < x + r → b i = c i) → lnF b x r = lnF c x r
  | 0, _, _ => rfl
  | r + 1, x, h => by
    have e := lnF_c r (x + 1) (fun i hi => h i (by omega))
    unfold lnF
    rw [e, h x (by omega)]
theorem fcM_c {b c : Nat → Bool} (M : Nat) (h : ∀ i, i < 8 → b i = c i) : ∀ x, x ≤ 8 → fcM b M x = fcM c M x
  | 0, _ => rfl
  | x + 1, hx => by
    have e := fcM_c M h x (by omega)
    have l := lnF_c (b := b) (c := c) (8 - x) x (fun i hi => h i (by omega))
    unfold fcM
    rw [e, l]
/-- a row both ways -/
theorem fc_row (b : Nat → Bool) {M : Nat} (hM : M ≤ 8) : (fcX b M 8).2 = fcM b M 8 := by
  have hb : ∀ i, i < 8 → b i = (fun i => (ptF b 0 8).testBit i) i := fun i hi => by
    show b i = (ptF b 0 8).testBit i
    rw [ptF_b b 8 0 i hi, Nat.zero_add]
  rw [fcX_c M 8 hb, fcM_c M hb 8 (Nat.le_refl _)]
  exact fc_at (ptF_lt b 8 0) hM
