/-! HOW MANY BITS: the library's own way, byte by byte -/
def mpB (g : Nat → Nat) : Nat → Nat → Nat
  | 0, _ => 0
  | n + 1, M => g (M % 256) + 256 * mpB g n (M / 256)
theorem b_cut {a b c d : Nat} (ha : a < 256) (hc : c < 256) : (a + 256 * b) &&& (c + 256 * d) = (a &&& c) + 256 * (b &&& d) := by
  have e : ∀ x y : Nat, x < 256 → (x + 256 * y) = 2 ^ 8 * y + x := fun x y _ => by omega
  have h1 : a &&& c < 256 := Nat.lt_of_le_of_lt Nat.and_le_left ha
  rw [e a b ha, e c d hc, e (a &&& c) (b &&& d) h1]
  apply Nat.eq_of_testBit_eq
  intro i
  rw [Nat.testBit_and, Nat.testBit_two_pow_mul_add _ (by omega), Nat.testBit_two_pow_mul_add _ (by omega), Nat.testBit_two_pow_mul_add _ (by omega)]
  by_cases h : i < 8
  · rw [if_pos h, if_pos h, if_pos h, Nat.testBit_and]
  · rw [if_neg h, if_neg h, if_neg h, Nat.testBit_and]
theorem mpB_lt {g : Nat → Nat} (hg : ∀ y, y < 256 → g y < 256) : ∀ n M, mpB g n M < 256 ^ n
  | 0, _ => Nat.one_pos
  | n + 1, M => by
    have h1 := hg (M % 256) (Nat.mod_lt _ (by decide))
    have h2 := mpB_lt hg n (M / 256)
    show g (M % 256) + 256 * mpB g n (M / 256) < 256 ^ n * 256
    omega
theorem mpB_id : ∀ n M, M < 256 ^ n → mpB (fun y => y) n M = M
  | 0, M, h => by have : M = 0 := by rw [Nat.pow_zero] at h; omega
                  rw [this]; rfl
  | n + 1, M, h => by
    have h2 := mpB_id n (M / 256) (by rw [Nat.pow_succ] at h; exact Nat.div_lt_of_lt_mul (by rw [Nat.mul_comm]; exact h))
    show M % 256 + 256 * mpB (fun y => y) n (M / 256) = M
    rw [h2]; omega
theorem mpB_comp {f g : Nat → Nat} (hf : ∀ y, y < 256 → f y < 256) : ∀ n M, mpB g n (mpB f n M) = mpB (fun y => g (f y)) n M
  | 0, _ => rfl
  | n + 1, M => by
    have h1 := hf (M % 256) (Nat.mod_lt _ (by decide))
    have h2 := mpB_comp (g := g) hf n (M / 256)
    show g ((f (M % 256) + 256 * mpB f n (M / 256)) % 256) + 256 * mpB g n ((f (M % 256) + 256 * mpB f n (M / 256)) / 256) = g (f (M % 256)) + 256 * mpB (fun y => g (f y)) n (M / 256)
    rw [show (f (M % 256) + 256 * mpB f n (M / 256)) % 256 = f (M % 256) by omega, show (f (M % 256) + 256 * mpB f n (M / 256)) / 256 = mpB f n (M / 256) by omega, h2]
theorem mpB_cong {f g : Nat → Nat} (h : ∀ y, y < 256 → f y = g y) : ∀ n M, mpB f n M = mpB g n M
  | 0, _ => rfl
  | n + 1, M => by
    show f (M % 256) + 256 * mpB f n (M / 256) = g (M % 256) + 256 * mpB g n (M / 256)
    rw [h _ (Nat.mod_lt _ (by decide)), mpB_cong h n (M / 256)]
theorem mpB_add {f g : Nat → Nat} : ∀ n M, mpB f n M + mpB g n M = mpB (fun y => f y + g y) n M
  | 0, _ => rfl
  | n + 1, M => by
    have := mpB_add (f := f) (g := g) n (M / 256)
    show f (M % 256) + 256 * mpB f n (M / 256) + (g (M % 256) + 256 * mpB g n (M / 256)) = f (M % 256) + g (M % 256) + 256 * mpB (fun y => f y + g y) n (M / 256)
    omega
theorem mpB_sub {f g : Nat → Nat} (h : ∀ y, y < 256 → g y ≤ f y) : ∀ n M, mpB g n M ≤ mpB f n M ∧ mpB f n M - mpB g n M = mpB (fun y => f y - g y) n M
  | 0, _ => ⟨Nat.le_refl _, rfl⟩
  | n + 1, M => by
    have h1 := h (M % 256) (Nat.mod_lt _ (by decide))
    have h2 := mpB_sub h n (M / 256)
    show g (M % 256) + 256 * mpB g n (M / 256) ≤ f (M % 256) + 256 * mpB f n (M / 256) ∧ f (M % 256) + 256 * mpB f n (M / 256) - (g (M % 256) + 256 * mpB g n (M / 256)) = f (M % 256) - g (M % 256) + 256 * mpB (fun y => f y - g y) n (M / 256)
    omega
/-- the same byte n times -/
def rpB (b : Nat) : Nat → Nat
  | 0 => 0
  | n + 1 => b + 256 * rpB b n
/-- a shift by k and a mask that drops what comes from the next byte -/
theorem mpB_sm {k p b : Nat} (hp : 2 ^ k = p) (hk : p ∣ 256) (hb : b < 256) (hm : ∀ y, y < 256 → ∀ z, z < 256 → ((y + 256 * z) / p) % 256 &&& b = y / p &&& b) : ∀ n M, (M / p) &&& rpB b n = mpB (fun y => y / p &&& b) n M
  | 0, M => by show (M / p) &&& 0 = 0; exact Nat.and_zero _
  | n + 1, M => by
    have ih := mpB_sm hp hk hb hm n (M / 256)
    obtain ⟨r, hr⟩ := hk
    have hp0 : 0 < p := by rw [← hp]; exact Nat.pow_pos (by decide)
    show (M / p) &&& (b + 256 * rpB b n) = (M % 256 / p &&& b) + 256 * mpB (fun y => y / p &&& b) n (M / 256)
    have e1 : M / p = (M / p) % 256 + 256 * (M / 256 / p) := by
      have : M / 256 / p = M / p / 256 := by rw [Nat.div_div_eq_div_mul, Nat.div_div_eq_div_mul, Nat.mul_comm]
      rw [this]; omega
    rw [e1, b_cut (Nat.mod_lt _ (by decide)) hb, ih]
    congr 1
    have e2 : (M / p) % 256 = ((M % 256 + 256 * (M / 256 % 256)) / p) % 256 := by
      have e3 : M = (M % 256 + 256 * (M / 256 % 256)) + p * (256 * (r * (M / 65536))) := by
        have : p * (256 * (r * (M / 65536))) = 65536 * (M / 65536) := by
          rw [show p * (256 * (r * (M / 65536))) = (p * r) * 256 * (M / 65536) by ac_rfl, ← hr]
        rw [this]; omega
      rw [e3, Nat.add_mul_div_left _ _ hp0]
      rw [← e3]
      omega
    rw [e2]
    exact hm _ (Nat.mod_lt _ (by decide)) _ (Nat.mod_lt _ (by decide))
/-- the bits of a number below n -/
def pcn (M : Nat) (n : Nat) : Nat := nsm (fun k => if M.testBit k then 1 else 0) n
theorem nsm_split (f : Nat → Nat) (a : Nat) : ∀ b, nsm f (a + b) = nsm f a + nsm (fun k => f (a + k)) b
  | 0 => rfl
  | b + 1 => by
    have h := nsm_split f a b
    show nsm f (a + b) + f (a + b) = nsm f a + (nsm (fun k => f (a + k)) b + f (a + b))
    omega
theorem pcn_8 (n M : Nat) : pcn M (8 * (n + 1)) = pcn (M % 256) 8 + pcn (M / 256) (8 * n) := by
  unfold pcn
  rw [show 8 * (n + 1) = 8 + 8 * n by omega, nsm_split]
  congr 1
  · refine nsm_cong (fun k hk => ?_)
    rw [show (256 : Nat) = 2 ^ 8 from rfl, Nat.testBit_mod_two_pow]
    simp [hk]
  · refine nsm_cong (fun k hk => ?_)
    rw [show (256 : Nat) = 2 ^ 8 from rfl, Nat.testBit_div_two_pow, Nat.add_comm]
/-- a byte's way -/
def bc1 (y : Nat) : Nat := y - (y / 2 &&& 85)
def bc2 (y : Nat) : Nat := (bc1 y &&& 51) + (bc1 y / 4 &&& 51)
def bc3 (y : Nat) : Nat := (bc2 y + bc2 y / 16) &&& 15
theorem bc3_ok : ∀ y, y < 256 → bc3 y = pcn y 8 := by decide +kernel
theorem bc_all : ∀ y, y < 256 → (y / 2 &&& 85) ≤ y ∧ bc1 y < 256 ∧ (bc1 y &&& 51) + (bc1 y / 4 &&& 51) < 256 ∧ bc2 y < 72 ∧ bc2 y % 16 ≤ 4 ∧ bc3 y ≤ 8 := by decide +kernel
theorem sm1 : ∀ y, y < 256 → ∀ z, z < 256 → ((y + 256 * z) / 2) % 256 &&& 85 = y / 2 &&& 85 := by decide +kernel
theorem sm2 : ∀ y, y < 256 → ∀ z, z < 256 → ((y + 256 * z) / 4) % 256 &&& 51 = y / 4 &&& 51 := by decide +kernel
theorem sm0 : ∀ b, b < 256 → ∀ y, y < 256 → ∀ z, z < 256 → ((y + 256 * z) / 1) % 256 &&& b = y / 1 &&& b := by
  intro b _ y hy z _
  rw [Nat.div_one, Nat.div_one, show (y + 256 * z) % 256 = y by omega]
/-- the third step: nibbles of the next byte come in above, and go -/
theorem mpB_n (n : Nat) : ∀ M, (∀ k, k < n → (M / 256 ^ k) % 256 < 72 ∧ (M / 256 ^ k) % 256 % 16 ≤ 4) → M < 256 ^ n → (M + M / 16) &&& rpB 15 n = mpB (fun y => (y + y / 16) &&& 15) n M := by
  induction n with
  | zero => intro M _ _; exact Nat.and_zero _
  | succ n ih =>
    intro M h hM
    have hM2 : M / 256 < 256 ^ n := by rw [Nat.pow_succ] at hM; exact Nat.div_lt_of_lt_mul (by rw [Nat.mul_comm]; exact hM)
    have h0 := h 0 (by omega)
    rw [Nat.pow_zero, Nat.div_one] at h0
    have i2 := ih (M / 256) (fun k hk => by
      have := h (k + 1) (by omega)
      rw [Nat.pow_succ, Nat.mul_comm, ← Nat.div_div_eq_div_mul] at this
      exact this) hM2
    show (M + M / 16) &&& (15 + 256 * rpB 15 n) = (M % 256 + M % 256 / 16 &&& 15) + 256 * mpB (fun y => (y + y / 16) &&& 15) n (M / 256)
    have hz : M / 256 % 256 % 16 ≤ 4 := by
      cases n with
      | zero => rw [Nat.pow_zero] at hM2; omega
      | succ n =>
        have := (h 1 (by omega)).2
        rw [Nat.pow_one] at this
        exact this
    have e1 : M + M / 16 = (M % 256 + M % 256 / 16 + 16 * (M / 256 % 16)) + 256 * (M / 256 + M / 256 / 16) := by omega
    rw [e1, b_cut (by omega) (by omega), i2]
    congr 1
    have e2 : ∀ a, a < 136 → ∀ b, b < 5 → (a + 16 * b) &&& 15 = a &&& 15 := by decide +kernel
    exact e2 _ (by omega) _ (by omega)
theorem mpB_dg {g : Nat → Nat} (hg : ∀ y, y < 256 → g y < 256) : ∀ n M k, k < n → (mpB g n M / 256 ^ k) % 256 = g ((M / 256 ^ k) % 256)
  | 0, _, k, h => absurd h (Nat.not_lt_zero k)
  | n + 1, M, 0, _ => by
    have h1 := hg (M % 256) (Nat.mod_lt _ (by decide))
    rw [Nat.pow_zero, Nat.div_one, Nat.div_one]
    show (g (M % 256) + 256 * mpB g n (M / 256)) % 256 = _
    omega
  | n + 1, M, k + 1, h => by
    have h1 := hg (M % 256) (Nat.mod_lt _ (by decide))
    have ih := mpB_dg hg n (M / 256) k (by omega)
    rw [Nat.pow_succ, Nat.mul_comm, ← Nat.div_div_eq_div_mul, ← Nat.div_div_eq_div_mul, ← ih]
    congr 2
    show (g (M % 256) + 256 * mpB g n (M / 256)) / 256 = _
    omega
