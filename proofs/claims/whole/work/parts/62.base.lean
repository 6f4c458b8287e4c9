/-! THE BASE of the numbers' part: ints as numbers, longs as sets of bits, loops -/
theorem z_lit (n : Nat) : (no_index (OfNat.ofNat n) : Int32) = nI (OfNat.ofNat n) := rfl
theorem z_one : (1 : Int32) = nI 1 := rfl
theorem z_zero : (0 : Int32) = nI 0 := rfl
theorem z_le {a b : Nat} (ha : a < 2147483648) (hb : b < 2147483648) : (nI a ≤ nI b) = (a ≤ b) := propext (nI_leI ha hb)
theorem z_lt {a b : Nat} (ha : a < 2147483648) (hb : b < 2147483648) : (nI a < nI b) = (a < b) := propext (nI_ltI ha hb)
theorem z_eq {a b : Nat} (ha : a < 2147483648) (hb : b < 2147483648) : (nI a = nI b) = (a = b) := propext (nI_eq ha hb)
theorem z_cl {a : Nat} (ha : a < 2147483648) : (nI a).toNatClampNeg = a := nI_clamp ha
theorem z_sub {a b : Nat} (h : b ≤ a) : nI a - nI b = nI (a - b) := pk_sub h
theorem z_addm {a b : Nat} (h : b ≤ a) : nI a + -nI b = nI (a - b) := by
  rw [← pk_sub h, Int32.sub_eq_add_neg]
theorem z_div {a d : Nat} (ha : a < 2147483648) (h0 : 0 < d) (hd : d < 2147483648) : nI a / nI d = nI (a / d) := pk_div ha h0 hd
theorem z_rem {a d : Nat} (ha : a < 2147483648) (h0 : 0 < d) (hd : d < 2147483648) : nI a - nI a / nI d * nI d = nI (a % d) := pk_rem ha h0 hd
theorem z_ti {a : Nat} (h : a < 2147483648) : (nI a).toInt = (a : Int) := nI_toInt h
theorem z_tm {a : Nat} (h : a ≤ 2147483647) : (-nI a).toInt = -(a : Int) := by
  have h1 := nI_toInt (n := a) (by omega)
  rw [Int32.toInt_neg, h1]
  rw [Int.bmod_eq_of_le] <;> omega
theorem z_lm {a b : Nat} (ha : a < 2147483648) (hb : b ≤ 2147483647) : (nI a < -nI b) = False := by
  rw [eq_iff_iff, fa_lt, z_ti ha, z_tm hb]; constructor <;> intro h <;> first | omega | exact h.elim
theorem z_ml {a b : Nat} (ha : a < 2147483648) (hb : b ≤ 2147483647) : (-nI b < nI a) = (0 < a + b) := by
  rw [eq_iff_iff, fa_lt, z_ti ha, z_tm hb]; constructor <;> intro h <;> omega
theorem z_lem {a b : Nat} (ha : a < 2147483648) (hb : b ≤ 2147483647) : (nI a ≤ -nI b) = (a + b = 0) := by
  rw [eq_iff_iff, fa_le, z_ti ha, z_tm hb]; constructor <;> intro h <;> omega
theorem z_mle {a b : Nat} (ha : a < 2147483648) (hb : b ≤ 2147483647) : (-nI b ≤ nI a) = True := by
  rw [eq_iff_iff, fa_le, z_ti ha, z_tm hb]; constructor <;> intro h <;> first | trivial | omega
theorem z_em {a b : Nat} (ha : a < 2147483648) (hb : b ≤ 2147483647) : (nI a = -nI b) = (a + b = 0) := by
  rw [eq_iff_iff, fa_eq, z_ti ha, z_tm hb]; constructor <;> intro h <;> omega
theorem z_me {a b : Nat} (ha : a < 2147483648) (hb : b ≤ 2147483647) : (-nI b = nI a) = (a + b = 0) := by
  rw [eq_iff_iff, fa_eq, z_ti ha, z_tm hb]; constructor <;> intro h <;> omega
theorem z_mlm {a b : Nat} (ha : a ≤ 2147483647) (hb : b ≤ 2147483647) : (-nI a < -nI b) = (b < a) := by
  rw [eq_iff_iff, fa_lt, z_tm ha, z_tm hb]; constructor <;> intro h <;> omega
theorem z_mlem {a b : Nat} (ha : a ≤ 2147483647) (hb : b ≤ 2147483647) : (-nI a ≤ -nI b) = (b ≤ a) := by
  rw [eq_iff_iff, fa_le, z_tm ha, z_tm hb]; constructor <;> intro h <;> omega
theorem z_mem {a b : Nat} (ha : a ≤ 2147483647) (hb : b ≤ 2147483647) : (-nI a = -nI b) = (a = b) := by
  rw [eq_iff_iff, fa_eq, z_tm ha, z_tm hb]; constructor <;> intro h <;> omega
theorem z_ki {R : Type} {n k : Nat} {x : Option R} (h : k < n) (hk : k < 2147483648) : k_i n (nI k) x = x := by
  unfold k_i
  rw [if_neg]
  rw [z_cl hk]
  rintro (h1 | h1)
  · exact absurd h1 (nI_pos hk)
  · omega
theorem z_kis {R : Type} {n : Nat} {i : Int32} {x : Option R} (h : vp_in i n) : k_i n i x = x := if_neg h
theorem z_b {P R : Type} (r : P) (k : P → Option R) : k_b (some r) k = k r := rfl
theorem z_d {R : Type} {y : Int32} {x : Option R} (h : ¬ y = 0) : k_d y x = x := if_neg h
theorem z_z1 {R : Type} {x : Option R} : k_z (nI 1) x = x := if_pos (Or.inr rfl)
theorem z_z0 {R : Type} {x : Option R} : k_z (nI 0) x = x := if_pos (Or.inl rfl)
/-- a truth as an int -/
def zB (b : Bool) : Int32 := if b then nI 1 else nI 0
theorem zB_z {R : Type} {b : Bool} {x : Option R} : k_z (zB b) x = x := by cases b <;> rfl
theorem zB_eq0 (b : Bool) : (zB b = nI 0) = (b = false) := by cases b <;> decide
theorem zB_eq1 (b : Bool) : (zB b = nI 1) = (b = true) := by cases b <;> decide
theorem z_upd {f : Nat → Int32} {k : Nat} {x : Int32} : upd f k x = fun j => if j = k then x else f j := rfl
/-! signed numbers -/
def zI (i : Int) : Int32 := Int32.ofInt i
theorem zI_n (n : Nat) : nI n = zI (n : Int) := by
  unfold zI nI
  exact (Int32.ofInt_eq_ofNat).symm
theorem zI_ti {i : Int} (h1 : -2147483648 ≤ i) (h2 : i < 2147483648) : (zI i).toInt = i := Int32.toInt_ofInt_of_le h1 h2
theorem zI_of (x : Int32) : zI x.toInt = x := Int32.ofInt_toInt x
theorem zI_add (i j : Int) : zI i + zI j = zI (i + j) := (Int32.ofInt_add i j).symm
theorem zI_mul (i j : Int) : zI i * zI j = zI (i * j) := (Int32.ofInt_mul i j).symm
theorem zI_neg (i : Int) : -zI i = zI (-i) := (Int32.ofInt_neg i).symm
theorem zI_sub (i j : Int) : zI i - zI j = zI (i - j) := by
  rw [Int32.sub_eq_add_neg, zI_neg, zI_add, Int.sub_eq_add_neg]
theorem zI_lt {i j : Int} (h1 : -2147483648 ≤ i) (h2 : i < 2147483648) (h3 : -2147483648 ≤ j) (h4 : j < 2147483648) : (zI i < zI j) = (i < j) := by
  rw [eq_iff_iff, fa_lt, zI_ti h1 h2, zI_ti h3 h4]
theorem zI_le {i j : Int} (h1 : -2147483648 ≤ i) (h2 : i < 2147483648) (h3 : -2147483648 ≤ j) (h4 : j < 2147483648) : (zI i ≤ zI j) = (i ≤ j) := by
  rw [eq_iff_iff, fa_le, zI_ti h1 h2, zI_ti h3 h4]
theorem zI_eq {i j : Int} (h1 : -2147483648 ≤ i) (h2 : i < 2147483648) (h3 : -2147483648 ≤ j) (h4 : j < 2147483648) : (zI i = zI j) = (i = j) := by
  rw [eq_iff_iff, fa_eq, zI_ti h1 h2, zI_ti h3 h4]
theorem zI_cl {i : Int} (h1 : -2147483648 ≤ i) (h2 : i < 2147483648) : (zI i).toNatClampNeg = i.toNat := by
  show (zI i).toInt.toNat = i.toNat
  rw [zI_ti h1 h2]
/-! loops that count -/
theorem lpN {R : Type} (G : Nat → Nat → Option R) (N : Nat) (r : Option R) (hs : ∀ n k, k < N → G (n + 1) k = G n (k + 1)) (he : ∀ n, G (n + 1) N = r) : ∀ n k, k ≤ N → N - k < n → G n k = r := by
  intro n
  induction n with
  | zero => intro k _ h; omega
  | succ n ih =>
    intro k hk h
    by_cases e : k = N
    · subst e; exact he n
    · rw [hs n k (by omega)]
      exact ih (k + 1) (by omega) (by omega)
/-- a loop that may end early: at the first k with p, or at N -/
theorem lpX {R : Type} (G : Nat → Nat → Option R) (N : Nat) (p : Nat → Prop) (r : Nat → Option R) (hs : ∀ n k, k < N → ¬ p k → G (n + 1) k = G n (k + 1)) (hx : ∀ n k, k < N → p k → G (n + 1) k = r k) (he : ∀ n, G (n + 1) N = r N)
    (m : Nat) (hm : m ≤ N) (hl : ∀ k, k < m → ¬ p k) (hp : m < N → p m) : ∀ n k, k ≤ m → m - k < n → G n k = r m := by
  intro n
  induction n with
  | zero => intro k _ h; omega
  | succ n ih =>
    intro k hk h
    by_cases e : k = m
    · subst e
      by_cases e2 : k < N
      · exact hx n k e2 (hp e2)
      · have : k = N := by omega
        subst this
        exact he n
    · rw [hs n k (by omega) (hl k (by omega))]
      exact ih (k + 1) (by omega) (by omega)
/-- a loop downward, from k to 0 -/
theorem lpD {R : Type} (G : Nat → Nat → Option R) (r : Option R) (hs : ∀ n k, G (n + 1) (k + 1) = G n k) (he : ∀ n, G (n + 1) 0 = r) : ∀ n k, k < n → G n k = r := by
  intro n
  induction n with
  | zero => intro k h; omega
  | succ n ih =>
    intro k h
    cases k with
    | zero => exact he n
    | succ k => rw [hs n k]; exact ih k (by omega)
/-- a loop with a measure -/
theorem lpM {σ R : Type} (G : Nat → σ → Option R) (μ : σ → Nat) (sp : σ → Option R) (ok : σ → Prop) (hs : ∀ n s, ok s → (∀ s', ok s' → μ s' < μ s → G n s' = sp s') → G (n + 1) s = sp s) : ∀ n s, ok s → μ s < n → G n s = sp s := by
  intro n
  induction n with
  | zero => intro s _ h; omega
  | succ n ih =>
    intro s ho h
    exact hs n s ho (fun s' ho' h' => ih s' ho' (by omega))
/-! sums, firsts -/
def sm (f : Nat → Int32) : Nat → Int32
  | 0 => nI 0
  | n + 1 => sm f n + f n
theorem sm_cong {f g : Nat → Int32} : ∀ {n : Nat}, (∀ k, k < n → f k = g k) → sm f n = sm g n
  | 0, _ => rfl
  | n + 1, h => by
    show sm f n + f n = sm g n + g n
    rw [sm_cong (fun k hk => h k (by omega)), h n (by omega)]
def nsm (f : Nat → Nat) : Nat → Nat
  | 0 => 0
  | n + 1 => nsm f n + f n
theorem nsm_cong {f g : Nat → Nat} : ∀ {n : Nat}, (∀ k, k < n → f k = g k) → nsm f n = nsm g n
  | 0, _ => rfl
  | n + 1, h => by
    show nsm f n + f n = nsm g n + g n
    rw [nsm_cong (fun k hk => h k (by omega)), h n (by omega)]
theorem sm_n (f : Nat → Nat) : ∀ n, sm (fun k => nI (f k)) n = nI (nsm f n)
  | 0 => rfl
  | n + 1 => by
    show sm (fun k => nI (f k)) n + nI (f n) = nI (nsm f n + f n)
    rw [sm_n f n, nI_add]
theorem nsm_le {f : Nat → Nat} {b : Nat} : ∀ {n : Nat}, (∀ k, k < n → f k ≤ b) → nsm f n ≤ n * b
  | 0, _ => Nat.zero_le _
  | n + 1, h => by
    have h1 := nsm_le (f := f) (b := b) (n := n) (fun k hk => h k (by omega))
    have h2 := h n (by omega)
    show nsm f n + f n ≤ (n + 1) * b
    rw [Nat.succ_mul]
    omega
theorem nsm_ge {f : Nat → Nat} : ∀ {n : Nat} {k : Nat}, k < n → f k ≤ nsm f n
  | 0, k, h => absurd h (Nat.not_lt_zero k)
  | n + 1, k, h => by
    show f k ≤ nsm f n + f n
    by_cases e : k = n
    · subst e; omega
    · have := nsm_ge (f := f) (n := n) (k := k) (by omega)
      omega
theorem nsm_mono {f g : Nat → Nat} : ∀ {n : Nat}, (∀ k, k < n → f k ≤ g k) → nsm f n ≤ nsm g n
  | 0, _ => Nat.le_refl _
  | n + 1, h => by
    have h1 := nsm_mono (f := f) (g := g) (n := n) (fun k hk => h k (by omega))
    have h2 := h n (by omega)
    show nsm f n + f n ≤ nsm g n + g n
    omega
/-! longs as sets of bits -/
def lb (m : Int64) (k : Nat) : Bool := m.toBitVec.getLsbD k
theorem lb_ext {a b : Int64} (h : ∀ k, k < 64 → lb a k = lb b k) : a = b := Int64.toBitVec_inj.mp (BitVec.eq_of_getLsbD_eq (fun i hi => h i hi))
theorem lb_or (x y : Int64) (i : Nat) : lb (x ||| y) i = (lb x i || lb y i) := by unfold lb; rw [Int64.toBitVec_or, BitVec.getLsbD_or]
theorem lb_and (x y : Int64) (i : Nat) : lb (x &&& y) i = (lb x i && lb y i) := by unfold lb; rw [Int64.toBitVec_and, BitVec.getLsbD_and]
theorem lb_xor (x y : Int64) (i : Nat) : lb (x ^^^ y) i = (lb x i ^^ lb y i) := by unfold lb; rw [Int64.toBitVec_xor, BitVec.getLsbD_xor]
theorem lb_big {x : Int64} {i : Nat} (h : 64 ≤ i) : lb x i = false := BitVec.getLsbD_of_ge _ _ h
theorem lb_0 (i : Nat) : lb 0 i = false := BitVec.getLsbD_zero
theorem lb_m1 : ∀ i, i < 64 → lb (-1) i = true := by decide +kernel
theorem lb_not {x : Int64} {i : Nat} (h : i < 64) : lb (x ^^^ (-1)) i = !lb x i := by rw [lb_xor, lb_m1 i h, Bool.xor_true]
theorem lb_c {k : Nat} (hk : k < 64) : ((nI k).toInt64 &&& 63).toBitVec.smod 64 = BitVec.ofNat 64 k := by rw [wb_c k hk]; exact wb_sm k hk
theorem lb_shl {c k : Nat} (m : Int64) (hc : c < 64) (hk : k < 64) : lb (m <<< ((nI c).toInt64 &&& 63)) k = (decide (c ≤ k) && lb m (k - c)) := by
  unfold lb
  rw [Int64.toBitVec_shiftLeft, lb_c hc, BitVec.shiftLeft_eq', BitVec.toNat_ofNat, Nat.mod_eq_of_lt (show c < 2 ^ 64 by omega), BitVec.getLsbD_shiftLeft]
  rcases Nat.lt_or_ge k c with h | h
  · simp [h, Nat.not_le.mpr h]
  · simp [hk, h, Nat.not_lt.mpr h]
theorem lb_one : ∀ i, lb 1 i = decide (i = 0) := by
  intro i
  rcases Nat.lt_or_ge i 64 with h | h
  · exact (by decide +kernel : ∀ i, i < 64 → lb 1 i = decide (i = 0)) i h
  · rw [lb_big h]; symm; exact decide_eq_false (by omega)
theorem lb_bit {c k : Nat} (hc : c < 64) (hk : k < 64) : lb ((1 : Int64) <<< ((nI c).toInt64 &&& 63)) k = decide (k = c) := by
  rw [lb_shl 1 hc hk, lb_one]
  by_cases h : k = c
  · subst h; simp
  · rcases Nat.lt_or_ge k c with q | q
    · simp [h, Nat.not_le.mpr q]
    · simp [h]; omega
theorem lb_ushr {c : Nat} (m : Int64) (hc : c < 64) (k : Nat) : lb ((m.toUInt64 >>> ((nI c).toInt64.toUInt64 &&& Int64.toUInt64 63)).toInt64) k = lb m (k + c) := by
  rw [wb_cu c hc]
  have e : (m.toUInt64 >>> UInt64.ofNat c).toInt64.toBitVec = m.toBitVec >>> c := by
    apply BitVec.eq_of_toNat_eq
    show (m.toUInt64 >>> UInt64.ofNat c).toNat = _
    have h1 : (UInt64.ofNat c).toNat = c := by
      show (BitVec.ofNat 64 c).toNat = c
      rw [BitVec.toNat_ofNat, Nat.mod_eq_of_lt (by omega)]
    rw [UInt64.toNat_shiftRight, h1, Nat.mod_eq_of_lt hc, BitVec.toNat_ushiftRight]
    rfl
  unfold lb
  rw [e, BitVec.getLsbD_ushiftRight, Nat.add_comm]
theorem lb_a1 (m : Int64) : m &&& 1 = if lb m 0 then 1 else 0 := by
  apply lb_ext
  intro k hk
  rw [lb_and, lb_one]
  by_cases h : k = 0
  · subst h
    cases h0 : lb m 0 <;> simp <;> decide
  · cases h0 : lb m 0 <;> simp [h, lb_0, lb_one]
theorem lb_get {m : Int64} {c : Nat} (hc : c < 64) : (m.toUInt64 >>> ((nI c).toInt64.toUInt64 &&& Int64.toUInt64 63)).toInt64 &&& 1 = if lb m c then 1 else 0 := by
  rw [lb_a1, lb_ushr m hc, Nat.zero_add]
theorem lb_cmp0 (x : Int64) : (lg_cmp x 0 = nI 0) = (x = 0) := by
  rw [eq_iff_iff]
  unfold lg_cmp
  constructor
  · intro h
    by_cases h1 : x > 0
    · rw [if_pos h1] at h; exact absurd h (by decide)
    · rw [if_neg h1] at h
      by_cases h2 : x = 0
      · exact h2
      · rw [if_neg h2] at h; exact absurd h (by decide)
  · intro h
    subst h
    decide
theorem lb_t {m : Int64} {c : Nat} (hc : c < 64) : (lg_cmp ((m.toUInt64 >>> ((nI c).toInt64.toUInt64 &&& Int64.toUInt64 63)).toInt64 &&& 1) 0 = nI 0) = (lb m c = false) := by
  rw [lb_cmp0, lb_get hc]
  cases lb m c <;> decide
theorem lb_i {m : Int64} {c : Nat} (hc : c < 64) : ((m.toUInt64 >>> ((nI c).toInt64.toUInt64 &&& Int64.toUInt64 63)).toInt64 &&& 1).toInt32 = zB (lb m c) := by
  rw [lb_get hc]
  cases lb m c <;> decide
theorem lb_m {m : Int64} {c : Nat} (hc : c < 64) : (lg_cmp (m &&& ((1 : Int64) <<< ((nI c).toInt64 &&& 63))) 0 = nI 0) = (lb m c = false) := by
  rw [lb_cmp0, eq_iff_iff]
  constructor
  · intro h
    have h1 : lb (m &&& ((1 : Int64) <<< ((nI c).toInt64 &&& 63))) c = false := by rw [h]; exact lb_0 c
    rw [lb_and, lb_bit hc hc] at h1
    simpa using h1
  · intro h
    apply lb_ext
    intro k hk
    rw [lb_and, lb_bit hc hk, lb_0]
    by_cases e : k = c
    · subst e; rw [h]; rfl
    · simp [e]
theorem lb_z {m : Int64} : (m = 0) = (∀ k, k < 64 → lb m k = false) := by
  rw [eq_iff_iff]
  constructor
  · intro h k _; rw [h]; exact lb_0 k
  · intro h; exact lb_ext (fun k hk => by rw [h k hk, lb_0])
