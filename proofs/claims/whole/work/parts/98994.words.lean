/-! TEXTS: words -/
section WRD
def cn (si j : Nat) : Nat := ((k_bs si).getD j 0).toBitVec.toNat % 256
theorem k_chN (si j : Nat) : k_ch si j = nI (cn si j) := by
  unfold k_ch cn
  obtain ⟨m, hm, e⟩ := wb_of32 ((k_bs si).getD j 0)
  rw [e]
  have h2 : (nI m).toBitVec.toNat = m := by
    show (BitVec.ofNat 32 m).toNat = m
    rw [BitVec.toNat_ofNat]
    exact Nat.mod_eq_of_lt hm
  rw [h2]
  exact fa_mask m 8
def wlR (b : Nat → Nat) : Nat → Nat → Nat
  | 0, _ => 0
  | r + 1, p => if 97 ≤ b p ∧ b p ≤ 122 then wlR b r (p + 1) + 1 else 0
def wl (b : Nat → Nat) (n p : Nat) : Nat := wlR b (n - p) p
theorem wlR_b (b : Nat → Nat) : ∀ r p, wlR b r p ≤ r ∧ ∀ i, i < wlR b r p → 97 ≤ b (p + i) ∧ b (p + i) ≤ 122
  | 0, p => ⟨Nat.le_refl _, fun i hi => absurd hi (Nat.not_lt_zero i)⟩
  | r + 1, p => by
    obtain ⟨h1, h2⟩ := wlR_b b r (p + 1)
    unfold wlR
    by_cases z : 97 ≤ b p ∧ b p ≤ 122
    · rw [if_pos z]
      refine ⟨by omega, fun i hi => ?_⟩
      by_cases y : i = 0
      · rw [y]; exact z
      · have := h2 (i - 1) (by omega)
        rw [show p + 1 + (i - 1) = p + i by omega] at this
        exact this
    · rw [if_neg z]
      exact ⟨Nat.zero_le _, fun i hi => absurd hi (Nat.not_lt_zero i)⟩
theorem wl_le (b : Nat → Nat) {n p : Nat} (h : p ≤ n) : p + wl b n p ≤ n := by
  have := (wlR_b b (n - p) p).1
  show p + wlR b (n - p) p ≤ n
  omega
theorem wl_c (b : Nat → Nat) (n p : Nat) : ∀ i, i < wl b n p → 97 ≤ b (p + i) ∧ b (p + i) ≤ 122 := (wlR_b b (n - p) p).2
/-- base 32 -/
def bV (f : Nat → Nat) : Nat → Nat
  | 0 => 0
  | k + 1 => 32 * bV f k + f k
theorem bV_inj {f g : Nat → Nat} : ∀ k k', (∀ i, i < k → 1 ≤ f i ∧ f i ≤ 31) → (∀ i, i < k' → 1 ≤ g i ∧ g i ≤ 31) → bV f k = bV g k' → k = k' ∧ ∀ i, i < k → f i = g i
  | 0, 0, _, _, _ => ⟨rfl, fun i hi => absurd hi (Nat.not_lt_zero i)⟩
  | 0, k' + 1, _, hg, h => by
    have := hg k' (by omega)
    have e : bV g (k' + 1) = 32 * bV g k' + g k' := rfl
    have e0 : bV f 0 = 0 := rfl
    omega
  | k + 1, 0, hf, _, h => by
    have := hf k (by omega)
    have e : bV f (k + 1) = 32 * bV f k + f k := rfl
    have e0 : bV g 0 = 0 := rfl
    omega
  | k + 1, k' + 1, hf, hg, h => by
    have h1 := hf k (by omega)
    have h2 := hg k' (by omega)
    have e1 : bV f (k + 1) = 32 * bV f k + f k := rfl
    have e2 : bV g (k' + 1) = 32 * bV g k' + g k' := rfl
    obtain ⟨a1, a2⟩ := bV_inj k k' (fun i hi => hf i (by omega)) (fun i hi => hg i (by omega)) (by omega)
    refine ⟨by omega, fun i hi => ?_⟩
    by_cases z : i = k
    · rw [z]
      have : f k = g k' := by omega
      rw [this, a1]
    · exact a2 i (by omega)
theorem bV_lt {f : Nat → Nat} : ∀ k, (∀ i, i < k → f i ≤ 31) → bV f k < 32 ^ k
  | 0, _ => by show 0 < 1; omega
  | k + 1, h => by
    have h1 := bV_lt k (fun i hi => h i (by omega))
    have h2 := h k (by omega)
    have e : bV f (k + 1) = 32 * bV f k + f k := rfl
    rw [Nat.pow_succ]
    omega
theorem bV_cong {f g : Nat → Nat} : ∀ k, (∀ i, i < k → f i = g i) → bV f k = bV g k
  | 0, _ => rfl
  | k + 1, h => by
    show 32 * bV f k + f k = 32 * bV g k + g k
    rw [bV_cong k (fun i hi => h i (by omega)), h k (by omega)]
def ofW (w : Nat) : Nat := bV (fun i => cn w i - 96) (k_bs w).length
/-- the reference's word -/
def pkW (b : Nat → Nat) (n p : Nat) : Nat := if wl b n p ≤ 6 then bV (fun i => b (p + i) - 96) (wl b n p) else 0
variable {u n : Nat} {b : Nat → Nat} {a1 a2 : Nat → Int32}
theorem t_small {v : Nat} (hv : v < 256) : f_X11_isSmall u (nI v) = some (zB (decide (97 ≤ v ∧ v ≤ 122))) := by
  unfold f_X11_isSmall bX11_isSmall_0
  by_cases z1 : 97 ≤ v
  · rw [if_neg (show ¬ nI v < (97 : Int32) from nI_nlt (b := 97) z1 (by omega))]
    by_cases z2 : v ≤ 122
    · rw [if_neg (show ¬ (122 : Int32) < nI v from nI_nlt (a := 122) z2 (by omega)), decide_eq_true ⟨z1, z2⟩]; rfl
    · rw [if_pos (show (122 : Int32) < nI v from nI_lt (a := 122) (by omega) (by omega)), decide_eq_false (fun w => z2 w.2)]; rfl
  · rw [if_pos (show nI v < (97 : Int32) from nI_lt (b := 97) (by omega) (by omega)), decide_eq_false (fun w => z1 w.1)]; rfl
theorem sh5 {v d : Nat} (hd : d < 32) : (nI v <<< ((5 : Int32) &&& 31)) ||| nI d = nI (32 * v + d) := by
  have e : nI v <<< ((5 : Int32) &&& 31) = nI (2 ^ 5 * v) := by
    apply b_ext
    intro i hi
    rw [show ((5 : Int32) &&& 31) = (nI 5 &&& 31) from rfl, b_shl 5 (by omega) (nI v) hi]
    show (decide (5 ≤ i) && (BitVec.ofNat 32 v).getLsbD (i - 5)) = (BitVec.ofNat 32 (2 ^ 5 * v)).getLsbD i
    rw [BitVec.getLsbD_ofNat, BitVec.getLsbD_ofNat, decide_eq_true hi, Bool.true_and]
    rw [Nat.testBit_two_pow_mul]
    by_cases z : 5 ≤ i
    · rw [decide_eq_true z, decide_eq_true (show i - 5 < 32 by omega)]; rfl
    · rw [decide_eq_false z]; rfl
  rw [e, fa_or_sum (k := 5) v hd]
theorem t_word (T : TXT b n a1 a2) (hu : 700 ≤ u) {p : Nat} (hp : p ≤ n) : f_X11_word u (nI n) (nI p) a2 = some (nI (pkW b n (sk b n p)), nI (sk b n p)) := by
  have hn := T.1
  have hs := sk_le b hp
  have hc := wl_c b n (sk b n p)
  have hlen := wl_le b hs
  -- the loop, k letters read
  have key : ∀ r k f, sk b n p + k + r = n → r < f → wlR b r (sk b n p + k) + k = wl b n (sk b n p) → bX11_word_14 u (nI n) a2 f (nI (sk b n p)) (nI (if k ≤ 6 then bV (fun i => b (sk b n p + i) - 96) k else 0)) (nI k) (nI (sk b n p + k)) = some (nI (pkW b n (sk b n p)), nI (sk b n p)) := by
    have fin_ : ∀ k, k = wl b n (sk b n p) → bX11_word_67 u (nI n) a2 (nI (sk b n p)) (nI (if k ≤ 6 then bV (fun i => b (sk b n p + i) - 96) k else 0)) (nI k) = some (nI (pkW b n (sk b n p)), nI (sk b n p)) := by
      intro k hk
      unfold bX11_word_67 pkW
      rw [← hk]
      by_cases z : k ≤ 6
      · rw [if_pos (show nI k ≤ (6 : Int32) from nI_le (b := 6) z (by omega))]
      · rw [if_neg (show ¬ nI k ≤ (6 : Int32) from nI_ge (a := 6) (by omega) (by omega)), if_neg z]
        rfl
    intro r
    induction r with
    | zero =>
      intro k f hk hf hw
      obtain ⟨f, rfl⟩ := z_suc hf
      rw [bX11_word_14, if_pos (nI_le (by omega) (by omega))]
      exact fin_ k (by rw [← hw]; unfold wlR; omega)
    | succ r ih =>
      intro k f hk hf hw
      obtain ⟨f, rfl⟩ := z_suc hf
      obtain ⟨t1, -, t2⟩ := T.2 (sk b n p + k) (by omega)
      rw [bX11_word_14, if_neg (nI_ge (by omega) (by omega)), z_ki (by omega) (by omega), z_cl (by omega), t2, t_small t1, z_b]
      unfold bX11_word_57
      rw [show nI (sk b n p + k) + (1 : Int32) = nI (sk b n p + (k + 1)) from nI_1 _, show nI k + (1 : Int32) = nI (k + 1) from nI_1 k]
      unfold wlR at hw
      by_cases z : 97 ≤ b (sk b n p + k) ∧ b (sk b n p + k) ≤ 122
      · rw [if_pos z] at hw
        rw [decide_eq_true z, if_neg (show ¬ zB true = (0 : Int32) from d_10)]
        have nx := ih (k + 1) f (by omega) (by omega) (by rw [show sk b n p + (k + 1) = sk b n p + k + 1 by omega]; omega)
        rw [← nx]
        by_cases y : 6 ≤ k
        · rw [if_pos (show (6 : Int32) ≤ nI k from nI_le (a := 6) y (by omega)), if_neg (show ¬ k + 1 ≤ 6 by omega)]
          rfl
        · rw [if_neg (show ¬ (6 : Int32) ≤ nI k from nI_ge (b := 6) (by omega) (by omega)), z_ki (by omega) (by omega), if_pos (show k ≤ 6 by omega), if_pos (show k + 1 ≤ 6 by omega)]
          have e : nI (b (sk b n p + k)) - (96 : Int32) = nI (b (sk b n p + k) - 96) := z_sub (b := 96) (by omega)
          rw [e, sh5 (by omega)]
          rfl
      · rw [if_neg z] at hw
        rw [decide_eq_false z, if_pos (show zB false = (0 : Int32) from rfl)]
        exact fin_ k (by omega)
  have := key (n - sk b n p) 0 u (by omega) (by omega) rfl
  unfold f_X11_word bX11_word_0
  rw [t_here T hu hp, z_b]
  exact this
theorem t_pass (T : TXT b n a1 a2) (hu : 700 ≤ u) {p : Nat} (hp : p ≤ n) : f_X11_pass u (nI n) (nI p) a2 = some (nI (p + wl b n p)) := by
  have hn := T.1
  have key : ∀ r p f, p + r = n → r < f → bX11_pass_0 u (nI n) a2 f (nI p) = some (nI (p + wlR b r p)) := by
    intro r
    induction r with
    | zero =>
      intro p f hp hf
      obtain ⟨f, rfl⟩ := z_suc hf
      rw [bX11_pass_0, if_pos (nI_le (by omega) (by omega))]
      rfl
    | succ r ih =>
      intro p f hp hf
      obtain ⟨f, rfl⟩ := z_suc hf
      obtain ⟨t1, -, t2⟩ := T.2 p (by omega)
      rw [bX11_pass_0, if_neg (nI_ge (by omega) (by omega)), z_ki (by omega) (by omega), z_cl (by omega), t2, t_small t1, z_b]
      unfold wlR
      by_cases z : 97 ≤ b p ∧ b p ≤ 122
      · rw [decide_eq_true z, if_neg (show ¬ zB true = (0 : Int32) from d_10), if_pos z, show nI p + (1 : Int32) = nI (p + 1) from nI_1 p, ih (p + 1) f (by omega) (by omega), show p + 1 + wlR b r (p + 1) = p + (wlR b r (p + 1) + 1) by omega]
      · rw [decide_eq_false z, if_pos (show zB false = (0 : Int32) from rfl), if_neg z]
        rfl
  exact key (n - p) p u (by omega) (by omega)
theorem t_of {w : Nat} (hl : (k_bs w).length ≤ 6) (hc : ∀ i, i < (k_bs w).length → 97 ≤ cn w i ∧ cn w i ≤ 122) (hu : 20 ≤ u) : f_X11_of u w = some (nI (ofW w)) := by
  have key : ∀ r k f, k + r = (k_bs w).length → r < f → bX11_of_4 u w f (nI (bV (fun i => cn w i - 96) k)) (nI k) = some (nI (ofW w)) := by
    intro r
    induction r with
    | zero =>
      intro k f hk hf
      obtain ⟨f, rfl⟩ := z_suc hf
      rw [bX11_of_4, if_pos (nI_le (by omega) (by omega))]
      unfold ofW
      rw [show k = (k_bs w).length by omega]
    | succ r ih =>
      intro k f hk hf
      obtain ⟨f, rfl⟩ := z_suc hf
      have hq := hc k (by omega)
      rw [bX11_of_4, if_neg (nI_ge (by omega) (by omega)), z_ki (by omega) (by omega), z_cl (by omega), k_chN, show nI k + (1 : Int32) = nI (k + 1) from nI_1 k]
      have e : nI (cn w k) - (96 : Int32) = nI (cn w k - 96) := z_sub (b := 96) (by omega)
      rw [e, sh5 (by omega)]
      exact ih (k + 1) f (by omega) (by omega)
  exact key (k_bs w).length 0 u (by omega) (by omega)
/-! the class's word -/
def mtW (si : Nat) (b : Nat → Nat) (p L from_ to : Nat) : Bool := decide (to - from_ = L ∧ ∀ i, i < L → cn si (from_ + i) = b (p + i))
def wfi (ch : Nat → Nat) (len : Nat) (mt : Nat → Nat → Bool) : Nat → Nat → Nat → Nat → Option Nat
  | 0, _, _, _ => none
  | r + 1, w, from_, i => if i = len ∨ ch i = 32 then (if mt from_ i = true then some w else wfi ch len mt r (w + 1) (i + 1) (i + 1)) else wfi ch len mt r w from_ (i + 1)
theorem t_isWord (T : TXT b n a1 a2) (hu : 700 ≤ u) {si p L from_ to : Nat} (hpL : p + L ≤ n) (hc : ∀ i, i < L → 97 ≤ b (p + i) ∧ b (p + i) ≤ 122) (h1 : from_ ≤ to) (h2 : to ≤ (k_bs si).length) (h3 : (k_bs si).length < 1000) : f_X8_isWord u si (nI (p + L)) (nI p) a1 (nI from_) (nI to) = some (zB (mtW si b p L from_ to)) := by
  have hn := T.1
  unfold f_X8_isWord bX8_isWord_0
  have e1 : nI to - nI from_ = nI (to - from_) := z_sub h1
  have e2 : nI (p + L) - nI p = nI L := by rw [z_sub (by omega), show p + L - p = L by omega]
  rw [e1, e2]
  by_cases z : to - from_ = L
  · rw [if_pos (by rw [z])]
    have key : ∀ r k f, k + r = L → r < f → (∀ i, i < k → cn si (from_ + i) = b (p + i)) → bX8_isWord_20 u si (nI (p + L)) (nI p) a1 f (nI from_) (nI to) (nI k) = some (zB (mtW si b p L from_ to)) := by
      intro r
      induction r with
      | zero =>
        intro k f hk hf hI
        obtain ⟨f, rfl⟩ := z_suc hf
        rw [bX8_isWord_20, e1, if_pos (nI_le (by omega) (by omega))]
        unfold mtW
        rw [decide_eq_true ⟨z, fun i hi => hI i (by omega)⟩]
        rfl
      | succ r ih =>
        intro k f hk hf hI
        obtain ⟨f, rfl⟩ := z_suc hf
        obtain ⟨t1, t2, -⟩ := T.2 (p + k) (by omega)
        have hb := hc k (by omega)
        have hcn : cn si (from_ + k) < 256 := Nat.mod_lt _ (by omega)
        rw [bX8_isWord_20, e1, if_neg (nI_ge (by omega) (by omega)), nI_add, nI_add, z_ki (by omega) (by omega), z_ki (by omega) (by omega), z_cl (by omega), z_cl (by omega), t2, xb_nI _ (by omega), k_chN, show nI k + (1 : Int32) = nI (k + 1) from nI_1 k]
        by_cases y : cn si (from_ + k) = b (p + k)
        · rw [if_pos (by rw [y])]
          refine ih (k + 1) f (by omega) (by omega) (fun i hi => ?_)
          by_cases x : i = k
          · rw [x]; exact y
          · exact hI i (by omega)
        · rw [if_neg (fun w => y ((nI_eq (by omega) (by omega)).mp w))]
          unfold mtW
          rw [decide_eq_false (fun w => y (w.2 k (by omega)))]
          rfl
    exact key L 0 u (by omega) (by omega) (fun i hi => absurd hi (Nat.not_lt_zero i))
  · rw [if_neg (fun w => z ((nI_eq (by omega) (by omega)).mp w))]
    unfold mtW
    rw [decide_eq_false (fun w => z w.1)]
    rfl
theorem t_wfi (T : TXT b n a1 a2) (hu : 700 ≤ u) {si p L : Nat} (hpL : p + L ≤ n) (hc : ∀ i, i < L → 97 ≤ b (p + i) ∧ b (p + i) ≤ 122) (h3 : (k_bs si).length < 600) (f pl : Int32) : ∀ r k w from_ i, i + r = (k_bs si).length + 1 → r < k → from_ ≤ i → w ≤ i → bX8_word_72 u si (nI n) a1 k (nI (p + L)) (nI p) f pl (nI w) (nI from_) (nI i) = (match wfi (cn si) (k_bs si).length (mtW si b p L) r w from_ i with | some v => (if f = 0 then some (nI v, nI (p + L), nI p, f, pl) else some ((-1 : Int32), nI (p + L), nI p, f, pl)) | none => k_b (f_X8_fail u f pl (1 : Int32) (nI p)) (fun r => some ((-1 : Int32), nI (p + L), nI p, r.1, r.2))) := by
  have hn := T.1
  intro r
  induction r with
  | zero =>
    intro k w from_ i hi hk h1 hw
    obtain ⟨k, rfl⟩ := z_suc hk
    rw [bX8_word_72, if_pos (nI_lt (by omega) (by omega))]
    rfl
  | succ r ih =>
    intro k w from_ i hi hk h1 hw
    obtain ⟨k, rfl⟩ := z_suc hk
    have hcn : cn si i < 256 := Nat.mod_lt _ (by omega)
    have ew : nI w + (1 : Int32) = nI (w + 1) := nI_1 w
    have ei : nI i + (1 : Int32) = nI (i + 1) := nI_1 i
    have test : bX8_word_101 u si (nI n) a1 (bX8_word_72 u si (nI n) a1 k) (nI (p + L)) (nI p) f pl (nI w) (nI from_) (nI i) = (match (if mtW si b p L from_ i = true then some w else wfi (cn si) (k_bs si).length (mtW si b p L) r (w + 1) (i + 1) (i + 1)) with | some v => (if f = 0 then some (nI v, nI (p + L), nI p, f, pl) else some ((-1 : Int32), nI (p + L), nI p, f, pl)) | none => k_b (f_X8_fail u f pl (1 : Int32) (nI p)) (fun r => some ((-1 : Int32), nI (p + L), nI p, r.1, r.2))) := by
      unfold bX8_word_101
      rw [t_isWord T hu hpL hc h1 (show i ≤ (k_bs si).length by omega) (by omega), z_b]
      cases hm : mtW si b p L from_ i with
      | true =>
        rw [if_neg (show ¬ zB true = (0 : Int32) from d_10), if_pos rfl]
      | false =>
        rw [if_pos (show zB false = (0 : Int32) from rfl), if_neg (show ¬ false = true by decide)]
        unfold bX8_word_133
        rw [ew, ei]
        exact ih k (w + 1) (i + 1) (i + 1) (by omega) (by omega) (Nat.le_refl _) (by omega)
    rw [bX8_word_72, if_neg (nI_nlt (by omega) (by omega))]
    unfold wfi
    by_cases z : i = (k_bs si).length
    · rw [if_pos (by rw [z]), if_pos (Or.inl z)]
      exact test
    · rw [if_neg (fun w => z ((nI_eq (by omega) (by omega)).mp w)), z_ki (by omega) (by omega), z_cl (by omega), k_chN]
      by_cases y : cn si i = 32
      · rw [if_pos (show nI (cn si i) = (32 : Int32) by rw [y]; rfl), if_pos (Or.inr y)]
        exact test
      · rw [if_neg (show ¬ nI (cn si i) = (32 : Int32) from fun w => y ((nI_eq (b := 32) (by omega) (by omega)).mp w)), if_neg (by rintro (q | q) <;> contradiction)]
        unfold bX8_word_133
        rw [ei]
        exact ih k w from_ (i + 1) (by omega) (by omega) (by omega) (by omega)
def widW (si : Nat) (b : Nat → Nat) (n p : Nat) : Option Nat := wfi (cn si) (k_bs si).length (mtW si b p (wl b n p)) ((k_bs si).length + 1) 0 0 0
theorem t_letters (T : TXT b n a1 a2) (hu : 700 ≤ u) (si : Nat) (st f pl : Int32) : ∀ r p k, p + r = n → r < k → bX8_word_13 u si (nI n) a1 k (nI p) st f pl = bX8_word_65 u si (nI n) a1 (nI (p + wlR b r p)) st f pl := by
  have hn := T.1
  intro r
  induction r with
  | zero =>
    intro p k hp hk
    obtain ⟨k, rfl⟩ := z_suc hk
    rw [bX8_word_13, if_pos (nI_le (by omega) (by omega))]
    rfl
  | succ r ih =>
    intro p k hp hk
    obtain ⟨k, rfl⟩ := z_suc hk
    obtain ⟨t1, t2, -⟩ := T.2 p (by omega)
    have q := xb_sm _ t1
    rw [bX8_word_13, if_neg (nI_ge (by omega) (by omega)), z_ki (by omega) (by omega), z_cl (by omega), t2, z_ki (by omega) (by omega)]
    unfold wlR
    by_cases z : 97 ≤ b p ∧ b p ≤ 122
    · obtain ⟨q1, q2⟩ := q.mpr z
      rw [if_neg q1, if_neg q2, if_pos z, show nI p + (1 : Int32) = nI (p + 1) from nI_1 p, ih (p + 1) k (by omega) (by omega), show p + 1 + wlR b r (p + 1) = p + (wlR b r (p + 1) + 1) by omega]
    · rw [if_neg z]
      by_cases q1 : xb (b p) < 97
      · rw [if_pos q1]; rfl
      · rw [if_neg q1]
        by_cases q2 : (122 : Int32) < xb (b p)
        · rw [if_pos q2]; rfl
        · exact absurd (q.mp ⟨q1, q2⟩) z
theorem t_wordX (T : TXT b n a1 a2) (hu : 700 ≤ u) {si p : Nat} (hp : p ≤ n) (h3 : (k_bs si).length < 600) (st f pl : Int32) : f_X8_word u si (nI n) (nI p) st f pl a1 = (match widW si b n (sk b n p) with | some v => (if f = 0 then some (nI v, nI (sk b n p + wl b n (sk b n p)), nI (sk b n p), f, pl) else some ((-1 : Int32), nI (sk b n p + wl b n (sk b n p)), nI (sk b n p), f, pl)) | none => k_b (f_X8_fail u f pl (1 : Int32) (nI (sk b n p))) (fun r => some ((-1 : Int32), nI (sk b n p + wl b n (sk b n p)), nI (sk b n p), r.1, r.2))) := by
  have hn := T.1
  have hs := sk_le b hp
  unfold f_X8_word bX8_word_0
  rw [t_peek T hu hp, z_b]
  have e := t_letters T hu si (nI (sk b n p)) f pl (n - sk b n p) (sk b n p) u (by omega) (by omega)
  refine Eq.trans e ?_
  unfold bX8_word_65
  exact t_wfi T hu (wl_le b hs) (wl_c b n (sk b n p)) h3 f pl ((k_bs si).length + 1) u 0 0 0 (by omega) (by omega) (Nat.le_refl _) (Nat.le_refl _)
theorem t_wordF (T : TXT b n a1 a2) (hu : 700 ≤ u) {si p : Nat} (hp : p ≤ n) (h3 : (k_bs si).length < 600) (st : Int32) {f : Int32} (hf : ¬ f = 0) (pl : Int32) : ∃ q, q ≤ n ∧ f_X8_word u si (nI n) (nI p) st f pl a1 = some ((-1 : Int32), nI q, nI (sk b n p), f, pl) := by
  refine ⟨_, wl_le b (sk_le b hp), ?_⟩
  rw [t_wordX T hu hp h3]
  cases widW si b n (sk b n p) with
  | some v => exact if_neg hf
  | none =>
    show k_b (f_X8_fail u f pl (1 : Int32) (nI (sk b n p))) _ = _
    rw [t_failF hf, z_b]
/-- a word of the class's list is the reference's -/
theorem mt_iff {si w from_ len p : Nat} (hl : (k_bs w).length = len) (h6 : len ≤ 6) (h1 : 1 ≤ len) (hw : ∀ i, i < len → cn si (from_ + i) = cn w i ∧ 97 ≤ cn w i ∧ cn w i ≤ 122) : mtW si b p (wl b n p) from_ (from_ + len) = decide (pkW b n p = ofW w) := by
  have hc := wl_c b n p
  have e : (mtW si b p (wl b n p) from_ (from_ + len) = true) ↔ pkW b n p = ofW w := by
    unfold mtW pkW ofW
    rw [decide_eq_true_eq, hl]
    constructor
    · rintro ⟨g1, g2⟩
      have g3 : wl b n p = len := by omega
      rw [if_pos (by omega), g3]
      refine bV_cong len (fun i hi => ?_)
      rw [← g2 i (by omega), (hw i hi).1]
    · intro g
      have hpos : 0 < bV (fun i => cn w i - 96) len := by
        obtain ⟨k, hk⟩ : ∃ k, len = k + 1 := ⟨len - 1, by omega⟩
        have := hw k (by omega)
        rw [hk]
        show 0 < 32 * bV (fun i => cn w i - 96) k + (cn w k - 96)
        omega
      by_cases z : wl b n p ≤ 6
      · rw [if_pos z] at g
        obtain ⟨k1, k2⟩ := bV_inj _ _ (fun i hi => by have := hc i hi; exact ⟨by omega, by omega⟩) (fun i hi => by have := (hw i hi).2; exact ⟨by omega, by omega⟩) g
        refine ⟨by omega, fun i hi => ?_⟩
        have h4 := k2 i hi
        have h5 := hc i hi
        have h7 := hw i (by omega)
        rw [h7.1]
        have h4' : b (p + i) - 96 = cn w i - 96 := h4
        omega
      · rw [if_neg z] at g; omega
  cases q : mtW si b p (wl b n p) from_ (from_ + len) with
  | true => exact (decide_eq_true (e.mp q)).symm
  | false => exact (decide_eq_false (fun w => by rw [e.mpr w] at q; exact absurd q (by decide))).symm
theorem of_7 (hu : 20 ≤ u) : f_X11_of u 7 = some (nI (ofW 7)) := t_of (by decide) (by decide +kernel) hu
theorem of_8 (hu : 20 ≤ u) : f_X11_of u 8 = some (nI (ofW 8)) := t_of (by decide) (by decide +kernel) hu
theorem of_9 (hu : 20 ≤ u) : f_X11_of u 9 = some (nI (ofW 9)) := t_of (by decide) (by decide +kernel) hu
theorem of_10 (hu : 20 ≤ u) : f_X11_of u 10 = some (nI (ofW 10)) := t_of (by decide) (by decide +kernel) hu
theorem of_11 (hu : 20 ≤ u) : f_X11_of u 11 = some (nI (ofW 11)) := t_of (by decide) (by decide +kernel) hu
theorem of_12 (hu : 20 ≤ u) : f_X11_of u 12 = some (nI (ofW 12)) := t_of (by decide) (by decide +kernel) hu
theorem of_13 (hu : 20 ≤ u) : f_X11_of u 13 = some (nI (ofW 13)) := t_of (by decide) (by decide +kernel) hu
theorem of_14 (hu : 20 ≤ u) : f_X11_of u 14 = some (nI (ofW 14)) := t_of (by decide) (by decide +kernel) hu
theorem of_15 (hu : 20 ≤ u) : f_X11_of u 15 = some (nI (ofW 15)) := t_of (by decide) (by decide +kernel) hu
theorem of_16 (hu : 20 ≤ u) : f_X11_of u 16 = some (nI (ofW 16)) := t_of (by decide) (by decide +kernel) hu
theorem of_17 (hu : 20 ≤ u) : f_X11_of u 17 = some (nI (ofW 17)) := t_of (by decide) (by decide +kernel) hu
theorem of_18 (hu : 20 ≤ u) : f_X11_of u 18 = some (nI (ofW 18)) := t_of (by decide) (by decide +kernel) hu
theorem of_19 (hu : 20 ≤ u) : f_X11_of u 19 = some (nI (ofW 19)) := t_of (by decide) (by decide +kernel) hu
theorem of_20 (hu : 20 ≤ u) : f_X11_of u 20 = some (nI (ofW 20)) := t_of (by decide) (by decide +kernel) hu
theorem of_21 (hu : 20 ≤ u) : f_X11_of u 21 = some (nI (ofW 21)) := t_of (by decide) (by decide +kernel) hu
theorem of_22 (hu : 20 ≤ u) : f_X11_of u 22 = some (nI (ofW 22)) := t_of (by decide) (by decide +kernel) hu
theorem of_23 (hu : 20 ≤ u) : f_X11_of u 23 = some (nI (ofW 23)) := t_of (by decide) (by decide +kernel) hu
theorem of_24 (hu : 20 ≤ u) : f_X11_of u 24 = some (nI (ofW 24)) := t_of (by decide) (by decide +kernel) hu
theorem of_25 (hu : 20 ≤ u) : f_X11_of u 25 = some (nI (ofW 25)) := t_of (by decide) (by decide +kernel) hu
theorem of_26 (hu : 20 ≤ u) : f_X11_of u 26 = some (nI (ofW 26)) := t_of (by decide) (by decide +kernel) hu
theorem of_27 (hu : 20 ≤ u) : f_X11_of u 27 = some (nI (ofW 27)) := t_of (by decide) (by decide +kernel) hu
theorem of_28 (hu : 20 ≤ u) : f_X11_of u 28 = some (nI (ofW 28)) := t_of (by decide) (by decide +kernel) hu
theorem of_29 (hu : 20 ≤ u) : f_X11_of u 29 = some (nI (ofW 29)) := t_of (by decide) (by decide +kernel) hu
theorem of_30 (hu : 20 ≤ u) : f_X11_of u 30 = some (nI (ofW 30)) := t_of (by decide) (by decide +kernel) hu
theorem ow_7 : ofW 7 = 632645 := by decide +kernel
theorem ow_8 : ofW 8 = 627757 := by decide +kernel
theorem ow_9 : ofW 9 = 24170674 := by decide +kernel
theorem ow_10 : ofW 10 = 20186324 := by decide +kernel
theorem ow_11 : ofW 11 = 116919 := by decide +kernel
theorem ow_12 : ofW 12 = 20594245 := by decide +kernel
theorem ow_13 : ofW 13 = 17376357 := by decide +kernel
theorem ow_14 : ofW 14 = 16322738 := by decide +kernel
theorem ow_15 : ofW 15 = 5572 := by decide +kernel
theorem ow_16 : ofW 16 = 12748404 := by decide +kernel
theorem ow_17 : ofW 17 = 441972 := by decide +kernel
theorem ow_18 : ofW 18 = 763013 := by decide +kernel
theorem ow_19 : ofW 19 = 136368 := by decide +kernel
theorem ow_20 : ofW 20 = 514226 := by decide +kernel
theorem ow_21 : ofW 21 = 508078 := by decide +kernel
theorem ow_22 : ofW 22 = 17382931 := by decide +kernel
theorem ow_23 : ofW 23 = 67155 := by decide +kernel
theorem ow_24 : ofW 24 = 370116 := by decide +kernel
theorem ow_25 : ofW 25 = 20194516 := by decide +kernel
theorem ow_26 : ofW 26 = 4391 := by decide +kernel
theorem ow_27 : ofW 27 = 543216 := by decide +kernel
theorem ow_28 : ofW 28 = 546224 := by decide +kernel
theorem ow_29 : ofW 29 = 628108 := by decide +kernel
theorem ow_30 : ofW 30 = 1279278 := by decide +kernel
set_option maxRecDepth 20000 in
theorem wf_1 (mt : Nat → Nat → Bool) : wfi (cn 1) (k_bs 1).length mt ((k_bs 1).length + 1) 0 0 0 = (if mt 0 4 = true then some 0 else (if mt 5 9 = true then some 1 else (if mt 10 15 = true then some 2 else (if mt 16 21 = true then some 3 else (if mt 22 26 = true then some 4 else (if mt 27 32 = true then some 5 else (if mt 33 38 = true then some 6 else (if mt 39 44 = true then some 7 else none)))))))) := rfl
theorem wid_1 (p : Nat) : widW 1 b n p = (if pkW b n p = ofW 7 then some 0 else (if pkW b n p = ofW 8 then some 1 else (if pkW b n p = ofW 9 then some 2 else (if pkW b n p = ofW 10 then some 3 else (if pkW b n p = ofW 11 then some 4 else (if pkW b n p = ofW 12 then some 5 else (if pkW b n p = ofW 13 then some 6 else (if pkW b n p = ofW 14 then some 7 else none)))))))) := by
  unfold widW
  rw [wf_1]
  simp only [mt_iff (b := b) (n := n) (p := p) (si := 1) (w := 7) (from_ := 0) (len := 4) rfl (by omega) (by omega) (by decide +kernel), mt_iff (b := b) (n := n) (p := p) (si := 1) (w := 8) (from_ := 5) (len := 4) rfl (by omega) (by omega) (by decide +kernel), mt_iff (b := b) (n := n) (p := p) (si := 1) (w := 9) (from_ := 10) (len := 5) rfl (by omega) (by omega) (by decide +kernel), mt_iff (b := b) (n := n) (p := p) (si := 1) (w := 10) (from_ := 16) (len := 5) rfl (by omega) (by omega) (by decide +kernel), mt_iff (b := b) (n := n) (p := p) (si := 1) (w := 11) (from_ := 22) (len := 4) rfl (by omega) (by omega) (by decide +kernel), mt_iff (b := b) (n := n) (p := p) (si := 1) (w := 12) (from_ := 27) (len := 5) rfl (by omega) (by omega) (by decide +kernel), mt_iff (b := b) (n := n) (p := p) (si := 1) (w := 13) (from_ := 33) (len := 5) rfl (by omega) (by omega) (by decide +kernel), mt_iff (b := b) (n := n) (p := p) (si := 1) (w := 14) (from_ := 39) (len := 5) rfl (by omega) (by omega) (by decide +kernel), decide_eq_true_eq]
set_option maxRecDepth 20000 in
theorem wf_2 (mt : Nat → Nat → Bool) : wfi (cn 2) (k_bs 2).length mt ((k_bs 2).length + 1) 0 0 0 = (if mt 0 3 = true then some 0 else none) := rfl
theorem wid_2 (p : Nat) : widW 2 b n p = (if pkW b n p = ofW 15 then some 0 else none) := by
  unfold widW
  rw [wf_2]
  simp only [mt_iff (b := b) (n := n) (p := p) (si := 2) (w := 15) (from_ := 0) (len := 3) rfl (by omega) (by omega) (by decide +kernel), decide_eq_true_eq]
set_option maxRecDepth 20000 in
theorem wf_3 (mt : Nat → Nat → Bool) : wfi (cn 3) (k_bs 3).length mt ((k_bs 3).length + 1) 0 0 0 = (if mt 0 4 = true then some 0 else (if mt 5 9 = true then some 1 else (if mt 10 14 = true then some 2 else (if mt 15 19 = true then some 3 else (if mt 20 25 = true then some 4 else (if mt 26 30 = true then some 5 else (if mt 31 35 = true then some 6 else (if mt 36 41 = true then some 7 else (if mt 42 47 = true then some 8 else (if mt 48 52 = true then some 9 else none)))))))))) := rfl
theorem wid_3 (p : Nat) : widW 3 b n p = (if pkW b n p = ofW 18 then some 0 else (if pkW b n p = ofW 19 then some 1 else (if pkW b n p = ofW 20 then some 2 else (if pkW b n p = ofW 21 then some 3 else (if pkW b n p = ofW 22 then some 4 else (if pkW b n p = ofW 23 then some 5 else (if pkW b n p = ofW 24 then some 6 else (if pkW b n p = ofW 25 then some 7 else (if pkW b n p = ofW 16 then some 8 else (if pkW b n p = ofW 17 then some 9 else none)))))))))) := by
  unfold widW
  rw [wf_3]
  simp only [mt_iff (b := b) (n := n) (p := p) (si := 3) (w := 18) (from_ := 0) (len := 4) rfl (by omega) (by omega) (by decide +kernel), mt_iff (b := b) (n := n) (p := p) (si := 3) (w := 19) (from_ := 5) (len := 4) rfl (by omega) (by omega) (by decide +kernel), mt_iff (b := b) (n := n) (p := p) (si := 3) (w := 20) (from_ := 10) (len := 4) rfl (by omega) (by omega) (by decide +kernel), mt_iff (b := b) (n := n) (p := p) (si := 3) (w := 21) (from_ := 15) (len := 4) rfl (by omega) (by omega) (by decide +kernel), mt_iff (b := b) (n := n) (p := p) (si := 3) (w := 22) (from_ := 20) (len := 5) rfl (by omega) (by omega) (by decide +kernel), mt_iff (b := b) (n := n) (p := p) (si := 3) (w := 23) (from_ := 26) (len := 4) rfl (by omega) (by omega) (by decide +kernel), mt_iff (b := b) (n := n) (p := p) (si := 3) (w := 24) (from_ := 31) (len := 4) rfl (by omega) (by omega) (by decide +kernel), mt_iff (b := b) (n := n) (p := p) (si := 3) (w := 25) (from_ := 36) (len := 5) rfl (by omega) (by omega) (by decide +kernel), mt_iff (b := b) (n := n) (p := p) (si := 3) (w := 16) (from_ := 42) (len := 5) rfl (by omega) (by omega) (by decide +kernel), mt_iff (b := b) (n := n) (p := p) (si := 3) (w := 17) (from_ := 48) (len := 4) rfl (by omega) (by omega) (by decide +kernel), decide_eq_true_eq]
set_option maxRecDepth 20000 in
theorem wf_4 (mt : Nat → Nat → Bool) : wfi (cn 4) (k_bs 4).length mt ((k_bs 4).length + 1) 0 0 0 = (if mt 0 3 = true then some 0 else (if mt 4 8 = true then some 1 else (if mt 9 13 = true then some 2 else (if mt 14 19 = true then some 3 else (if mt 20 24 = true then some 4 else (if mt 25 30 = true then some 5 else none)))))) := rfl
theorem wid_4 (p : Nat) : widW 4 b n p = (if pkW b n p = ofW 26 then some 0 else (if pkW b n p = ofW 27 then some 1 else (if pkW b n p = ofW 28 then some 2 else (if pkW b n p = ofW 25 then some 3 else (if pkW b n p = ofW 29 then some 4 else (if pkW b n p = ofW 30 then some 5 else none)))))) := by
  unfold widW
  rw [wf_4]
  simp only [mt_iff (b := b) (n := n) (p := p) (si := 4) (w := 26) (from_ := 0) (len := 3) rfl (by omega) (by omega) (by decide +kernel), mt_iff (b := b) (n := n) (p := p) (si := 4) (w := 27) (from_ := 4) (len := 4) rfl (by omega) (by omega) (by decide +kernel), mt_iff (b := b) (n := n) (p := p) (si := 4) (w := 28) (from_ := 9) (len := 4) rfl (by omega) (by omega) (by decide +kernel), mt_iff (b := b) (n := n) (p := p) (si := 4) (w := 25) (from_ := 14) (len := 5) rfl (by omega) (by omega) (by decide +kernel), mt_iff (b := b) (n := n) (p := p) (si := 4) (w := 29) (from_ := 20) (len := 4) rfl (by omega) (by omega) (by decide +kernel), mt_iff (b := b) (n := n) (p := p) (si := 4) (w := 30) (from_ := 25) (len := 5) rfl (by omega) (by omega) (by decide +kernel), decide_eq_true_eq]
end WRD
