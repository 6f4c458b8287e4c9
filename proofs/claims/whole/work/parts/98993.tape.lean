/-! TEXTS: bytes, blanks, signs, numbers, words; class and reference alike -/
section TAP
def xb (v : Nat) : Int32 := (nI v).toInt8.toInt32
theorem xb_eq : ∀ v, v < 256 → ∀ c, c < 128 → ((xb v = nI c) ↔ v = c) := by decide +kernel
theorem xb_dig : ∀ v, v < 256 → ((¬ xb v < 48 ∧ ¬ (57 : Int32) < xb v) ↔ (48 ≤ v ∧ v ≤ 57)) := by decide +kernel
theorem xb_sm : ∀ v, v < 256 → ((¬ xb v < 97 ∧ ¬ (122 : Int32) < xb v) ↔ (97 ≤ v ∧ v ≤ 122)) := by decide +kernel
theorem xb_nI : ∀ v, v < 128 → xb v = nI v := by decide +kernel
def TXT (b : Nat → Nat) (n : Nat) (a1 a2 : Nat → Int32) : Prop := n ≤ 600 ∧ ∀ i, i < n → b i < 256 ∧ a1 i = xb (b i) ∧ a2 i = nI (b i)
def skR (b : Nat → Nat) : Nat → Nat → Nat
  | 0, p => p
  | r + 1, p => if b p = 32 then skR b r (p + 1) else p
def sk (b : Nat → Nat) (n p : Nat) : Nat := skR b (n - p) p
theorem skR_b (b : Nat → Nat) : ∀ r p, p ≤ skR b r p ∧ skR b r p ≤ p + r ∧ (skR b r p < p + r → b (skR b r p) ≠ 32)
  | 0, p => ⟨Nat.le_refl _, Nat.le_refl _, fun h => absurd h (Nat.lt_irrefl _)⟩
  | r + 1, p => by
    obtain ⟨h1, h2, h3⟩ := skR_b b r (p + 1)
    unfold skR
    by_cases z : b p = 32
    · rw [if_pos z]
      exact ⟨by omega, by omega, fun h => h3 (by omega)⟩
    · rw [if_neg z]
      exact ⟨Nat.le_refl _, by omega, fun _ => z⟩
theorem sk_ge (b : Nat → Nat) (n p : Nat) : p ≤ sk b n p := (skR_b b (n - p) p).1
theorem sk_le (b : Nat → Nat) {n p : Nat} (h : p ≤ n) : sk b n p ≤ n := by
  have := (skR_b b (n - p) p).2.1
  show skR b (n - p) p ≤ n
  omega
theorem sk_id (b : Nat → Nat) {n p : Nat} (h : p ≤ n) : sk b n (sk b n p) = sk b n p := by
  have h1 := sk_le b h
  have h2 := (skR_b b (n - p) p).2.2
  by_cases z : sk b n p < n
  · have h3 : b (sk b n p) ≠ 32 := h2 (by show skR b (n - p) p < _; have : skR b (n - p) p < n := z; omega)
    unfold sk at h3 z ⊢
    obtain ⟨k, hk⟩ : ∃ k, n - skR b (n - p) p = k + 1 := ⟨n - skR b (n - p) p - 1, by omega⟩
    rw [hk]
    show (if b (skR b (n - p) p) = 32 then _ else _) = _
    rw [if_neg h3]
  · have e : sk b n p = n := by omega
    rw [e]
    unfold sk
    rw [Nat.sub_self]
    rfl
def pkX (b : Nat → Nat) (n p : Nat) : Int32 := if p < n then xb (b p) else 0
def pkM (b : Nat → Nat) (n p : Nat) : Int32 := if p < n then nI (b p) else 0
variable {u n : Nat} {b : Nat → Nat} {a1 a2 : Nat → Int32}
theorem t_peek (T : TXT b n a1 a2) (hu : 700 ≤ u) {p : Nat} (hp : p ≤ n) : f_X8_peek u (nI n) (nI p) a1 = some (pkX b n (sk b n p), nI (sk b n p)) := by
  have hn := T.1
  have fin_ : ∀ p, p ≤ n → bX8_peek_38 u (nI n) a1 (nI p) = some (pkX b n p, nI p) := by
    intro p hp
    unfold bX8_peek_38 pkX
    by_cases z : p < n
    · rw [if_neg (nI_ge z (by omega)), if_pos z, z_ki (by omega) (by omega), z_cl (by omega), (T.2 p z).2.1]
    · rw [if_pos (nI_le (by omega) (by omega)), if_neg z]
  have key : ∀ r p f, p + r = n → r < f → bX8_peek_0 u (nI n) a1 f (nI p) = some (pkX b n (skR b r p), nI (skR b r p)) := by
    intro r
    induction r with
    | zero =>
      intro p f hp hf
      obtain ⟨f, rfl⟩ := z_suc hf
      rw [bX8_peek_0, if_pos (nI_le (by omega) (by omega))]
      exact fin_ p (by omega)
    | succ r ih =>
      intro p f hp hf
      obtain ⟨f, rfl⟩ := z_suc hf
      obtain ⟨t1, t2, -⟩ := T.2 p (by omega)
      rw [bX8_peek_0, if_neg (nI_ge (by omega) (by omega)), z_ki (by omega) (by omega), z_cl (by omega), t2]
      unfold skR
      by_cases z : b p = 32
      · rw [if_pos (show xb (b p) = (32 : Int32) from (xb_eq _ t1 32 (by omega)).mpr z), if_pos z, show nI p + (1 : Int32) = nI (p + 1) from nI_1 p]
        exact ih (p + 1) f (by omega) (by omega)
      · rw [if_neg (show ¬ xb (b p) = (32 : Int32) from fun w => z ((xb_eq _ t1 32 (by omega)).mp w)), if_neg z]
        exact fin_ p (by omega)
  exact key (n - p) p u (by omega) (by omega)
theorem t_here (T : TXT b n a1 a2) (hu : 700 ≤ u) {p : Nat} (hp : p ≤ n) : f_X11_here u (nI n) (nI p) a2 = some (pkM b n (sk b n p), nI (sk b n p)) := by
  have hn := T.1
  have fin_ : ∀ p, p ≤ n → bX11_here_38 u (nI n) a2 (nI p) = some (pkM b n p, nI p) := by
    intro p hp
    unfold bX11_here_38 pkM
    by_cases z : p < n
    · rw [if_neg (nI_ge z (by omega)), if_pos z, z_ki (by omega) (by omega), z_cl (by omega), (T.2 p z).2.2]
    · rw [if_pos (nI_le (by omega) (by omega)), if_neg z]
  have key : ∀ r p f, p + r = n → r < f → bX11_here_0 u (nI n) a2 f (nI p) = some (pkM b n (skR b r p), nI (skR b r p)) := by
    intro r
    induction r with
    | zero =>
      intro p f hp hf
      obtain ⟨f, rfl⟩ := z_suc hf
      rw [bX11_here_0, if_pos (nI_le (by omega) (by omega))]
      exact fin_ p (by omega)
    | succ r ih =>
      intro p f hp hf
      obtain ⟨f, rfl⟩ := z_suc hf
      obtain ⟨t1, -, t2⟩ := T.2 p (by omega)
      rw [bX11_here_0, if_neg (nI_ge (by omega) (by omega)), z_ki (by omega) (by omega), z_cl (by omega), t2]
      unfold skR
      by_cases z : b p = 32
      · rw [if_pos (show nI (b p) = (32 : Int32) by rw [z]; rfl), if_pos z, show nI p + (1 : Int32) = nI (p + 1) from nI_1 p]
        exact ih (p + 1) f (by omega) (by omega)
      · rw [if_neg (show ¬ nI (b p) = (32 : Int32) from fun w => z ((nI_eq (b := 32) (by omega) (by omega)).mp w)), if_neg z]
        exact fin_ p (by omega)
  exact key (n - p) p u (by omega) (by omega)
/-- a sign stands here -/
def atC (b : Nat → Nat) (n p c : Nat) : Bool := decide (p < n ∧ b p = c)
def atD (b : Nat → Nat) (n p : Nat) : Bool := decide (p < n ∧ 48 ≤ b p ∧ b p ≤ 57)
theorem pkX_c (T : TXT b n a1 a2) (p : Nat) {c : Nat} (h0 : 0 < c) (hc : c < 128) : (pkX b n p = nI c) = (atC b n p c = true) := by
  unfold pkX atC
  rw [decide_eq_true_eq, eq_iff_iff]
  by_cases z : p < n
  · rw [if_pos z, xb_eq _ (T.2 p z).1 c hc]
    exact ⟨fun w => ⟨z, w⟩, fun w => w.2⟩
  · rw [if_neg z]
    exact ⟨fun w => absurd ((nI_eq (a := 0) (by omega) (by omega)).mp w) (by omega), fun w => absurd w.1 z⟩
theorem pkM_c (T : TXT b n a1 a2) (p : Nat) {c : Nat} (h0 : 0 < c) (hc : c < 128) : (pkM b n p = nI c) = (atC b n p c = true) := by
  unfold pkM atC
  rw [decide_eq_true_eq, eq_iff_iff]
  by_cases z : p < n
  · have := (T.2 p z).1
    rw [if_pos z, nI_eq (by omega) (by omega)]
    exact ⟨fun w => ⟨z, w⟩, fun w => w.2⟩
  · rw [if_neg z]
    exact ⟨fun w => absurd ((nI_eq (a := 0) (by omega) (by omega)).mp w) (by omega), fun w => absurd w.1 z⟩
theorem t_isNext (T : TXT b n a1 a2) (hu : 700 ≤ u) {p : Nat} (hp : p ≤ n) {c : Int32} {k : Nat} (hc : c = nI k) (h0 : 0 < k) (hk : k < 128) : f_X8_isNext u (nI n) (nI p) a1 c = some (zB (atC b n (sk b n p) k), nI (sk b n p)) := by
  unfold f_X8_isNext bX8_isNext_0
  rw [t_peek T hu hp, z_b, hc]
  cases z : atC b n (sk b n p) k with
  | true => exact if_pos (show pkX b n (sk b n p) = nI k by rw [pkX_c T _ h0 hk]; exact z)
  | false => exact if_neg (show ¬ pkX b n (sk b n p) = nI k by rw [pkX_c T _ h0 hk, z]; decide)
theorem t_digitX (T : TXT b n a1 a2) (hu : 700 ≤ u) {p : Nat} (hp : p ≤ n) : f_X8_isDigitNext u (nI n) (nI p) a1 = some (zB (atD b n (sk b n p)), nI (sk b n p)) := by
  unfold f_X8_isDigitNext bX8_isDigitNext_0
  rw [t_peek T hu hp, z_b]
  unfold pkX atD
  by_cases z : sk b n p < n
  · have q := xb_dig _ (T.2 _ z).1
    simp only [if_pos z]
    by_cases z1 : xb (b (sk b n p)) < 48
    · rw [if_pos z1, decide_eq_false (fun w => absurd z1 (q.mpr w.2).1)]; rfl
    · rw [if_neg z1]
      by_cases z2 : (57 : Int32) < xb (b (sk b n p))
      · rw [if_pos z2, decide_eq_false (fun w => absurd z2 (q.mpr w.2).2)]; rfl
      · rw [if_neg z2, decide_eq_true (show sk b n p < n ∧ 48 ≤ b (sk b n p) ∧ b (sk b n p) ≤ 57 from ⟨z, q.mp ⟨z1, z2⟩⟩)]; rfl
  · simp only [if_neg z]
    rw [if_pos (show (0 : Int32) < 48 by decide), decide_eq_false (fun w => z w.1)]; rfl
theorem t_dig {v : Nat} (hv : v < 256) : f_X11_isDigit u (nI v) = some (zB (decide (48 ≤ v ∧ v ≤ 57))) := by
  unfold f_X11_isDigit bX11_isDigit_0
  by_cases z1 : 48 ≤ v
  · rw [if_neg (show ¬ nI v < (48 : Int32) from nI_nlt (b := 48) z1 (by omega))]
    by_cases z2 : v ≤ 57
    · rw [if_neg (show ¬ (57 : Int32) < nI v from nI_nlt (a := 57) z2 (by omega)), decide_eq_true ⟨z1, z2⟩]; rfl
    · rw [if_pos (show (57 : Int32) < nI v from nI_lt (a := 57) (by omega) (by omega)), decide_eq_false (fun w => z2 w.2)]; rfl
  · rw [if_pos (show nI v < (48 : Int32) from nI_lt (b := 48) (by omega) (by omega)), decide_eq_false (fun w => z1 w.1)]; rfl
theorem t_digM (T : TXT b n a1 a2) (p : Nat) : f_X11_isDigit u (pkM b n p) = some (zB (atD b n p)) := by
  unfold pkM atD
  by_cases z : p < n
  · rw [if_pos z, t_dig (T.2 p z).1]
    by_cases w : 48 ≤ b p ∧ b p ≤ 57
    · rw [decide_eq_true w, decide_eq_true ⟨z, w⟩]
    · rw [decide_eq_false w, decide_eq_false (fun q => w q.2)]
  · rw [if_neg z, decide_eq_false (fun q => z q.1)]; rfl
/-! faults -/
theorem t_fail (k p pl : Int32) : f_X8_fail u (0 : Int32) pl k p = some (k, p) := rfl
theorem t_failF {f : Int32} (hf : ¬ f = 0) (k p pl : Int32) : f_X8_fail u f pl k p = some (f, pl) := if_neg hf
theorem t_wrong (bk k p : Int32) : f_X11_wrong u (-1 : Int32) bk k p = some (p, k) := rfl
theorem t_fine : f_X11_fine u (-1 : Int32) = some (1 : Int32) := rfl
theorem nI_m {p : Nat} (hp : p < 2147483648) : ¬ nI p = (-1 : Int32) := by
  intro w
  have := congrArg Int32.toInt w
  rw [nI_toInt hp] at this
  have e : (-1 : Int32).toInt = -1 := rfl
  omega
theorem t_fineF {p : Nat} (hp : p < 2147483648) : f_X11_fine u (nI p) = some (0 : Int32) := if_neg (nI_m hp)
theorem t_good : f_X8_good u (0 : Int32) = some (1 : Int32) := rfl
theorem t_goodF {f : Int32} (hf : ¬ f = 0) : f_X8_good u f = some (0 : Int32) := if_neg hf
/-! signs -/
theorem t_signX1 (T : TXT b n a1 a2) (hu : 700 ≤ u) {p : Nat} (hp : p ≤ n) {c : Int32} {k : Nat} (hc : c = nI k) (h0 : 0 < k) (hk : k < 128) (f pl : Int32) (h : atC b n (sk b n p) k = true) : f_X8_sign u (nI n) (nI p) f pl a1 c = some (nI (sk b n p + 1), f, pl) := by
  have hn := T.1
  have z : sk b n p < n := by unfold atC at h; exact (of_decide_eq_true h).1
  unfold f_X8_sign bX8_sign_0
  rw [t_peek T hu hp, z_b, hc]
  refine (if_pos (show pkX b n (sk b n p) = nI k by rw [pkX_c T _ h0 hk]; exact h)).trans ?_
  refine (if_neg (nI_ge z (by omega))).trans ?_
  rw [show nI (sk b n p) + (1 : Int32) = nI (sk b n p + 1) from nI_1 _]
theorem t_signX0 (T : TXT b n a1 a2) (hu : 700 ≤ u) {p : Nat} (hp : p ≤ n) {c : Int32} {k : Nat} (hc : c = nI k) (h0 : 0 < k) (hk : k < 128) (f pl : Int32) (h : atC b n (sk b n p) k = false) : f_X8_sign u (nI n) (nI p) f pl a1 c = k_b (f_X8_fail u f pl (1 : Int32) (nI (sk b n p))) (fun r => some (nI (sk b n p), r.1, r.2)) := by
  unfold f_X8_sign bX8_sign_0
  rw [t_peek T hu hp, z_b, hc]
  exact if_neg (show ¬ pkX b n (sk b n p) = nI k by rw [pkX_c T _ h0 hk, h]; decide)
theorem t_signF (T : TXT b n a1 a2) (hu : 700 ≤ u) {p : Nat} (hp : p ≤ n) {c : Int32} {k : Nat} (hc : c = nI k) (h0 : 0 < k) (hk : k < 128) {f pl : Int32} (hf : ¬ f = 0) : ∃ q, q ≤ n ∧ f_X8_sign u (nI n) (nI p) f pl a1 c = some (nI q, f, pl) := by
  cases h : atC b n (sk b n p) k with
  | true =>
    have z : sk b n p < n := by unfold atC at h; exact (of_decide_eq_true h).1
    exact ⟨_, z, t_signX1 T hu hp hc h0 hk f pl h⟩
  | false => exact ⟨_, sk_le b hp, by rw [t_signX0 T hu hp hc h0 hk f pl h, t_failF hf, z_b]⟩
theorem t_signM1 (T : TXT b n a1 a2) (hu : 700 ≤ u) {p : Nat} (hp : p ≤ n) {c : Int32} {k : Nat} (hc : c = nI k) (h0 : 0 < k) (hk : k < 128) (bk : Int32) (h : atC b n (sk b n p) k = true) : f_X11_sign u (nI n) (nI p) (-1 : Int32) bk a2 c = some (nI (sk b n p + 1), (-1 : Int32), bk) := by
  unfold f_X11_sign bX11_sign_0
  rw [t_fine, z_b, if_neg d_10, t_here T hu hp, z_b, hc]
  refine (if_pos (show pkM b n (sk b n p) = nI k by rw [pkM_c T _ h0 hk]; exact h)).trans ?_
  unfold bX11_sign_24
  rw [t_fine, z_b, if_neg d_10, show nI (sk b n p) + (1 : Int32) = nI (sk b n p + 1) from nI_1 _]
theorem t_signM0 (T : TXT b n a1 a2) (hu : 700 ≤ u) {p : Nat} (hp : p ≤ n) {c : Int32} {k : Nat} (hc : c = nI k) (h0 : 0 < k) (hk : k < 128) (bk : Int32) (h : atC b n (sk b n p) k = false) : f_X11_sign u (nI n) (nI p) (-1 : Int32) bk a2 c = some (nI (sk b n p), nI (sk b n p), (1 : Int32)) := by
  have hn := T.1
  have hs := sk_le b hp
  unfold f_X11_sign bX11_sign_0
  rw [t_fine, z_b, if_neg d_10, t_here T hu hp, z_b, hc]
  refine (if_neg (show ¬ pkM b n (sk b n p) = nI k by rw [pkM_c T _ h0 hk, h]; decide)).trans ?_
  rw [t_wrong, z_b]
  unfold bX11_sign_24
  rw [t_fineF (by omega), z_b, if_pos rfl]
theorem t_signMF {p : Nat} (hp : p < 2147483648) (c at' bk n' : Int32) (a2 : Nat → Int32) : f_X11_sign u n' at' (nI p) bk a2 c = some (at', nI p, bk) := by
  unfold f_X11_sign bX11_sign_0
  rw [t_fineF hp, z_b, if_pos rfl]
  unfold bX11_sign_24
  rw [t_fineF hp, z_b, if_pos rfl]
/-! numbers -/
/-- both sides' digits: class, reference, and where they end -/
def ndR (b : Nat → Nat) : Nat → Nat → Nat → Nat → Nat × Nat × Nat
  | 0, p, v, w => (v, w, p)
  | r + 1, p, v, w => if 48 ≤ b p ∧ b p ≤ 57 then ndR b r (p + 1) (if 10000 ≤ v then v else v * 10 + b p - 48) (if w ≤ 9999 then 10 * w + b p - 48 else 10000) else (v, w, p)
theorem ndR_b (b : Nat → Nat) : ∀ r p v w, ((v = w ∧ v ≤ 9999) ∨ (10000 ≤ v ∧ v < 200000 ∧ 10000 ≤ w ∧ w < 200000)) → p ≤ (ndR b r p v w).2.2 ∧ (ndR b r p v w).2.2 ≤ p + r ∧ (((ndR b r p v w).1 = (ndR b r p v w).2.1 ∧ (ndR b r p v w).1 ≤ 9999) ∨ (10000 ≤ (ndR b r p v w).1 ∧ (ndR b r p v w).1 < 200000 ∧ 10000 ≤ (ndR b r p v w).2.1 ∧ (ndR b r p v w).2.1 < 200000))
  | 0, p, v, w, h => ⟨Nat.le_refl _, Nat.le_refl _, h⟩
  | r + 1, p, v, w, h => by
    unfold ndR
    by_cases z : 48 ≤ b p ∧ b p ≤ 57
    · rw [if_pos z]
      have := ndR_b b r (p + 1) (if 10000 ≤ v then v else v * 10 + b p - 48) (if w ≤ 9999 then 10 * w + b p - 48 else 10000) (by
        rcases h with ⟨h1, h2⟩ | ⟨h1, h2, h3, h4⟩
        · rw [if_neg (by omega), if_pos (by omega)]
          by_cases y : v * 10 + b p - 48 ≤ 9999
          · left; exact ⟨by omega, y⟩
          · right; exact ⟨by omega, by omega, by omega, by omega⟩
        · rw [if_pos h1, if_neg (by omega)]
          right; exact ⟨h1, h2, by omega, by omega⟩)
      exact ⟨by omega, by omega, this.2.2⟩
    · rw [if_neg z]
      exact ⟨Nat.le_refl _, Nat.le_add_right _ _, h⟩
theorem t_ndX (T : TXT b n a1 a2) (hu : 700 ≤ u) (st f pl v1 v2 : Int32) : ∀ r p k v w, p + r = n → r < k → ((v = w ∧ v ≤ 9999) ∨ (10000 ≤ v ∧ v < 200000 ∧ 10000 ≤ w ∧ w < 200000)) → bX8_number_15 u (nI n) a1 k (nI p) st f pl v1 v2 (nI v) = bX8_number_96 u (nI n) a1 (nI (ndR b r p v w).2.2) st f pl v1 v2 (nI (ndR b r p v w).1) := by
  have hn := T.1
  intro r
  induction r with
  | zero =>
    intro p k v w hp hk hv
    obtain ⟨k, rfl⟩ := z_suc hk
    rw [bX8_number_15, if_pos (nI_le (by omega) (by omega))]
    rfl
  | succ r ih =>
    intro p k v w hp hk hv
    obtain ⟨k, rfl⟩ := z_suc hk
    obtain ⟨t1, t2, -⟩ := T.2 p (by omega)
    have q := xb_dig _ t1
    rw [bX8_number_15, if_neg (nI_ge (by omega) (by omega)), z_ki (by omega) (by omega), z_cl (by omega), t2, z_ki (by omega) (by omega), z_ki (by omega) (by omega)]
    unfold ndR bX8_number_82
    rw [show nI p + (1 : Int32) = nI (p + 1) from nI_1 p]
    by_cases z : 48 ≤ b p ∧ b p ≤ 57
    · obtain ⟨q1, q2⟩ := q.mpr z
      rw [if_neg q1, if_neg q2, if_pos z, xb_nI _ (by omega)]
      have nx := ih (p + 1) k (if 10000 ≤ v then v else v * 10 + b p - 48) (if w ≤ 9999 then 10 * w + b p - 48 else 10000) (by omega) (by omega) (by
        rcases hv with ⟨h1, h2⟩ | ⟨h1, h2, h3, h4⟩
        · rw [if_neg (by omega), if_pos (by omega)]
          by_cases y : v * 10 + b p - 48 ≤ 9999
          · left; exact ⟨by omega, y⟩
          · right; exact ⟨by omega, by omega, by omega, by omega⟩
        · rw [if_pos h1, if_neg (by omega)]
          right; exact ⟨h1, h2, by omega, by omega⟩)
      rw [← nx]
      by_cases y : 10000 ≤ v
      · rw [if_pos (show (10000 : Int32) ≤ nI v from nI_le (a := 10000) y (by omega)), if_pos y]
      · rw [if_neg (show ¬ (10000 : Int32) ≤ nI v from nI_ge (b := 10000) (by omega) (by omega)), if_neg y]
        have e : nI v * (10 : Int32) + nI (b p) - (48 : Int32) = nI (v * 10 + b p - 48) := by
          rw [show nI v * (10 : Int32) = nI (v * 10) from (Int32.ofNat_mul v 10).symm, nI_add]
          exact z_sub (b := 48) (by omega)
        rw [e]
    · rw [if_neg z]
      by_cases q1 : xb (b p) < 48
      · rw [if_pos q1]
      · rw [if_neg q1]
        by_cases q2 : (57 : Int32) < xb (b p)
        · rw [if_pos q2]
        · exact absurd (q.mp ⟨q1, q2⟩) z
theorem t_ndM (T : TXT b n a1 a2) (hu : 700 ≤ u) (f bk v1 v2 : Int32) (s : Int32) : ∀ r p k v w, p + r = n → r < k → ((v = w ∧ v ≤ 9999) ∨ (10000 ≤ v ∧ v < 200000 ∧ 10000 ≤ w ∧ w < 200000)) → bX11_readNumber_41 u (nI n) a2 k (nI p) f bk v1 v2 s (nI w) = bX11_readNumber_114 u (nI n) a2 (nI (ndR b r p v w).2.2) f bk v1 v2 s (nI (ndR b r p v w).2.1) := by
  have hn := T.1
  intro r
  induction r with
  | zero =>
    intro p k v w hp hk hv
    obtain ⟨k, rfl⟩ := z_suc hk
    rw [bX11_readNumber_41, if_pos (nI_le (by omega) (by omega))]
    rfl
  | succ r ih =>
    intro p k v w hp hk hv
    obtain ⟨k, rfl⟩ := z_suc hk
    obtain ⟨t1, -, t2⟩ := T.2 p (by omega)
    rw [bX11_readNumber_41, if_neg (nI_ge (by omega) (by omega)), z_ki (by omega) (by omega), z_cl (by omega), t2, t_dig t1, z_b, z_ki (by omega) (by omega)]
    unfold ndR bX11_readNumber_99
    rw [show nI p + (1 : Int32) = nI (p + 1) from nI_1 p]
    by_cases z : 48 ≤ b p ∧ b p ≤ 57
    · rw [decide_eq_true z, if_neg (show ¬ zB true = (0 : Int32) from d_10), if_pos z]
      have nx := ih (p + 1) k (if 10000 ≤ v then v else v * 10 + b p - 48) (if w ≤ 9999 then 10 * w + b p - 48 else 10000) (by omega) (by omega) (by
        rcases hv with ⟨h1, h2⟩ | ⟨h1, h2, h3, h4⟩
        · rw [if_neg (by omega), if_pos (by omega)]
          by_cases y : v * 10 + b p - 48 ≤ 9999
          · left; exact ⟨by omega, y⟩
          · right; exact ⟨by omega, by omega, by omega, by omega⟩
        · rw [if_pos h1, if_neg (by omega)]
          right; exact ⟨h1, h2, by omega, by omega⟩)
      rw [← nx]
      by_cases y : w ≤ 9999
      · rw [if_pos (show nI w ≤ (9999 : Int32) from nI_le (b := 9999) y (by omega)), if_pos y]
        have e : (10 : Int32) * nI w + nI (b p) - (48 : Int32) = nI (10 * w + b p - 48) := by
          rw [show (10 : Int32) * nI w = nI (10 * w) from (Int32.ofNat_mul 10 w).symm, nI_add]
          exact z_sub (b := 48) (by omega)
        rw [e]
      · rw [if_neg (show ¬ nI w ≤ (9999 : Int32) from nI_ge (a := 9999) (by omega) (by omega)), if_neg y]
        rfl
    · rw [decide_eq_false z, if_pos (show zB false = (0 : Int32) from rfl), if_neg z]
/-- a number, in a good state -/
theorem t_num (T : TXT b n a1 a2) (hu : 700 ≤ u) {p : Nat} (hp : p ≤ n) {lo hi : Nat} (hh : hi ≤ 9999) (hl : lo ≤ 9999) (st pl bk : Int32) :
    (∃ w q, lo ≤ w ∧ w ≤ hi ∧ sk b n p < q ∧ q ≤ n ∧ f_X8_number u (nI n) (nI p) st (0 : Int32) pl a1 (nI lo) (nI hi) = some (nI w, nI q, nI (sk b n p), (0 : Int32), pl) ∧ f_X11_readNumber u (nI n) (nI p) (-1 : Int32) bk a2 (nI lo) (nI hi) = some (nI w, nI q, (-1 : Int32), bk)) ∨
    (∃ k f q, (k = 1 ∨ k = 2) ∧ f ≤ n ∧ q ≤ n ∧ f_X8_number u (nI n) (nI p) st (0 : Int32) pl a1 (nI lo) (nI hi) = some (nI lo, nI q, nI (sk b n p), nI k, nI f) ∧ ∃ q', f_X11_readNumber u (nI n) (nI p) (-1 : Int32) bk a2 (nI lo) (nI hi) = some ((0 : Int32), q', nI f, nI k)) := by
  have hn := T.1
  have hs := sk_le b hp
  have h0 : ((0 = 0 ∧ 0 ≤ 9999) ∨ (10000 ≤ 0 ∧ 0 < 200000 ∧ 10000 ≤ 0 ∧ 0 < 200000)) := Or.inl ⟨rfl, by omega⟩
  obtain ⟨b1, b2, b3⟩ := ndR_b b (n - sk b n p) (sk b n p) 0 0 h0
  have eX := t_ndX T hu (nI (sk b n p)) (0 : Int32) pl (nI lo) (nI hi) (n - sk b n p) (sk b n p) u 0 0 (by omega) (by omega) h0
  have eM := t_ndM T hu (-1 : Int32) bk (nI lo) (nI hi) (nI (sk b n p)) (n - sk b n p) (sk b n p) u 0 0 (by omega) (by omega) h0
  unfold f_X8_number bX8_number_0 f_X11_readNumber bX11_readNumber_0
  rw [t_peek T hu hp, z_b, t_fine, z_b, if_neg d_10, t_here T hu hp, z_b, t_digM T, z_b, show bX8_number_15 u (nI n) a1 u (nI (sk b n p)) (nI (sk b n p)) (0 : Int32) pl (nI lo) (nI hi) (0 : Int32) = _ from eX, show bX11_readNumber_41 u (nI n) a2 u (nI (sk b n p)) (-1 : Int32) bk (nI lo) (nI hi) (nI (sk b n p)) (0 : Int32) = _ from eM]
  unfold bX8_number_96 bX8_number_129 bX8_number_138 bX11_readNumber_114 bX11_readNumber_126
  cases hd : atD b n (sk b n p) with
  | false =>
    have hq : (ndR b (n - sk b n p) (sk b n p) 0 0).2.2 = sk b n p := by
      by_cases z : sk b n p < n
      · obtain ⟨k, hk⟩ : ∃ k, n - sk b n p = k + 1 := ⟨n - sk b n p - 1, by omega⟩
        rw [hk]
        unfold ndR
        rw [if_neg (fun w => by unfold atD at hd; exact absurd ⟨z, w⟩ (of_decide_eq_false hd))]
      · rw [show n - sk b n p = 0 by omega]
        rfl
    rw [if_pos (show zB false = (0 : Int32) from rfl), hq, if_pos rfl, t_fail, z_b, if_neg (show ¬ (1 : Int32) = 0 by decide), t_wrong, z_b]
    exact Or.inr ⟨1, sk b n p, sk b n p, Or.inl rfl, hs, hs, rfl, nI (sk b n p), rfl⟩
  | true =>
    obtain ⟨d1, d2⟩ := of_decide_eq_true hd
    have hq : sk b n p < (ndR b (n - sk b n p) (sk b n p) 0 0).2.2 := by
      obtain ⟨k, hk⟩ : ∃ k, n - sk b n p = k + 1 := ⟨n - sk b n p - 1, by omega⟩
      rw [hk]
      unfold ndR
      rw [if_pos d2]
      have := (ndR_b b k (sk b n p + 1) (if 10000 ≤ 0 then 0 else 0 * 10 + b (sk b n p) - 48) (if 0 ≤ 9999 then 10 * 0 + b (sk b n p) - 48 else 10000) (by
        rw [if_neg (by omega), if_pos (by omega)]
        left; exact ⟨by omega, by omega⟩)).1
      omega
    rw [if_neg (show ¬ zB true = (0 : Int32) from d_10), if_neg (show ¬ nI (ndR b (n - sk b n p) (sk b n p) 0 0).2.2 = nI (sk b n p) from fun w => by have := (nI_eq (by omega) (by omega)).mp w; omega)]
    have qn : (ndR b (n - sk b n p) (sk b n p) 0 0).2.2 ≤ n := by omega
    by_cases z1 : (ndR b (n - sk b n p) (sk b n p) 0 0).1 < lo
    · have z1' : (ndR b (n - sk b n p) (sk b n p) 0 0).2.1 < lo := by omega
      rw [if_pos (nI_lt z1 (by omega)), if_pos (nI_lt z1' (by omega)), t_fail, z_b, if_neg (show ¬ (2 : Int32) = 0 by decide), t_wrong, z_b]
      exact Or.inr ⟨2, sk b n p, _, Or.inr rfl, hs, qn, rfl, _, rfl⟩
    · have z1' : ¬ (ndR b (n - sk b n p) (sk b n p) 0 0).2.1 < lo := by omega
      rw [if_neg (nI_nlt (by omega) (by omega)), if_neg (nI_nlt (by omega) (by omega))]
      by_cases z2 : (ndR b (n - sk b n p) (sk b n p) 0 0).1 ≤ hi
      · have e : (ndR b (n - sk b n p) (sk b n p) 0 0).1 = (ndR b (n - sk b n p) (sk b n p) 0 0).2.1 := by omega
        rw [if_pos (nI_le z2 (by omega)), if_pos (nI_le (by omega) (by omega)), if_pos rfl, ← e]
        exact Or.inl ⟨_, _, by omega, z2, hq, qn, rfl, rfl⟩
      · rw [if_neg (nI_ge (by omega) (by omega)), if_neg (nI_ge (by omega) (by omega)), t_fail, z_b, if_neg (show ¬ (2 : Int32) = 0 by decide), t_wrong, z_b]
        exact Or.inr ⟨2, sk b n p, _, Or.inr rfl, hs, qn, rfl, _, rfl⟩
/-- a number behind a fault: the class alone -/
theorem t_numF (T : TXT b n a1 a2) (hu : 700 ≤ u) {p : Nat} (hp : p ≤ n) {f : Int32} (hf : ¬ f = 0) (st pl lo hi : Int32) : ∃ q, q ≤ n ∧ f_X8_number u (nI n) (nI p) st f pl a1 lo hi = some (lo, nI q, nI (sk b n p), f, pl) := by
  have hn := T.1
  have hs := sk_le b hp
  have h0 : ((0 = 0 ∧ 0 ≤ 9999) ∨ (10000 ≤ 0 ∧ 0 < 200000 ∧ 10000 ≤ 0 ∧ 0 < 200000)) := Or.inl ⟨rfl, by omega⟩
  obtain ⟨b1, b2, b3⟩ := ndR_b b (n - sk b n p) (sk b n p) 0 0 h0
  have eX := t_ndX T hu (nI (sk b n p)) f pl lo hi (n - sk b n p) (sk b n p) u 0 0 (by omega) (by omega) h0
  refine ⟨(ndR b (n - sk b n p) (sk b n p) 0 0).2.2, by omega, ?_⟩
  unfold f_X8_number bX8_number_0
  rw [t_peek T hu hp, z_b, show bX8_number_15 u (nI n) a1 u (nI (sk b n p)) (nI (sk b n p)) f pl lo hi (0 : Int32) = _ from eX]
  unfold bX8_number_96 bX8_number_129 bX8_number_138
  rw [t_failF hf, z_b, t_failF hf, z_b, if_neg hf]
  split
  · rfl
  · split
    · rfl
    · split <;> rfl
theorem t_numMF {p : Nat} (hp : p < 2147483648) (at' bk lo hi n' : Int32) (a2 : Nat → Int32) : f_X11_readNumber u n' at' (nI p) bk a2 lo hi = some ((0 : Int32), at', nI p, bk) := by
  unfold f_X11_readNumber bX11_readNumber_0
  rw [t_fineF hp, z_b, if_pos rfl]
/-! more -/
theorem t_moreX (T : TXT b n a1 a2) (hu : 700 ≤ u) {p : Nat} (hp : p ≤ n) : f_X8_more u (nI n) (nI p) (0 : Int32) a1 = some (zB (decide (sk b n p < n)), nI (sk b n p)) := by
  have hn := T.1
  have hsl := sk_le b hp
  unfold f_X8_more bX8_more_0
  rw [t_peek T hu hp, z_b, if_pos rfl]
  by_cases z : sk b n p < n
  · rw [if_neg (nI_ge z (by omega)), decide_eq_true z]; rfl
  · rw [if_pos (nI_le (by omega) (by omega)), decide_eq_false z]; rfl
theorem t_moreF (T : TXT b n a1 a2) (hu : 700 ≤ u) {p : Nat} (hp : p ≤ n) {f : Int32} (hf : ¬ f = 0) : f_X8_more u (nI n) (nI p) f a1 = some ((0 : Int32), nI (sk b n p)) := by
  unfold f_X8_more bX8_more_0
  rw [t_peek T hu hp, z_b, if_neg hf]
theorem t_moreM (T : TXT b n a1 a2) (hu : 700 ≤ u) {p : Nat} (hp : p ≤ n) : f_X11_isMore u (nI n) (nI p) a2 = some (zB (decide (sk b n p < n)), nI (sk b n p)) := by
  have hn := T.1
  have hsl := sk_le b hp
  unfold f_X11_isMore bX11_isMore_0
  rw [t_here T hu hp, z_b]
  by_cases z : sk b n p < n
  · rw [if_neg (nI_ge z (by omega)), decide_eq_true z]; rfl
  · rw [if_pos (nI_le (by omega) (by omega)), decide_eq_false z]; rfl
end TAP
