/-! QUERIES: orders to fill -/
section NQ9
variable {u : Nat} {S : aT} {h : k_H}
def wth (p : aP) (i : Nat) : Nat := nsm (fun j => pP p (pN p i j)) (pZ p i)
/-- whether the orders of a set, below n, are open -/
def okO (m : aM) (s : Nat) : Nat → Bool
  | 0 => true
  | n + 1 => okO m s n && (!bt (nI s) n || decide (aFa m n = 0))
def peO (p : aP) (s : Nat) (n : Nat) : Nat := nsm (fun i => if bt (nI s) i = true then wth p i else 0) n
def wnO (p : aP) (s k : Nat) (n : Nat) : Nat := nsm (fun i => if bt (nI s) i = true then cnN (pN p) i k (pZ p i) else 0) n
theorem okO_no {m : aM} {s n : Nat} (h : okO m s n = false) : ∀ r, okO m s (n + r) = false
  | 0 => h
  | r + 1 => by
    show (okO m s (n + r) && _) = false
    rw [okO_no h r, Bool.false_and]
theorem wth_le {p : aP} (P : pOK p) {i : Nat} (hi : i < pO p) : wth p i ≤ 792 := by
  have K := P.2.2.2.2.1
  have h8 := (K.2.1 i hi).2.2.2
  have : wth p i ≤ pZ p i * 99 := nsm_le (fun j hj => P.2.2.2.2.2.2 _ (by have := (K.2.2 i j hi hj).2; omega))
  omega
theorem peO_le {p : aP} (P : pOK p) (s : Nat) {n : Nat} (hn : n ≤ pO p) : peO p s n ≤ n * 792 :=
  nsm_le (fun i hi => by
    show (if bt (nI s) i = true then wth p i else 0) ≤ 792
    split
    · exact wth_le P (by omega)
    · omega)
theorem cnN_8 {p : aP} (P : pOK p) {i : Nat} (hi : i < pO p) (k : Nat) : cnN (pN p) i k (pZ p i) ≤ 8 := by
  have := cnN_le (pN p) i k (pZ p i)
  have := (P.2.2.2.2.1.2.1 i hi).2.2.2
  omega
theorem wnO_le {p : aP} (P : pOK p) (s k : Nat) {n : Nat} (hn : n ≤ pO p) : wnO p s k n ≤ n * 8 :=
  nsm_le (fun i hi => by
    show (if bt (nI s) i = true then cnN (pN p) i k (pZ p i) else 0) ≤ 8
    split
    · exact cnN_8 P (by omega) k
    · omega)
theorem lck_of {wt bl : Nat → Nat} (h : ∀ k, k < 5 → wt k ≤ bl k) : lck wt bl = 0 := by
  have : lck wt bl ≤ 5 * 0 := nsm_le (fun k hk => by have := h k hk; show wt k - bl k ≤ 0; omega)
  omega
/-- whether a set can be filled -/
def flO (p : aP) (m : aM) (s : Nat) : Bool := okO m s (pO p) && decide (lck (fun k => wnO p s k (pO p)) (aB m) = 0)
/-- the best of the sets from 1 to n -/
def flB (p : aP) (m : aM) : Nat → Nat × Nat
  | 0 => (0, 0)
  | n + 1 => if flO p m (n + 1) = true ∧ (flB p m n).2 < peO p (n + 1) (pO p) then (n + 1, peO p (n + 1) (pO p)) else flB p m n
theorem flB_le {p : aP} {m : aM} (P : pOK p) : ∀ n, (flB p m n).1 ≤ n ∧ (flB p m n).2 ≤ 4752
  | 0 => ⟨Nat.le_refl _, Nat.zero_le _⟩
  | n + 1 => by
    have h1 := flB_le (m := m) P n
    have h2 := peO_le P (n + 1) (Nat.le_refl (pO p))
    have h3 := P.2.2.2.2.1.1
    have st : flB p m (n + 1) = if flO p m (n + 1) = true ∧ (flB p m n).2 < peO p (n + 1) (pO p) then (n + 1, peO p (n + 1) (pO p)) else flB p m n := rfl
    rw [st]
    split
    · exact ⟨Nat.le_refl _, by show peO p (n + 1) (pO p) ≤ 4752; omega⟩
    · exact ⟨by omega, h1.2⟩
theorem sh_pw : ∀ O, O ≤ 6 → (1 : Int32) <<< (nI O &&& 31) = nI (2 ^ O) := by decide +kernel
theorem x_pence {p : aP} {m : aM} (P : pOK p) (I : mOK p m) {a6 a8 a9 a27 a30 : Nat → Int32} {a7 : Nat → Int32} (X : ordX (pO p) (pT p) (pZ p) (pN p) a7 a8 a9) (hP : ∀ k, k < 5 → a6 k = nI (pP p k)) (hb : ∀ k, k < 5 → a27 k = nI (aB m k)) (hf : ∀ i, i < 6 → a30 i = aFa m i) (hu : 20 ≤ u) (s : Nat) :
    f_X7_penceOfOrders u (nI (pO p)) a6 a8 a9 a27 a30 (nI s) = some (if flO p m s then nI (peO p s (pO p)) else -1) := by
  have K := P.2.2.2.2.1
  have hO := K.1
  have kinds : ∀ (ks : Int32 → Int32 → Int32 → Option Int32) (v3 : Int32) (kd : Nat), 1 ≤ kd → kd ≤ 4 → ∀ r k n, k + r = pO p → r < n → bX7_penceOfOrders_71 u (nI (pO p)) a6 a8 a9 a27 a30 ks n (nI s) v3 (nI kd) (nI (wnO p s kd k)) (nI k) = (if wnO p s kd (pO p) ≤ aB m kd then ks (nI s) v3 (nI (kd + 1)) else some (-1)) := by
    intro ks v3 kd h1 h4 r
    have ek : nI kd + (1 : Int32) = nI (kd + 1) := nI_1 kd
    induction r with
    | zero =>
      intro k n hk hn
      obtain ⟨n, rfl⟩ := z_suc hn
      obtain rfl : k = pO p := by omega
      have hw := wnO_le P s kd (Nat.le_refl (pO p))
      have hB := mOK_B P I (k := kd) (by omega)
      rw [bX7_penceOfOrders_71]
      refine (if_pos (nI_le (Nat.le_refl _) (by omega))).trans ?_
      rw [z_ki (by omega) (by omega), z_cl (by omega), hb kd (by omega), ek]
      by_cases z : wnO p s kd (pO p) ≤ aB m kd
      · rw [if_pos (nI_le z (by omega)), if_pos z]
      · rw [if_neg (nI_ge (by omega) (by omega)), if_neg z]
    | succ r ih =>
      intro k n hk hn
      obtain ⟨n, rfl⟩ := z_suc hn
      have e1 : nI k + (1 : Int32) = nI (k + 1) := nI_1 k
      have nx := ih (k + 1) n (by omega) (by omega)
      have st : wnO p s kd (k + 1) = wnO p s kd k + (if bt (nI s) k = true then cnN (pN p) k kd (pZ p k) else 0) := rfl
      rw [st] at nx
      rw [bX7_penceOfOrders_71]
      refine (if_neg (nI_ge (a := k) (b := pO p) (by omega) (by omega))).trans ?_
      unfold bX7_penceOfOrders_109
      rw [e1, b_tu (by omega)]
      cases hbt : bt (nI s) k with
      | false =>
        rw [hbt, if_neg (by decide)] at nx
        rw [if_pos (show (if false = true then (1 : Int32) else 0) = 0 by decide), show nI (wnO p s kd k) + (0 : Int32) = nI (wnO p s kd k + 0) from nI_add _ 0]
        exact nx
      | true =>
        rw [hbt, if_pos rfl] at nx
        rw [if_neg (show ¬ (if true = true then (1 : Int32) else 0) = 0 by decide), x_wanted K X hu (show k < pO p by omega) (show kd < 6 by omega), z_b, nI_add]
        exact nx
  have two : ∀ (v3 : Int32) (r k n : Nat), k + r = 5 → 1 ≤ k → r < n → (∀ j, 1 ≤ j → j < k → wnO p s j (pO p) ≤ aB m j) → bX7_penceOfOrders_59 u (nI (pO p)) a6 a8 a9 a27 a30 n (nI s) v3 (nI k) = some (if lck (fun k => wnO p s k (pO p)) (aB m) = 0 then v3 else -1) := by
    intro v3 r
    induction r with
    | zero =>
      intro k n hk h1 hn hI
      obtain ⟨n, rfl⟩ := z_suc hn
      obtain rfl : k = 5 := by omega
      rw [bX7_penceOfOrders_59]
      refine (if_pos (show (4 : Int32) < nI 5 by decide)).trans ?_
      rw [if_pos (lck_of (fun j hj => ?_))]
      by_cases z : j = 0
      · rw [z]
        have : wnO p s 0 (pO p) ≤ pO p * 0 := nsm_le (fun i hi => by
          show (if bt (nI s) i = true then cnN (pN p) i 0 (pZ p i) else 0) ≤ 0
          rw [cnN_0 K hi (pZ p i) (Nat.le_refl _)]
          split <;> omega)
        show wnO p s 0 (pO p) ≤ aB m 0
        omega
      · exact hI j (by omega) hj
    | succ r ih =>
      intro k n hk h1 hn hI
      obtain ⟨n, rfl⟩ := z_suc hn
      rw [bX7_penceOfOrders_59]
      refine (if_neg (show ¬ (4 : Int32) < nI k from nI_nlt (a := 4) (b := k) (by omega) (by omega))).trans ?_
      have e := kinds (bX7_penceOfOrders_59 u (nI (pO p)) a6 a8 a9 a27 a30 n) v3 k h1 (by omega) (pO p) 0 u (by omega) (by omega)
      refine Eq.trans e ?_
      by_cases z : wnO p s k (pO p) ≤ aB m k
      · rw [if_pos z]
        refine ih (k + 1) n (by omega) (by omega) (by omega) (fun j hj hj2 => ?_)
        by_cases y : j = k
        · rw [y]; exact z
        · exact hI j hj (by omega)
      · rw [if_neg z, if_neg (fun w => z (lck_0 (wt := fun k => wnO p s k (pO p)) w (show k < 5 by omega)))]
  have one : ∀ r k n, k + r = pO p → r < n → okO m s k = true → bX7_penceOfOrders_5 u (nI (pO p)) a6 a8 a9 a27 a30 n (nI s) (nI (peO p s k)) (nI k) = some (if flO p m s then nI (peO p s (pO p)) else -1) := by
    intro r
    induction r with
    | zero =>
      intro k n hk hn hI
      obtain ⟨n, rfl⟩ := z_suc hn
      obtain rfl : k = pO p := by omega
      rw [bX7_penceOfOrders_5]
      refine (if_pos (nI_le (Nat.le_refl _) (by omega))).trans ?_
      have := two (nI (peO p s (pO p))) 4 1 u (by omega) (by omega) (by omega) (fun j h1 h2 => by omega)
      refine Eq.trans this ?_
      unfold flO
      rw [hI, Bool.true_and]
      by_cases z : lck (fun k => wnO p s k (pO p)) (aB m) = 0
      · rw [if_pos z, if_pos (decide_eq_true z)]
      · rw [if_neg z, if_neg (by rw [decide_eq_false z]; decide)]
    | succ r ih =>
      intro k n hk hn hI
      obtain ⟨n, rfl⟩ := z_suc hn
      have e1 : nI k + (1 : Int32) = nI (k + 1) := nI_1 k
      have st : okO m s (k + 1) = (okO m s k && (!bt (nI s) k || decide (aFa m k = 0))) := rfl
      have st2 : peO p s (k + 1) = peO p s k + (if bt (nI s) k = true then wth p k else 0) := rfl
      rw [bX7_penceOfOrders_5]
      refine (if_neg (nI_ge (a := k) (b := pO p) (by omega) (by omega))).trans ?_
      unfold bX7_penceOfOrders_50
      rw [e1, b_tu (by omega)]
      cases hbt : bt (nI s) k with
      | false =>
        rw [hbt, if_neg (by decide)] at st2
        rw [hbt, hI] at st
        rw [if_pos (show (if false = true then (1 : Int32) else 0) = 0 by decide)]
        have := ih (k + 1) n (by omega) (by omega) st
        rw [st2] at this
        exact this
      | true =>
        rw [hbt, if_pos rfl] at st2
        rw [hbt, hI] at st
        rw [if_neg (show ¬ (if true = true then (1 : Int32) else 0) = 0 by decide), z_ki (by omega) (by omega), z_cl (by omega), hf k (by omega)]
        by_cases z : aFa m k = 0
        · rw [decide_eq_true z] at st
          rw [if_pos z, x_worth K X hP hu (show k < pO p by omega), z_b, nI_add]
          have := ih (k + 1) n (by omega) (by omega) st
          rw [st2] at this
          exact this
        · rw [decide_eq_false z] at st
          rw [if_neg z]
          have hno : okO m s (pO p) = false := by
            have := okO_no (m := m) (s := s) (n := k + 1) st r
            rw [show k + 1 + r = pO p by omega] at this
            exact this
          unfold flO
          rw [hno, Bool.false_and]
          rfl
  exact one (pO p) 0 u (by omega) (by omega) rfl
theorem x_fill {p : aP} {m : aM} (P : pOK p) (I : mOK p m) {a6 a8 a9 a27 a30 : Nat → Int32} {a7 : Nat → Int32} (X : ordX (pO p) (pT p) (pZ p) (pN p) a7 a8 a9) (hP : ∀ k, k < 5 → a6 k = nI (pP p k)) (hb : ∀ k, k < 5 → a27 k = nI (aB m k)) (hf : ∀ i, i < 6 → a30 i = aFa m i) (hu : 100 ≤ u) (w : Int32) :
    f_X7_ordersToFill u (nI (pO p)) a6 a8 a9 a27 a30 w = some (if w = 0 then nI (flB p m (2 ^ pO p - 1)).2 else nI (flB p m (2 ^ pO p - 1)).1) := by
  have hO := P.2.2.2.2.1.1
  have h64 : 1 ≤ 2 ^ pO p ∧ 2 ^ pO p ≤ 64 := ⟨Nat.two_pow_pos _, Nat.pow_le_pow_right (n := 2) (by omega) hO⟩
  have key : ∀ r k n, k + r = 2 ^ pO p - 1 → r < n → bX7_ordersToFill_8 u (nI (pO p)) a6 a8 a9 a27 a30 n w (nI (flB p m k).1) (nI (flB p m k).2) (nI (k + 1)) = some (if w = 0 then nI (flB p m (2 ^ pO p - 1)).2 else nI (flB p m (2 ^ pO p - 1)).1) := by
    intro r
    induction r with
    | zero =>
      intro k n hk hn
      obtain ⟨n, rfl⟩ := z_suc hn
      obtain rfl : k = 2 ^ pO p - 1 := by omega
      rw [bX7_ordersToFill_8, sh_pw _ hO]
      refine (if_pos (nI_le (by omega) (by omega))).trans ?_
      by_cases z : w = 0
      · rw [if_pos z, if_pos z]
      · rw [if_neg z, if_neg z]
    | succ r ih =>
      intro k n hk hn
      obtain ⟨n, rfl⟩ := z_suc hn
      have hl := flB_le (m := m) P k
      have e1 : nI (k + 1) + (1 : Int32) = nI (k + 1 + 1) := nI_1 _
      have hp := peO_le P (k + 1) (Nat.le_refl (pO p))
      have st : flB p m (k + 1) = if flO p m (k + 1) = true ∧ (flB p m k).2 < peO p (k + 1) (pO p) then (k + 1, peO p (k + 1) (pO p)) else flB p m k := rfl
      have nx := ih (k + 1) n (by omega) (by omega)
      rw [bX7_ordersToFill_8, sh_pw _ hO]
      refine (if_neg (nI_ge (a := k + 1) (b := 2 ^ pO p) (by omega) (by omega))).trans ?_
      rw [x_pence P I X hP hb hf (by omega) (k + 1), z_b]
      unfold bX7_ordersToFill_45
      rw [e1]
      rw [st] at nx
      cases hfl : flO p m (k + 1) with
      | false =>
        rw [hfl, if_neg (by rintro ⟨w, -⟩; exact absurd w (by decide))] at nx
        rw [if_neg (show ¬ false = true by decide), if_pos (show (-1 : Int32) ≤ nI (flB p m k).2 by
          rw [Int32.le_iff_toInt_le, nI_toInt (by omega)]
          have : (-1 : Int32).toInt = -1 := rfl
          rw [this]; omega)]
        exact nx
      | true =>
        rw [if_pos rfl]
        by_cases z : (flB p m k).2 < peO p (k + 1) (pO p)
        · rw [if_pos ⟨hfl, z⟩] at nx
          rw [if_neg (nI_ge z (by omega))]
          exact nx
        · rw [if_neg (fun w => z w.2)] at nx
          rw [if_pos (nI_le (by omega) (by omega))]
          exact nx
  exact key (2 ^ pO p - 1) 0 u (by omega) (by omega)
theorem m_fillR {p : aP} {m : aM} (P : pOK p) (I : mOK p m) {a9 a10 a20 g : Nat → Int32} (X : ordM (pO p) (pT p) (pZ p) (pN p) a10) (hP : ∀ k, k < 5 → a9 k = nI (pP p k)) (G : mMine m g) (hu : 100 ≤ u) {s : Nat} (hs : s < 64) {b : Nat} (hb : b ≤ 4752) (k33 : Int32 → (Nat → Int32) → (Nat → Int32) → (Nat → Int32) → Int32 → Int32 → Int32 → Int32 → Option (Int32 × Int32 × (Nat → Int32) × (Nat → Int32) × (Nat → Int32))) (c0 : Int32) (a1 : Nat → Int32) (w v2 : Int32) :
    ∀ r k n a24, k + r = pO p → r < n → (∀ j, j < 5 → a24 j = nI (wnO p s j k)) → ∃ b24, bX11_fill_57 u (nI (pO p)) a9 a10 a20 k33 n c0 a1 g a24 w v2 (nI b) (nI s) (nI (peO p s k)) (zB (okO m s k)) (nI k) = (if flO p m s = true ∧ b < peO p s (pO p) then k33 c0 a1 g b24 w (nI s) (nI (peO p s (pO p))) (nI (s + 1)) else k33 c0 a1 g b24 w v2 (nI b) (nI (s + 1))) := by
  have K := P.2.2.2.2.1
  have hO := K.1
  have es : nI s + (1 : Int32) = nI (s + 1) := nI_1 s
  obtain ⟨A, mb, m69, m70, m71, m74, m72, m73, m75, m76, mso, mgo, mfa⟩ := G
  intro r
  induction r with
  | zero =>
    intro k n a24 hk hn hA
    obtain ⟨n, rfl⟩ := z_suc hn
    obtain rfl : k = pO p := by omega
    refine ⟨a24, ?_⟩
    rw [bX11_fill_57]
    refine (if_pos (nI_le (Nat.le_refl _) (by omega))).trans ?_
    unfold bX11_fill_174
    rw [es]
    have hp := peO_le P s (Nat.le_refl (pO p))
    have hlk : lck (fun k => wnO p s k (pO p)) (aB m) ≤ 5 * 48 := lck_le _ _ (fun j _ => by have := wnO_le P s j (Nat.le_refl (pO p)); omega)
    unfold flO
    cases ho : okO m s (pO p) with
    | false =>
      rw [if_pos (show zB false = (0 : Int32) from rfl), Bool.false_and, if_neg (by rintro ⟨w, -⟩; exact absurd w (by decide))]
    | true =>
      rw [if_neg (show ¬ zB true = (0 : Int32) from d_10), m_lack (by omega) (wt := fun j => wnO p s j (pO p)) (bl := aB m) (fun j hj => by have := wnO_le P s j (Nat.le_refl (pO p)); omega) (fun j hj => Nat.le_trans (mOK_B P I hj) (by omega)) hA (fun j hj => mb j hj), z_b, Bool.true_and]
      by_cases z : lck (fun k => wnO p s k (pO p)) (aB m) = 0
      · rw [if_neg (show ¬ (0 : Int32) < nI (lck (fun k => wnO p s k (pO p)) (aB m)) from nI_nlt (a := 0) (by omega) (by omega)), decide_eq_true z]
        by_cases y : b < peO p s (pO p)
        · rw [if_pos (nI_lt y (by omega)), if_pos ⟨rfl, y⟩]
        · rw [if_neg (nI_nlt (by omega) (by omega)), if_neg (fun w => y w.2)]
      · rw [if_pos (show (0 : Int32) < nI (lck (fun k => wnO p s k (pO p)) (aB m)) from nI_lt (a := 0) (by omega) (by omega)), decide_eq_false z, if_neg (by rintro ⟨w, -⟩; exact absurd w (by decide))]
  | succ r ih =>
    intro k n a24 hk hn hA
    obtain ⟨n, rfl⟩ := z_suc hn
    have hk2 : k < pO p := by omega
    have e1 : nI k + (1 : Int32) = nI (k + 1) := nI_1 k
    have st : okO m s (k + 1) = (okO m s k && (!bt (nI s) k || decide (aFa m k = 0))) := rfl
    have st2 : peO p s (k + 1) = peO p s k + (if bt (nI s) k = true then wth p k else 0) := rfl
    have st3 : ∀ j, wnO p s j (k + 1) = wnO p s j k + (if bt (nI s) k = true then cnN (pN p) k j (pZ p k) else 0) := fun j => rfl
    rw [bX11_fill_57]
    rw [if_neg (nI_ge (a := k) (b := pO p) (by omega) (by omega)), b_ts (by omega)]
    unfold bX11_fill_121 bX11_fill_122 bX11_fill_141
    rw [e1]
    cases hbt : bt (nI s) k with
    | false =>
      rw [if_pos (show (if false = true then (1 : Int32) else 0) = 0 by decide)]
      rw [hbt] at st st2
      rw [if_neg (by decide)] at st2
      have s1 : okO m s (k + 1) = okO m s k := by rw [st]; cases okO m s k <;> rfl
      have := ih (k + 1) n a24 (by omega) (by omega) (fun j hj => by rw [st3 j, hbt, if_neg (by decide)]; exact hA j hj)
      rw [st2, s1] at this
      exact this
    | true =>
      rw [if_neg (show ¬ (if true = true then (1 : Int32) else 0) = 0 by decide)]
      rw [hbt] at st st2
      rw [if_pos rfl] at st2
      obtain ⟨g', a1', a2'⟩ := m_adds (u := u) K X (by omega) hk2 (wt := fun j => wnO p s j k) hA
      have hA' : ∀ j, j < 5 → g' j = nI (wnO p s j (k + 1)) := fun j hj => by rw [st3 j, hbt, if_pos rfl]; exact a2' j hj
      have nx := ih (k + 1) n g' (by omega) (by omega) hA'
      rw [st2] at nx
      have hw : f_X11_worthOf u a9 a10 (nI k) = some (nI (wth p k)) := m_worth K X hP (by omega) hk2
      have no : okO m s (k + 1) = false → ∃ b24, k_b (f_X11_adds u a10 a24 (nI k)) (fun r127 => k_b (f_X11_worthOf u a9 a10 (nI k)) (fun r135 => bX11_fill_57 u (nI (pO p)) a9 a10 a20 k33 n c0 a1 g r127 w v2 (nI b) (nI s) (nI (peO p s k) + r135) (0 : Int32) (nI (k + 1)))) = (if flO p m s = true ∧ b < peO p s (pO p) then k33 c0 a1 g b24 w (nI s) (nI (peO p s (pO p))) (nI (s + 1)) else k33 c0 a1 g b24 w v2 (nI b) (nI (s + 1))) := by
        intro hf
        rw [a1', z_b, hw, z_b, nI_add]
        rw [hf] at nx
        exact nx
      have e10 : (10 : Int32) * nI k = nI (10 * k) := (Int32.ofNat_mul 10 k).symm
      have e63 : (63 : Int32) + nI k = nI (63 + k) := nI_add 63 k
      cases ho : okO m s k with
      | false =>
        rw [if_pos (show zB false = (0 : Int32) from rfl)]
        exact no (by rw [st, ho]; rfl)
      | true =>
        obtain ⟨f, hf1, hf2, hf3⟩ := I.2.2.2.2.2.2 k hk2
        have hT := (K.2.1 k hk2).2.1
        have hSh := I.2.2.1.2
        rw [if_neg (show ¬ zB true = (0 : Int32) from d_10), e10, e63, z_ki (by omega) (by omega), z_cl (by omega), X.1 k hk2, m69]
        by_cases z : pT p k < aSh m
        · rw [if_pos (nI_lt z (by omega))]
          refine no ?_
          have : ¬ aFa m k = 0 := by
            rw [hf2]
            intro w
            exact (hf3.mp z) ((nI_eq (b := 0) (by omega) (by omega)).mp w)
          rw [st, decide_eq_false this, ho]; rfl
        · rw [if_neg (nI_nlt (by omega) (by omega)), z_ki (by omega) (by omega), z_cl (by omega), mfa k (by omega)]
          have hz : aFa m k = 0 := by
            rw [hf2]
            have : f = 0 := by
              by_cases y : f = 0
              · exact y
              · exact absurd (hf3.mpr y) z
            rw [this]; rfl
          rw [if_pos hz, a1', z_b, hw, z_b, nI_add]
          rw [st, ho, decide_eq_true hz] at nx
          exact nx
theorem m_fill {p : aP} {m : aM} (P : pOK p) (I : mOK p m) {a9 a10 a20 g : Nat → Int32} (X : ordM (pO p) (pT p) (pZ p) (pN p) a10) (hP : ∀ k, k < 5 → a9 k = nI (pP p k)) (G : mMine m g) (hu : 100 ≤ u) (c0 : Int32) (a1 : Nat → Int32) (w : Int32) :
    ∀ r k n a24, k + r = 2 ^ pO p - 1 → r < n → ∃ b24, bX11_fill_33 u (nI (pO p)) a9 a10 a20 n c0 a1 g a24 w (nI (flB p m k).1) (nI (flB p m k).2) (nI (k + 1)) = some (if w = 0 then nI (flB p m (2 ^ pO p - 1)).2 else nI (flB p m (2 ^ pO p - 1)).1, c0, a1, g, b24) := by
  have hO := P.2.2.2.2.1.1
  have h64 : 1 ≤ 2 ^ pO p ∧ 2 ^ pO p ≤ 64 := ⟨Nat.two_pow_pos _, Nat.pow_le_pow_right (n := 2) (by omega) hO⟩
  intro r
  induction r with
  | zero =>
    intro k n a24 hk hn
    obtain ⟨n, rfl⟩ := z_suc hn
    obtain rfl : k = 2 ^ pO p - 1 := by omega
    rw [bX11_fill_33, sh_pw _ hO]
    refine ⟨a24, (if_pos (nI_le (by omega) (by omega))).trans ?_⟩
    by_cases z : w = 0
    · rw [if_pos z, if_pos z]
    · rw [if_neg z, if_neg z]
  | succ r ih =>
    intro k n a24 hk hn
    obtain ⟨n, rfl⟩ := z_suc hn
    have hl := flB_le (m := m) P k
    obtain ⟨g', w1, w2⟩ := m_wants (u := u) (by omega) a24
    rw [bX11_fill_33, sh_pw _ hO]
    rw [if_neg (nI_ge (a := k + 1) (b := 2 ^ pO p) (by omega) (by omega)), w1, z_b]
    have st : flB p m (k + 1) = if flO p m (k + 1) = true ∧ (flB p m k).2 < peO p (k + 1) (pO p) then (k + 1, peO p (k + 1) (pO p)) else flB p m k := rfl
    obtain ⟨b24, e⟩ := m_fillR (u := u) (a20 := a20) P I X hP G hu (s := k + 1) (by omega) hl.2 (bX11_fill_33 u (nI (pO p)) a9 a10 a20 n) c0 a1 w (nI (flB p m k).1) (pO p) 0 u g' (by omega) (by omega) w2
    obtain ⟨b, nx⟩ := ih (k + 1) n b24 (by omega) (by omega)
    refine ⟨b, Eq.trans e ?_⟩
    rw [st] at nx
    by_cases z : flO p m (k + 1) = true ∧ (flB p m k).2 < peO p (k + 1) (pO p)
    · rw [if_pos z] at nx ⊢; exact nx
    · rw [if_neg z] at nx ⊢; exact nx
theorem n_20 (hu : 700 ≤ u) (R : Rel S h) (a1 : Int32) : N_20 u h a1 := by
  obtain ⟨-, ⟨P, ⟨xw, xh, xa, xs, xc, xo, xk, xp, xor⟩, ⟨mw, mh, ms, mc, mo, mk, mp, mor⟩⟩, -, ⟨I, X, M⟩, -, -, ⟨r, -, -⟩, -, -⟩ := R
  obtain ⟨Mx, hb, hsh, hdg, hpr, hwe, hpe, hlu, hra, hfe, hso, hgo, hfa⟩ := X
  unfold N_20
  rw [xo, mo]
  unfold f_X10_fill bX10_fill_0 f_X11_fill bX11_fill_0
  rcases d_either (u := u) a1 with ⟨q, e3, e4⟩ | ⟨e3, e4⟩
  · obtain ⟨g, t1, t2⟩ := m_take (u := u) (by omega) M (h.2.1 91)
    obtain ⟨b24, g2⟩ := m_fill (u := u) (a20 := h.2.1 90) P I mor mp t2 (by omega) (0 : Int32) (h.2.1 71) a1 (2 ^ pO (rS_P S) - 1) 0 u (h.2.1 94) (by omega) (by have := Nat.pow_le_pow_right (n := 2) (by omega) P.2.2.2.2.1.1; omega)
    have g1 := fun w => x_fill (u := u) P I xor xp hb hfa (by omega) w
    rw [e3, e4, z_b, z_b, x_need1, m_need1, z_b, z_b, if_pos rfl, if_neg d_10, t1, z_b]
    unfold bX10_fill_26
    rcases q with rfl | rfl
    · rw [if_neg (show ¬ (0 : Int32) = 1 by decide), g1, z_b]
      exact ⟨_, _, rfl, g2, Or.inl ⟨rfl, rfl, rfl⟩, r⟩
    · rw [if_pos rfl, g1, z_b]
      exact ⟨_, _, rfl, g2, Or.inl ⟨rfl, rfl, rfl⟩, r⟩
  · rw [e3, e4, z_b, z_b, x_need0, m_need0, z_b, z_b, if_neg d_30, if_pos rfl]
    exact ⟨_, _, rfl, rfl, Or.inr ⟨rfl, rfl⟩, r_upd r (by omega)⟩
end NQ9
