theorem fl_X4_18 : k_FL RX4 18 4 3 := ⟨_, _, _, rfl, in_X4, by decide, Or.inl (k_me (tm2 (List.mem_of_getElem? (i := 78) rfl)) rfl)⟩
theorem fl_X4_29 : k_FL RX4 29 4 5 := ⟨_, _, _, rfl, in_X4, by decide, Or.inl (k_me (tm2 (List.mem_of_getElem? (i := 80) rfl)) rfl)⟩
theorem fl_X4_15 : k_FL RX4 15 4 2 := ⟨_, _, _, rfl, in_X4, by decide, Or.inl (k_me (tm2 (List.mem_of_getElem? (i := 77) rfl)) rfl)⟩
theorem fl_X4_21 : k_FL RX4 21 4 4 := ⟨_, _, _, rfl, in_X4, by decide, Or.inl (k_me (tm2 (List.mem_of_getElem? (i := 79) rfl)) rfl)⟩
/-! IMAGES -/
theorem k_t48 : ∀ m, m < 3 → ∀ i, i < 16 → (nI m * 16 + nI i).toNatClampNeg = 16 * m + i ∧ ¬ (nI m * 16 + nI i) < 0 ∧ nI m * 16 + nI i < 48 := by decide +kernel
theorem k_t16 : ∀ i, i < 16 → (nI i).toNatClampNeg = i ∧ ¬ nI i < 0 ∧ nI i < 16 ∧ nI i + 1 = nI (i + 1) := by decide +kernel
theorem k_t3 : ∀ i, i < 3 → (nI i).toNatClampNeg = i ∧ ¬ nI i < 0 ∧ nI i < 3 ∧ nI i + 1 = nI (i + 1) ∧ nI (i + 1) - 1 = nI i ∧ 0 < nI (i + 1) := by decide +kernel
theorem k_tle : ∀ i, i < 17 → ∀ j, j < 17 → (nI j ≤ nI i ↔ j ≤ i) := by decide +kernel
/-- an array of numbers set -/
def k_sA (p : Nat) (g : Nat → Int32) (h : k_H) : k_H := (h.1, k_ua h.2.1 p g, h.2.2)
def k_tIs (m : Nat) : Nat → Nat → k_H → k_H
  | 0, _, h => h
  | n + 1, i, h => k_tIs m n (i + 1) (k_save 38 (16 * m + i) ((h.2.2.2 36 i).getD 0) h)
def k_tI (W m : Nat) (h : k_H) : k_H := k_sI 35 5 (nI (m + 1)) (k_sA 39 (upd ((k_tIs m W 0 (k_save 37 m 26 h)).2.1 39) m (nI W)) (k_tIs m W 0 (k_save 37 m 26 h)))
def k_bBs (m : Nat) : Nat → Nat → k_H → k_H
  | 0, _, h => h
  | n + 1, i, h => k_bBs m n (i + 1) (k_save 36 i ((h.2.2.2 38 (16 * m + i)).getD 0) h)
def k_bB (W m : Nat) (h : k_H) : k_H := k_bBs m W 0 (k_sI 35 1 (nI W) (k_load 37 m 26 (k_sI 35 5 (nI m) h)))
/-- what a loop over the rows keeps -/
def k_LP (h : k_H) : Prop := k_pX h.1 ∧ k_base h.1 ∧ k_PS h ∧ k_mA h.1 26 ∧ 70 ≤ h.1.length
theorem k_LP_save {h : k_H} {p j a : Nat} (L : k_LP h) (hp : p = 36 ∨ p = 37 ∨ p = 38) : k_LP (k_save p j a h) :=
  ⟨k_pX_le L.1 (fun q x hx => k_save_ne hx), k_base_le L.2.1 (fun q x hx => k_save_ne hx), k_PS_save L.2.2.1 L.2.2.2.2 hp, k_mA_le L.2.2.2.1 (fun q x hx => k_save_ne hx), Nat.le_trans L.2.2.2.2 (k_save_len p j a h).2⟩
theorem k_LP_I {h : k_H} {p j a x : Nat} (L : k_LP h) (hp : p = 36 ∨ p = 37 ∨ p = 38) (hx : x < 70) : (k_save p j a h).2.1 x = h.2.1 x :=
  (k_save_out (by have := L.2.2.2.2; omega) (fun q hz => Or.inl (by have := (L.2.2.1.1 p j q hp hz).2; omega))).1
theorem k_LP_R {h : k_H} {p j a p' j' : Nat} (L : k_LP h) (hp' : p' < 70) (hne : p' ≠ p) : (k_save p j a h).2.2.2 p' j' = h.2.2.2 p' j' := by
  rw [k_save_R (by have := L.2.2.2.2; omega), if_neg (fun z => hne z.1)]
section TI
variable {X : k_X} {Q : State → Prop} {ad0 : Nat → Nat} {n0 m W : Nat}
set_option maxRecDepth 100000 in
theorem s_takeImage (hR : X.R.frames = 5 ∧ X.R.locals = 180) (hRc : X.R.cells = 85) (hRs : X.R.slots = 714) (hm : m < 3) (hW : W ≤ 16) : ∀ (n i : Nat) (ad : Nat → Nat) (h : k_H), k_C X cX4_takeImage RX4 3 ad → k_sm n0 ad0 ad → k_LP h → i + n = W → h.1.length + 5 * n ≤ 1000000 → n0 ≤ h.1.length → h.2.1 35 1 = nI W → h.2.1 35 5 = nI m → (∀ j, j < W → ∃ q, h.2.2.2 36 j = some q) →
    (∀ (ad2 : Nat → Nat) (h2 : k_H), k_C X cX4_takeImage RX4 3 ad2 → k_sm n0 ad0 ad2 → k_LP h2 → h2.2.1 35 1 = nI W → h2.2.1 35 5 = nI m → h2 = k_tIs m n i h → k_W X 3 (5 + 5 * W) (42 + 42 * W) Q ad2 h2 60 [some (.ref 35), some (.ref 26), some (.int (nI W))] []) →
    k_W X 3 (5 + 5 * i) (42 + 42 * i) Q ad h 24 [some (.ref 35), some (.ref 26), some (.int (nI i))] []
  | 0, i, ad, h, C, hsm, L, hi, hlen, hn0, hw, him, hall, kE => by
    obtain rfl : i = W := by omega
    refine r_iload_n C dX4_takeImage_24 (rfl : 24 + 1 = 25) rfl ?_
    refine r_aload_n C dX4_takeImage_25 (rfl : 25 + 1 = 26) rfl ?_
    refine r_getI (v := nI i) C dX4_takeImage_26 (rfl : 26 + 3 = 29) fl_X4_25 L.1.1 rfl hw ?_
    refine r_icmp_ge (tgt := 60) C dX4_takeImage_29 (by decide) (rfl : 29 + 3 = 32) (fun z => ?_) (fun z => absurd ((k_tle i (by omega) i (by omega)).mpr (Nat.le_refl _)) z)
    exact kE ad h C hsm L hw him rfl
  | n + 1, i, ad, h, C, hsm, L, hi, hlen, hn0, hw, him, hall, kE => by
    have ih := s_takeImage hR hRc hRs hm hW n
    refine r_iload_n C dX4_takeImage_24 (rfl : 24 + 1 = 25) rfl ?_
    refine r_aload_n C dX4_takeImage_25 (rfl : 25 + 1 = 26) rfl ?_
    refine r_getI (v := nI W) C dX4_takeImage_26 (rfl : 26 + 3 = 29) fl_X4_25 L.1.1 rfl hw ?_
    refine r_icmp_ge (tgt := 60) C dX4_takeImage_29 (by decide) (rfl : 29 + 3 = 32) (fun z => absurd ((k_tle i (by omega) W (by omega)).mp z) (by omega)) (fun _ => ?_)
    refine r_aload_n C dX4_takeImage_32 (rfl : 32 + 1 = 33) rfl ?_
    refine r_getR (q := 38) C dX4_takeImage_33 (rfl : 33 + 3 = 36) fl_X4_18 L.1.1 rfl ?_
    refine r_aload_n C dX4_takeImage_36 (rfl : 36 + 1 = 37) rfl ?_
    refine r_getI (v := nI m) C dX4_takeImage_37 (rfl : 37 + 3 = 40) fl_X4_29 L.1.1 rfl him ?_
    refine r_bipush (v := (16 : Int32)) C dX4_takeImage_40 (rfl : 40 + 2 = 42) rfl ?_
    refine r_imul C dX4_takeImage_42 (rfl : 42 + 1 = 43) ?_
    refine r_iload_n C dX4_takeImage_43 (rfl : 43 + 1 = 44) rfl ?_
    refine r_iadd C dX4_takeImage_44 (rfl : 44 + 1 = 45) ?_
    refine r_aload_n C dX4_takeImage_45 (rfl : 45 + 1 = 46) rfl ?_
    refine r_getR (q := 36) C dX4_takeImage_46 (rfl : 46 + 3 = 49) fl_X4_11 L.1.1 rfl ?_
    refine r_iload_n C dX4_takeImage_49 (rfl : 49 + 1 = 50) rfl ?_
    obtain ⟨q, hq⟩ := hall i (by omega)
    have t1 := k_t48 m hm i (by omega)
    have t2 := k_t16 i (by omega)
    refine r_aald (q := q) (j := i) C dX4_takeImage_50 (rfl : 50 + 1 = 51) L.1.2.1 (fun z => z.elim t2.2.1 (fun y => by rw [t2.1] at y; omega)) t2.1 hq ?_
    have qq := L.2.2.1.1 36 i q (Or.inl rfl) hq
    refine c_SG (As := [.ref 38, .int (nI m * 16 + nI i), .ref q]) (st := []) C hR (k_csb hRc hRs (by omega) (by omega)) ms_X4_save (k_me (tm3 (List.mem_of_getElem? (i := 109) rfl)) rfl) dX4_takeImage_51 (rfl : 51 + 3 = 54) rfl rfl (c_X4_save X.l h L.1.2.2.2.1 (fun z => z.elim t1.2.1 (fun y => by rw [t1.1] at y; omega)) t1.2.2 t1.1 L.2.1 qq.1 (by omega) (fun r hr => ⟨(L.2.2.1.1 38 _ r (Or.inr (Or.inr rfl)) hr).1, by have := (L.2.2.1.1 38 _ r (Or.inr (Or.inr rfl)) hr).2; omega, L.2.2.1.2 38 _ r 36 i q (Or.inr (Or.inr rfl)) (Or.inl rfl) hr hq (Or.inl (by decide))⟩) (by omega)) rfl rfl rfl ⟨k_okv_of L.1.1, k_okv_of L.2.2.2.1.1, True.intro, True.intro⟩ True.intro ?_
    rintro v ad1 h1 ⟨rfl, rfl⟩ hsm1 C1
    have hln := k_save_len 38 (16 * m + i) q h
    change k_W X _ _ _ _ ad1 _ _ _ []
    refine r_iinc (v := nI (i + 1)) C1 dX4_takeImage_54 (rfl : 54 + 3 = 57) rfl t2.2.2.2 (by decide) ?_
    show k_W _ _ _ _ _ _ _ _ [some (.ref 35), some (.ref 26), some (.int (nI (i + 1)))] _
    refine r_goto (tgt := 24) C1 dX4_takeImage_57 (by decide) ?_
    have e : k_tIs m (n + 1) i h = k_tIs m n (i + 1) (k_save 38 (16 * m + i) q h) := by show k_tIs m n (i + 1) (k_save 38 (16 * m + i) ((h.2.2.2 36 i).getD 0) h) = _; rw [hq]; rfl
    have hc : 5 + 5 * (i + 1) = 5 + 5 * i + 5 := by omega
    have hs : 42 + 42 * (i + 1) = 42 + 42 * i + 42 := by omega
    rw [← hc, ← hs]
    refine ih (i + 1) ad1 (k_save 38 (16 * m + i) q h) C1 (k_sm_tr hsm hsm1 hn0) (k_LP_save L (Or.inr (Or.inr rfl))) (by omega) (by omega) (by omega) (by rw [k_LP_I L (Or.inr (Or.inr rfl)) (by decide)]; exact hw) (by rw [k_LP_I L (Or.inr (Or.inr rfl)) (by decide)]; exact him) (fun j hj => by rw [k_LP_R L (by decide) (by decide)]; exact hall j hj) (fun ad2 h2 C2 hsm2 L2 hw2 him2 e2 => kE ad2 h2 C2 hsm2 L2 hw2 him2 (e2.trans e.symm))
end TI
set_option maxRecDepth 100000 in
theorem c_X4_takeImage (l : Launch) (h : k_H) {m W : Nat} (L : k_LP h) (hm : m < 3) (hW : W ≤ 16) (hw : h.2.1 35 1 = nI W) (him : h.2.1 35 5 = nI m) (hall : ∀ j, j < W → ∃ q, h.2.2.2 36 j = some q) (hlen : h.1.length + 85 ≤ 1000000) : k_CG l yX4_takeImage cX4_takeImage 3 (some .boolean) 5 180 85 714 [.ref 35, .ref 26] h (fun v h' => v = some (.int 1) ∧ h' = k_tI W m h) := by
  refine k_ofWG (by decide) (Nat.le_of_ble_eq_true rfl) ?_
  intro X ad hlX hR0 hr C hnm
  have hR : X.R.frames = 5 ∧ X.R.locals = 180 := by rw [hR0]; exact ⟨rfl, rfl⟩
  have hRc : X.R.cells = 85 := by rw [hR0]
  have hRs : X.R.slots = 714 := by rw [hR0]
  show k_W X 3 0 0 _ ad h 0 [some (.ref 35), some (.ref 26), none] []
  refine r_aload_n C dX4_takeImage_0 (rfl : 0 + 1 = 1) rfl ?_
  refine r_getI (v := nI m) C dX4_takeImage_1 (rfl : 1 + 3 = 4) fl_X4_29 L.1.1 rfl him ?_
  refine r_iconst (v := (3 : Int32)) C dX4_takeImage_4 (rfl : 4 + 1 = 5) rfl ?_
  have t3 := k_t3 m hm
  refine r_icmp_lt (tgt := 10) C dX4_takeImage_5 (by decide) (rfl : 5 + 3 = 8) (fun _ => ?_) (fun z => absurd t3.2.2.1 z)
  refine r_aload_n C dX4_takeImage_10 (rfl : 10 + 1 = 11) rfl ?_
  refine r_getR (q := 37) C dX4_takeImage_11 (rfl : 11 + 3 = 14) fl_X4_15 L.1.1 rfl ?_
  refine r_aload_n C dX4_takeImage_14 (rfl : 14 + 1 = 15) rfl ?_
  refine r_getI (v := nI m) C dX4_takeImage_15 (rfl : 15 + 3 = 18) fl_X4_29 L.1.1 rfl him ?_
  refine r_aload_n C dX4_takeImage_18 (rfl : 18 + 1 = 19) rfl ?_
  refine c_SG (As := [.ref 37, .int (nI m), .ref 26]) (st := []) C hR (k_csl hRc hRs rfl rfl) ms_X4_save (k_me (tm3 (List.mem_of_getElem? (i := 109) rfl)) rfl) dX4_takeImage_19 (rfl : 19 + 3 = 22) rfl rfl (c_X4_save X.l h L.1.2.2.1 (fun z => z.elim t3.2.1 (fun y => by rw [t3.1] at y; omega)) t3.2.2.1 t3.1 L.2.1 L.2.2.2.1 (by omega) (fun q hz => k_PS_q L.2.2.1 (Or.inr (Or.inl rfl)) (by omega) hz) (by omega)) rfl rfl rfl ⟨k_okv_of L.1.1, k_okv_of L.2.2.2.1.1, True.intro⟩ True.intro ?_
  rintro v ad1 h1 ⟨rfl, rfl⟩ hsm1 C1
  have hln := k_save_len 37 m 26 h
  change k_W X _ _ _ _ ad1 _ _ _ []
  refine r_iconst (v := (0 : Int32)) C1 dX4_takeImage_22 (rfl : 22 + 1 = 23) rfl ?_
  refine r_istore_n C1 dX4_takeImage_23 (rfl : 23 + 1 = 24) (by decide) (Nat.le_of_ble_eq_true rfl) ?_
  show k_W _ _ (5 + 5 * 0) (42 + 42 * 0) _ _ _ _ [some (.ref 35), some (.ref 26), some (.int (nI 0))] _
  refine s_takeImage (ad0 := ad) (n0 := h.1.length) hR hRc hRs hm hW W 0 ad1 (k_save 37 m 26 h) C1 hsm1 (k_LP_save L (Or.inr (Or.inl rfl))) (by omega) (by omega) hln.2 (by rw [k_LP_I L (Or.inr (Or.inl rfl)) (by decide)]; exact hw) (by rw [k_LP_I L (Or.inr (Or.inl rfl)) (by decide)]; exact him) (fun j hj => by rw [k_LP_R L (by decide) (by decide)]; exact hall j hj) ?_
  intro ad2 h2 C2 hsm2 L2 hw2 him2 e2
  refine r_aload_n C2 dX4_takeImage_60 (rfl : 60 + 1 = 61) rfl ?_
  refine r_getR (q := 39) C2 dX4_takeImage_61 (rfl : 61 + 3 = 64) fl_X4_21 L2.1.1 rfl ?_
  refine r_aload_n C2 dX4_takeImage_64 (rfl : 64 + 1 = 65) rfl ?_
  refine r_getI (v := nI m) C2 dX4_takeImage_65 (rfl : 65 + 3 = 68) fl_X4_29 L2.1.1 rfl him2 ?_
  refine r_aload_n C2 dX4_takeImage_68 (rfl : 68 + 1 = 69) rfl ?_
  refine r_getI (v := nI W) C2 dX4_takeImage_69 (rfl : 69 + 3 = 72) fl_X4_25 L2.1.1 rfl hw2 ?_
  refine r_iast (f := h2.2.1 39) C2 dX4_takeImage_72 (rfl : 72 + 1 = 73) L2.1.2.2.2.2 rfl (fun z => z.elim t3.2.1 (fun y => by rw [t3.1] at y; omega)) ?_
  rw [t3.1]
  change k_W X _ _ _ _ ad2 (k_sA 39 (upd (h2.2.1 39) m (nI W)) h2) _ _ _
  refine r_aload_n C2 dX4_takeImage_73 (rfl : 73 + 1 = 74) rfl ?_
  refine r_dup C2 dX4_takeImage_74 (rfl : 74 + 1 = 75) rfl ?_
  refine r_getI (v := nI m) C2 dX4_takeImage_75 (rfl : 75 + 3 = 78) fl_X4_29 L2.1.1 rfl him2 ?_
  refine r_iconst (v := (1 : Int32)) C2 dX4_takeImage_78 (rfl : 78 + 1 = 79) rfl ?_
  refine r_iadd C2 dX4_takeImage_79 (rfl : 79 + 1 = 80) ?_
  refine r_putI C2 dX4_takeImage_80 (rfl : 80 + 3 = 83) fp_X4_29 L2.1.1 rfl ?_
  rw [t3.2.2.2.1]
  refine r_iconst (v := (1 : Int32)) C2 dX4_takeImage_83 (rfl : 83 + 1 = 84) rfl ?_
  exact g_zret C2 hr (Or.inr rfl) (by omega) (by omega) ⟨rfl, by unfold k_tI; rw [← e2]; rfl⟩ hsm2 dX4_takeImage_84
theorem c_X4_takeImage3 (l : Launch) (h : k_H) (L : k_LP h) (him : h.2.1 35 5 = nI 3) : k_CG l yX4_takeImage cX4_takeImage 3 (some .boolean) 5 180 85 714 [.ref 35, .ref 26] h (fun v h' => v = some (.int 0) ∧ h' = h) := by
  refine k_ofWG (by decide) (Nat.le_of_ble_eq_true rfl) ?_
  intro X ad hlX hR0 hr C hnm
  show k_W X 3 0 0 _ ad h 0 [some (.ref 35), some (.ref 26), none] []
  refine r_aload_n C dX4_takeImage_0 (rfl : 0 + 1 = 1) rfl ?_
  refine r_getI (v := nI 3) C dX4_takeImage_1 (rfl : 1 + 3 = 4) fl_X4_29 L.1.1 rfl him ?_
  refine r_iconst (v := (3 : Int32)) C dX4_takeImage_4 (rfl : 4 + 1 = 5) rfl ?_
  refine r_icmp_lt (tgt := 10) C dX4_takeImage_5 (by decide) (rfl : 5 + 3 = 8) (fun z => absurd z (by decide)) (fun _ => ?_)
  refine r_iconst (v := (0 : Int32)) C dX4_takeImage_8 (rfl : 8 + 1 = 9) rfl ?_
  exact g_zret C hr (Or.inl rfl) (Nat.zero_le _) (Nat.zero_le _) ⟨rfl, rfl⟩ (k_sm_rf _ _) dX4_takeImage_9
section BB
variable {X : k_X} {Q : State → Prop} {ad0 : Nat → Nat} {n0 m W : Nat}
set_option maxRecDepth 100000 in
theorem s_bringBack (hR : X.R.frames = 5 ∧ X.R.locals = 180) (hRc : X.R.cells = 80) (hRs : X.R.slots = 672) (hm : m < 3) (hW : W ≤ 16) : ∀ (n i : Nat) (ad : Nat → Nat) (h : k_H), k_C X cX4_bringBack RX4 3 ad → k_sm n0 ad0 ad → k_LP h → i + n = W → h.1.length + 5 * n ≤ 1000000 → n0 ≤ h.1.length → h.2.1 35 1 = nI W → h.2.1 35 5 = nI m → (∀ j, j < W → ∃ q, h.2.2.2 38 (16 * m + j) = some q) →
    (∀ (ad2 : Nat → Nat) (h2 : k_H), k_C X cX4_bringBack RX4 3 ad2 → k_sm n0 ad0 ad2 → k_LP h2 → h2 = k_bBs m n i h → k_W X 3 (5 * W) (42 * W) Q ad2 h2 81 [some (.ref 35), some (.ref 26), some (.int (nI W))] []) →
    k_W X 3 (5 * i) (42 * i) Q ad h 45 [some (.ref 35), some (.ref 26), some (.int (nI i))] []
  | 0, i, ad, h, C, hsm, L, hi, hlen, hn0, hw, him, hall, kE => by
    obtain rfl : i = W := by omega
    refine r_iload_n C dX4_bringBack_45 (rfl : 45 + 1 = 46) rfl ?_
    refine r_aload_n C dX4_bringBack_46 (rfl : 46 + 1 = 47) rfl ?_
    refine r_getI (v := nI i) C dX4_bringBack_47 (rfl : 47 + 3 = 50) fl_X4_25 L.1.1 rfl hw ?_
    refine r_icmp_ge (tgt := 81) C dX4_bringBack_50 (by decide) (rfl : 50 + 3 = 53) (fun z => ?_) (fun z => absurd ((k_tle i (by omega) i (by omega)).mpr (Nat.le_refl _)) z)
    exact kE ad h C hsm L rfl
  | n + 1, i, ad, h, C, hsm, L, hi, hlen, hn0, hw, him, hall, kE => by
    have ih := s_bringBack hR hRc hRs hm hW n
    refine r_iload_n C dX4_bringBack_45 (rfl : 45 + 1 = 46) rfl ?_
    refine r_aload_n C dX4_bringBack_46 (rfl : 46 + 1 = 47) rfl ?_
    refine r_getI (v := nI W) C dX4_bringBack_47 (rfl : 47 + 3 = 50) fl_X4_25 L.1.1 rfl hw ?_
    refine r_icmp_ge (tgt := 81) C dX4_bringBack_50 (by decide) (rfl : 50 + 3 = 53) (fun z => absurd ((k_tle i (by omega) W (by omega)).mp z) (by omega)) (fun _ => ?_)
    refine r_aload_n C dX4_bringBack_53 (rfl : 53 + 1 = 54) rfl ?_
    refine r_getR (q := 36) C dX4_bringBack_54 (rfl : 54 + 3 = 57) fl_X4_11 L.1.1 rfl ?_
    refine r_iload_n C dX4_bringBack_57 (rfl : 57 + 1 = 58) rfl ?_
    refine r_aload_n C dX4_bringBack_58 (rfl : 58 + 1 = 59) rfl ?_
    refine r_getR (q := 38) C dX4_bringBack_59 (rfl : 59 + 3 = 62) fl_X4_18 L.1.1 rfl ?_
    refine r_aload_n C dX4_bringBack_62 (rfl : 62 + 1 = 63) rfl ?_
    refine r_getI (v := nI m) C dX4_bringBack_63 (rfl : 63 + 3 = 66) fl_X4_29 L.1.1 rfl him ?_
    refine r_bipush (v := (16 : Int32)) C dX4_bringBack_66 (rfl : 66 + 2 = 68) rfl ?_
    refine r_imul C dX4_bringBack_68 (rfl : 68 + 1 = 69) ?_
    refine r_iload_n C dX4_bringBack_69 (rfl : 69 + 1 = 70) rfl ?_
    refine r_iadd C dX4_bringBack_70 (rfl : 70 + 1 = 71) ?_
    obtain ⟨q, hq⟩ := hall i (by omega)
    have t1 := k_t48 m hm i (by omega)
    have t2 := k_t16 i (by omega)
    refine r_aald (q := q) (j := 16 * m + i) C dX4_bringBack_71 (rfl : 71 + 1 = 72) L.1.2.2.2.1 (fun z => z.elim t1.2.1 (fun y => by rw [t1.1] at y; omega)) t1.1 hq ?_
    have qq := L.2.2.1.1 38 _ q (Or.inr (Or.inr rfl)) hq
    refine c_SG (As := [.ref 36, .int (nI i), .ref q]) (st := []) C hR (k_csb hRc hRs (by omega) (by omega)) ms_X4_save (k_me (tm3 (List.mem_of_getElem? (i := 109) rfl)) rfl) dX4_bringBack_72 (rfl : 72 + 3 = 75) rfl rfl (c_X4_save X.l h L.1.2.1 (fun z => z.elim t2.2.1 (fun y => by rw [t2.1] at y; omega)) t2.2.2.1 t2.1 L.2.1 qq.1 (by omega) (fun r hr => ⟨(L.2.2.1.1 36 _ r (Or.inl rfl) hr).1, by have := (L.2.2.1.1 36 _ r (Or.inl rfl) hr).2; omega, L.2.2.1.2 36 i r 38 _ q (Or.inl rfl) (Or.inr (Or.inr rfl)) hr hq (Or.inl (by decide))⟩) (by omega)) rfl rfl rfl ⟨k_okv_of L.1.1, k_okv_of L.2.2.2.1.1, True.intro, True.intro⟩ True.intro ?_
    rintro v ad1 h1 ⟨rfl, rfl⟩ hsm1 C1
    have hln := k_save_len 36 i q h
    change k_W X _ _ _ _ ad1 _ _ _ []
    refine r_iinc (v := nI (i + 1)) C1 dX4_bringBack_75 (rfl : 75 + 3 = 78) rfl t2.2.2.2 (by decide) ?_
    show k_W _ _ _ _ _ _ _ _ [some (.ref 35), some (.ref 26), some (.int (nI (i + 1)))] _
    refine r_goto (tgt := 45) C1 dX4_bringBack_78 (by decide) ?_
    have e : k_bBs m (n + 1) i h = k_bBs m n (i + 1) (k_save 36 i q h) := by show k_bBs m n (i + 1) (k_save 36 i ((h.2.2.2 38 (16 * m + i)).getD 0) h) = _; rw [hq]; rfl
    have hc : 5 * (i + 1) = 5 * i + 5 := by omega
    have hs : 42 * (i + 1) = 42 * i + 42 := by omega
    rw [← hc, ← hs]
    refine ih (i + 1) ad1 (k_save 36 i q h) C1 (k_sm_tr hsm hsm1 hn0) (k_LP_save L (Or.inl rfl)) (by omega) (by omega) (by omega) (by rw [k_LP_I L (Or.inl rfl) (by decide)]; exact hw) (by rw [k_LP_I L (Or.inl rfl) (by decide)]; exact him) (fun j hj => by rw [k_LP_R L (by decide) (by decide)]; exact hall j hj) (fun ad2 h2 C2 hsm2 L2 e2 => kE ad2 h2 C2 hsm2 L2 (e2.trans e.symm))
end BB
theorem k_LP_sI {h : k_H} (L : k_LP h) (p k : Nat) (v : Int32) : k_LP (k_sI p k v h) := L
theorem k_LP_load {h : k_H} {p j : Nat} (L : k_LP h) : k_LP (k_load p j 26 h) := by
  have e := k_load_sh p j 26 h
  have e2 : (k_load p j 26 h).2.2.2 = h.2.2.2 := by unfold k_load; cases h.2.2.2 p j <;> rfl
  unfold k_LP k_PS
  rw [e, e2]
  exact L
set_option maxRecDepth 100000 in
theorem c_X4_bringBack (l : Launch) (h : k_H) {m W : Nat} (L : k_LP h) (hm : m < 3) (hW : W ≤ 16) (him : h.2.1 35 5 = nI (m + 1)) (hiw : h.2.1 39 m = nI W) (hall : ∀ j, j < W → ∃ q, h.2.2.2 38 (16 * m + j) = some q) (hlen : h.1.length + 80 ≤ 1000000) : k_CG l yX4_bringBack cX4_bringBack 3 none 5 180 80 672 [.ref 35, .ref 26] h (fun v h' => v = none ∧ h' = k_bB W m h) := by
  refine k_ofWG (by decide) (Nat.le_of_ble_eq_true rfl) ?_
  intro X ad hlX hR0 hr C hnm
  have hR : X.R.frames = 5 ∧ X.R.locals = 180 := by rw [hR0]; exact ⟨rfl, rfl⟩
  have hRc : X.R.cells = 80 := by rw [hR0]
  have hRs : X.R.slots = 672 := by rw [hR0]
  show k_W X 3 0 0 _ ad h 0 [some (.ref 35), some (.ref 26), none] []
  refine r_aload_n C dX4_bringBack_0 (rfl : 0 + 1 = 1) rfl ?_
  refine r_getI (v := nI (m + 1)) C dX4_bringBack_1 (rfl : 1 + 3 = 4) fl_X4_29 L.1.1 rfl him ?_
  have t3 := k_t3 m hm
  refine r_if_gt (tgt := 8) C dX4_bringBack_4 (by decide) (rfl : 4 + 3 = 7) (fun _ => ?_) (fun z => absurd t3.2.2.2.2.2 z)
  refine r_aload_n C dX4_bringBack_8 (rfl : 8 + 1 = 9) rfl ?_
  refine r_dup C dX4_bringBack_9 (rfl : 9 + 1 = 10) rfl ?_
  refine r_getI (v := nI (m + 1)) C dX4_bringBack_10 (rfl : 10 + 3 = 13) fl_X4_29 L.1.1 rfl him ?_
  refine r_iconst (v := (1 : Int32)) C dX4_bringBack_13 (rfl : 13 + 1 = 14) rfl ?_
  refine r_isub C dX4_bringBack_14 (rfl : 14 + 1 = 15) ?_
  refine r_putI C dX4_bringBack_15 (rfl : 15 + 3 = 18) fp_X4_29 L.1.1 rfl ?_
  rw [t3.2.2.2.2.1]
  change k_W X _ _ _ _ ad (k_sI 35 5 (nI m) h) _ _ _
  refine r_aload_n C dX4_bringBack_18 (rfl : 18 + 1 = 19) rfl ?_
  refine r_getR (q := 37) C dX4_bringBack_19 (rfl : 19 + 3 = 22) fl_X4_15 L.1.1 rfl ?_
  refine r_aload_n C dX4_bringBack_22 (rfl : 22 + 1 = 23) rfl ?_
  refine r_getI (v := nI m) C dX4_bringBack_23 (rfl : 23 + 3 = 26) fl_X4_29 L.1.1 rfl k_sI_self ?_
  refine r_aload_n C dX4_bringBack_26 (rfl : 26 + 1 = 27) rfl ?_
  refine c_SG (As := [.ref 37, .int (nI m), .ref 26]) (st := []) C hR (k_csl hRc hRs rfl rfl) ms_X4_load (k_me (tm3 (List.mem_of_getElem? (i := 32) rfl)) rfl) dX4_bringBack_27 (rfl : 27 + 3 = 30) rfl rfl (c_X4_load X.l (k_sI 35 5 (nI m) h) L.1.2.2.1 (fun z => z.elim t3.2.1 (fun y => by rw [t3.1] at y; omega)) t3.2.2.1 t3.1 L.2.1 L.2.2.2.1 (by omega) (fun q hz => k_PS_q L.2.2.1 (Or.inr (Or.inl rfl)) (by omega) hz)) rfl rfl rfl ⟨k_okv_of L.1.1, k_okv_of L.2.2.2.1.1, True.intro⟩ True.intro ?_
  rintro v ad1 h1 ⟨rfl, rfl⟩ hsm1 C1
  have L1 : k_LP (k_load 37 m 26 (k_sI 35 5 (nI m) h)) := k_LP_load (k_LP_sI L 35 5 (nI m))
  have hl1 : (k_load 37 m 26 (k_sI 35 5 (nI m) h)).1 = h.1 := k_load_sh _ _ _ _
  have o35 : (k_load 37 m 26 (k_sI 35 5 (nI m) h)).2.1 35 = (k_sI 35 5 (nI m) h).2.1 35 := (k_load_out (Or.inr (by decide))).1
  have o39 : (k_load 37 m 26 (k_sI 35 5 (nI m) h)).2.1 39 = h.2.1 39 := (k_load_out (Or.inr (by decide))).1.trans (by funext j; exact k_sI_ne (Or.inl (by decide)))
  have him1 : (k_load 37 m 26 (k_sI 35 5 (nI m) h)).2.1 35 5 = nI m := by rw [o35]; exact k_sI_self
  change k_W X _ _ _ _ ad1 _ _ _ []
  refine r_aload_n C1 dX4_bringBack_30 (rfl : 30 + 1 = 31) rfl ?_
  refine r_aload_n C1 dX4_bringBack_31 (rfl : 31 + 1 = 32) rfl ?_
  refine r_getR (q := 39) C1 dX4_bringBack_32 (rfl : 32 + 3 = 35) fl_X4_21 L1.1.1 rfl ?_
  refine r_aload_n C1 dX4_bringBack_35 (rfl : 35 + 1 = 36) rfl ?_
  refine r_getI (v := nI m) C1 dX4_bringBack_36 (rfl : 36 + 3 = 39) fl_X4_29 L1.1.1 rfl him1 ?_
  refine a_i (j := m) (f := h.2.1 39) C1 dX4_bringBack_39 (rfl : 39 + 1 = 40) L1.1.2.2.2.2 o39 (fun z => z.elim t3.2.1 (fun y => by rw [t3.1] at y; omega)) t3.1 ?_
  rw [hiw]
  refine r_putI C1 dX4_bringBack_40 (rfl : 40 + 3 = 43) fp_X4_25 L1.1.1 rfl ?_
  change k_W X _ _ _ _ ad1 (k_sI 35 1 (nI W) (k_load 37 m 26 (k_sI 35 5 (nI m) h))) _ _ _
  refine r_iconst (v := (0 : Int32)) C1 dX4_bringBack_43 (rfl : 43 + 1 = 44) rfl ?_
  refine r_istore_n C1 dX4_bringBack_44 (rfl : 44 + 1 = 45) (by decide) (Nat.le_of_ble_eq_true rfl) ?_
  show k_W _ _ (5 * 0) (42 * 0) _ _ _ _ [some (.ref 35), some (.ref 26), some (.int (nI 0))] _
  have e2 : (k_load 37 m 26 (k_sI 35 5 (nI m) h)).2.2.2 = h.2.2.2 := by unfold k_load; cases (k_sI 35 5 (nI m) h).2.2.2 37 m <;> rfl
  refine s_bringBack (ad0 := ad) (n0 := h.1.length) hR hRc hRs hm hW W 0 ad1 (k_sI 35 1 (nI W) (k_load 37 m 26 (k_sI 35 5 (nI m) h))) C1 hsm1 (k_LP_sI L1 35 1 (nI W)) (by omega) (by show (k_load 37 m 26 (k_sI 35 5 (nI m) h)).1.length + _ ≤ _; rw [hl1]; omega) (by show _ ≤ (k_load 37 m 26 (k_sI 35 5 (nI m) h)).1.length; rw [hl1]; omega) k_sI_self ((k_sI_ne (Or.inr (by decide))).trans him1) (fun j hj => by show ∃ q, (k_load 37 m 26 (k_sI 35 5 (nI m) h)).2.2.2 38 (16 * m + j) = some q; rw [e2]; exact hall j hj) ?_
  intro ad2 h2 C2 hsm2 L2 e3
  exact g_vret C2 hr (by omega) (by omega) ⟨rfl, e3⟩ hsm2 dX4_bringBack_81
