/-! KEPT MINES: pictures; the reference's rows -/
section KEP
theorem rZ_Mx {h h' : k_H} {q : Nat} {m : aM} (E : ∀ x, q ≤ x → x ≤ q + 4 → Kp h h' x) (z : rZ_M h q m) : rZ_M h' q m := by
  unfold rZ_M
  rw [(E q (by omega) (by omega)).1, (E q (by omega) (by omega)).2, (E (q + 1) (by omega) (by omega)).1, (E (q + 2) (by omega) (by omega)).1, (E (q + 3) (by omega) (by omega)).1, (E (q + 4) (by omega) (by omega)).1]
  exact z
theorem xMine_c {m : aM} {c10 c11 c12 c13 c14 c15 c16 c17 : Int32} {l3 l4 l5 : Int64} {a1 a2 a3 a4 g1 g2 g3 g4 : Nat → Int32} (z : xMine m c10 c11 c12 c13 c14 c15 c16 c17 l3 l4 l5 a1 a2 a3 a4) (h : ∀ j, j < 6 → g1 j = a1 j ∧ g2 j = a2 j ∧ g3 j = a3 j ∧ g4 j = a4 j) : xMine m c10 c11 c12 c13 c14 c15 c16 c17 l3 l4 l5 g1 g2 g3 g4 := by
  obtain ⟨M, hb, k1, k2, k3, k4, k5, k6, k7, k8, hs, hg, hf⟩ := z
  exact ⟨M, fun k hk => (h k (by omega)).1.trans (hb k hk), k1, k2, k3, k4, k5, k6, k7, k8, fun k hk => (h k (by omega)).2.1.trans (hs k hk), fun k hk => (h k (by omega)).2.2.1.trans (hg k hk), fun i hi => (h i hi).2.2.2.trans (hf i hi)⟩
theorem mMine_c {m : aM} {g g' : Nat → Int32} (z : mMine m g) (h : ∀ j, j < 77 → g' j = g j) : mMine m g' := by
  obtain ⟨M, hb, k1, k2, k3, k4, k5, k6, k7, k8, hs, hg, hf⟩ := z
  exact ⟨fun c hc => (h c (by omega)).trans (M c hc), fun k hk => (h _ (by omega)).trans (hb k hk), (h _ (by omega)).trans k1, (h _ (by omega)).trans k2, (h _ (by omega)).trans k3, (h _ (by omega)).trans k4, (h _ (by omega)).trans k5, (h _ (by omega)).trans k6, (h _ (by omega)).trans k7, (h _ (by omega)).trans k8, fun k hk => (h _ (by omega)).trans (hs k hk), fun k hk => (h _ (by omega)).trans (hg k hk), fun i hi => (h _ (by omega)).trans (hf i hi)⟩
theorem cp_M {h : k_H} {b a : Nat} {m : aM} (z : rZ_M h a m) : rZ_M (k_cpM b a h) b m := by
  have e10 : (k_cpM b a h).2.1 b 10 = h.2.1 a 10 := by simp [k_cpM, k_cpU, k_ap, k_a1, k_u, k_ua]
  have e11 : (k_cpM b a h).2.1 b 11 = h.2.1 a 11 := by simp [k_cpM, k_cpU, k_ap, k_a1, k_u, k_ua]
  have e12 : (k_cpM b a h).2.1 b 12 = h.2.1 a 12 := by simp [k_cpM, k_cpU, k_ap, k_a1, k_u, k_ua]
  have e13 : (k_cpM b a h).2.1 b 13 = h.2.1 a 13 := by simp [k_cpM, k_cpU, k_ap, k_a1, k_u, k_ua]
  have e14 : (k_cpM b a h).2.1 b 14 = h.2.1 a 14 := by simp [k_cpM, k_cpU, k_ap, k_a1, k_u, k_ua]
  have e15 : (k_cpM b a h).2.1 b 15 = h.2.1 a 15 := by simp [k_cpM, k_cpU, k_ap, k_a1, k_u, k_ua]
  have e16 : (k_cpM b a h).2.1 b 16 = h.2.1 a 16 := by simp [k_cpM, k_cpU, k_ap, k_a1, k_u, k_ua]
  have e17 : (k_cpM b a h).2.1 b 17 = h.2.1 a 17 := by simp [k_cpM, k_cpU, k_ap, k_a1, k_u, k_ua]
  have f3 : (k_cpM b a h).2.2.1 b 3 = h.2.2.1 a 3 := by simp [k_cpM, k_cpU, k_ap, k_a1, k_u, k_ua]
  have f4 : (k_cpM b a h).2.2.1 b 4 = h.2.2.1 a 4 := by simp [k_cpM, k_cpU, k_ap, k_a1, k_u, k_ua]
  have f5 : (k_cpM b a h).2.2.1 b 5 = h.2.2.1 a 5 := by simp [k_cpM, k_cpU, k_ap, k_a1, k_u, k_ua]
  have g1 : (k_cpM b a h).2.1 (b + 1) = va_cpy (h.2.1 (a + 1)) (h.2.1 (b + 1)) 0 0 6 := by simp [k_cpM, k_cpU, k_ap, k_a1, k_u, k_ua]
  have g2 : (k_cpM b a h).2.1 (b + 2) = va_cpy (h.2.1 (a + 2)) (h.2.1 (b + 2)) 0 0 6 := by simp [k_cpM, k_cpU, k_ap, k_a1, k_u, k_ua]
  have g3 : (k_cpM b a h).2.1 (b + 3) = va_cpy (h.2.1 (a + 3)) (h.2.1 (b + 3)) 0 0 6 := by simp [k_cpM, k_cpU, k_ap, k_a1, k_u, k_ua]
  have g4 : (k_cpM b a h).2.1 (b + 4) = va_cpy (h.2.1 (a + 4)) (h.2.1 (b + 4)) 0 0 6 := by simp [k_cpM, k_cpU, k_ap, k_a1, k_u, k_ua]
  unfold rZ_M at z ⊢
  rw [e10, e11, e12, e13, e14, e15, e16, e17, f3, f4, f5, g1, g2, g3, g4]
  exact xMine_c z (fun j hj => ⟨sb_cpy0 hj, sb_cpy0 hj, sb_cpy0 hj, sb_cpy0 hj⟩)
def KM (h : k_H) (p j : Nat) (m : aM) : Prop := ∃ q, h.2.2.2 p j = some q ∧ rZ_M h q m
theorem sv_new {h : k_H} {p j a : Nat} {m : aM} (L : k_LP h) (hp : p = 36 ∨ p = 37 ∨ p = 38) (ha : a + 4 < h.1.length) (z : rZ_M h a m) : KM (k_save p j a h) p j m := by
  have hl := L.2.2.2.2
  have hr := k_save_R (h := h) (p := p) (j := j) (a := a) (p' := p) (j' := j) (by omega)
  rw [if_pos ⟨rfl, rfl⟩] at hr
  cases hz : h.2.2.2 p j with
  | none =>
    refine ⟨h.1.length, by rw [hr, hz], ?_⟩
    unfold k_save
    rw [hz]
    show rZ_M (k_tw a h) h.1.length m
    exact cp_M (h := k_nm h) (rZ_Mx (fun x h1 h2 => k_nm_out (by omega)) z)
  | some q =>
    refine ⟨q, by rw [hr, hz], ?_⟩
    unfold k_save
    rw [hz]
    exact cp_M z
theorem sv_old {h : k_H} {p j a p' j' : Nat} {m : aM} (L : k_LP h) (hp : p = 36 ∨ p = 37 ∨ p = 38) (hp' : p' = 36 ∨ p' = 37 ∨ p' = 38) (hne : p' ≠ p ∨ j' ≠ j) (z : KM h p' j' m) : KM (k_save p j a h) p' j' m := by
  obtain ⟨q, e, z⟩ := z
  have hl := L.2.2.2.2
  obtain ⟨s1, s2⟩ := L.2.2.1
  have hq := k_mA_lt (s1 p' j' q hp' e).1
  refine ⟨q, ?_, rZ_Mx (fun x h1 h2 => k_save_out (by omega) (fun q2 e2 => ?_)) z⟩
  · rw [k_save_R (by omega), if_neg (fun w => by rcases hne with g | g; (· exact g w.1); (· exact g w.2)), e]
  · have := s2 p' j' q p j q2 hp' hp e e2 hne
    omega
theorem sv_26 {h : k_H} {p j a x : Nat} (C : rZ_C h) (hp : p = 36 ∨ p = 37 ∨ p = 38) (hx : x < 103) : Kp h (k_save p j a h) x := by
  have hl : 103 ≤ h.1.length := by
    obtain ⟨⟨rest, e⟩, -⟩ := C
    rw [e, List.length_append, show rZ_sh.length = 103 from rfl]
    omega
  exact k_save_out (by omega) (fun q hq => Or.inl (by have := rZ_103 C hp hq; omega))
theorem sh_ext {sh sh' : List k_Sh} (e : ∃ rest, sh = rZ_sh ++ rest) (g : ∀ (q : Nat) (x : k_Sh), sh[q]? = some x → sh'[q]? = some x) : ∃ rest, sh' = rZ_sh ++ rest := by
  obtain ⟨rest, e⟩ := e
  refine ⟨sh'.drop 103, ?_⟩
  have e2 : sh'.take 103 = rZ_sh := by
    apply List.ext_getElem?
    intro i
    by_cases hi : i < 103
    · have hl : i < rZ_sh.length := hi
      have h1 : sh[i]? = some rZ_sh[i] := by rw [e, List.getElem?_append_left hl, List.getElem?_eq_getElem hl]
      rw [List.getElem?_take_of_lt hi, g i _ h1, List.getElem?_eq_getElem hl]
    · rw [List.getElem?_eq_none (by rw [List.length_take]; omega), List.getElem?_eq_none (by show 103 ≤ i; omega)]
  rw [← e2, List.take_append_drop]
theorem sv_C {h : k_H} {p j a : Nat} (C : rZ_C h) (hp : p = 36 ∨ p = 37 ∨ p = 38) : rZ_C (k_save p j a h) := by
  obtain ⟨c1, c2, c3, c4, c5⟩ := C
  refine ⟨sh_ext c1 (fun q x hx => k_save_ne hx), k_LP_save c2 hp, ?_, ?_, ?_⟩
  · rw [k_LP_R c2 (by omega) (by omega)]; exact c3
  · rw [k_LP_R c2 (by omega) (by omega)]; exact c4
  · rw [k_LP_R c2 (by omega) (by omega)]; exact c5
theorem Kp_t {h h1 h2 : k_H} {x : Nat} (a : Kp h h1 x) (b : Kp h1 h2 x) : Kp h h2 x := ⟨b.1.trans a.1, b.2.trans a.2⟩
theorem tIs_ok {m W : Nat} (hm : m < 3) (hW : W ≤ 16) {f : Nat → aM} : ∀ (n i : Nat) (h : k_H), rZ_C h → i + n = W → (∀ j, j < W → KM h 36 (j) (f j)) → rZ_C (k_tIs m n i h) ∧ (∀ x, x < 103 → Kp h (k_tIs m n i h) x) ∧ (k_tIs m n i h).1.length ≤ h.1.length + 5 * n ∧ (∀ p j m', (p = 36 ∨ p = 37 ∨ p = 38) → (p = 38 → ∀ j', i ≤ j' → j' < W → j ≠ 16 * m + j') → KM h p j m' → KM (k_tIs m n i h) p j m') ∧ ∀ j, i ≤ j → j < W → KM (k_tIs m n i h) 38 (16 * m + j) (f j)
  | 0, i, h, C, hi, hs => ⟨C, fun x _ => ⟨rfl, rfl⟩, Nat.le_refl _, fun p j m' _ _ z => z, fun j h1 h2 => absurd h1 (by omega)⟩
  | n + 1, i, h, C, hi, hs => by
    unfold k_tIs
    obtain ⟨q, e, z⟩ := hs i (by omega)
    have hq := k_mA_lt (C.2.1.2.2.1.1 36 (i) q (by omega) e).1
    rw [e]
    show rZ_C (k_tIs m n (i + 1) (k_save 38 (16 * m + i) q h)) ∧ _
    have C1 := sv_C (j := 16 * m + i) (a := q) C (show 38 = 36 ∨ 38 = 37 ∨ 38 = 38 by omega)
    obtain ⟨g1, g2, g3, g4, g5⟩ := tIs_ok hm hW (f := f) n (i + 1) (k_save 38 (16 * m + i) q h) C1 (by omega) (fun j hj => sv_old C.2.1 (by omega) (by omega) (Or.inl (by omega)) (hs j hj))
    refine ⟨g1, fun x hx => Kp_t (sv_26 C (by omega) hx) (g2 x hx), ?_, fun p j m' hp ho zz => ?_, fun j h1 h2 => ?_⟩
    · have := (k_save_len 38 (16 * m + i) q h).1
      show (k_tIs m n (i + 1) (k_save 38 (16 * m + i) q h)).1.length ≤ _
      omega
    · refine g4 p j m' hp (fun hp j' k1 k2 => ho hp j' (by omega) k2) (sv_old C.2.1 (by omega) hp ?_ zz)
      by_cases y : p = 38
      · exact Or.inr (ho y i (Nat.le_refl i) (by omega))
      · exact Or.inl y
    · by_cases y : j = i
      · subst y
        exact g4 38 (16 * m + j) (f j) (by omega) (fun _ j' k1 k2 => by omega) (sv_new C.2.1 (by omega) hq z)
      · exact g5 j (by omega) h2
theorem bBs_ok {m W : Nat} (hm : m < 3) (hW : W ≤ 16) {f : Nat → aM} : ∀ (n i : Nat) (h : k_H), rZ_C h → i + n = W → (∀ j, j < W → KM h 38 (16 * m + j) (f j)) → rZ_C (k_bBs m n i h) ∧ (∀ x, x < 103 → Kp h (k_bBs m n i h) x) ∧ (k_bBs m n i h).1.length ≤ h.1.length + 5 * n ∧ (∀ p j m', (p = 36 ∨ p = 37 ∨ p = 38) → (p = 36 → ∀ j', i ≤ j' → j' < W → j ≠ j') → KM h p j m' → KM (k_bBs m n i h) p j m') ∧ ∀ j, i ≤ j → j < W → KM (k_bBs m n i h) 36 (j) (f j)
  | 0, i, h, C, hi, hs => ⟨C, fun x _ => ⟨rfl, rfl⟩, Nat.le_refl _, fun p j m' _ _ z => z, fun j h1 h2 => absurd h1 (by omega)⟩
  | n + 1, i, h, C, hi, hs => by
    unfold k_bBs
    obtain ⟨q, e, z⟩ := hs i (by omega)
    have hq := k_mA_lt (C.2.1.2.2.1.1 38 (16 * m + i) q (by omega) e).1
    rw [e]
    show rZ_C (k_bBs m n (i + 1) (k_save 36 (i) q h)) ∧ _
    have C1 := sv_C (j := i) (a := q) C (show 36 = 36 ∨ 36 = 37 ∨ 36 = 38 by omega)
    obtain ⟨g1, g2, g3, g4, g5⟩ := bBs_ok hm hW (f := f) n (i + 1) (k_save 36 (i) q h) C1 (by omega) (fun j hj => sv_old C.2.1 (by omega) (by omega) (Or.inl (by omega)) (hs j hj))
    refine ⟨g1, fun x hx => Kp_t (sv_26 C (by omega) hx) (g2 x hx), ?_, fun p j m' hp ho zz => ?_, fun j h1 h2 => ?_⟩
    · have := (k_save_len 36 (i) q h).1
      show (k_bBs m n (i + 1) (k_save 36 (i) q h)).1.length ≤ _
      omega
    · refine g4 p j m' hp (fun hp j' k1 k2 => ho hp j' (by omega) k2) (sv_old C.2.1 (by omega) hp ?_ zz)
      by_cases y : p = 36
      · exact Or.inr (ho y i (Nat.le_refl i) (by omega))
      · exact Or.inl y
    · by_cases y : j = i
      · subst y
        exact g4 36 (j) (f j) (by omega) (fun _ j' k1 k2 => by omega) (sv_new C.2.1 (by omega) hq z)
      · exact g5 j (by omega) h2
theorem kr20_s {u : Nat} (hu : 1300 ≤ u) (a b : Nat → Int32) {s : Nat} (hs : s + 77 ≤ 3930) : ∃ g, f_X11_keepsRow_20 u a b (nI s) (77 : Int32) (1 : Int32) = some (nI (s + 77), a, g) ∧ (∀ j, j < 77 → g (s + j) = a j) ∧ ∀ j, (j < s ∨ s + 77 ≤ j) → g j = b j := by
  have key : ∀ r k n g, k + r = 77 → r < n → (∀ j, j < k → g (s + j) = a j) → (∀ j, (j < s ∨ s + 77 ≤ j) → g j = b j) → ∃ g', bX11_keepsRow_20_3 u n a g (nI s) (77 : Int32) (1 : Int32) (nI k) = some (nI (s + 77), a, g') ∧ (∀ j, j < 77 → g' (s + j) = a j) ∧ ∀ j, (j < s ∨ s + 77 ≤ j) → g' j = b j := by
    intro r
    induction r with
    | zero =>
      intro k n g hk hn h1 h2
      obtain ⟨n, rfl⟩ := z_suc hn
      obtain rfl : k = 77 := by omega
      rw [bX11_keepsRow_20_3, if_pos (show (77 : Int32) ≤ nI 77 from nI_le (a := 77) (by omega) (by omega)), show nI s + (77 : Int32) = nI (s + 77) from nI_add s 77]
      exact ⟨g, rfl, h1, h2⟩
    | succ r ih =>
      intro k n g hk hn h1 h2
      obtain ⟨n, rfl⟩ := z_suc hn
      rw [bX11_keepsRow_20_3, if_neg (show ¬ (77 : Int32) ≤ nI k from nI_ge (b := 77) (by omega) (by omega)), if_neg (show ¬ (1 : Int32) = 0 by decide), nI_add, z_ki (show k < 77 by omega) (by omega), z_ki (show s + k < 3930 by omega) (by omega), z_cl (by omega), z_cl (by omega)]
      unfold bX11_keepsRow_20_43
      rw [show nI k + (1 : Int32) = nI (k + 1) from nI_1 k]
      refine ih (k + 1) n _ (by omega) (by omega) (fun j hj => ?_) (fun j hj => ?_)
      · simp only [z_upd]
        by_cases z : j = k
        · rw [z, if_pos rfl]
        · rw [if_neg (by omega)]; exact h1 j (by omega)
      · simp only [z_upd]
        rw [if_neg (by omega)]; exact h2 j hj
  exact key 77 0 u b (by omega) (by omega) (fun j hj => absurd hj (Nat.not_lt_zero j)) (fun j _ => rfl)
theorem kr20_l {u : Nat} (hu : 1300 ≤ u) (a b : Nat → Int32) {s : Nat} (hs : s + 77 ≤ 3930) : ∃ g, f_X11_keepsRow_20 u a b (nI s) (77 : Int32) (0 : Int32) = some (nI (s + 77), g, b) ∧ ∀ j, j < 77 → g j = b (s + j) := by
  have key : ∀ r k n g, k + r = 77 → r < n → (∀ j, j < k → g j = b (s + j)) → ∃ g', bX11_keepsRow_20_3 u n g b (nI s) (77 : Int32) (0 : Int32) (nI k) = some (nI (s + 77), g', b) ∧ ∀ j, j < 77 → g' j = b (s + j) := by
    intro r
    induction r with
    | zero =>
      intro k n g hk hn h1
      obtain ⟨n, rfl⟩ := z_suc hn
      obtain rfl : k = 77 := by omega
      rw [bX11_keepsRow_20_3, if_pos (show (77 : Int32) ≤ nI 77 from nI_le (a := 77) (by omega) (by omega)), show nI s + (77 : Int32) = nI (s + 77) from nI_add s 77]
      exact ⟨g, rfl, h1⟩
    | succ r ih =>
      intro k n g hk hn h1
      obtain ⟨n, rfl⟩ := z_suc hn
      rw [bX11_keepsRow_20_3, if_neg (show ¬ (77 : Int32) ≤ nI k from nI_ge (b := 77) (by omega) (by omega)), if_pos rfl, nI_add, z_ki (show s + k < 3930 by omega) (by omega), z_ki (show k < 77 by omega) (by omega), z_cl (by omega), z_cl (by omega)]
      unfold bX11_keepsRow_20_43
      rw [show nI k + (1 : Int32) = nI (k + 1) from nI_1 k]
      refine ih (k + 1) n _ (by omega) (by omega) (fun j hj => ?_)
      simp only [z_upd]
      by_cases z : j = k
      · rw [z, if_pos rfl]
      · rw [if_neg z]; exact h1 j (by omega)
  exact key 77 0 u a (by omega) (by omega) (fun j hj => absurd hj (Nat.not_lt_zero j))
theorem kr22_s {u : Nat} (hu : 1300 ≤ u) (a b : Nat → Int32) {s : Nat} (hs : s + 1232 ≤ 3930) : ∃ g, f_X11_keepsRow_22 u a b (nI s) (1232 : Int32) (1 : Int32) = some (nI (s + 1232), a, g) ∧ (∀ j, j < 1232 → g (s + j) = a j) ∧ ∀ j, (j < s ∨ s + 1232 ≤ j) → g j = b j := by
  have key : ∀ r k n g, k + r = 1232 → r < n → (∀ j, j < k → g (s + j) = a j) → (∀ j, (j < s ∨ s + 1232 ≤ j) → g j = b j) → ∃ g', bX11_keepsRow_22_3 u n a g (nI s) (1232 : Int32) (1 : Int32) (nI k) = some (nI (s + 1232), a, g') ∧ (∀ j, j < 1232 → g' (s + j) = a j) ∧ ∀ j, (j < s ∨ s + 1232 ≤ j) → g' j = b j := by
    intro r
    induction r with
    | zero =>
      intro k n g hk hn h1 h2
      obtain ⟨n, rfl⟩ := z_suc hn
      obtain rfl : k = 1232 := by omega
      rw [bX11_keepsRow_22_3, if_pos (show (1232 : Int32) ≤ nI 1232 from nI_le (a := 1232) (by omega) (by omega)), show nI s + (1232 : Int32) = nI (s + 1232) from nI_add s 1232]
      exact ⟨g, rfl, h1, h2⟩
    | succ r ih =>
      intro k n g hk hn h1 h2
      obtain ⟨n, rfl⟩ := z_suc hn
      rw [bX11_keepsRow_22_3, if_neg (show ¬ (1232 : Int32) ≤ nI k from nI_ge (b := 1232) (by omega) (by omega)), if_neg (show ¬ (1 : Int32) = 0 by decide), nI_add, z_ki (show k < 1232 by omega) (by omega), z_ki (show s + k < 3930 by omega) (by omega), z_cl (by omega), z_cl (by omega)]
      unfold bX11_keepsRow_22_43
      rw [show nI k + (1 : Int32) = nI (k + 1) from nI_1 k]
      refine ih (k + 1) n _ (by omega) (by omega) (fun j hj => ?_) (fun j hj => ?_)
      · simp only [z_upd]
        by_cases z : j = k
        · rw [z, if_pos rfl]
        · rw [if_neg (by omega)]; exact h1 j (by omega)
      · simp only [z_upd]
        rw [if_neg (by omega)]; exact h2 j hj
  exact key 1232 0 u b (by omega) (by omega) (fun j hj => absurd hj (Nat.not_lt_zero j)) (fun j _ => rfl)
theorem kr22_l {u : Nat} (hu : 1300 ≤ u) (a b : Nat → Int32) {s : Nat} (hs : s + 1232 ≤ 3930) : ∃ g, f_X11_keepsRow_22 u a b (nI s) (1232 : Int32) (0 : Int32) = some (nI (s + 1232), g, b) ∧ ∀ j, j < 1232 → g j = b (s + j) := by
  have key : ∀ r k n g, k + r = 1232 → r < n → (∀ j, j < k → g j = b (s + j)) → ∃ g', bX11_keepsRow_22_3 u n g b (nI s) (1232 : Int32) (0 : Int32) (nI k) = some (nI (s + 1232), g', b) ∧ ∀ j, j < 1232 → g' j = b (s + j) := by
    intro r
    induction r with
    | zero =>
      intro k n g hk hn h1
      obtain ⟨n, rfl⟩ := z_suc hn
      obtain rfl : k = 1232 := by omega
      rw [bX11_keepsRow_22_3, if_pos (show (1232 : Int32) ≤ nI 1232 from nI_le (a := 1232) (by omega) (by omega)), show nI s + (1232 : Int32) = nI (s + 1232) from nI_add s 1232]
      exact ⟨g, rfl, h1⟩
    | succ r ih =>
      intro k n g hk hn h1
      obtain ⟨n, rfl⟩ := z_suc hn
      rw [bX11_keepsRow_22_3, if_neg (show ¬ (1232 : Int32) ≤ nI k from nI_ge (b := 1232) (by omega) (by omega)), if_pos rfl, nI_add, z_ki (show s + k < 3930 by omega) (by omega), z_ki (show k < 1232 by omega) (by omega), z_cl (by omega), z_cl (by omega)]
      unfold bX11_keepsRow_22_43
      rw [show nI k + (1 : Int32) = nI (k + 1) from nI_1 k]
      refine ih (k + 1) n _ (by omega) (by omega) (fun j hj => ?_)
      simp only [z_upd]
      by_cases z : j = k
      · rw [z, if_pos rfl]
      · rw [if_neg z]; exact h1 j (by omega)
  exact key 1232 0 u a (by omega) (by omega) (fun j hj => absurd hj (Nat.not_lt_zero j))
theorem m_keep {u : Nat} (hu : 1300 ≤ u) {m : Nat} (hm : m < 3) (c42 : Int32) (a20 a22 a31 : Nat → Int32) : ∃ g, f_X11_keepsAll u c42 a20 a22 a31 (nI m) (1 : Int32) = some (c42, a20, a22, g) ∧ (∀ j, j < 77 → g (1310 * m + j) = a20 j) ∧ (∀ j, j < 1232 → g (1310 * m + 77 + j) = a22 j) ∧ g (1310 * m + 1309) = c42 ∧ ∀ j, j < 1310 * m → g j = a31 j := by
  obtain ⟨g, e1, h1, h2⟩ := kr20_s hu a20 a31 (s := 1310 * m) (by omega)
  obtain ⟨g', e2, h3, h4⟩ := kr22_s hu a22 g (s := 1310 * m + 77) (by omega)
  unfold f_X11_keepsAll bX11_keepsAll_0
  rw [show (1310 : Int32) * nI m = nI (1310 * m) from (Int32.ofNat_mul 1310 m).symm, e1, z_b]
  dsimp only
  rw [e2, z_b, if_neg (show ¬ (1 : Int32) = 0 by decide)]
  dsimp only
  rw [show 1310 * m + 77 + 1232 = 1310 * m + 1309 by omega, z_ki (show 1310 * m + 1309 < 3930 by omega) (by omega), z_cl (by omega)]
  refine ⟨_, rfl, fun j hj => ?_, fun j hj => ?_, ?_, fun j hj => ?_⟩
  · simp only [z_upd]
    rw [if_neg (by omega), h4 _ (by omega)]; exact h1 j hj
  · simp only [z_upd]
    rw [if_neg (by omega)]; exact h3 j hj
  · simp only [z_upd]
    rw [if_pos trivial]
  · simp only [z_upd]
    rw [if_neg (by omega), h4 _ (by omega)]; exact h2 j (by omega)
theorem m_bring {u : Nat} (hu : 1300 ≤ u) {m : Nat} (hm : m < 3) (c42 : Int32) (a20 a22 a31 : Nat → Int32) : ∃ g20 g22, f_X11_keepsAll u c42 a20 a22 a31 (nI m) (0 : Int32) = some (a31 (1310 * m + 1309), g20, g22, a31) ∧ (∀ j, j < 77 → g20 j = a31 (1310 * m + j)) ∧ ∀ j, j < 1232 → g22 j = a31 (1310 * m + 77 + j) := by
  obtain ⟨g, e1, h1⟩ := kr20_l hu a20 a31 (s := 1310 * m) (by omega)
  obtain ⟨g', e2, h3⟩ := kr22_l hu a22 a31 (s := 1310 * m + 77) (by omega)
  unfold f_X11_keepsAll bX11_keepsAll_0
  rw [show (1310 : Int32) * nI m = nI (1310 * m) from (Int32.ofNat_mul 1310 m).symm, e1, z_b]
  dsimp only
  rw [e2, z_b, if_pos rfl]
  dsimp only
  rw [show 1310 * m + 77 + 1232 = 1310 * m + 1309 by omega, z_ki (show 1310 * m + 1309 < 3930 by omega) (by omega), z_cl (by omega)]
  exact ⟨_, _, rfl, h1, h3⟩
theorem m_undo1 {u : Nat} (hu : 100 ≤ u) {W : Nat} (hW : W < 16) (c0 c43 : Int32) (a20 a22 : Nat → Int32) : ∃ g, f_X11_undo u c0 (nI (W + 1)) c43 a20 a22 = some (nI W, (0 : Int32), nI W, (0 : Int32), g) ∧ ∀ j, j < 77 → g j = a22 (77 * W + j) := by
  have key : ∀ r k n g, k + r = 77 → r < n → (∀ j, j < k → g j = a22 (77 * W + j)) → ∃ g', bX11_undo_26 u a22 n (0 : Int32) (nI W) c43 g (nI k) = some (nI W, (0 : Int32), nI W, (0 : Int32), g') ∧ ∀ j, j < 77 → g' j = a22 (77 * W + j) := by
    intro r
    induction r with
    | zero =>
      intro k n g hk hn h1
      obtain ⟨n, rfl⟩ := z_suc hn
      obtain rfl : k = 77 := by omega
      rw [bX11_undo_26, if_pos (show (77 : Int32) ≤ nI 77 by decide)]
      exact ⟨g, rfl, h1⟩
    | succ r ih =>
      intro k n g hk hn h1
      obtain ⟨n, rfl⟩ := z_suc hn
      rw [bX11_undo_26, if_neg (show ¬ (77 : Int32) ≤ nI k from nI_ge (b := 77) (by omega) (by omega)), show (77 : Int32) * nI W = nI (77 * W) from (Int32.ofNat_mul 77 W).symm, nI_add, z_ki (show 77 * W + k < 1232 by omega) (by omega), z_ki (show k < 77 by omega) (by omega), z_cl (by omega), z_cl (by omega), show nI k + (1 : Int32) = nI (k + 1) from nI_1 k]
      refine ih (k + 1) n _ (by omega) (by omega) (fun j hj => ?_)
      simp only [z_upd]
      by_cases z : j = k
      · rw [z, if_pos rfl]
      · rw [if_neg z]; exact h1 j (by omega)
  unfold f_X11_undo bX11_undo_0
  rw [if_neg (show ¬ nI (W + 1) = (0 : Int32) from fun e => by have := (nI_eq (b := 0) (by omega) (by omega)).mp e; omega), show nI (W + 1) - (1 : Int32) = nI W from z_sub (b := 1) (by omega)]
  exact key 77 0 u a20 (by omega) (by omega) (fun j hj => absurd hj (Nat.not_lt_zero j))
end KEP
