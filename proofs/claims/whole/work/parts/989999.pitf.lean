/-! PIT: the call -/
section PTF
variable {u : Nat} {S : aT} {h : k_H}
theorem put_ {k : Nat} (hk : k < 150) (A : Nat → Int32) (v : Int32) : f_X1_put u (nI k) A v = some (nI (k + 1), upd A k v) := by
  unfold f_X1_put bX1_put_0
  rw [if_neg (show ¬ (150 : Int32) ≤ nI k from nI_ge (b := 150) hk (by omega)), z_ki hk (by omega), z_cl (by omega), show nI k + (1 : Int32) = nI (k + 1) from nI_1 k]
def lwF (fa : Nat → Int32) : Int32 := fa 0 - nI 2
def lwH (fa : Nat → Int32) : Int32 := fa 6
def qF (k : Nat) : Nat := match k with | 0 => 1 | 1 => 0 | _ => 3
def oF (k : Nat) : Nat := match k with | 0 => 0 | 1 => 2 | _ => 0
theorem x_beFall (c : Int32) (A : Nat → Int32) : ∃ B, f_X1_beFall u c A = some (nI 3, B) ∧ lawX (nI 3) B lwF := by
  unfold f_X1_beFall bX1_beFall_0
  rw [show f_X1_put u (0 : Int32) A (-1 : Int32) = _ from put_ (k := 0) (by omega) A _, z_b, show f_X1_put u (nI (0 + 1), upd A 0 (-1 : Int32)).1 (nI (0 + 1), upd A 0 (-1 : Int32)).2 (2 : Int32) = _ from put_ (k := 1) (by omega) _ _, z_b, show f_X1_put u (nI (1 + 1), upd (upd A 0 (-1 : Int32)) 1 (2 : Int32)).1 (nI (1 + 1), upd (upd A 0 (-1 : Int32)) 1 (2 : Int32)).2 (-12 : Int32) = _ from put_ (k := 2) (by omega) _ _, z_b]
  refine ⟨_, rfl, qF, oF, 3, by omega, ⟨by omega, by decide⟩, rfl, fun k hk => ?_, fun fa => rfl⟩
  rcases (show k = 0 ∨ k = 1 ∨ k = 2 by omega) with rfl | rfl | rfl <;> rfl
theorem x_beHarm (c : Int32) (A : Nat → Int32) : ∃ B, f_X1_beHarm u c A = some (nI 1, B) ∧ lawX (nI 1) B lwH := by
  unfold f_X1_beHarm bX1_beHarm_0
  rw [show f_X1_put u (0 : Int32) A (-7 : Int32) = _ from put_ (k := 0) (by omega) A _, z_b]
  refine ⟨_, rfl, fun _ => 1, fun _ => 6, 1, by omega, ⟨by omega, by decide⟩, rfl, fun k hk => ?_, fun fa => rfl⟩
  obtain rfl : k = 0 := by omega
  rfl
theorem m_clears (hu : 100 ≤ u) (c18 c19 c20 c21 c22 c23 c24 : Int32) (a3 a4 a5 : Nat → Int32) : ∃ g3 g4 g5, f_X11_clears u c18 c19 c20 c21 c22 c23 c24 a3 a4 a5 = some ((6 : Int32), (4 : Int32), (0 : Int32), (0 : Int32), (4 : Int32), (5 : Int32), (0 : Int32), g3, g4, g5) ∧ (∀ j, j < 48 → g3 j = 0 ∧ g4 j = 0) ∧ ∀ j, j < 5 → g5 j = 1 := by
  have k66 : ∀ g3 g4 : Nat → Int32, ∀ r k n g5, k + r = 5 → r < n → (∀ j, j < k → g5 j = 1) → ∃ g', bX11_clears_66 u n (6 : Int32) (4 : Int32) (0 : Int32) (0 : Int32) (4 : Int32) (5 : Int32) (0 : Int32) g3 g4 g5 (nI k) = some ((6 : Int32), (4 : Int32), (0 : Int32), (0 : Int32), (4 : Int32), (5 : Int32), (0 : Int32), g3, g4, g') ∧ ∀ j, j < 5 → g' j = 1 := by
    intro g3 g4 r
    induction r with
    | zero =>
      intro k n g5 hk hn hg
      obtain ⟨n, rfl⟩ := z_suc hn
      obtain rfl : k = 5 := by omega
      rw [bX11_clears_66, if_pos (show (5 : Int32) ≤ nI 5 by decide)]
      exact ⟨g5, rfl, hg⟩
    | succ r ih =>
      intro k n g5 hk hn hg
      obtain ⟨n, rfl⟩ := z_suc hn
      rw [bX11_clears_66, if_neg (show ¬ (5 : Int32) ≤ nI k from nI_ge (b := 5) (by omega) (by omega)), z_ki (by omega) (by omega), z_cl (by omega), show nI k + (1 : Int32) = nI (k + 1) from nI_1 k]
      refine ih (k + 1) n _ (by omega) (by omega) (fun j hj => ?_)
      simp only [z_upd]
      by_cases z : j = k
      · rw [if_pos z]
      · rw [if_neg z]; exact hg j (by omega)
  have k38 : ∀ r k n g3 g4, k + r = 48 → r < n → (∀ j, j < k → g3 j = 0 ∧ g4 j = 0) → ∃ h3 h4, bX11_clears_38 u n (6 : Int32) (4 : Int32) (0 : Int32) (0 : Int32) (4 : Int32) (5 : Int32) (0 : Int32) g3 g4 a5 (nI k) = bX11_clears_66 u u (6 : Int32) (4 : Int32) (0 : Int32) (0 : Int32) (4 : Int32) (5 : Int32) (0 : Int32) h3 h4 a5 (0 : Int32) ∧ ∀ j, j < 48 → h3 j = 0 ∧ h4 j = 0 := by
    intro r
    induction r with
    | zero =>
      intro k n g3 g4 hk hn hg
      obtain ⟨n, rfl⟩ := z_suc hn
      obtain rfl : k = 48 := by omega
      rw [bX11_clears_38, if_pos (show (48 : Int32) ≤ nI 48 by decide)]
      exact ⟨g3, g4, rfl, hg⟩
    | succ r ih =>
      intro k n g3 g4 hk hn hg
      obtain ⟨n, rfl⟩ := z_suc hn
      rw [bX11_clears_38, if_neg (show ¬ (48 : Int32) ≤ nI k from nI_ge (b := 48) (by omega) (by omega)), z_ki (by omega) (by omega), z_ki (by omega) (by omega), z_cl (by omega), show nI k + (1 : Int32) = nI (k + 1) from nI_1 k]
      refine ih (k + 1) n _ _ (by omega) (by omega) (fun j hj => ?_)
      simp only [z_upd]
      by_cases z : j = k
      · rw [if_pos z, if_pos z]; exact ⟨rfl, rfl⟩
      · rw [if_neg z, if_neg z]; exact hg j (by omega)
  obtain ⟨h3, h4, e1, g1⟩ := k38 48 0 u a3 a4 (by omega) (by omega) (fun j hj => absurd hj (Nat.not_lt_zero j))
  obtain ⟨h5, e2, g2⟩ := k66 h3 h4 5 0 u a5 (by omega) (by omega) (fun j hj => absurd hj (Nat.not_lt_zero j))
  exact ⟨h3, h4, h5, (show f_X11_clears u c18 c19 c20 c21 c22 c23 c24 a3 a4 a5 = _ from e1).trans e2, g1, g2⟩
theorem x_allB (hu : 100 ≤ u) {a : Nat → Int32} {f : Nat → Nat} (ha : ∀ c, c < 48 → a c = nI (f c)) : f_X5_allBars u a = some (nI (nsm f 48)) := by
  have key : ∀ r k n, k + r = 48 → r < n → bX5_allBars_4 u a n (nI (nsm f k)) (nI k) = some (nI (nsm f 48)) := by
    intro r
    induction r with
    | zero =>
      intro k n hk hn
      obtain ⟨n, rfl⟩ := z_suc hn
      obtain rfl : k = 48 := by omega
      rw [bX5_allBars_4, if_pos (show (48 : Int32) ≤ nI 48 by decide)]
    | succ r ih =>
      intro k n hk hn
      obtain ⟨n, rfl⟩ := z_suc hn
      rw [bX5_allBars_4, if_neg (show ¬ (48 : Int32) ≤ nI k from nI_ge (b := 48) (by omega) (by omega)), z_ki (by omega) (by omega), z_cl (by omega), ha k (by omega), nI_add, show nI k + (1 : Int32) = nI (k + 1) from nI_1 k]
      exact ih (k + 1) n (by omega) (by omega)
  exact key 48 0 u (by omega) (by omega)
theorem m_sets (hu : 200 ≤ u) (c18 c19 c20 c22 c23 c24 c25 c26 c27 c28 c29 c30 c42 c43 c54 c65 : Int32) (a3 a4 a5 a6 a7 a8 a9 a10 a15 a20 : Nat → Int32) {f : Nat → Nat} (ha : ∀ c, c < 48 → a4 c = nI (f c)) : ∃ g7 g8 g9 g10 g, f_X11_sets u c18 c19 c20 c22 c23 c24 c25 c26 c27 c28 c29 c30 c42 c43 c54 c65 a3 a4 a5 a6 a7 a8 a9 a10 a15 a20 = some (nI (nsm f 48), c18, c19, c20, c22, c23, c24, (0 : Int32), (0 : Int32), (0 : Int32), (0 : Int32), g7, g8, g9, g10, upd (upd a15 0 (0 : Int32)) 1 (0 : Int32), upd (upd (upd g 69 (1 : Int32)) 71 c23) 74 c19) ∧ (∀ j, j < 48 → g7 j = a3 j ∧ g8 j = a4 j) ∧ (∀ j, j < 5 → g9 j = a5 j) ∧ (∀ j, j < 60 → g10 j = a6 j) ∧ ∀ j, j < 77 → g j = 0 := by
  obtain ⟨g7, e7, h7, -⟩ := cp_3_7 (u := u) hu a3 a7 (m := 48) (by omega)
  obtain ⟨g8, e8, h8, -⟩ := cp_4_8 (u := u) hu a4 a8 (m := 48) (by omega)
  obtain ⟨g9, e9, h9, -⟩ := cp_5_9 (u := u) hu a5 a9 (m := 5) (by omega)
  obtain ⟨g10, e10, h10, -⟩ := cp_6_10 (u := u) hu a6 a10 (m := 60) (by omega)
  have k192 : ∀ r k n g, k + r = 48 → r < n → bX11_sets_192 u c18 c19 c20 c22 c23 c24 a3 a4 a5 a6 n c18 c19 c20 c22 c23 c24 (0 : Int32) (0 : Int32) (0 : Int32) (0 : Int32) g7 g8 g9 g10 (upd (upd a15 0 (0 : Int32)) 1 (0 : Int32)) g (nI (nsm f k)) (nI k) = some (nI (nsm f 48), c18, c19, c20, c22, c23, c24, (0 : Int32), (0 : Int32), (0 : Int32), (0 : Int32), g7, g8, g9, g10, upd (upd a15 0 (0 : Int32)) 1 (0 : Int32), g) := by
    intro r
    induction r with
    | zero =>
      intro k n g hk hn
      obtain ⟨n, rfl⟩ := z_suc hn
      obtain rfl : k = 48 := by omega
      rw [bX11_sets_192, if_pos (show (48 : Int32) ≤ nI 48 by decide)]
    | succ r ih =>
      intro k n g hk hn
      obtain ⟨n, rfl⟩ := z_suc hn
      rw [bX11_sets_192, if_neg (show ¬ (48 : Int32) ≤ nI k from nI_ge (b := 48) (by omega) (by omega)), z_ki (by omega) (by omega), z_cl (by omega), h8 k (by omega), ha k (by omega), nI_add, show nI k + (1 : Int32) = nI (k + 1) from nI_1 k]
      exact ih (k + 1) n g (by omega) (by omega)
  have k139 : ∀ r k n g, k + r = 77 → r < n → (∀ j, j < k → g j = 0) → ∃ g', bX11_sets_139 u c18 c19 c20 c22 c23 c24 a3 a4 a5 a6 n c18 c19 c20 c22 c23 c24 (0 : Int32) (0 : Int32) (0 : Int32) (0 : Int32) g7 g8 g9 g10 (upd (upd a15 0 (0 : Int32)) 1 (0 : Int32)) g (nI k) = bX11_sets_192 u c18 c19 c20 c22 c23 c24 a3 a4 a5 a6 u c18 c19 c20 c22 c23 c24 (0 : Int32) (0 : Int32) (0 : Int32) (0 : Int32) g7 g8 g9 g10 (upd (upd a15 0 (0 : Int32)) 1 (0 : Int32)) (upd (upd (upd g' 69 (1 : Int32)) 71 c23) 74 c19) (0 : Int32) (0 : Int32) ∧ ∀ j, j < 77 → g' j = 0 := by
    intro r
    induction r with
    | zero =>
      intro k n g hk hn hg
      obtain ⟨n, rfl⟩ := z_suc hn
      obtain rfl : k = 77 := by omega
      rw [bX11_sets_139, if_pos (show (77 : Int32) ≤ nI 77 by decide)]
      exact ⟨g, rfl, hg⟩
    | succ r ih =>
      intro k n g hk hn hg
      obtain ⟨n, rfl⟩ := z_suc hn
      rw [bX11_sets_139, if_neg (show ¬ (77 : Int32) ≤ nI k from nI_ge (b := 77) (by omega) (by omega)), z_ki (by omega) (by omega), z_cl (by omega), show nI k + (1 : Int32) = nI (k + 1) from nI_1 k]
      refine ih (k + 1) n _ (by omega) (by omega) (fun j hj => ?_)
      simp only [z_upd]
      by_cases z : j = k
      · rw [if_pos z]
      · rw [if_neg z]; exact hg j (by omega)
  obtain ⟨g, e, hg⟩ := k139 77 0 u a20 (by omega) (by omega) (fun j hj => absurd hj (Nat.not_lt_zero j))
  refine ⟨g7, g8, g9, g10, g, ?_, fun j hj => ⟨h7 j hj, h8 j hj⟩, h9, h10, hg⟩
  unfold f_X11_sets bX11_sets_0
  rw [show f_X11_copies_3_7 u a3 a7 (48 : Int32) = _ from e7, z_b, show f_X11_copies_4_8 u a4 a8 (48 : Int32) = _ from e8, z_b, show f_X11_copies_5_9 u a5 a9 (5 : Int32) = _ from e9, z_b, show f_X11_copies_6_10 u a6 a10 (60 : Int32) = _ from e10, z_b]
  exact e.trans (k192 48 0 u _ (by omega) (by omega))
theorem x_begin (hu : 200 ≤ u) (c10 c11 c12 c13 c14 c15 c16 c17 : Int32) (c3 c4 c5 : Int64) (a1 a2 a3 a4 : Nat → Int32) (hei sto : Int32) : ∃ g1 g2 g3 g4, f_X3_begin u c10 c11 c12 c13 c14 c15 c16 c17 c3 c4 c5 a1 a2 a3 a4 hei sto = some ((1 : Int32), (0 : Int32), sto, (0 : Int32), (0 : Int32), hei, (0 : Int32), (0 : Int32), (0 : Int64), (0 : Int64), (0 : Int64), g1, g2, g3, g4) ∧ ∀ j, j < 6 → g1 j = 0 ∧ g2 j = 0 ∧ g3 j = 0 ∧ g4 j = 0 := by
  obtain ⟨g1, e1, h1, -⟩ := fill_ (u := u) hu a1 (ln := 6) (by omega) 0
  obtain ⟨g2, e2, h2, -⟩ := fill_ (u := u) hu a2 (ln := 6) (by omega) 0
  obtain ⟨g3, e3, h3, -⟩ := fill_ (u := u) hu a3 (ln := 6) (by omega) 0
  obtain ⟨g4, e4, h4, -⟩ := fill_ (u := u) hu a4 (ln := 6) (by omega) 0
  refine ⟨g1, g2, g3, g4, ?_, fun j hj => ⟨h1 j hj, h2 j hj, h3 j hj, h4 j hj⟩⟩
  unfold f_X3_begin bX3_begin_0
  rw [e1, z_b, e2, z_b, e3, z_b, e4, z_b]
def m0 (p : aP) : aM := (fun _ => 0, fun _ => 0, 1, 0, pSt p, pH p, 0, 0, 0, 0, fun _ => 0, fun _ => 0, fun _ => 0)
theorem m0_ok {p : aP} (P : pOK p) : mOK p (m0 p) := by
  refine ⟨⟨fun c hc => by show 0 ≤ 3; omega, fun c hc _ => rfl⟩, fun k hk => Nat.zero_le _, ⟨Nat.le_refl 1, by show 1 ≤ 200; omega⟩, Nat.zero_le _, P.2.2.2.1, Nat.le_refl _, fun i hi => ⟨0, by omega, rfl, ?_⟩⟩
  have := (P.2.2.2.2.1.2.1 i hi).1
  show pT p i < 1 ↔ ¬ 0 = 0
  constructor
  · intro w; omega
  · intro w; exact absurd rfl w
theorem m0_X (p : aP) {g1 g2 g3 g4 : Nat → Int32} (hg : ∀ j, j < 6 → g1 j = 0 ∧ g2 j = 0 ∧ g3 j = 0 ∧ g4 j = 0) : xMine (m0 p) (1 : Int32) (0 : Int32) (nI (pSt p)) (0 : Int32) (0 : Int32) (nI (pH p)) (0 : Int32) (0 : Int32) (0 : Int64) (0 : Int64) (0 : Int64) g1 g2 g3 g4 := by
  have l0 : ∀ q : Nat → Bool, (∀ c, q c = false) → lS 0 q := fun q hq => lS_cong lS_0 (fun k _ => (hq k).symm)
  exact ⟨⟨l0 _ (fun _ => rfl), l0 _ (fun _ => rfl), l0 _ (fun _ => rfl)⟩, fun k hk => (hg k (by omega)).1, rfl, rfl, rfl, rfl, rfl, rfl, rfl, rfl, fun k hk => (hg k (by omega)).2.1, fun k hk => (hg k (by omega)).2.2.1, fun k hk => (hg k hk).2.2.2⟩
theorem m0_M (p : aP) {g : Nat → Int32} (hg : ∀ j, j < 77 → g j = 0) : mMine (m0 p) (upd (upd (upd g 69 (1 : Int32)) 71 (nI (pSt p))) 74 (nI (pH p))) := by
  have e : ∀ j, j < 77 → j ≠ 69 → j ≠ 71 → j ≠ 74 → upd (upd (upd g 69 (1 : Int32)) 71 (nI (pSt p))) 74 (nI (pH p)) j = 0 := by
    intro j hj h1 h2 h3
    simp only [z_upd]
    rw [if_neg h3, if_neg h2, if_neg h1]
    exact hg j hj
  exact ⟨fun c hc => e c (by omega) (by omega) (by omega) (by omega), fun k hk => e _ (by omega) (by omega) (by omega) (by omega), rfl, e 70 (by omega) (by omega) (by omega) (by omega), rfl, rfl, e 72 (by omega) (by omega) (by omega) (by omega), e 73 (by omega) (by omega) (by omega) (by omega), e 75 (by omega) (by omega) (by omega) (by omega), e 76 (by omega) (by omega) (by omega) (by omega), fun k hk => e _ (by omega) (by omega) (by omega) (by omega), fun k hk => e _ (by omega) (by omega) (by omega) (by omega), fun i hi => e _ (by omega) (by omega) (by omega) (by omega)⟩
def p0 : aP := (6, 4, 0, 4, 5, fun _ => 0, fun _ => 0, fun _ => 1, fun _ => 0, fun _ => 0, fun _ _ => 0, fun _ => false)
theorem p0_ok : pOK p0 := by
  refine ⟨by decide, by decide, by decide, by decide, ⟨by decide, fun i hi => absurd hi (Nat.not_lt_zero i), fun i j hi => absurd hi (Nat.not_lt_zero i)⟩, fun c hc => ⟨by show 0 ≤ 5; omega, by show 0 ≤ 9; omega, fun w => absurd w (Nat.lt_irrefl 0), fun _ => ⟨rfl, rfl⟩⟩, fun k hk => by show 1 ≤ 99; omega⟩
theorem sh_0 : shA 0 (fun _ => false) := by
  have e : ∀ x, x < 8 → ((0 : Int32) >>> (nI x &&& nI 31)) &&& nI 1 = zB false := by decide
  exact e
end PTF
