/-! WAYS: layers, and relaxing -/
section WAY
theorem fa_first_min {p : Nat → Bool} {n k : Nat} (hk : k < n) (h : p k = true) : fa_first p n ≤ k := by
  apply Nat.le_of_not_lt
  intro z
  have := fa_first_no p n k z
  rw [h] at this
  exact absurd this (by decide)
def adj (c d : Nat) : Prop := (d + 1 = c ∧ 0 < c % 8) ∨ (c + 1 = d ∧ c % 8 < 7) ∨ d + 8 = c ∨ c + 8 = d
theorem bsd_adj {p : Nat → Bool} {c : Nat} (hc : c < 48) : bsd p c = true ↔ ∃ d, d < 48 ∧ adj c d ∧ p d = true := by
  unfold bsd adj
  simp only [Bool.or_eq_true, Bool.and_eq_true, decide_eq_true_eq]
  constructor
  · rintro (⟨h1, h2⟩ | ⟨h1, h2⟩ | ⟨h1, h2⟩ | ⟨h1, h2⟩)
    · exact ⟨c - 1, by omega, Or.inl ⟨by omega, h1⟩, h2⟩
    · exact ⟨c + 1, by omega, Or.inr (Or.inl ⟨rfl, h1⟩), h2⟩
    · exact ⟨c - 8, by omega, Or.inr (Or.inr (Or.inl (by omega))), h2⟩
    · exact ⟨c + 8, by omega, Or.inr (Or.inr (Or.inr rfl)), h2⟩
  · rintro ⟨d, hd, (⟨h1, h2⟩ | ⟨h1, h2⟩ | h1 | h1), h3⟩
    · left; rw [show c - 1 = d by omega]; exact ⟨h2, h3⟩
    · right; left; rw [h1]; exact ⟨h2, h3⟩
    · right; right; left; rw [show c - 8 = d by omega]; exact ⟨by omega, h3⟩
    · right; right; right; rw [h1]; exact ⟨by omega, h3⟩
/-- the most among those beside, in the class's order -/
def mx4 (p : Nat → Bool) (w : Nat → Nat) (c : Nat) : Nat :=
  max (max (max (if 8 ≤ c ∧ p (c - 8) = true then w (c - 8) else 0) (if 0 < c % 8 ∧ p (c - 1) = true then w (c - 1) else 0)) (if c % 8 < 7 ∧ p (c + 1) = true then w (c + 1) else 0)) (if c < 40 ∧ p (c + 8) = true then w (c + 8) else 0)
theorem mx4_ge {p : Nat → Bool} {w : Nat → Nat} {c d : Nat} (hd : d < 48) (h : adj c d) (hp : p d = true) : w d ≤ mx4 p w c := by
  unfold mx4
  rcases h with ⟨h1, h2⟩ | ⟨h1, h2⟩ | h1 | h1
  · have e : c - 1 = d := by omega
    rw [e, if_pos (show 0 < c % 8 ∧ p d = true from ⟨h2, hp⟩)]
    omega
  · rw [h1, if_pos (show c % 8 < 7 ∧ p d = true from ⟨h2, hp⟩)]
    omega
  · have e : c - 8 = d := by omega
    rw [e, if_pos (show 8 ≤ c ∧ p d = true from ⟨by omega, hp⟩)]
    omega
  · rw [h1, if_pos (show c < 40 ∧ p d = true from ⟨by omega, hp⟩)]
    omega
theorem mx4_at {p : Nat → Bool} {w : Nat → Nat} {c : Nat} (hc : c < 48) (h : ∃ d, d < 48 ∧ adj c d ∧ p d = true) : ∃ d, d < 48 ∧ adj c d ∧ p d = true ∧ mx4 p w c = w d := by
  by_cases z : mx4 p w c = 0
  · obtain ⟨d, h1, h2, h3⟩ := h
    have := mx4_ge (w := w) h1 h2 h3
    exact ⟨d, h1, h2, h3, by omega⟩
  · have key : ∃ d, d < 48 ∧ adj c d ∧ p d = true ∧ mx4 p w c ≤ w d := by
      have hx : ∀ a b : Nat, max a b ≤ a ∨ max a b ≤ b := fun a b => by omega
      have t : ∀ (q : Prop) [Decidable q] (v : Nat), 0 < (if q then v else 0) → q ∧ (if q then v else 0) = v := by
        intro q _ v hv
        by_cases y : q
        · exact ⟨y, if_pos y⟩
        · rw [if_neg y] at hv; omega
      have hz : 0 < mx4 p w c := by omega
      unfold mx4 at hz ⊢
      rcases hx (max (max (if 8 ≤ c ∧ p (c - 8) = true then w (c - 8) else 0) (if 0 < c % 8 ∧ p (c - 1) = true then w (c - 1) else 0)) (if c % 8 < 7 ∧ p (c + 1) = true then w (c + 1) else 0)) (if c < 40 ∧ p (c + 8) = true then w (c + 8) else 0) with h1 | h1
      · rcases hx (max (if 8 ≤ c ∧ p (c - 8) = true then w (c - 8) else 0) (if 0 < c % 8 ∧ p (c - 1) = true then w (c - 1) else 0)) (if c % 8 < 7 ∧ p (c + 1) = true then w (c + 1) else 0) with h2 | h2
        · rcases hx (if 8 ≤ c ∧ p (c - 8) = true then w (c - 8) else 0) (if 0 < c % 8 ∧ p (c - 1) = true then w (c - 1) else 0) with h3 | h3
          · obtain ⟨⟨q1, q2⟩, q3⟩ := t _ _ (show 0 < (if 8 ≤ c ∧ p (c - 8) = true then w (c - 8) else 0) by omega)
            exact ⟨c - 8, by omega, Or.inr (Or.inr (Or.inl (by omega))), q2, by omega⟩
          · obtain ⟨⟨q1, q2⟩, q3⟩ := t _ _ (show 0 < (if 0 < c % 8 ∧ p (c - 1) = true then w (c - 1) else 0) by omega)
            exact ⟨c - 1, by omega, Or.inl ⟨by omega, q1⟩, q2, by omega⟩
        · obtain ⟨⟨q1, q2⟩, q3⟩ := t _ _ (show 0 < (if c % 8 < 7 ∧ p (c + 1) = true then w (c + 1) else 0) by omega)
          exact ⟨c + 1, by omega, Or.inr (Or.inl ⟨rfl, q1⟩), q2, by omega⟩
      · obtain ⟨⟨q1, q2⟩, q3⟩ := t _ _ (show 0 < (if c < 40 ∧ p (c + 8) = true then w (c + 8) else 0) by omega)
        exact ⟨c + 8, by omega, Or.inr (Or.inr (Or.inr rfl)), q2, by omega⟩
    obtain ⟨d, h1, h2, h3, h4⟩ := key
    exact ⟨d, h1, h2, h3, Nat.le_antisymm h4 (mx4_ge h1 h2 h3)⟩
variable (F F1 : Nat → Bool) (B : Nat → Nat)
/-- a layer, and what was seen with it -/
def wf : Nat → (Nat → Bool) × (Nat → Bool)
  | 0 => (F1, F1)
  | k + 1 => ((fun c => (bsd (wf k).1 c && F c) && !(wf k).2 c), fun c => (wf k).2 c || ((bsd (wf k).1 c && F c) && !(wf k).2 c))
def lyW (k : Nat) : Nat → Bool := (wf F F1 k).1
def snW (k : Nat) : Nat → Bool := (wf F F1 k).2
/-- the most bars on a way of as many cells -/
def wvW : Nat → Nat → Nat
  | 0, c => B c
  | k + 1, c => mx4 (lyW F F1 k) (wvW k) c + B c
theorem ly_s (k c : Nat) : lyW F F1 (k + 1) c = ((bsd (lyW F F1 k) c && F c) && !snW F F1 k c) := rfl
theorem sn_s (k c : Nat) : snW F F1 (k + 1) c = (snW F F1 k c || lyW F F1 (k + 1) c) := rfl
theorem ly_sn : ∀ k c, lyW F F1 k c = true → snW F F1 k c = true
  | 0, _, h => h
  | k + 1, c, h => by rw [sn_s, h, Bool.or_true]
theorem sn_mono (k c : Nat) (h : snW F F1 k c = true) : ∀ r, snW F F1 (k + r) c = true
  | 0 => h
  | r + 1 => by
    show snW F F1 (k + r + 1) c = true
    rw [sn_s, sn_mono k c h r, Bool.true_or]
theorem sn_ly : ∀ k c, snW F F1 k c = true → ∃ j, j ≤ k ∧ lyW F F1 j c = true
  | 0, c, h => ⟨0, Nat.le_refl _, h⟩
  | k + 1, c, h => by
    rw [sn_s, Bool.or_eq_true] at h
    rcases h with h | h
    · obtain ⟨j, h1, h2⟩ := sn_ly k c h
      exact ⟨j, by omega, h2⟩
    · exact ⟨k + 1, Nat.le_refl _, h⟩
theorem ly_one {j k c : Nat} (h1 : lyW F F1 j c = true) (h2 : lyW F F1 k c = true) : j = k := by
  have key : ∀ j k, j < k → lyW F F1 j c = true → lyW F F1 k c = true → False := by
    intro j k hjk a b
    obtain ⟨k, rfl⟩ : ∃ i, k = i + 1 := ⟨k - 1, by omega⟩
    have := sn_mono F F1 j c (ly_sn F F1 j c a) (k - j)
    rw [show j + (k - j) = k by omega] at this
    rw [ly_s, this] at b
    simp at b
  by_cases z : j = k
  · exact z
  · exfalso
    by_cases y : j < k
    · exact key j k y h1 h2
    · exact key k j (by omega) h2 h1
theorem ly_F (hF : ∀ c, F1 c = true → F c = true) : ∀ k c, lyW F F1 k c = true → F c = true
  | 0, c, h => hF c h
  | k + 1, c, h => by
    rw [ly_s, Bool.and_eq_true, Bool.and_eq_true] at h
    exact h.1.2
theorem ly_no {k : Nat} (h : ∀ c, c < 48 → lyW F F1 k c = false) : ∀ r c, c < 48 → lyW F F1 (k + r) c = false
  | 0, c, hc => h c hc
  | r + 1, c, hc => by
    show lyW F F1 (k + r + 1) c = false
    rw [ly_s]
    have : bsd (lyW F F1 (k + r)) c = false := by
      cases hb : bsd (lyW F F1 (k + r)) c with
      | false => rfl
      | true =>
        obtain ⟨d, h1, h2, h3⟩ := (bsd_adj hc).mp hb
        rw [ly_no h r d h1] at h3
        exact absurd h3 (by decide)
    rw [this]; rfl
theorem cntB_lt {p q : Nat → Bool} (h : ∀ c, p c = true → q c = true) : ∀ n, cntB p n ≤ cntB q n ∧ ((∃ c, c < n ∧ q c = true ∧ p c = false) → cntB p n < cntB q n)
  | 0 => ⟨Nat.le_refl _, fun ⟨c, hc, _⟩ => absurd hc (Nat.not_lt_zero c)⟩
  | n + 1 => by
    obtain ⟨h1, h2⟩ := cntB_lt h n
    have e1 : cntB p (n + 1) = cntB p n + (if p n then 1 else 0) := rfl
    have e2 : cntB q (n + 1) = cntB q n + (if q n then 1 else 0) := rfl
    have hn : (if p n = true then 1 else 0) ≤ (if q n = true then 1 else 0) := by
      by_cases z : p n = true
      · rw [if_pos z, if_pos (h n z)]; omega
      · rw [if_neg z]; omega
    refine ⟨by omega, ?_⟩
    rintro ⟨c, hc, hq, hp⟩
    by_cases z : c = n
    · subst z
      rw [e1, e2, hq, hp]
      simp
      omega
    · have := h2 ⟨c, by omega, hq, hp⟩
      omega
theorem ly_48 (hF : ∀ c, F1 c = true → F c = true) {k c : Nat} (hc : c < 48) (h : lyW F F1 k c = true) : k < 48 := by
  have key : ∀ k, (∃ c, c < 48 ∧ lyW F F1 k c = true) → k + 1 ≤ cntB (snW F F1 k) 48 := by
    intro k
    induction k with
    | zero =>
      rintro ⟨c, hc, h⟩
      have := (cntB_lt (p := fun _ => false) (q := snW F F1 0) (fun c w => absurd w (by decide)) 48).2 ⟨c, hc, h, rfl⟩
      omega
    | succ k ih =>
      rintro ⟨c, hc, h⟩
      have hb : bsd (lyW F F1 k) c = true := by
        rw [ly_s, Bool.and_eq_true, Bool.and_eq_true] at h
        exact h.1.1
      have hns : snW F F1 k c = false := by
        rw [ly_s, Bool.and_eq_true] at h
        cases z : snW F F1 k c with
        | false => rfl
        | true => rw [z] at h; exact absurd h.2 (by decide)
      obtain ⟨d, h1, h2, h3⟩ := (bsd_adj hc).mp hb
      have := ih ⟨d, h1, h3⟩
      have := (cntB_lt (p := snW F F1 k) (q := snW F F1 (k + 1)) (fun c w => by rw [sn_s, w, Bool.true_or]) 48).2 ⟨c, hc, ly_sn F F1 _ c h, hns⟩
      omega
  have h1 := key k ⟨c, hc, h⟩
  have h2 := cntB_le (snW F F1 k) 48
  omega
/-- how many cells, and the most bars -/
def fkW (c : Nat) : Nat := fa_first (fun k => lyW F F1 k c) 48
def stW (c : Nat) : Nat := if fkW F F1 c < 48 then fkW F F1 c + 1 else 1000
def msW (c : Nat) : Nat := wvW F F1 B (fkW F F1 c) c
theorem fk_of (hF : ∀ c, F1 c = true → F c = true) {k c : Nat} (hc : c < 48) (h : lyW F F1 k c = true) : fkW F F1 c = k := by
  have hk := ly_48 F F1 hF hc h
  have h1 : fkW F F1 c ≤ k := fa_first_min (p := fun k => lyW F F1 k c) hk h
  have h2 : lyW F F1 (fkW F F1 c) c = true := fa_first_yes (fun k => lyW F F1 k c) 48 (by show fkW F F1 c < 48; omega)
  exact ly_one F F1 h2 h
theorem st_of (hF : ∀ c, F1 c = true → F c = true) {k c : Nat} (hc : c < 48) (h : lyW F F1 k c = true) : stW F F1 c = k + 1 := by
  have hk := ly_48 F F1 hF hc h
  unfold stW
  rw [fk_of F F1 hF hc h, if_pos hk]
theorem ly_of {c : Nat} (h : stW F F1 c < 1000) : lyW F F1 (fkW F F1 c) c = true ∧ stW F F1 c = fkW F F1 c + 1 := by
  unfold stW at h ⊢
  by_cases z : fkW F F1 c < 48
  · rw [if_pos z]
    exact ⟨fa_first_yes (fun k => lyW F F1 k c) 48 z, rfl⟩
  · rw [if_neg z] at h; omega
theorem st_le (c : Nat) : stW F F1 c ≤ 48 ∨ stW F F1 c = 1000 := by
  unfold stW
  by_cases z : fkW F F1 c < 48
  · left; rw [if_pos z]; omega
  · right; rw [if_neg z]
theorem st_1 (c : Nat) : 1 ≤ stW F F1 c := by
  unfold stW
  split <;> omega
theorem tri (hF : ∀ c, F1 c = true → F c = true) {c d : Nat} (hc : c < 48) (hd : d < 48) (ha : adj c d) (hf : F c = true) (h : stW F F1 d < 1000) : stW F F1 c ≤ stW F F1 d + 1 ∧ (stW F F1 c = stW F F1 d + 1 → msW F F1 B d + B c ≤ msW F F1 B c) := by
  obtain ⟨h1, h2⟩ := ly_of F F1 h
  have hb : bsd (lyW F F1 (fkW F F1 d)) c = true := (bsd_adj hc).mpr ⟨d, hd, ha, h1⟩
  have hs : snW F F1 (fkW F F1 d + 1) c = true := by
    rw [sn_s]
    cases z : snW F F1 (fkW F F1 d) c with
    | true => rfl
    | false => rw [ly_s, hb, hf, z]; rfl
  obtain ⟨j, j1, j2⟩ := sn_ly F F1 _ c hs
  have e := st_of F F1 hF hc j2
  refine ⟨by omega, fun he => ?_⟩
  have ej : j = fkW F F1 d + 1 := by omega
  rw [ej] at j2
  unfold msW
  rw [fk_of F F1 hF hc j2]
  show wvW F F1 B (fkW F F1 d) d + B c ≤ mx4 (lyW F F1 (fkW F F1 d)) (wvW F F1 B (fkW F F1 d)) c + B c
  have := mx4_ge (w := wvW F F1 B (fkW F F1 d)) hd ha h1
  omega
theorem frm (hF : ∀ c, F1 c = true → F c = true) {c : Nat} (hc : c < 48) {k : Nat} (h : stW F F1 c = k + 2) (hk : k < 900) : F c = true ∧ ∃ d, d < 48 ∧ adj c d ∧ stW F F1 d = k + 1 ∧ F d = true ∧ msW F F1 B c = msW F F1 B d + B c := by
  obtain ⟨h1, h2⟩ := ly_of F F1 (c := c) (by omega)
  have ek : fkW F F1 c = k + 1 := by omega
  rw [ek] at h1
  have h3 := h1
  rw [ly_s, Bool.and_eq_true, Bool.and_eq_true] at h3
  obtain ⟨d, d1, d2, d3, d4⟩ := mx4_at (w := wvW F F1 B k) hc ((bsd_adj hc).mp h3.1.1)
  refine ⟨h3.1.2, d, d1, d2, st_of F F1 hF d1 d3, ly_F F F1 hF k d d3, ?_⟩
  unfold msW
  rw [ek, fk_of F F1 hF d1 d3]
  show mx4 (lyW F F1 k) (wvW F F1 B k) c + B c = _
  rw [d4]
theorem st1 {c : Nat} (h : stW F F1 c = 1) : F1 c = true ∧ msW F F1 B c = B c := by
  obtain ⟨h1, h2⟩ := ly_of F F1 (c := c) (by omega)
  have ek : fkW F F1 c = 0 := by omega
  refine ⟨by rw [ek] at h1; exact h1, ?_⟩
  unfold msW
  rw [ek]
  rfl
/-! relaxing -/
abbrev rT : Type := Bool × (Nat → Nat) × (Nat → Nat)
def upN (f : Nat → Nat) (i v : Nat) : Nat → Nat := fun k => if k = i then v else f k
def trW (ok : Bool) (c d : Nat) (x : rT) : rT := if ok = true ∧ x.2.1 d < 1000 then (if x.2.1 c < x.2.1 d + 1 ∨ (x.2.1 d + 1 = x.2.1 c ∧ x.2.2 d + B c ≤ x.2.2 c) then x else (true, upN x.2.1 c (x.2.1 d + 1), upN x.2.2 c (x.2.2 d + B c))) else x
def cellW (W H c : Nat) (x : rT) : rT := if F c = true then trW B (decide (c / 8 + 1 < H)) c (c + 8) (trW B (decide (0 < c / 8)) c (c - 8) (trW B (decide (c % 8 + 1 < W)) c (c + 1) (trW B (decide (0 < c % 8)) c (c - 1) x))) else x
def passW (W H : Nat) : Nat → rT → rT
  | 0, x => x
  | n + 1, x => cellW F B W H n (passW W H n x)
def snd (x : rT) : Prop := ∀ c, c < 48 → x.2.1 c ≤ 1000 ∧ x.2.2 c ≤ 9 * x.2.1 c ∧ stW F F1 c ≤ x.2.1 c ∧ (x.2.1 c = stW F F1 c → stW F F1 c < 1000 → x.2.2 c ≤ msW F F1 B c)
def fin (x : rT) (c : Nat) : Prop := x.2.1 c = stW F F1 c ∧ (stW F F1 c < 1000 → x.2.2 c = msW F F1 B c)
variable {F F1 B}
/-- all that one try does -/
theorem tr_all (hF : ∀ c, F1 c = true → F c = true) (hB : ∀ c, B c ≤ 9) {ok : Bool} {c d : Nat} (hc : c < 48) (hf : F c = true) (hok : ok = true → d < 48 ∧ adj c d) {x : rT} (hs : snd F F1 B x) :
    snd F F1 B (trW B ok c d x) ∧ (∀ k, k < 48 → fin F F1 B x k → fin F F1 B (trW B ok c d x) k) ∧ ((trW B ok c d x).1 = false → x.1 = false ∧ trW B ok c d x = x) ∧ ((∀ k, k < 48 → fin F F1 B x k) → trW B ok c d x = x) ∧ (ok = true → stW F F1 d < 1000 → fin F F1 B x d → stW F F1 c = stW F F1 d + 1 → (trW B ok c d x).2.1 c = stW F F1 c ∧ msW F F1 B d + B c ≤ (trW B ok c d x).2.2 c) ∧ (∀ v, x.2.1 c = stW F F1 c → v ≤ x.2.2 c → (trW B ok c d x).2.1 c = stW F F1 c ∧ v ≤ (trW B ok c d x).2.2 c) := by
  by_cases h1 : ok = true ∧ x.2.1 d < 1000
  · obtain ⟨hd, ha⟩ := hok h1.1
    obtain ⟨sd1, sd2, sd3, sd4⟩ := hs d hd
    obtain ⟨sc1, sc2, sc3, sc4⟩ := hs c hc
    obtain ⟨t1, t2⟩ := tri F F1 B hF hc hd ha hf (show stW F F1 d < 1000 by omega)
    by_cases h2 : x.2.1 c < x.2.1 d + 1 ∨ (x.2.1 d + 1 = x.2.1 c ∧ x.2.2 d + B c ≤ x.2.2 c)
    · have e : trW B ok c d x = x := by unfold trW; rw [if_pos h1, if_pos h2]
      rw [e]
      refine ⟨hs, fun k _ h => h, fun h => ⟨h, rfl⟩, fun _ => rfl, ?_, fun v a b => ⟨a, b⟩⟩
      intro _ hd1 hfd he
      obtain ⟨f1, f2⟩ := hfd
      have f2 := f2 hd1
      rcases h2 with h2 | ⟨h2, h3⟩
      · exfalso; omega
      · exact ⟨by omega, by omega⟩
    · have e : trW B ok c d x = (true, upN x.2.1 c (x.2.1 d + 1), upN x.2.2 c (x.2.2 d + B c)) := by unfold trW; rw [if_pos h1, if_neg h2]
      have nf : ¬ fin F F1 B x c := by
        rintro ⟨f1, f2⟩
        apply h2
        by_cases y : x.2.1 c < x.2.1 d + 1
        · exact Or.inl y
        · right
          have e1 : x.2.1 d + 1 = x.2.1 c := by omega
          have e2 : x.2.1 d = stW F F1 d := by omega
          have := sd4 e2 (by omega)
          have := t2 (by omega)
          have q := st_le F F1 d
          have := f2 (by omega)
          exact ⟨e1, by omega⟩
      have uc : ∀ k, k ≠ c → upN x.2.1 c (x.2.1 d + 1) k = x.2.1 k ∧ upN x.2.2 c (x.2.2 d + B c) k = x.2.2 k := fun k hk => ⟨if_neg hk, if_neg hk⟩
      have u1 : upN x.2.1 c (x.2.1 d + 1) c = x.2.1 d + 1 := if_pos rfl
      have u2 : upN x.2.2 c (x.2.2 d + B c) c = x.2.2 d + B c := if_pos rfl
      have hb := hB c
      rw [e]
      refine ⟨?_, ?_, fun h => absurd (show true = false from h) (by decide), fun h => absurd (h c hc) nf, ?_, ?_⟩
      · intro k hk
        by_cases z : k = c
        · subst z
          show upN x.2.1 k (x.2.1 d + 1) k ≤ 1000 ∧ upN x.2.2 k (x.2.2 d + B k) k ≤ 9 * upN x.2.1 k (x.2.1 d + 1) k ∧ stW F F1 k ≤ upN x.2.1 k (x.2.1 d + 1) k ∧ (upN x.2.1 k (x.2.1 d + 1) k = stW F F1 k → stW F F1 k < 1000 → upN x.2.2 k (x.2.2 d + B k) k ≤ msW F F1 B k)
          rw [u1, u2]
          refine ⟨by omega, by omega, by omega, fun h3 h4 => ?_⟩
          have e2 : x.2.1 d = stW F F1 d := by omega
          have := sd4 e2 (by omega)
          have := t2 (by omega)
          omega
        · show upN x.2.1 c (x.2.1 d + 1) k ≤ 1000 ∧ upN x.2.2 c (x.2.2 d + B c) k ≤ 9 * upN x.2.1 c (x.2.1 d + 1) k ∧ stW F F1 k ≤ upN x.2.1 c (x.2.1 d + 1) k ∧ (upN x.2.1 c (x.2.1 d + 1) k = stW F F1 k → stW F F1 k < 1000 → upN x.2.2 c (x.2.2 d + B c) k ≤ msW F F1 B k)
          rw [(uc k z).1, (uc k z).2]
          exact hs k hk
      · intro k hk hfk
        by_cases z : k = c
        · rw [z] at hfk; exact absurd hfk nf
        · show upN x.2.1 c (x.2.1 d + 1) k = stW F F1 k ∧ (stW F F1 k < 1000 → upN x.2.2 c (x.2.2 d + B c) k = msW F F1 B k)
          rw [(uc k z).1, (uc k z).2]
          exact hfk
      · intro _ hd1 hfd he
        obtain ⟨f1, f2⟩ := hfd
        have f2 := f2 hd1
        show upN x.2.1 c (x.2.1 d + 1) c = stW F F1 c ∧ msW F F1 B d + B c ≤ upN x.2.2 c (x.2.2 d + B c) c
        rw [u1, u2]
        exact ⟨by omega, by omega⟩
      · intro v h3 h4
        show upN x.2.1 c (x.2.1 d + 1) c = stW F F1 c ∧ v ≤ upN x.2.2 c (x.2.2 d + B c) c
        rw [u1, u2]
        have : ¬ x.2.1 c < x.2.1 d + 1 := fun w => h2 (Or.inl w)
        have e1 : x.2.1 d + 1 = x.2.1 c := by omega
        have : ¬ x.2.2 d + B c ≤ x.2.2 c := fun w => h2 (Or.inr ⟨e1, w⟩)
        exact ⟨by omega, by omega⟩
  · have e : trW B ok c d x = x := by unfold trW; rw [if_neg h1]
    rw [e]
    refine ⟨hs, fun k _ h => h, fun h => ⟨h, rfl⟩, fun _ => rfl, ?_, fun v a b => ⟨a, b⟩⟩
    intro ho hd1 hfd _
    exact absurd ⟨ho, by rw [hfd.1]; exact hd1⟩ h1
theorem cell_all {W H : Nat} (hW : W ≤ 8) (hH : H ≤ 6) (hF : ∀ c, F1 c = true → F c = true) (hG : ∀ c, F c = true → c % 8 < W ∧ c / 8 < H) (hB : ∀ c, B c ≤ 9) {c : Nat} (hc : c < 48) {x : rT} (hs : snd F F1 B x) :
    snd F F1 B (cellW F B W H c x) ∧ (∀ k, k < 48 → fin F F1 B x k → fin F F1 B (cellW F B W H c x) k) ∧ ((cellW F B W H c x).1 = false → x.1 = false ∧ cellW F B W H c x = x) ∧ ((∀ k, k < 48 → fin F F1 B x k) → cellW F B W H c x = x) ∧ (∀ j, j < 900 → stW F F1 c = j + 2 → (∀ k, k < 48 → stW F F1 k ≤ j + 1 → fin F F1 B x k) → fin F F1 B (cellW F B W H c x) c) := by
  unfold cellW
  by_cases hf : F c = true
  · rw [if_pos hf]
    have o1 : decide (0 < c % 8) = true → c - 1 < 48 ∧ adj c (c - 1) := fun w => by
      have := of_decide_eq_true w
      exact ⟨by omega, Or.inl ⟨by omega, this⟩⟩
    have o2 : decide (c % 8 + 1 < W) = true → c + 1 < 48 ∧ adj c (c + 1) := fun w => by
      have := of_decide_eq_true w
      exact ⟨by omega, Or.inr (Or.inl ⟨rfl, by omega⟩)⟩
    have o3 : decide (0 < c / 8) = true → c - 8 < 48 ∧ adj c (c - 8) := fun w => by
      have := of_decide_eq_true w
      exact ⟨by omega, Or.inr (Or.inr (Or.inl (by omega)))⟩
    have o4 : decide (c / 8 + 1 < H) = true → c + 8 < 48 ∧ adj c (c + 8) := fun w => by
      have := of_decide_eq_true w
      exact ⟨by omega, Or.inr (Or.inr (Or.inr rfl))⟩
    obtain ⟨a1, a2, a3, a4, a5, a6⟩ := tr_all hF hB hc hf o1 hs
    obtain ⟨b1, b2, b3, b4, b5, b6⟩ := tr_all hF hB hc hf o2 a1
    obtain ⟨c1, c2, c3, c4, c5, c6⟩ := tr_all hF hB hc hf o3 b1
    obtain ⟨d1, d2, d3, d4, d5, d6⟩ := tr_all hF hB hc hf o4 c1
    refine ⟨d1, fun k hk h => d2 k hk (c2 k hk (b2 k hk (a2 k hk h))), ?_, ?_, ?_⟩
    · intro h
      obtain ⟨h1, h2⟩ := d3 h
      obtain ⟨h3, h4⟩ := c3 h1
      obtain ⟨h5, h6⟩ := b3 h3
      obtain ⟨h7, h8⟩ := a3 h5
      exact ⟨h7, by rw [h2, h4, h6, h8]⟩
    · intro h
      have e1 := a4 h
      rw [e1] at b4 c4 d4 ⊢
      have e2 := b4 h
      rw [e2] at c4 d4 ⊢
      have e3 := c4 h
      rw [e3] at d4 ⊢
      exact d4 h
    · intro j hj he hfin
      obtain ⟨-, d, hd, hadj, hst, hfd, hms⟩ := frm F F1 B hF hc he hj
      have hd1 : stW F F1 d < 1000 := by omega
      have hdf := hfin d hd (by omega)
      have hcd : stW F F1 c = stW F F1 d + 1 := by omega
      have done : ∀ y : rT, snd F F1 B y → y.2.1 c = stW F F1 c ∧ msW F F1 B d + B c ≤ y.2.2 c → fin F F1 B y c := by
        intro y hy ⟨e1, e2⟩
        refine ⟨e1, fun h1 => ?_⟩
        have := (hy c hc).2.2.2 e1 h1
        omega
      have gd := hG d hfd
      refine done _ d1 ?_
      rcases hadj with ⟨h1, h2⟩ | ⟨h1, h2⟩ | h1 | h1
      · have e : c - 1 = d := by omega
        rw [e] at a5 a6 a1 a2 b2 b6 c6 d6 ⊢
        have t := a5 (decide_eq_true h2) hd1 hdf hcd
        have t := b6 _ t.1 t.2
        have t := c6 _ t.1 t.2
        exact d6 _ t.1 t.2
      · rw [h1] at b5 b6 c6 d6 ⊢
        have t := b5 (decide_eq_true (by omega)) hd1 (a2 d hd hdf) hcd
        have t := c6 _ t.1 t.2
        exact d6 _ t.1 t.2
      · have e : c - 8 = d := by omega
        rw [e] at c5 c6 d6 ⊢
        have t := c5 (decide_eq_true (by omega)) hd1 (b2 d hd (a2 d hd hdf)) hcd
        exact d6 _ t.1 t.2
      · rw [h1] at d5 ⊢
        exact d5 (decide_eq_true (by omega)) hd1 (c2 d hd (b2 d hd (a2 d hd hdf))) hcd
  · rw [if_neg hf]
    refine ⟨hs, fun k _ h => h, fun h => ⟨h, rfl⟩, fun _ => rfl, fun j hj he _ => ?_⟩
    exact absurd (frm F F1 B hF hc he hj).1 hf
theorem pass_all {W H : Nat} (hW : W ≤ 8) (hH : H ≤ 6) (hF : ∀ c, F1 c = true → F c = true) (hG : ∀ c, F c = true → c % 8 < W ∧ c / 8 < H) (hB : ∀ c, B c ≤ 9) {x : rT} (hs : snd F F1 B x) :
    ∀ n, n ≤ 48 → snd F F1 B (passW F B W H n x) ∧ (∀ k, k < 48 → fin F F1 B x k → fin F F1 B (passW F B W H n x) k) ∧ ((passW F B W H n x).1 = false → x.1 = false ∧ passW F B W H n x = x) ∧ ((∀ k, k < 48 → fin F F1 B x k) → passW F B W H n x = x) ∧ (∀ j, j < 900 → (∀ k, k < 48 → stW F F1 k ≤ j + 1 → fin F F1 B x k) → ∀ c, c < n → stW F F1 c = j + 2 → fin F F1 B (passW F B W H n x) c)
  | 0, _ => ⟨hs, fun k _ h => h, fun h => ⟨h, rfl⟩, fun _ => rfl, fun _ _ _ c hc => absurd hc (Nat.not_lt_zero c)⟩
  | n + 1, hn => by
    obtain ⟨a1, a2, a3, a4, a5⟩ := pass_all hW hH hF hG hB hs n (by omega)
    obtain ⟨b1, b2, b3, b4, b5⟩ := cell_all hW hH hF hG hB (show n < 48 by omega) a1
    show snd F F1 B (cellW F B W H n (passW F B W H n x)) ∧ (∀ k, k < 48 → fin F F1 B x k → fin F F1 B (cellW F B W H n (passW F B W H n x)) k) ∧ ((cellW F B W H n (passW F B W H n x)).1 = false → x.1 = false ∧ cellW F B W H n (passW F B W H n x) = x) ∧ ((∀ k, k < 48 → fin F F1 B x k) → cellW F B W H n (passW F B W H n x) = x) ∧ (∀ j, j < 900 → (∀ k, k < 48 → stW F F1 k ≤ j + 1 → fin F F1 B x k) → ∀ c, c < n + 1 → stW F F1 c = j + 2 → fin F F1 B (cellW F B W H n (passW F B W H n x)) c)
    refine ⟨b1, fun k hk h => b2 k hk (a2 k hk h), ?_, ?_, ?_⟩
    · intro h
      obtain ⟨h1, h2⟩ := b3 h
      obtain ⟨h3, h4⟩ := a3 h1
      exact ⟨h3, by rw [h2, h4]⟩
    · intro h
      have e := a4 h
      rw [e] at b4 ⊢
      exact b4 h
    · intro j hj hfin c hc he
      by_cases z : c = n
      · subst z
        exact b5 j hj he (fun k hk h => a2 k hk (hfin k hk h))
      · exact b2 c (by omega) (a5 j hj hfin c (by omega) he)
end WAY
