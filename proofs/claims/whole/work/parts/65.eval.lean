/-! WHAT A LAW SAYS: the facts of a cell, the two machines in step -/
theorem zB_i (b : Bool) : zB b = nI (if b = true then 1 else 0) := by cases b <;> rfl
/-- the eight facts of a cell -/
def fct (S K B : Nat → Nat) (sh across c i : Nat) : Nat := match i with
  | 0 => across
  | 1 => c / 8
  | 2 => if c < 8 then 0 else K (c - 8)
  | 3 => if c < 8 then 0 else if opn S (c - 8) then 1 else 0
  | 4 => (if 0 < c % 8 ∧ S (c - 1) = 2 then 1 else 0) + (if c % 8 < 7 ∧ S (c + 1) = 2 then 1 else 0)
  | 5 => B c
  | 6 => K c
  | _ => sh
theorem x_props {u : Nat} {prp : Int64} {S : Nat → Nat} (h : lS prp (fun c => S c == 2)) {c : Nat} (hc : c < 48) : f_X3_propsBeside u prp (nI c) = some (nI ((if 0 < c % 8 ∧ S (c - 1) = 2 then 1 else 0) + (if c % 8 < 7 ∧ S (c + 1) = 2 then 1 else 0))) := by
  unfold f_X3_propsBeside bX3_propsBeside_0 bX3_propsBeside_24
  have e0 : c - c / 8 * 8 = c % 8 := by omega
  simp (disch := omega) only [z_lit, z_div, pk_mul, z_sub, e0, z_le, nI_add]
  by_cases q : c % 8 ≤ 0
  · rw [if_pos q, if_neg (by omega), lb_i (by omega), lS_get h (by omega), zB_i, nI_add]
    simp [show ¬ 0 < c % 8 by omega, show c % 8 < 7 by omega]
  · rw [if_neg q]
    by_cases t : 7 ≤ c % 8
    · rw [if_pos t, lb_i (by omega), lS_get h (by omega), zB_i, nI_add]
      simp [show 0 < c % 8 by omega, show ¬ c % 8 < 7 by omega]
    · rw [if_neg t, lb_i (by omega), lb_i (by omega), lS_get h (by omega), lS_get h (by omega), zB_i, zB_i, nI_add]
      simp [show 0 < c % 8 by omega, show c % 8 < 7 by omega]
theorem x_over {u : Nat} {a1 : Nat → Int32} {K : Nat → Nat} (h : ∀ c, c < 48 → a1 c = nI (K c)) {c : Nat} (hc : c < 48) : f_X5_kindAbove u a1 (nI c) = some (nI (if c < 8 then 0 else K (c - 8))) := by
  unfold f_X5_kindAbove bX5_kindAbove_0
  simp (disch := omega) only [z_lit, z_lt, z_le]
  by_cases q : c < 8
  · rw [if_pos q, if_pos q]
  · rw [if_neg q, if_neg (by omega), if_neg q]
    simp (disch := omega) only [z_sub, z_ki, z_cl, h]
/-- a word of a law: the class's number of it is the negative of one more -/
theorem x_sight {u : Nat} {dug prp : Int64} {a6 a7 : Nat → Int32} {S K B : Nat → Nat} {sh : Nat} (h1 : lS dug (fun c => S c == 1)) (h2 : lS prp (fun c => S c == 2)) (hK : ∀ c, c < 48 → a6 c = nI (K c)) (hB : ∀ c, c < 48 → a7 c = nI (B c)) (lung : Bool) {c i : Nat} (hc : c < 48) (hi : i < 8) (hu : 10 ≤ u) :
    f_X3_sight u (nI sh) dug prp a6 a7 (-nI (i + 1)) (nI c) (zB lung) = some (nI (fct S K B sh (if lung then 1 else wd S c) c i)) := by
  unfold f_X3_sight bX3_sight_0
  simp (disch := omega) only [z_lit, z_lt, z_mem, zB_eq0]
  rw [if_neg (by omega), if_pos hc]
  rcases (show i = 0 ∨ i = 1 ∨ i = 2 ∨ i = 3 ∨ i = 4 ∨ i = 5 ∨ i = 6 ∨ i = 7 by omega) with rfl | rfl | rfl | rfl | rfl | rfl | rfl | rfl
  · simp only [x_wide h1 hc hu, z_b]
    cases lung <;> simp [fct]
  · simp (disch := omega) only [z_div]
    simp [fct]
  · simp only [x_over hK hc, z_b]
    simp [fct]
  · simp only [x_open, z_b]
    by_cases q : c < 8
    · simp [q, fct]
    · rw [z_sub (by omega), lb_i (by omega), lS_get (lS_open h1 h2) (by omega)]
      simp only [fct, q, if_false]
      cases opn S (c - 8) <;> simp [q] <;> rfl
  · simp only [x_props h2 hc, z_b]
    simp [fct]
  · simp (disch := omega) only [z_ki, z_cl, hB]
    simp [fct]
  · simp (disch := omega) only [z_ki, z_cl, hK]
    simp [fct]
  · simp [fct]
theorem m_propd {u W H x y : Nat} {a21 : Nat → Int32} {S : Nat → Nat} (hW : W ≤ 8) (hH : H ≤ 6) (A : sA a21 S) (B : stOK W H S) (hx : x < 9) (hy : y < 6) : f_X11_propped u (nI W) (nI H) a21 (nI x) (nI y) = some (nI (if x < 8 ∧ S (8 * y + x) = 2 then 1 else 0)) := by
  unfold f_X11_propped bX11_propped_0
  rw [m_isIn (by omega) (by omega) (by omega) (by omega), z_b]
  by_cases q : x < W ∧ y < H
  · have e := A (8 * y + x) (by omega)
    have e3 := B.1 (8 * y + x) (by omega)
    simp (disch := omega) only [z_lit, zB_eq0, q.1, q.2, decide_true, Bool.and_self, pk_mul, nI_add, z_ki, z_cl, e, z_eq]
    simp only [show x < 8 by omega, true_and]
    by_cases r : S (8 * y + x) = 2 <;> simp [r]
  · have e1 : (decide (x < W) && decide (y < H)) = false := by simpa using q
    rw [e1]
    have e5 : ∀ X : Option Int32, (if zB false = (0 : Int32) then some (0 : Int32) else X) = some (nI 0) := fun X => if_pos rfl
    rw [e5]
    by_cases r : x < 8
    · have e2 : S (8 * y + x) = 0 := B.2 (8 * y + x) (by omega) (by
        unfold inG
        rw [show (8 * y + x) % 8 = x by omega, show (8 * y + x) / 8 = y by omega]
        exact e1)
      simp [e2]
    · simp [r]
theorem m_propL {u W H x : Nat} {a21 : Nat → Int32} {b : Int32} (hx : x = 0) : f_X11_propped u (nI W) (nI H) a21 (nI x - nI 1) b = some (nI 0) := by
  unfold f_X11_propped bX11_propped_0
  rw [m_isInL (by omega) hx, z_b]
  rfl
theorem m_facts {u W H sh : Nat} {a7 a8 a17 a21 : Nat → Int32} {S K B : Nat → Nat} (hW : W ≤ 8) (hH : H ≤ 6) (A : sA a21 S) (St : stOK W H S) (hK : ∀ c, c < 48 → a7 c = nI (K c)) (hB : ∀ c, c < 48 → a8 c = nI (B c)) (hsh : a21 69 = nI sh) {c ac : Nat} (hc : c < 48) :
    ∃ fa, f_X11_findFacts u (nI W) (nI H) a7 a8 a17 a21 (nI c) (nI ac) = some fa ∧ ∀ i, i < 8 → fa i = nI (fct S K B sh ac c i) := by
  unfold f_X11_findFacts bX11_findFacts_0 bX11_findFacts_49 bX11_findFacts_72
  have e0 : c - c / 8 * 8 = c % 8 := by omega
  simp (disch := omega) only [z_lit, z_div, pk_mul, z_sub, e0, z_le, nI_add, z_eq, z_ki, z_cl]
  have p2 : f_X11_propped u (nI W) (nI H) a21 (nI (c % 8 + 1)) (nI (c / 8)) = some (nI (if c % 8 < 7 ∧ S (c + 1) = 2 then 1 else 0)) := by
    rw [m_propd hW hH A St (by omega) (by omega), show 8 * (c / 8) + (c % 8 + 1) = c + 1 by omega]
    congr 2
    simp only [show (c % 8 + 1 < 8) = (c % 8 < 7) by rw [eq_iff_iff]; omega]
  have p1 : f_X11_propped u (nI W) (nI H) a21 (nI (c % 8) - nI 1) (nI (c / 8)) = some (nI (if 0 < c % 8 ∧ S (c - 1) = 2 then 1 else 0)) := by
    by_cases q : c % 8 = 0
    · rw [m_propL q]; simp [q]
    · rw [z_sub (by omega), m_propd hW hH A St (by omega) (by omega), show 8 * (c / 8) + (c % 8 - 1) = c - 1 by omega]
      simp only [show c % 8 - 1 < 8 by omega, show 0 < c % 8 by omega]
  have p3 : f_X11_isOpen u (nI W) (nI H) a21 (nI (c % 8)) (nI (c / 8) - nI 1) = some (zB (decide (8 ≤ c) && opn S (c - 8))) := by
    by_cases q : c / 8 = 0
    · rw [m_openT hW hH (by omega) q]; simp [show ¬ 8 ≤ c by omega]
    · rw [z_sub (by omega), m_open hW hH A St (by omega) (by omega), show 8 * (c / 8 - 1) + c % 8 = c - 8 by omega]
      simp [show 8 ≤ c by omega, show c % 8 < 8 by omega, show c / 8 - 1 < 6 by omega]
  simp only [p1, p2, p3, z_b, zB_eq0, hK c hc, hB c hc, hsh, nI_add]
  by_cases q : c / 8 = 0
  · rw [if_pos q, if_pos (by simp [show ¬ 8 ≤ c by omega])]
    refine ⟨_, rfl, ?_⟩
    intro i hi
    rcases (show i = 0 ∨ i = 1 ∨ i = 2 ∨ i = 3 ∨ i = 4 ∨ i = 5 ∨ i = 6 ∨ i = 7 by omega) with rfl | rfl | rfl | rfl | rfl | rfl | rfl | rfl <;> simp [z_upd, fct, show c < 8 by omega]
  · rw [if_neg q, hK (c - 8) (by omega)]
    rw [z_sub (by omega)] at p3
    simp only [p3, z_b, zB_eq0]
    cases r : opn S (c - 8) with
    | true =>
      rw [if_neg (by simp [show 8 ≤ c by omega])]
      refine ⟨_, rfl, ?_⟩
      intro i hi
      rcases (show i = 0 ∨ i = 1 ∨ i = 2 ∨ i = 3 ∨ i = 4 ∨ i = 5 ∨ i = 6 ∨ i = 7 by omega) with rfl | rfl | rfl | rfl | rfl | rfl | rfl | rfl <;> simp [z_upd, fct, show ¬ c < 8 by omega, r]
    | false =>
      rw [if_pos (by simp)]
      refine ⟨_, rfl, ?_⟩
      intro i hi
      rcases (show i = 0 ∨ i = 1 ∨ i = 2 ∨ i = 3 ∨ i = 4 ∨ i = 5 ∨ i = 6 ∨ i = 7 by omega) with rfl | rfl | rfl | rfl | rfl | rfl | rfl | rfl <;> simp [z_upd, fct, show ¬ c < 8 by omega, r]
/-! the code: q what, o of what; heights; what is good -/
def hts (q : Nat → Nat) : Nat → Nat
  | 0 => 0
  | k + 1 => if q k ≤ 1 then hts q k + 1 else hts q k - 1
/-- a good code of n rows -/
def cOK (q o : Nat → Nat) (n : Nat) : Prop := n ≤ 150 ∧ ∀ k, k < n → q k ≤ 7 ∧ (q k = 0 → o k ≤ 999) ∧ (q k = 1 → o k < 8) ∧ (q k ≤ 1 → hts q k < 24) ∧ (2 ≤ q k → 2 ≤ hts q k)
/-- the class's number of a row -/
def cnum (q o : Nat) : Int32 := match q with
  | 0 => nI o
  | 1 => -nI (o + 1)
  | 2 => -nI 11
  | 3 => -nI 12
  | 4 => -nI 13
  | 5 => -nI 14
  | 6 => -nI 9
  | _ => -nI 10
def bth (q : Nat) (x y : Int32) : Int32 := match q with
  | 2 => x + y
  | 3 => x - y
  | 4 => x * y
  | 5 => if y = nI 0 then nI 0 else x / y
  | 6 => if y ≤ x then y else x
  | _ => if y ≤ x then x else y
theorem x_joined {u q o : Nat} (h : 2 ≤ q) (h7 : q ≤ 7) (x y : Int32) : f_X1_joined u (cnum q o) x y = some (bth q x y) := by
  unfold f_X1_joined bX1_joined_0
  rcases (show q = 2 ∨ q = 3 ∨ q = 4 ∨ q = 5 ∨ q = 6 ∨ q = 7 by omega) with rfl | rfl | rfl | rfl | rfl | rfl <;> simp (disch := omega) only [z_lit, cnum, z_mem, bth]
  · simp
  · simp
  · simp
  · by_cases h : y = nI 0
    · simp [h]
    · simp [h]
      rw [z_d h]
  · by_cases h : y ≤ x <;> simp [h]
  · by_cases h : y ≤ x
    · by_cases h2 : x ≤ y
      · have : x = y := Int32.le_antisymm h2 h
        subst this
        simp
      · simp [h, h2]
    · simp [h, show x ≤ y from Int32.le_of_lt (fa_of_nle h)]
theorem m_both {u q : Nat} (h : 2 ≤ q) (h7 : q ≤ 7) (x y : Int32) : f_X11_both u (nI q) x y = some (bth q x y) := by
  unfold f_X11_both bX11_both_0 bX11_both_54 bX11_both_65
  simp (disch := omega) only [z_lit, z_eq]
  rcases (show q = 2 ∨ q = 3 ∨ q = 4 ∨ q = 5 ∨ q = 6 ∨ q = 7 by omega) with rfl | rfl | rfl | rfl | rfl | rfl <;> simp only [bth]
  · simp
  · simp
  · simp
  · by_cases h : y = nI 0
    · simp [h]
    · simp [h]
      rw [z_d h]
  · by_cases h : y ≤ x <;> simp [h]
  · by_cases h : y ≤ x <;> simp [h]
theorem hts_le {q o : Nat → Nat} {n : Nat} (C : cOK q o n) : ∀ k, k ≤ n → hts q k ≤ 24
  | 0, _ => Nat.zero_le _
  | k + 1, h => by
    have ih := hts_le C k (by omega)
    have c := C.2 k (by omega)
    unfold hts
    by_cases r : q k ≤ 1
    · rw [if_pos r]; have := c.2.2.2.1 r; omega
    · rw [if_neg r]; omega
theorem hts_pos {q o : Nat → Nat} {n : Nat} (C : cOK q o n) (h : 0 < n) : 0 < hts q n := by
  obtain ⟨m, rfl⟩ := z_suc h
  have c := C.2 m (by omega)
  unfold hts
  by_cases r : q m ≤ 1
  · rw [if_pos r]; omega
  · rw [if_neg r]; have := c.2.2.2.2 (by omega); omega
theorem cnum_sg {q o : Nat} (h : q ≤ 7) (h0 : q = 0 → o ≤ 999) (h1 : q = 1 → o < 8) : (-nI 9 < cnum q o) = (q ≤ 1) ∧ (q ≤ 1 → (cnum q o < nI 0) = (q = 1)) := by
  rcases (show q = 0 ∨ q = 1 ∨ q = 2 ∨ q = 3 ∨ q = 4 ∨ q = 5 ∨ q = 6 ∨ q = 7 by omega) with rfl | rfl | rfl | rfl | rfl | rfl | rfl | rfl
  · have := h0 rfl
    constructor
    · simp only [cnum]; rw [z_ml (by omega) (by omega)]; simp
    · intro _; simp only [cnum]; rw [z_lt (by omega) (by omega)]; simp
  · have := h1 rfl
    constructor
    · simp only [cnum]; rw [z_mlm (by omega) (by omega)]; simp; omega
    · intro _; exact eq_iff_iff.mpr ⟨fun _ => rfl, fun _ => by simp only [cnum]; rw [fa_lt, z_tm (by omega), z_ti (by omega)]; omega⟩
  · exact ⟨by simp only [cnum]; decide, fun h => absurd h (by decide)⟩
  · exact ⟨by simp only [cnum]; decide, fun h => absurd h (by decide)⟩
  · exact ⟨by simp only [cnum]; decide, fun h => absurd h (by decide)⟩
  · exact ⟨by simp only [cnum]; decide, fun h => absurd h (by decide)⟩
  · exact ⟨by simp only [cnum]; decide, fun h => absurd h (by decide)⟩
  · exact ⟨by simp only [cnum]; decide, fun h => absurd h (by decide)⟩
/-- the stack behind k rows -/
def evs (q o : Nat → Nat) (fa : Nat → Int32) : Nat → Nat → Int32
  | 0 => fun _ => 0
  | k + 1 => if q k = 0 then upd (evs q o fa k) (hts q k) (nI (o k)) else if q k = 1 then upd (evs q o fa k) (hts q k) (fa (o k)) else upd (evs q o fa k) (hts q k - 2) (bth (q k) (evs q o fa k (hts q k - 2)) (evs q o fa k (hts q k - 1)))
section EV
variable {u : Nat} {sh : Int32} {dug prp : Int64} {a6 a7 c13 m13 m14 m15 fa : Nat → Int32} {q o : Nat → Nat} {n w : Nat} {cl lu : Int32}
theorem ev_x (C : cOK q o n) (h1 : ∀ k, k < n → c13 k = cnum (q k) (o k)) (hs : ∀ i, i < 8 → f_X3_sight u sh dug prp a6 a7 (-nI (i + 1)) cl lu = some (fa i)) (hp : 0 < hts q n) :
    ∀ j k, k + j = n → ∀ nx a, j < nx → (∀ i, i < hts q k → a i = evs q o fa k i) → ∃ a', bX1_value_F_6 u sh dug prp a6 a7 (nI n) c13 nx a cl lu (nI (hts q k)) (nI k) = some (evs q o fa n 0, a') := by
  have hn := C.1
  intro j
  induction j with
  | zero =>
    intro k hk nx a hx hab
    obtain ⟨nx, rfl⟩ := z_suc hx
    have hkn : k = n := by omega
    subst hkn
    refine ⟨a, ?_⟩
    rw [bX1_value_F_6]
    simp (disch := omega) only [z_le]
    rw [if_pos (Nat.le_refl k), hab 0 hp]
  | succ j ih =>
    intro k hk nx a hx hab
    obtain ⟨nx, rfl⟩ := z_suc hx
    have c := C.2 k (by omega)
    have hh := hts_le C k (by omega)
    have cs := cnum_sg c.1 c.2.1 c.2.2.1
    rw [bX1_value_F_6]
    simp (disch := omega) only [z_lit, z_ki, z_cl, pk_mul, nI_add, z_le, h1 k (by omega), z_lt, z_eq, cs.1]
    rw [if_neg (show ¬ n ≤ k by omega)]
    have hsuc : hts q (k + 1) = if q k ≤ 1 then hts q k + 1 else hts q k - 1 := rfl
    by_cases r : q k ≤ 1
    · rw [if_pos r] at hsuc
      have hlt := c.2.2.2.1 r
      have cs2 := cs.2 r
      rw [if_pos r, if_neg (show ¬ 24 ≤ hts q k by omega)]
      have ih2 := ih (k + 1) (by omega) nx
      by_cases r1 : q k = 1
      · rw [if_pos (by rw [cs2]; exact r1)]
        have ho := c.2.2.1 r1
        have e : cnum (q k) (o k) = -nI (o k + 1) := by rw [r1]; rfl
        have ee : evs q o fa (k + 1) = upd (evs q o fa k) (hts q k) (fa (o k)) := by
          show (if q k = 0 then _ else if q k = 1 then _ else _) = _
          rw [if_neg (by omega), if_pos r1]
        obtain ⟨a', g1⟩ := ih2 (upd a (hts q k) (fa (o k))) (by omega) (by
          intro i hi
          rw [hsuc] at hi
          rw [ee]
          simp only [z_upd]
          by_cases z : i = hts q k
          · rw [if_pos z, if_pos z]
          · rw [if_neg z, if_neg z]; exact hab i (by omega))
        refine ⟨a', ?_⟩
        rw [e, hs (o k) ho, z_b]
        unfold bX1_value_F_106 bX1_value_F_110
        simp (disch := omega) only [z_lit, z_ki, z_cl, nI_add]
        rw [hsuc] at g1
        exact g1
      · have r0 : q k = 0 := by omega
        rw [if_neg (by rw [cs2]; exact r1)]
        have ho := c.2.1 r0
        have e : cnum (q k) (o k) = nI (o k) := by rw [r0]; rfl
        have ee : evs q o fa (k + 1) = upd (evs q o fa k) (hts q k) (nI (o k)) := by
          show (if q k = 0 then _ else if q k = 1 then _ else _) = _
          rw [if_pos r0]
        obtain ⟨a', g1⟩ := ih2 (upd a (hts q k) (nI (o k))) (by omega) (by
          intro i hi
          rw [hsuc] at hi
          rw [ee]
          simp only [z_upd]
          by_cases z : i = hts q k
          · rw [if_pos z, if_pos z]
          · rw [if_neg z, if_neg z]; exact hab i (by omega))
        refine ⟨a', ?_⟩
        rw [e]
        unfold bX1_value_F_106 bX1_value_F_110
        simp (disch := omega) only [z_lit, z_ki, z_cl, nI_add]
        rw [hsuc] at g1
        exact g1
    · rw [if_neg r] at hsuc
      have h2' := c.2.2.2.2 (by omega)
      rw [if_neg r, if_neg (show ¬ hts q k < 2 by omega)]
      simp (disch := omega) only [z_addm, z_sub, z_ki, z_cl, x_joined (show 2 ≤ q k by omega) c.1, z_b]
      have ih2 := ih (k + 1) (by omega) nx
      have ee : evs q o fa (k + 1) = upd (evs q o fa k) (hts q k - 2) (bth (q k) (evs q o fa k (hts q k - 2)) (evs q o fa k (hts q k - 1))) := by
        show (if q k = 0 then _ else if q k = 1 then _ else _) = _
        rw [if_neg (by omega), if_neg (by omega)]
      obtain ⟨a', g1⟩ := ih2 (upd a (hts q k - 2) (bth (q k) (a (hts q k - 2)) (a (hts q k - 1)))) (by omega) (by
        intro i hi
        rw [hsuc] at hi
        rw [ee, hab (hts q k - 2) (by omega), hab (hts q k - 1) (by omega)]
        simp only [z_upd]
        by_cases z : i = hts q k - 2
        · rw [if_pos z, if_pos z]
        · rw [if_neg z, if_neg z]; exact hab i (by omega))
      refine ⟨a', ?_⟩
      unfold bX1_value_F_110
      simp (disch := omega) only [z_lit, nI_add]
      rw [hsuc] at g1
      exact g1
theorem ev_m (hw : w < 2) (C : cOK q o n) (h2 : ∀ k, k < n → m13 (150 * w + k) = nI (q k)) (h3 : ∀ k, k < n → m14 (150 * w + k) = nI (o k)) (h4 : m15 w = nI n) (hp : 0 < hts q n) :
    ∀ j k, k + j = n → ∀ nm b, j < nm → (∀ i, i < hts q k → b i = evs q o fa k i) → ∃ b', bX11_valueOf_8 u m13 m14 m15 fa nm b (nI w) (nI (hts q k)) (nI (150 * w + k)) = some (evs q o fa n 0, b') := by
  have hn := C.1
  intro j
  induction j with
  | zero =>
    intro k hk nm b hm hab
    obtain ⟨nm, rfl⟩ := z_suc hm
    have hkn : k = n := by omega
    subst hkn
    refine ⟨b, ?_⟩
    rw [bX11_valueOf_8]
    simp (disch := omega) only [z_lit, z_ki, z_cl, h4, pk_mul, nI_add, z_le]
    rw [if_pos (Nat.le_refl _), hab 0 hp]
  | succ j ih =>
    intro k hk nm b hm hab
    obtain ⟨nm, rfl⟩ := z_suc hm
    have c := C.2 k (by omega)
    have hh := hts_le C k (by omega)
    rw [bX11_valueOf_8]
    simp (disch := omega) only [z_lit, z_ki, z_cl, h4, pk_mul, nI_add, z_le, h2 k (by omega), h3 k (by omega), z_lt, z_eq]
    rw [if_neg (show ¬ 150 * w + n ≤ 150 * w + k by omega)]
    have hsuc : hts q (k + 1) = if q k ≤ 1 then hts q k + 1 else hts q k - 1 := rfl
    by_cases r : q k ≤ 1
    · rw [if_pos r] at hsuc
      have hlt := c.2.2.2.1 r
      rw [if_neg (show ¬ 1 < q k by omega)]
      have ih2 := ih (k + 1) (by omega) nm
      by_cases r1 : q k = 1
      · rw [if_neg (show ¬ q k = 0 by omega)]
        have ho := c.2.2.1 r1
        have ee : evs q o fa (k + 1) = upd (evs q o fa k) (hts q k) (fa (o k)) := by
          show (if q k = 0 then _ else if q k = 1 then _ else _) = _
          rw [if_neg (by omega), if_pos r1]
        obtain ⟨b', g2⟩ := ih2 (upd b (hts q k) (fa (o k))) (by omega) (by
          intro i hi
          rw [hsuc] at hi
          rw [ee]
          simp only [z_upd]
          by_cases z : i = hts q k
          · rw [if_pos z, if_pos z]
          · rw [if_neg z, if_neg z]; exact hab i (by omega))
        refine ⟨b', ?_⟩
        unfold bX11_valueOf_68 bX11_valueOf_105
        simp (disch := omega) only [z_lit, z_ki, z_cl, nI_add]
        rw [hsuc] at g2
        exact g2
      · have r0 : q k = 0 := by omega
        rw [if_pos r0]
        have ho := c.2.1 r0
        have ee : evs q o fa (k + 1) = upd (evs q o fa k) (hts q k) (nI (o k)) := by
          show (if q k = 0 then _ else if q k = 1 then _ else _) = _
          rw [if_pos r0]
        obtain ⟨b', g2⟩ := ih2 (upd b (hts q k) (nI (o k))) (by omega) (by
          intro i hi
          rw [hsuc] at hi
          rw [ee]
          simp only [z_upd]
          by_cases z : i = hts q k
          · rw [if_pos z, if_pos z]
          · rw [if_neg z, if_neg z]; exact hab i (by omega))
        refine ⟨b', ?_⟩
        unfold bX11_valueOf_68 bX11_valueOf_105
        simp (disch := omega) only [z_lit, z_ki, z_cl, nI_add]
        rw [hsuc] at g2
        exact g2
    · rw [if_neg r] at hsuc
      have h2' := c.2.2.2.2 (by omega)
      rw [if_pos (show 1 < q k by omega)]
      simp (disch := omega) only [z_addm, z_sub, z_ki, z_cl, m_both (show 2 ≤ q k by omega) c.1, z_b]
      have ih2 := ih (k + 1) (by omega) nm
      have ee : evs q o fa (k + 1) = upd (evs q o fa k) (hts q k - 2) (bth (q k) (evs q o fa k (hts q k - 2)) (evs q o fa k (hts q k - 1))) := by
        show (if q k = 0 then _ else if q k = 1 then _ else _) = _
        rw [if_neg (by omega), if_neg (by omega)]
      obtain ⟨b', g2⟩ := ih2 (upd b (hts q k - 2) (bth (q k) (b (hts q k - 2)) (b (hts q k - 1)))) (by omega) (by
        intro i hi
        rw [hsuc] at hi
        rw [ee, hab (hts q k - 2) (by omega), hab (hts q k - 1) (by omega)]
        simp only [z_upd]
        by_cases z : i = hts q k - 2
        · rw [if_pos z, if_pos z]
        · rw [if_neg z, if_neg z]; exact hab i (by omega))
      refine ⟨b', ?_⟩
      unfold bX11_valueOf_105
      simp (disch := omega) only [z_lit, nI_add, show hts q k - 1 - 1 = hts q k - 2 by omega]
      rw [hsuc] at g2
      exact g2
end EV
theorem vH6 (u : Nat) (sh : Int32) (dug prp : Int64) (a6 a7 : Nat → Int32) (l : Int32) (a16 : Nat → Int32) : ∀ n a v2 v3 v4 v5, bX1_value_H_6 u sh dug prp a6 a7 l a16 n a v2 v3 v4 v5 = bX1_value_F_6 u sh dug prp a6 a7 l a16 n a v2 v3 v4 v5 := by
  intro n
  induction n with
  | zero => intros; rfl
  | succ n ih =>
    intro a v2 v3 v4 v5
    have e : bX1_value_H_6 u sh dug prp a6 a7 l a16 n = bX1_value_F_6 u sh dug prp a6 a7 l a16 n := by
      funext a v2 v3 v4 v5; exact ih a v2 v3 v4 v5
    rw [bX1_value_H_6, bX1_value_F_6, e]
    rfl
theorem vH (u : Nat) (sh : Int32) (dug prp : Int64) (a6 a7 : Nat → Int32) (l : Int32) (a16 a17 : Nat → Int32) (x y : Int32) : f_X1_value_H u sh dug prp a6 a7 l a16 a17 x y = f_X1_value_F u sh dug prp a6 a7 l a16 a17 x y := vH6 u sh dug prp a6 a7 l a16 u a17 x y (0 : Int32) (0 : Int32)
