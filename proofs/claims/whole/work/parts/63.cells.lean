/-! THE MINE in numbers: W H the size, S the cells' states (0 whole, 1 dug, 2 propped, 3 fallen), D the shafts by column -/
def inG (W H c : Nat) : Bool := decide (c % 8 < W) && decide (c / 8 < H)
def opn (S : Nat → Nat) (c : Nat) : Bool := S c == 1 || S c == 2
def bsd (p : Nat → Bool) (c : Nat) : Bool := (decide (0 < c % 8) && p (c - 1)) || ((decide (c % 8 < 7) && p (c + 1)) || ((decide (8 ≤ c) && p (c - 8)) || (decide (c < 40) && p (c + 8))))
def hnd (W H : Nat) (D : Nat → Bool) (S : Nat → Nat) (c : Nat) : Bool := inG W H c && (bsd (opn S) c || (decide (c < 8) && D c))
def wet (W H w c : Nat) : Bool := inG W H c && decide (w ≤ c / 8)
/-- the states are those of a pit of this size -/
def stOK (W H : Nat) (S : Nat → Nat) : Prop := (∀ c, c < 48 → S c ≤ 3) ∧ ∀ c, c < 48 → inG W H c = false → S c = 0
/-- a set of cells as a long -/
def lS (m : Int64) (p : Nat → Bool) : Prop := ∀ k, k < 64 → lb m k = (decide (k < 48) && p k)
theorem lS_get {m : Int64} {p : Nat → Bool} (h : lS m p) {k : Nat} (hk : k < 48) : lb m k = p k := by
  rw [h k (by omega)]; simp [hk]
theorem lS_eq {m n : Int64} {p : Nat → Bool} (h : lS m p) (h2 : lS n p) : m = n := lb_ext (fun k hk => by rw [h k hk, h2 k hk])
theorem lS_cong {m : Int64} {p q : Nat → Bool} (h : lS m p) (e : ∀ k, k < 48 → p k = q k) : lS m q := by
  intro k hk
  rw [h k hk]
  by_cases c : k < 48
  · simp [c, e k c]
  · simp [c]
theorem lS_0 : lS 0 (fun _ => false) := fun k _ => by rw [lb_0]; simp
theorem lS_or {m n : Int64} {p q : Nat → Bool} (h : lS m p) (h2 : lS n q) : lS (m ||| n) (fun k => p k || q k) := by
  intro k hk
  rw [lb_or, h k hk, h2 k hk]
  cases decide (k < 48) <;> simp
theorem lS_and {m n : Int64} {p q : Nat → Bool} (h : lS m p) (h2 : lS n q) : lS (m &&& n) (fun k => p k && q k) := by
  intro k hk
  rw [lb_and, h k hk, h2 k hk]
  cases decide (k < 48) <;> simp
/-- without some -/
theorem lS_min {m n : Int64} {p q : Nat → Bool} (h : lS m p) (h2 : lS n q) : lS (m &&& (n ^^^ (-1))) (fun k => p k && !q k) := by
  intro k hk
  rw [lb_and, lb_not hk, h k hk, h2 k hk]
  cases decide (k < 48) <;> simp
theorem lS_bit {c : Nat} (hc : c < 48) : lS ((1 : Int64) <<< ((nI c).toInt64 &&& 63)) (fun k => decide (k = c)) := by
  intro k hk
  rw [lb_bit (by omega) hk]
  by_cases e : k = c
  · subst e; simp [hc]
  · simp [e]
theorem k_nfc : ∀ k, k < 64 → lb (-72340172838076674) k = decide (0 < k % 8) := by decide +kernel
theorem k_nlc : ∀ k, k < 64 → lb 9187201950435737471 k = decide (k % 8 < 7) := by decide +kernel
theorem lS_open {m n : Int64} {S : Nat → Nat} (h : lS m (fun c => S c == 1)) (h2 : lS n (fun c => S c == 2)) : lS (m ||| n) (opn S) := lS_or h h2
/-! the class's sets -/
theorem x_open {u : Nat} {dug prp : Int64} : f_X3_openCells u dug prp = some (dug ||| prp) := rfl
theorem x_beside {u : Nat} {m : Int64} {p : Nat → Bool} (h : lS m p) : ∃ r, f_X3_beside u m = some r ∧ ∀ k, k < 48 → lb r k = bsd p k := by
  refine ⟨_, rfl, ?_⟩
  intro k hk
  have e1 : lb (m <<< ((1 : Int32).toInt64 &&& 63)) k = (decide (1 ≤ k) && lb m (k - 1)) := lb_shl (c := 1) m (by decide) (by omega)
  have e2 : lb ((m.toUInt64 >>> ((1 : Int32).toInt64.toUInt64 &&& Int64.toUInt64 63)).toInt64) k = lb m (k + 1) := lb_ushr (c := 1) m (by decide) k
  have e3 : lb (m <<< ((8 : Int32).toInt64 &&& 63)) k = (decide (8 ≤ k) && lb m (k - 8)) := lb_shl (c := 8) m (by decide) (by omega)
  have e4 : lb ((m.toUInt64 >>> ((8 : Int32).toInt64.toUInt64 &&& Int64.toUInt64 63)).toInt64) k = lb m (k + 8) := lb_ushr (c := 8) m (by decide) k
  rw [lb_or, lb_or, lb_or, lb_and, lb_and, e1, e2, e3, e4, k_nfc k (by omega), k_nlc k (by omega), h (k - 1) (by omega), h (k + 1) (by omega), h (k - 8) (by omega), h (k + 8) (by omega)]
  unfold bsd
  by_cases a1 : 0 < k % 8
  · by_cases a2 : k % 8 < 7
    · by_cases a3 : 8 ≤ k
      · by_cases a4 : k < 40
        · simp [a1, a2, a3, a4, show 1 ≤ k by omega, show k - 1 < 48 by omega, show k + 1 < 48 by omega, show k - 8 < 48 by omega, show k + 8 < 48 by omega, Bool.or_assoc]
        · simp [a1, a2, a3, a4, show 1 ≤ k by omega, show k - 1 < 48 by omega, show k + 1 < 48 by omega, show k - 8 < 48 by omega, show ¬ k + 8 < 48 by omega, Bool.or_assoc]
      · simp [a1, a2, a3, show k < 40 by omega, show 1 ≤ k by omega, show k - 1 < 48 by omega, show k + 1 < 48 by omega, show k + 8 < 48 by omega, Bool.or_assoc]
    · by_cases a3 : 8 ≤ k
      · by_cases a4 : k < 40
        · simp [a1, a2, a3, a4, show 1 ≤ k by omega, show k - 1 < 48 by omega, show k - 8 < 48 by omega, show k + 8 < 48 by omega, Bool.or_assoc]
        · simp [a1, a2, a3, a4, show 1 ≤ k by omega, show k - 1 < 48 by omega, show k - 8 < 48 by omega, show ¬ k + 8 < 48 by omega, Bool.or_assoc]
      · simp [a1, a2, a3, show k < 40 by omega, show 1 ≤ k by omega, show k - 1 < 48 by omega, show k + 8 < 48 by omega, Bool.or_assoc]
  · by_cases a3 : 8 ≤ k
    · by_cases a4 : k < 40
      · simp [a1, a3, a4, show k % 8 < 7 by omega, show k + 1 < 48 by omega, show k - 8 < 48 by omega, show k + 8 < 48 by omega, Bool.or_assoc]
      · simp [a1, a3, a4, show k % 8 < 7 by omega, show k + 1 < 48 by omega, show k - 8 < 48 by omega, show ¬ k + 8 < 48 by omega, Bool.or_assoc]
    · simp [a1, a3, show k < 40 by omega, show k % 8 < 7 by omega, show k + 1 < 48 by omega, show k + 8 < 48 by omega, Bool.or_assoc]
theorem xq_hand {u : Nat} {dug prp all sh : Int64} {S : Nat → Nat} {W H : Nat} {D : Nat → Bool} (h1 : lS dug (fun c => S c == 1)) (h2 : lS prp (fun c => S c == 2)) (ha : lS all (inG W H)) (hs : lS sh (fun c => decide (c < 8) && D c)) : ∃ r, f_X3_handCells u dug prp all sh = some r ∧ lS r (hnd W H D S) := by
  obtain ⟨b, hb, hb2⟩ := x_beside (u := u) (lS_open h1 h2)
  have e : f_X3_handCells u dug prp all sh = some ((b ||| sh) &&& all) := by
    unfold f_X3_handCells bX3_handCells_0
    rw [x_open, z_b, hb, z_b]
  refine ⟨_, e, ?_⟩
  intro k hk
  rw [lb_and, lb_or, ha k hk, hs k hk]
  by_cases c : k < 48
  · rw [hb2 k c]
    unfold hnd
    simp [c, Bool.and_comm]
  · simp [c]
/-- the class's three sets are the states -/
def mS (dug prp fal : Int64) (S : Nat → Nat) : Prop := lS dug (fun c => S c == 1) ∧ lS prp (fun c => S c == 2) ∧ lS fal (fun c => S c == 3)
theorem x_whole {u : Nat} {dug prp fal : Int64} {S : Nat → Nat} (M : mS dug prp fal S) {c : Nat} (hc : c < 48) (hS : S c ≤ 3) : f_X3_isWhole u dug prp fal (nI c) = some (zB (S c == 0)) := by
  have e : lb (dug ||| prp ||| fal) c = !(S c == 0) := by
    rw [lb_or, lb_or, lS_get M.1 hc, lS_get M.2.1 hc, lS_get M.2.2 hc]
    rcases (show S c = 0 ∨ S c = 1 ∨ S c = 2 ∨ S c = 3 by omega) with q | q | q | q <;> rw [q] <;> rfl
  unfold f_X3_isWhole bX3_isWhole_0
  simp only [z_lit, lb_t (show c < 64 by omega), e]
  cases S c == 0 <;> rfl
theorem x_state {u : Nat} {dug prp fal : Int64} {S : Nat → Nat} (M : mS dug prp fal S) {c : Nat} (hc : c < 48) (hS : S c ≤ 3) : f_X3_stateOf u dug prp fal (nI c) = some (nI (S c)) := by
  unfold f_X3_stateOf bX3_stateOf_0
  simp only [z_lit, lb_t (show c < 64 by omega), lS_get M.1 hc, lS_get M.2.1 hc, lS_get M.2.2 hc]
  rcases (show S c = 0 ∨ S c = 1 ∨ S c = 2 ∨ S c = 3 by omega) with q | q | q | q <;> rw [q] <;> rfl
/-- bars that are left -/
def brl (S B : Nat → Nat) (c : Nat) : Nat := if S c = 0 then B c else 0
theorem x_bars {u : Nat} {dug prp fal : Int64} {S B : Nat → Nat} {a7 : Nat → Int32} (M : mS dug prp fal S) (hB : ∀ c, c < 48 → a7 c = nI (B c)) {c : Nat} (hc : c < 48) (hS : S c ≤ 3) : f_X3_barsLeft u dug prp fal a7 (nI c) = some (nI (brl S B c)) := by
  unfold f_X3_barsLeft bX3_barsLeft_0
  simp (disch := omega) only [z_lit, z_lt, z_le, x_whole M hc hS, z_b, zB_eq0, z_ki, z_cl, hB c hc]
  rw [if_neg (by omega), if_neg (by omega)]
  unfold brl
  by_cases q : S c = 0
  · simp [q]
  · simp [q]
theorem x_wet {u : Nat} {all : Int64} {W H w : Nat} (ha : lS all (inG W H)) (hw : w ≤ 6) : ∃ r, f_X3_wetCells u (nI w) all = some r ∧ lS r (wet W H w) := by
  refine ⟨_, rfl, ?_⟩
  intro k hk
  have e : ((8 : Int32) * nI w) = nI (8 * w) := pk_mul 8 w
  rw [lb_and, e, lb_shl (c := 8 * w) _ (by omega) hk, ha k hk]
  unfold wet
  by_cases c : k < 48
  · by_cases d : w ≤ k / 8
    · rw [lb_m1 _ (by omega)]; simp [c, d, show 8 * w ≤ k by omega]
    · simp [d, show ¬ 8 * w ≤ k by omega]
  · simp [c]
def able (W H : Nat) (D : Nat → Bool) (S : Nat → Nat) (w c : Nat) : Bool := hnd W H D S c && (!opn S c && !wet W H w c)
theorem x_able {u : Nat} {dug prp all sh : Int64} {S : Nat → Nat} {W H w : Nat} {D : Nat → Bool} (h1 : lS dug (fun c => S c == 1)) (h2 : lS prp (fun c => S c == 2)) (ha : lS all (inG W H)) (hs : lS sh (fun c => decide (c < 8) && D c)) (hw : w ≤ 6) : ∃ r, f_X3_ableCells u (nI w) dug prp all sh = some r ∧ lS r (able W H D S w) := by
  obtain ⟨b, hb, hb2⟩ := xq_hand (u := u) h1 h2 ha hs
  obtain ⟨e, he, he2⟩ := x_wet (u := u) ha hw
  refine ⟨(b &&& ((dug ||| prp) ^^^ (-1))) &&& (e ^^^ (-1)), ?_, ?_⟩
  · unfold f_X3_ableCells bX3_ableCells_0
    rw [hb, z_b, x_open, z_b, he, z_b]
  · refine lS_cong (lS_min (lS_min hb2 (lS_open h1 h2)) he2) (fun k _ => ?_)
    unfold able
    rw [Bool.and_assoc]
/-- why a cell can't be dug, without the crew -/
def why (W H : Nat) (D : Nat → Bool) (S : Nat → Nat) (w c : Nat) : Nat := if opn S c then 1 else if hnd W H D S c then (if w ≤ c / 8 then 3 else 0) else 2
theorem x_obst {u : Nat} {dug prp all sh : Int64} {S : Nat → Nat} {W H w dg cr : Nat} {D : Nat → Bool} (h1 : lS dug (fun c => S c == 1)) (h2 : lS prp (fun c => S c == 2)) (ha : lS all (inG W H)) (hs : lS sh (fun c => decide (c < 8) && D c)) (hw : w ≤ 6) {c : Nat} (hc : c < 48) (hd : dg < 2147483648) (hcr : cr < 2147483648) :
    f_X3_obstacle u (nI dg) (nI w) dug prp (nI cr) all sh (nI c) = some (nI (if why W H D S w c = 0 then (if cr ≤ dg then 4 else 0) else why W H D S w c)) := by
  obtain ⟨b, hb, hb2⟩ := xq_hand (u := u) h1 h2 ha hs
  obtain ⟨e, he, he2⟩ := x_wet (u := u) ha hw
  unfold f_X3_obstacle bX3_obstacle_0
  simp only [z_lit, x_open, z_b, hb, he, lb_m (show c < 64 by omega), lS_get (lS_open h1 h2) hc, lS_get hb2 hc, lS_get he2 hc]
  unfold why f_X3_crewIsDone bX3_crewIsDone_0
  simp (disch := omega) only [z_lit, z_lt]
  cases q1 : opn S c with
  | true => simp
  | false =>
    cases q2 : hnd W H D S c with
    | false => simp
    | true =>
      have q3 : inG W H c = true := by unfold hnd at q2; simp at q2; exact q2.1
      unfold wet
      rw [q3]
      by_cases q4 : w ≤ c / 8
      · simp [q4]
      · by_cases q5 : dg < cr
        · simp [q4, q5, z_b, show ¬ cr ≤ dg by omega]
        · simp [q4, q5, z_b, show cr ≤ dg by omega, show ¬ nI 1 = nI 0 by decide]
