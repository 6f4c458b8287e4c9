/-! THE CORE: a small picture of the heap (cells by their places, not by addresses), and the kit's rows said over it. -/
/-- the tables' words that stay -/
def k_tb : List Cond := lw_tbl.filter goodWord
theorem k_me {w : Cond} (h : w ∈ lw_tbl) (g : goodWord w = true) : w ∈ k_tb := List.mem_filter.mpr ⟨h, g⟩
/-- the kinds of arrays, by number -/
def k_ty (t : Nat) : FieldType := match t with
  | 0 => .int
  | 1 => .byte
  | 2 => .boolean
  | 3 => .long
  | _ => .object "LullabyPit$Mine"
abbrev k_tys (cA : Nat → Nat) : List (ClassId × FieldType) := [(cA 0, .int), (cA 1, .byte), (cA 2, .boolean), (cA 3, .long), (cA 4, .object "LullabyPit$Mine")]
/-- a cell's shape: (0, class, slots) with a slot 0 an int, 1 a long, 2 null, p + 3 the cell at place p; (t + 1, length, _) an array of kind t -/
abbrev k_Sh : Type := Nat × Nat × List Nat
/-- shapes; ints of slots and of arrays; longs; references of arrays -/
abbrev k_H : Type := List k_Sh × (Nat → Nat → Int32) × (Nat → Nat → Int64) × (Nat → Nat → Option Nat)
def k_rl (ad : Nat → Nat) (v : Value) : Value := match v with
  | .ref p => .ref (ad p)
  | w => w
def k_fv (ad : Nat → Nat) (I : Nat → Nat → Int32) (L : Nat → Nat → Int64) (p k d : Nat) : Value := match d with
  | 0 => .int (I p k)
  | 1 => .long (L p k)
  | 2 => .null
  | d + 3 => .ref (ad d)
/-- the same, as a place -/
def k_pv (I : Nat → Nat → Int32) (L : Nat → Nat → Int64) (p k d : Nat) : Value := match d with
  | 0 => .int (I p k)
  | 1 => .long (L p k)
  | 2 => .null
  | d + 3 => .ref d
def k_ar (ad : Nat → Nat) (h : k_H) (p t n : Nat) : vp_A := (n, match t with
  | 0 => .inl (h.2.1 p)
  | 1 => .inl (h.2.1 p)
  | 2 => .inl (h.2.1 p)
  | 3 => .inr (.inl (h.2.2.1 p))
  | _ => .inr (.inr (.inr (.inr (fun j => (h.2.2.2 p j).map ad)))))
def k_E (ad cA : Nat → Nat) (h : k_H) (p : Nat) (s : k_Sh) : va_E := match s.1 with
  | 0 => .inr (s.2.1, s.2.2.mapIdx (fun k d => k_fv ad h.2.1 h.2.2.1 p k d))
  | t + 1 => .inl (cA t, k_ar ad h p t s.2.1)
def k_w (ad cA : Nat → Nat) (h : k_H) : va_W := h.1.mapIdx (fun p s => (ad p, k_E ad cA h p s))
theorem k_w_at (ad cA : Nat → Nat) (h : k_H) {p : Nat} {s : k_Sh} (hp : h.1[p]? = some s) : (k_w ad cA h)[p]? = some (ad p, k_E ad cA h p s) := by
  unfold k_w
  rw [List.getElem?_mapIdx, hp]
  rfl
theorem k_w_of {ad cA : Nat → Nat} {h : k_H} {p : Nat} {q : Nat × va_E} (hq : (k_w ad cA h)[p]? = some q) : ∃ s, h.1[p]? = some s ∧ q = (ad p, k_E ad cA h p s) := by
  unfold k_w at hq
  rw [List.getElem?_mapIdx] at hq
  cases hs : h.1[p]? with
  | none => rw [hs] at hq; cases hq
  | some s => rw [hs] at hq; exact ⟨s, rfl, (Option.some.inj hq).symm⟩
theorem k_rl_pv (ad : Nat → Nat) (I : Nat → Nat → Int32) (L : Nat → Nat → Int64) (p k d : Nat) : k_rl ad (k_pv I L p k d) = k_fv ad I L p k d := by
  match d with
  | 0 => rfl
  | 1 => rfl
  | 2 => rfl
  | d + 3 => rfl
theorem k_cat (ad : Nat → Nat) (v : Value) : (k_rl ad v).category = v.category := by cases v <;> rfl
theorem k_cats (ad : Nat → Nat) (st : List Value) : ((st.map (k_rl ad)).map fun v => v.category) = st.map fun v => v.category := by
  rw [List.map_map]
  exact List.map_congr_left (fun v _ => k_cat ad v)
/-- places that are named are there -/
def k_wf (h : k_H) : Prop := (∀ (p : Nat) (s : k_Sh), h.1[p]? = some s → s.1 = 0 → ∀ d ∈ s.2.2, d < h.1.length + 3) ∧ ∀ p j q : Nat, h.2.2.2 p j = some q → q < h.1.length
/-! two functions of two numbers, changed at one place -/
def k_u {α : Type} (f : Nat → Nat → α) (p k : Nat) (v : α) : Nat → Nat → α := fun p' k' => if p' = p then (if k' = k then v else f p' k') else f p' k'
def k_ua {α : Type} (f : Nat → Nat → α) (p : Nat) (g : Nat → α) : Nat → Nat → α := fun p' => if p' = p then g else f p'
/-- locals -/
def k_lh (ad : Nat → Nat) (ls : Array Slot) (nL : Nat) (lv : List (Option Value)) : Prop := ls.size = nL ∧ lv_wf ls ∧ ∀ (i : Nat) (v : Value), lv[i]? = some (some v) → ls[i]? = some (.val (k_rl ad v))
def k_ll (ad : Nat → Nat) (lv : List (Option Value)) : List (Nat × Value) := (lv.mapIdx (fun i o => o.map (fun v => (i, k_rl ad v)))).filterMap id
theorem k_ll_mem {ad : Nat → Nat} {lv : List (Option Value)} {q : Nat × Value} : q ∈ k_ll ad lv ↔ ∃ v, lv[q.1]? = some (some v) ∧ q.2 = k_rl ad v := by
  unfold k_ll
  rw [List.mem_filterMap]
  constructor
  · rintro ⟨o, ho, h2⟩
    obtain ⟨i, hi⟩ := List.getElem?_of_mem ho
    rw [List.getElem?_mapIdx] at hi
    cases hl : lv[i]? with
    | none => rw [hl] at hi; cases hi
    | some w =>
      rw [hl] at hi
      cases w with
      | none => cases hi; cases h2
      | some v => cases hi; cases h2; exact ⟨v, hl, rfl⟩
  · rintro ⟨v, h1, h2⟩
    refine ⟨some q, ?_, rfl⟩
    apply List.mem_of_getElem? (i := q.1)
    rw [List.getElem?_mapIdx, h1]
    show some (some (q.1, k_rl ad v)) = some (some q)
    rw [← h2]
theorem k_lh_has {ad : Nat → Nat} {ls : Array Slot} {nL : Nat} {lv : List (Option Value)} (h : k_lh ad ls nL lv) : lv_has ls nL (k_ll ad lv) := by
  refine ⟨h.1, h.2.1, fun q hq => ?_⟩
  obtain ⟨v, h1, h2⟩ := k_ll_mem.mp hq
  rw [h2]
  exact h.2.2 q.1 v h1
/-- a store of one word, of two -/
def k_c2 (o : Option Value) : Bool := match o with
  | some v => v.category == 2
  | none => false
def k_cl (lv : List (Option Value)) (i : Nat) : List (Option Value) := match i with
  | 0 => lv
  | j + 1 => if k_c2 (lv.getD j none) then lv.set j none else lv
def k_s1 (lv : List (Option Value)) (i : Nat) (v : Value) : List (Option Value) := (k_cl lv i).set i (some v)
def k_s2 (lv : List (Option Value)) (i : Nat) (v : Value) : List (Option Value) := ((k_cl lv i).set (i + 1) none).set i (some v)
theorem k_set_at {α : Type} {l : List α} {i : Nat} {x y : α} (h : (l.set i x)[i]? = some y) : y = x := by
  rw [List.getElem?_set] at h
  simp at h
  exact h.2.symm
theorem k_clr {lv : List (Option Value)} {i j : Nat} {w : Value} (h : (k_cl lv i)[j]? = some (some w)) (hij : j ≠ i) : lv[j]? = some (some w) ∧ ¬ (j + 1 = i ∧ w.category = 2) := by
  cases i with
  | zero => exact ⟨h, fun z => by omega⟩
  | succ k =>
    unfold k_cl at h
    dsimp only at h
    by_cases hc : k_c2 (lv.getD k none) = true
    · rw [if_pos hc] at h
      by_cases hk : j = k
      · subst hk
        by_cases hl : j < lv.length
        · rw [List.getElem?_set_self hl] at h; cases h
        · rw [List.getElem?_eq_none (by rw [List.length_set]; omega)] at h; cases h
      · rw [List.getElem?_set_ne (Ne.symm hk)] at h
        exact ⟨h, fun z => hk (by omega)⟩
    · rw [if_neg hc] at h
      refine ⟨h, fun z => hc ?_⟩
      have hk : j = k := by omega
      subst hk
      rw [List.getD_eq_getElem?_getD, h]
      show (w.category == 2) = true
      rw [z.2]; rfl
theorem k_lh_s1 {ad : Nat → Nat} {ls : Array Slot} {nL i : Nat} {lv : List (Option Value)} {v : Value} (hi : i < lv.length)
    (h : lv_has ls nL ((i, k_rl ad v) :: (k_ll ad lv).filter (fun q => !(q.1 == i) && !(q.1 + 1 == i && q.2.category == 2)))) : k_lh ad ls nL (k_s1 lv i v) := by
  refine ⟨h.1, h.2.1, fun j w hw => ?_⟩
  unfold k_s1 at hw
  by_cases hij : j = i
  · subst hij
    cases k_set_at hw
    exact h.2.2 (j, k_rl ad v) List.mem_cons_self
  · rw [List.getElem?_set_ne (Ne.symm hij)] at hw
    obtain ⟨h1, h2⟩ := k_clr hw hij
    refine h.2.2 (j, k_rl ad w) (List.mem_cons_of_mem _ (List.mem_filter.mpr ⟨k_ll_mem.mpr ⟨w, h1, rfl⟩, ?_⟩))
    simp only [Bool.and_eq_true, Bool.not_eq_true', beq_eq_false_iff_ne, ne_eq, Bool.and_eq_false_iff, k_cat]
    refine ⟨hij, ?_⟩
    by_cases hc : w.category = 2
    · exact Or.inl (fun z => h2 ⟨z, hc⟩)
    · exact Or.inr hc
theorem k_lh_s2 {ad : Nat → Nat} {ls : Array Slot} {nL i : Nat} {lv : List (Option Value)} {v : Value} (hi : i < lv.length)
    (h : lv_has ls nL ((i, k_rl ad v) :: (k_ll ad lv).filter (fun q => !(q.1 == i) && (!(q.1 == i + 1) && !(q.1 + 1 == i && q.2.category == 2))))) : k_lh ad ls nL (k_s2 lv i v) := by
  refine ⟨h.1, h.2.1, fun j w hw => ?_⟩
  unfold k_s2 at hw
  by_cases hij : j = i
  · subst hij
    cases k_set_at hw
    exact h.2.2 (j, k_rl ad v) List.mem_cons_self
  · rw [List.getElem?_set_ne (Ne.symm hij)] at hw
    by_cases hi1 : j = i + 1
    · subst hi1
      cases k_set_at hw
    · rw [List.getElem?_set_ne (Ne.symm hi1)] at hw
      obtain ⟨h1, h2⟩ := k_clr hw hij
      refine h.2.2 (j, k_rl ad w) (List.mem_cons_of_mem _ (List.mem_filter.mpr ⟨k_ll_mem.mpr ⟨w, h1, rfl⟩, ?_⟩))
      simp only [Bool.and_eq_true, Bool.not_eq_true', beq_eq_false_iff_ne, ne_eq, Bool.and_eq_false_iff, k_cat]
      refine ⟨hij, hi1, ?_⟩
      by_cases hc : w.category = 2
      · exact Or.inl (fun z => h2 ⟨z, hc⟩)
      · exact Or.inr hc
/-- the start's locals -/
def k_en : List Value → List (Option Value)
  | [] => []
  | v :: vs => if v.category = 2 then some v :: none :: k_en vs else some v :: k_en vs
theorem k_en_at {ad : Nat → Nat} : ∀ (av : List Value) (b i : Nat) (v : Value), (k_en av)[i]? = some (some v) → (b + i, k_rl ad v) ∈ lv_args b (av.map (k_rl ad))
  | [], b, i, v, h => by simp [k_en] at h
  | a :: as, b, i, v, h => by
    unfold k_en at h
    show (b + i, k_rl ad v) ∈ (b, k_rl ad a) :: lv_args (if (k_rl ad a).category = 2 then b + 2 else b + 1) (as.map (k_rl ad))
    rw [k_cat]
    by_cases hc : a.category = 2
    · rw [if_pos hc] at h
      rw [if_pos hc]
      match i with
      | 0 => cases h; exact List.mem_cons_self
      | 1 => cases h
      | i + 2 =>
        have h' : (k_en as)[i]? = some (some v) := h
        have := k_en_at (ad := ad) as (b + 2) i v h'
        rw [show b + (i + 2) = b + 2 + i by omega]
        exact List.mem_cons_of_mem _ this
    · rw [if_neg hc] at h
      rw [if_neg hc]
      match i with
      | 0 => cases h; exact List.mem_cons_self
      | i + 1 =>
        have h' : (k_en as)[i]? = some (some v) := h
        have := k_en_at (ad := ad) as (b + 1) i v h'
        rw [show b + (i + 1) = b + 1 + i by omega]
        exact List.mem_cons_of_mem _ this
def k_e0 (av : List Value) (n : Nat) : List (Option Value) := k_en av ++ List.replicate (n - (k_en av).length) none
theorem k_lh_e0 {ad : Nat → Nat} {ls : Array Slot} {n : Nat} {av : List Value} (h : lv_has ls n (lv_args 0 (av.map (k_rl ad)))) : k_lh ad ls n (k_e0 av n) := by
  refine ⟨h.1, h.2.1, fun i v hv => ?_⟩
  unfold k_e0 at hv
  by_cases hi : i < (k_en av).length
  · rw [List.getElem?_append_left hi] at hv
    have := h.2.2 _ (k_en_at (ad := ad) av 0 i v hv)
    rw [Nat.zero_add] at this
    exact this
  · rw [List.getElem?_append_right (by omega), List.getElem?_replicate] at hv
    split at hv <;> cases hv
/-- fewer locals known -/
def k_mk : List Bool → List (Option Value) → List (Option Value)
  | b :: bs, o :: os => (if b then o else none) :: k_mk bs os
  | _, _ => []
theorem k_mk_at : ∀ (bs : List Bool) (lv : List (Option Value)) (i : Nat) (v : Value), (k_mk bs lv)[i]? = some (some v) → lv[i]? = some (some v)
  | [], lv, i, v, h => by simp [k_mk] at h
  | b :: bs, [], i, v, h => by simp [k_mk] at h
  | b :: bs, o :: os, i, v, h => by
    cases i with
    | zero => cases b <;> first | (cases h; done) | exact h
    | succ i => exact k_mk_at bs os i v h
