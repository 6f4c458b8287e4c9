/-! NEW CELLS: the picture grows at its end -/
def k_gr (s : k_Sh) (h : k_H) : k_H := (h.1 ++ [s], k_ua h.2.1 h.1.length (fun _ => 0), k_ua h.2.2.1 h.1.length (fun _ => 0), k_ua h.2.2.2 h.1.length (fun _ => none))
def k_na (ad : Nat → Nat) (n q : Nat) : Nat → Nat := fun p => if p = n then q else ad p
theorem k_na_sm {ad : Nat → Nat} {n q : Nat} (h : n < 1000000) : k_sm n ad (k_na ad n q) := fun p hp => by unfold k_na; rw [if_neg (by omega)]
/-- a cell that names places of old alone looks alike -/
theorem k_E_gr {ad ad' cA : Nat → Nat} {h h' : k_H} {p : Nat} {s : k_Sh} {n : Nat} (hsm : k_sm n ad ad') (h1 : h'.2.1 p = h.2.1 p) (h2 : h'.2.2.1 p = h.2.2.1 p) (h3 : h'.2.2.2 p = h.2.2.2 p) (hs : s.1 = 0 → ∀ d ∈ s.2.2, d < n + 3) (hr : ∀ j q : Nat, h.2.2.2 p j = some q → q < n) : k_E ad' cA h' p s = k_E ad cA h p s := by
  obtain ⟨t, m, sl⟩ := s
  unfold k_E k_ar
  cases t with
  | zero =>
    dsimp only
    congr 2
    apply List.ext_getElem?
    intro j
    rw [List.getElem?_mapIdx, List.getElem?_mapIdx]
    cases hj : sl[j]? with
    | none => rfl
    | some d =>
      have hd : d < n + 3 := hs rfl d (List.mem_of_getElem? hj)
      show some (k_fv ad' h'.2.1 h'.2.2.1 p j d) = some (k_fv ad h.2.1 h.2.2.1 p j d)
      match d, hd with
      | 0, _ => show some (Value.int (h'.2.1 p j)) = some (Value.int (h.2.1 p j)); rw [h1]
      | 1, _ => show some (Value.long (h'.2.2.1 p j)) = some (Value.long (h.2.2.1 p j)); rw [h2]
      | 2, _ => rfl
      | d + 3, hd => show some (Value.ref (ad' d)) = some (Value.ref (ad d)); rw [hsm d (Or.inl (by omega))]
  | succ t =>
    dsimp only
    rw [h1, h2, h3]
    match t with
    | 0 => rfl
    | 1 => rfl
    | 2 => rfl
    | 3 => rfl
    | t + 4 =>
      show (Sum.inl (cA (t + 4), m, Sum.inr (Sum.inr (Sum.inr (Sum.inr (fun j => (h.2.2.2 p j).map ad'))))) : va_E) = Sum.inl (cA (t + 4), m, Sum.inr (Sum.inr (Sum.inr (Sum.inr (fun j => (h.2.2.2 p j).map ad)))))
      have e : (fun j => (h.2.2.2 p j).map ad') = fun j => (h.2.2.2 p j).map ad := by
        funext j
        cases hq : h.2.2.2 p j with
        | none => rfl
        | some q => show some (ad' q) = some (ad q); rw [hsm q (Or.inl (hr j q hq))]
      rw [e]
theorem k_w_gr {ad ad' cA : Nat → Nat} {h : k_H} {s : k_Sh} (hw : k_wf h) (hsm : k_sm h.1.length ad ad') : k_w ad' cA (k_gr s h) = k_w ad cA h ++ [(ad' h.1.length, k_E ad' cA (k_gr s h) h.1.length s)] := by
  apply List.ext_getElem?
  intro j
  have hlen : (k_w ad cA h).length = h.1.length := by unfold k_w; rw [List.length_mapIdx]
  by_cases hj : j < h.1.length
  · rw [List.getElem?_append_left (by rw [hlen]; exact hj)]
    have hs : h.1[j]? = some h.1[j] := List.getElem?_eq_getElem hj
    rw [k_w_at ad cA h hs, k_w_at ad' cA (k_gr s h) (p := j) (s := h.1[j]) (by
      show (h.1 ++ [s])[j]? = _
      rw [List.getElem?_append_left hj]; exact hs)]
    have hne : j ≠ h.1.length := Nat.ne_of_lt hj
    rw [hsm j (Or.inl hj), k_E_gr (h := h) hsm (k_ua_ne hne) (k_ua_ne hne) (k_ua_ne hne) (hw.1 j _ hs) (fun i q hq => hw.2 j i q hq)]
  · rw [List.getElem?_append_right (by rw [hlen]; omega), hlen]
    by_cases he : j = h.1.length
    · subst he
      rw [Nat.sub_self]
      rw [k_w_at ad' cA (k_gr s h) (p := h.1.length) (s := s) (by
        show (h.1 ++ [s])[h.1.length]? = _
        rw [List.getElem?_append_right (Nat.le_refl _), Nat.sub_self]; rfl)]
      rfl
    · unfold k_w
      rw [List.getElem?_eq_none (by rw [List.length_mapIdx]; show (h.1 ++ [s]).length ≤ j; rw [List.length_append, List.length_singleton]; omega), List.getElem?_eq_none (by rw [List.length_singleton]; omega)]
theorem k_wf_gr {h : k_H} {s : k_Sh} (hw : k_wf h) (hs : s.1 = 0 → ∀ d ∈ s.2.2, d < 3) : k_wf (k_gr s h) := by
  have hl : (k_gr s h).1.length = h.1.length + 1 := by show (h.1 ++ [s]).length = _; rw [List.length_append, List.length_singleton]
  refine ⟨fun p s2 hp h0 d hd => ?_, fun p j q hq => ?_⟩
  · rw [hl]
    by_cases hlt : p < h.1.length
    · have hp2 : h.1[p]? = some s2 := by
        have hp3 : (h.1 ++ [s])[p]? = some s2 := hp
        rw [List.getElem?_append_left hlt] at hp3; exact hp3
      have := hw.1 p s2 hp2 h0 d hd
      omega
    · have hp3 : (h.1 ++ [s])[p]? = some s2 := hp
      rw [List.getElem?_append_right (by omega)] at hp3
      have hm := List.mem_of_getElem? hp3
      rw [List.mem_singleton] at hm
      subst hm
      have := hs h0 d hd
      omega
  · rw [hl]
    have hq2 : k_ua h.2.2.2 h.1.length (fun _ => none) p j = some q := hq
    unfold k_ua at hq2
    by_cases he : p = h.1.length
    · rw [if_pos he] at hq2; cases hq2
    · rw [if_neg he] at hq2
      have := hw.2 p j q hq2
      omega
def k_dv : Nat → Value
  | 0 => .int 0
  | 1 => .long 0
  | _ => .null
theorem k_new_fs {ad : Nat → Nat} {h : k_H} {ci : Nat} {sl : List Nat} (hz : ∀ d ∈ sl, d < 3) : k_E ad (fun _ => 0) (k_gr (0, ci, sl) h) h.1.length (0, ci, sl) = .inr (ci, sl.map k_dv) := by
  show (Sum.inr (ci, sl.mapIdx (fun k d => k_fv ad (k_ua h.2.1 h.1.length (fun _ => 0)) (k_ua h.2.2.1 h.1.length (fun _ => 0)) h.1.length k d)) : va_E) = _
  congr 2
  apply List.ext_getElem?
  intro j
  rw [List.getElem?_mapIdx, List.getElem?_map]
  cases hj : sl[j]? with
  | none => rfl
  | some d =>
    have hd := hz d (List.mem_of_getElem? hj)
    match d, hd with
    | 0, _ => show some (Value.int (k_ua h.2.1 h.1.length (fun _ => 0) h.1.length j)) = some (.int 0); rw [k_ua_self]
    | 1, _ => show some (Value.long (k_ua h.2.2.1 h.1.length (fun _ => 0) h.1.length j)) = some (.long 0); rw [k_ua_self]
    | 2, _ => rfl
section NEWS
variable {X : k_X} {cc : ByteArray} {own : String} {nL cells slots : Nat} {Q : State → Prop} {ad : Nat → Nat} {h : k_H} {pc pc' : Nat} {lv : List (Option Value)} {st : List Value}
theorem g_new (C : k_C X cc own nL ad) {ix ci N : Nat} {Cn : String} {T : u_T} {ty : Nat → FieldType} {sl : List Nat} (hd : decode cc pc = .ok (.new ix, 3)) (hn : pc + 3 = pc') (hc : vwCl[ci]? = some (Cn, T, N)) (hin : ∀ w ∈ u_ws Cn T N, w ∈ k_tb) (hty : ∀ k, k < N → parseFieldDescriptor (T k).2.2.1 = some (ty k)) (hcl : Cond.classLink own ix Cn ∈ k_tb) (hinst : Cond.instantiable Cn N ∈ k_tb) (hini : Cond.initialized Cn ∈ k_tb)
    (hfs : ∀ j, j < N → defaultValue (ty j) = vp_V (sl.map k_dv) j) (hz : ∀ d ∈ sl, d < 3) (hcs : cells + 1 ≤ X.R.cells ∧ slots + N ≤ X.R.slots) (hlen : h.1.length < 1000000) (hlo : k_okL h.1.length lv) (hso : k_okS h.1.length st)
    (k : ∀ ad' : Nat → Nat, k_sm h.1.length ad ad' → k_C X cc own nL ad' → k_W X nL (cells + 1) (slots + N) Q ad' (k_gr (0, ci, sl) h) pc' lv (.ref h.1.length :: st)) : k_W X nL cells slots Q ad h pc lv st := by
  subst hn
  intro H locs ls hw hP hD hS hll
  refine va_new (C := Cn) (T := T) (N := N) (ci := ci) (fs := sl.map k_dv) C.1 C.2.1 C.2.2.2.2.1 hin ty hty C.2.2.2.1 (C.2.2.2.2.1 _ hcl) (C.2.2.2.2.1 _ hinst) (C.2.2.2.2.1 _ hini) C.2.2.2.2.2.1 hP hD hS C.2.2.2.2.2.2.1 hc hfs hcs.1 hcs.2 hd (fun q H1 hP1 hD1 hS1 => ?_)
  have hsm : k_sm h.1.length ad (k_na ad h.1.length q) := k_na_sm hlen
  have e1 : k_na ad h.1.length q h.1.length = q := if_pos rfl
  have e2 : k_w (k_na ad h.1.length q) X.cA (k_gr (0, ci, sl) h) = k_w ad X.cA h ++ [(q, .inr (ci, sl.map k_dv))] := by
    rw [k_w_gr hw hsm, e1]
    congr 3
    exact k_new_fs hz
  have hw2 : k_wf (k_gr (0, ci, sl) h) := k_wf_gr hw (fun _ => hz)
  have := k _ hsm (k_C_sm C hsm) H1 locs ls hw2 (by rw [e2]; exact hP1) (by rw [e2]; exact hD1) hS1 (k_lh_sm hll hsm hlo)
  rw [List.map_cons, k_st_sm hsm hso] at this
  show k_Wx X H1 locs _ _ Q (F0 X.m (pc + 3) ls (.ref q :: st.map (k_rl ad)))
  have e3 : k_rl (k_na ad h.1.length q) (.ref h.1.length) = .ref q := by show Value.ref _ = _; rw [e1]
  rw [e3] at this
  exact this
/-- the arrays of ints, bytes, booleans, longs -/
def k_z0 (t n : Nat) : vp_A := (n, match t with
  | 3 => .inr (.inl (fun _ => 0))
  | _ => .inl (fun _ => 0))
theorem g_newa (C : k_C X cc own nL ad) {t N : Nat} {atype : ArrayType} {ty : FieldType} {n : Int32} (hd : decode cc pc = .ok (.newarray atype, 2)) (hn : pc + 2 = pc') (hty : newarray.typeOf atype = ty) (ht : t < 4) (htt : ∀ cA : Nat → Nat, (k_tys cA)[t]? = some (cA t, ty)) (hra : ∀ (s : State) (a b : ClassId), va_RA s a ty → va_RA s b ty → a = b) (harr : Cond.arrayClass (newarray.typeOf atype) ∈ k_tb) (ha : ∀ cA : ClassId, vp_cell cA (k_z0 t N) = arrV cA N (fun _ => defaultValue ty))
    (hn0 : ¬ n < 0) (hN : n.toNatClampNeg = N) (hbytes : N * componentBytes ty ≤ 536870912) (hcs : cells + 1 ≤ X.R.cells ∧ slots + N ≤ X.R.slots) (hlen : h.1.length < 1000000) (hlo : k_okL h.1.length lv) (hso : k_okS h.1.length st)
    (k : ∀ ad' : Nat → Nat, k_sm h.1.length ad ad' → k_C X cc own nL ad' → k_W X nL (cells + 1) (slots + N) Q ad' (k_gr (t + 1, N, []) h) pc' lv (.ref h.1.length :: st)) : k_W X nL cells slots Q ad h pc lv (.int n :: st) := by
  subst hn
  intro H locs ls hw hP hD hS hll
  refine va_newa (atype := atype) (a0 := k_z0 t N) C.1 C.2.1 (C.2.2.2.2.1 _ harr) hty C.2.2.2.2.2.1 hP hD hS C.2.2.2.2.2.2.1 ha hn0 hN hbytes hcs.1 hcs.2 hd (fun q cA H1 hK1 hP1 hD1 hS1 => ?_)
  have hcA : cA = X.cA t := by
    have h1 := (hK1.2 (k_tys X.cA).length (cA, ty) (by rw [List.getElem?_append_right (Nat.le_refl _), Nat.sub_self]; rfl)).2
    exact hra X.s _ _ h1 (C.2.2.2.2.2.1.2 t _ (htt X.cA)).2
  subst hcA
  have hsm : k_sm h.1.length ad (k_na ad h.1.length q) := k_na_sm hlen
  have e1 : k_na ad h.1.length q h.1.length = q := if_pos rfl
  have e2 : k_w (k_na ad h.1.length q) X.cA (k_gr (t + 1, N, []) h) = k_w ad X.cA h ++ [(q, .inl (X.cA t, k_z0 t N))] := by
    rw [k_w_gr hw hsm, e1]
    congr 3
    match t, ht with
    | 0, _ => show (Sum.inl (X.cA 0, N, Sum.inl (k_ua h.2.1 h.1.length (fun _ => 0) h.1.length)) : va_E) = _; rw [k_ua_self]; rfl
    | 1, _ => show (Sum.inl (X.cA 1, N, Sum.inl (k_ua h.2.1 h.1.length (fun _ => 0) h.1.length)) : va_E) = _; rw [k_ua_self]; rfl
    | 2, _ => show (Sum.inl (X.cA 2, N, Sum.inl (k_ua h.2.1 h.1.length (fun _ => 0) h.1.length)) : va_E) = _; rw [k_ua_self]; rfl
    | 3, _ => show (Sum.inl (X.cA 3, N, Sum.inr (Sum.inl (k_ua h.2.2.1 h.1.length (fun _ => 0) h.1.length))) : va_E) = _; rw [k_ua_self]; rfl
  have hw2 : k_wf (k_gr (t + 1, N, []) h) := k_wf_gr hw (fun z => by cases z)
  have := k _ hsm (k_C_sm C hsm) H1 locs ls hw2 (by rw [e2]; exact hP1) (by rw [e2]; exact hD1) hS1 (k_lh_sm hll hsm hlo)
  rw [List.map_cons, k_st_sm hsm hso] at this
  have e3 : k_rl (k_na ad h.1.length q) (.ref h.1.length) = .ref q := by show Value.ref _ = _; rw [e1]
  rw [e3] at this
  exact this
theorem k_raI (s : State) (a b : ClassId) (h1 : va_RA s a .int) (h2 : va_RA s b .int) : a = b := Option.some.inj ((va_nm_int h1).symm.trans (va_nm_int h2))
theorem k_raB (s : State) (a b : ClassId) (h1 : va_RA s a .byte) (h2 : va_RA s b .byte) : a = b := Option.some.inj ((va_nm_byte h1).symm.trans (va_nm_byte h2))
theorem k_raZ (s : State) (a b : ClassId) (h1 : va_RA s a .boolean) (h2 : va_RA s b .boolean) : a = b := Option.some.inj ((va_nm_boolean h1).symm.trans (va_nm_boolean h2))
theorem k_raL (s : State) (a b : ClassId) (h1 : va_RA s a .long) (h2 : va_RA s b .long) : a = b := Option.some.inj ((va_nm_long h1).symm.trans (va_nm_long h2))
theorem w_aI : Cond.arrayClass (newarray.typeOf .int) ∈ k_tb := by decide +kernel
theorem w_aB : Cond.arrayClass (newarray.typeOf .byte) ∈ k_tb := by decide +kernel
theorem w_aL : Cond.arrayClass (newarray.typeOf .long) ∈ k_tb := by decide +kernel
theorem g_newI (C : k_C X cc own nL ad) {N : Nat} {n : Int32} (hd : decode cc pc = .ok (.newarray .int, 2)) (hn : pc + 2 = pc') (hn0 : ¬ n < 0) (hN : n.toNatClampNeg = N) (hbytes : N * 4 ≤ 536870912) (hcs : cells + 1 ≤ X.R.cells ∧ slots + N ≤ X.R.slots) (hlen : h.1.length < 1000000) (hlo : k_okL h.1.length lv) (hso : k_okS h.1.length st)
    (k : ∀ ad' : Nat → Nat, k_sm h.1.length ad ad' → k_C X cc own nL ad' → k_W X nL (cells + 1) (slots + N) Q ad' (k_gr (1, N, []) h) pc' lv (.ref h.1.length :: st)) : k_W X nL cells slots Q ad h pc lv (.int n :: st) :=
  g_newa (t := 0) (ty := .int) C hd hn rfl (by decide) (fun _ => rfl) k_raI w_aI (fun _ => rfl) hn0 hN hbytes hcs hlen hlo hso k
theorem g_newB (C : k_C X cc own nL ad) {N : Nat} {n : Int32} (hd : decode cc pc = .ok (.newarray .byte, 2)) (hn : pc + 2 = pc') (hn0 : ¬ n < 0) (hN : n.toNatClampNeg = N) (hbytes : N * 1 ≤ 536870912) (hcs : cells + 1 ≤ X.R.cells ∧ slots + N ≤ X.R.slots) (hlen : h.1.length < 1000000) (hlo : k_okL h.1.length lv) (hso : k_okS h.1.length st)
    (k : ∀ ad' : Nat → Nat, k_sm h.1.length ad ad' → k_C X cc own nL ad' → k_W X nL (cells + 1) (slots + N) Q ad' (k_gr (2, N, []) h) pc' lv (.ref h.1.length :: st)) : k_W X nL cells slots Q ad h pc lv (.int n :: st) :=
  g_newa (t := 1) (ty := .byte) C hd hn rfl (by decide) (fun _ => rfl) k_raB w_aB (fun _ => rfl) hn0 hN hbytes hcs hlen hlo hso k
theorem g_newL (C : k_C X cc own nL ad) {N : Nat} {n : Int32} (hd : decode cc pc = .ok (.newarray .long, 2)) (hn : pc + 2 = pc') (hn0 : ¬ n < 0) (hN : n.toNatClampNeg = N) (hbytes : N * 8 ≤ 536870912) (hcs : cells + 1 ≤ X.R.cells ∧ slots + N ≤ X.R.slots) (hlen : h.1.length < 1000000) (hlo : k_okL h.1.length lv) (hso : k_okS h.1.length st)
    (k : ∀ ad' : Nat → Nat, k_sm h.1.length ad ad' → k_C X cc own nL ad' → k_W X nL (cells + 1) (slots + N) Q ad' (k_gr (4, N, []) h) pc' lv (.ref h.1.length :: st)) : k_W X nL cells slots Q ad h pc lv (.int n :: st) :=
  g_newa (t := 3) (ty := .long) C hd hn rfl (by decide) (fun _ => rfl) k_raL w_aL (fun _ => rfl) hn0 hN hbytes hcs hlen hlo hso k
end NEWS
