/-- a field by its pool number: its class, its slot -/
def k_FL (own : String) (ix ci kk : Nat) : Prop := ∃ (Cn : String) (T : u_T) (N : Nat), vwCl[ci]? = some (Cn, T, N) ∧ (∀ w ∈ u_ws Cn T N, w ∈ k_tb) ∧ kk < N ∧ (Cond.fieldLink own ix (T kk).1 (T kk).2.1 (T kk).2.2.1 ∈ k_tb ∨ ∃ host, Cond.fieldLinkNest own ix (T kk).1 (T kk).2.1 (T kk).2.2.1 host ∈ k_tb)
def k_FP (own : String) (ix ci kk : Nat) (ty : FieldType) : Prop := ∃ (Cn : String) (T : u_T) (N : Nat) (ty0 : Nat → FieldType), vwCl[ci]? = some (Cn, T, N) ∧ (∀ w ∈ u_ws Cn T N, w ∈ k_tb) ∧ (∀ k, k < N → parseFieldDescriptor (T k).2.2.1 = some (ty0 k)) ∧ (∀ a, a < N → ∀ b, b < N → a ≠ b → (T a).2.1 ≠ (T b).2.1) ∧ kk < N ∧ (T kk).2.2.2 = false ∧ parseFieldDescriptor (T kk).2.2.1 = some ty ∧ (Cond.fieldLink own ix (T kk).1 (T kk).2.1 (T kk).2.2.1 ∈ k_tb ∨ ∃ host, Cond.fieldLinkNest own ix (T kk).1 (T kk).2.1 (T kk).2.2.1 host ∈ k_tb)
theorem k_set_eq {ad cA : Nat → Nat} {h h' : k_H} {p : Nat} {s : k_Sh} (hp : h.1[p]? = some s) (hsh : h'.1 = h.1) (ho : ∀ (q : Nat) (s2 : k_Sh), h.1[q]? = some s2 → q ≠ p → k_E ad cA h' q s2 = k_E ad cA h q s2) : (k_w ad cA h).set p (ad p, k_E ad cA h' p s) = k_w ad cA h' := by
  apply List.ext_getElem?
  intro j
  by_cases hj : j = p
  · subst hj
    rw [List.getElem?_set_self (by unfold k_w; rw [List.length_mapIdx]; exact (List.getElem?_eq_some_iff.mp hp).1), k_w_at ad cA h' (by rw [hsh]; exact hp)]
  · rw [List.getElem?_set_ne (Ne.symm hj)]
    unfold k_w
    rw [List.getElem?_mapIdx, List.getElem?_mapIdx, hsh]
    cases hs : h.1[j]? with
    | none => rfl
    | some s2 =>
      show some (ad j, k_E ad cA h j s2) = some (ad j, k_E ad cA h' j s2)
      rw [ho j s2 hs hj]
theorem k_u_ne {α : Type} {f : Nat → Nat → α} {p k q : Nat} {v : α} (hq : q ≠ p) : k_u f p k v q = f q := by
  funext j
  unfold k_u
  rw [if_neg hq]
theorem k_ua_ne {α : Type} {f : Nat → Nat → α} {p q : Nat} {g : Nat → α} (hq : q ≠ p) : k_ua f p g q = f q := by
  unfold k_ua
  rw [if_neg hq]
theorem k_ua_self {α : Type} {f : Nat → Nat → α} {p : Nat} {g : Nat → α} : k_ua f p g p = g := by
  unfold k_ua
  rw [if_pos rfl]
theorem k_E_cong {ad cA : Nat → Nat} {h h' : k_H} {q : Nat} {s : k_Sh} (h1 : h'.2.1 q = h.2.1 q) (h2 : h'.2.2.1 q = h.2.2.1 q) (h3 : h'.2.2.2 q = h.2.2.2 q) : k_E ad cA h' q s = k_E ad cA h q s := by
  obtain ⟨t, n, sl⟩ := s
  unfold k_E k_ar
  cases t with
  | zero =>
    dsimp only
    congr 2
    apply List.ext_getElem?
    intro j
    rw [List.getElem?_mapIdx, List.getElem?_mapIdx]
    cases sl[j]? with
    | none => rfl
    | some d =>
      show some (k_fv ad h'.2.1 h'.2.2.1 q j d) = some (k_fv ad h.2.1 h.2.2.1 q j d)
      match d with
      | 0 => show some (Value.int (h'.2.1 q j)) = some (Value.int (h.2.1 q j)); rw [h1]
      | 1 => show some (Value.long (h'.2.2.1 q j)) = some (Value.long (h.2.2.1 q j)); rw [h2]
      | 2 => rfl
      | d + 3 => rfl
  | succ t => dsimp only; rw [h1, h2, h3]
theorem k_fs_set {ad : Nat → Nat} {I I' : Nat → Nat → Int32} {L L' : Nat → Nat → Int64} {p kk : Nat} {sl : List Nat} {v : Value} (hk : ∃ d, sl[kk]? = some d ∧ k_fv ad I' L' p kk d = v) (ho : ∀ j d, sl[j]? = some d → j ≠ kk → k_fv ad I' L' p j d = k_fv ad I L p j d) : (sl.mapIdx (fun k d => k_fv ad I L p k d)).set kk v = sl.mapIdx (fun k d => k_fv ad I' L' p k d) := by
  obtain ⟨d0, hd0, hv⟩ := hk
  apply List.ext_getElem?
  intro j
  by_cases hj : j = kk
  · subst hj
    rw [List.getElem?_set_self (by rw [List.length_mapIdx]; exact (List.getElem?_eq_some_iff.mp hd0).1), List.getElem?_mapIdx, hd0]
    show some v = some (k_fv ad I' L' p j d0)
    rw [hv]
  · rw [List.getElem?_set_ne (Ne.symm hj), List.getElem?_mapIdx, List.getElem?_mapIdx]
    cases hs : sl[j]? with
    | none => rfl
    | some d =>
      show some (k_fv ad I L p j d) = some (k_fv ad I' L' p j d)
      rw [ho j d hs hj]
section HEAP
variable {X : k_X} {cc : ByteArray} {own : String} {nL cells slots : Nat} {Q : State → Prop} {ad : Nat → Nat} {h : k_H} {pc pc' : Nat} {lv : List (Option Value)} {st : List Value}
theorem r_getf (C : k_C X cc own nL ad) {ix p ci kk d : Nat} {sl : List Nat} (hd : decode cc pc = .ok (.getfield ix, 3)) (hn : pc + 3 = pc') (F : k_FL own ix ci kk) (hs : h.1[p]? = some (0, ci, sl)) (hsl : sl[kk]? = some d) (k : k_W X nL cells slots Q ad h pc' lv (k_pv h.2.1 h.2.2.1 p kk d :: st)) : k_W X nL cells slots Q ad h pc lv (.ref p :: st) := by
  subst hn
  intro H locs ls hw hP hD hS hl
  obtain ⟨Cn, T, N, hc, hin, hk, hlink⟩ := F
  have he := k_w_at ad X.cA h hs
  have hv : (sl.mapIdx (fun k d => k_fv ad h.2.1 h.2.2.1 p k d))[kk]? = some (k_rl ad (k_pv h.2.1 h.2.2.1 p kk d)) := by
    rw [List.getElem?_mapIdx, hsl, k_rl_pv]; rfl
  rcases hlink with hlink | ⟨host, hlink⟩
  · exact va_get (C := Cn) (T := T) (N := N) (D := X.D) (ci := ci) C.1 C.2.1 C.2.2.2.2.1 hin C.2.2.2.1 C.2.2.2.2.2.1 hP p he hc kk hk (C.2.2.2.2.1 _ hlink) (fun _ h9 => h9) hv hd (k H locs ls hw hP hD hS hl)
  · exact va_getN (C := Cn) (T := T) (N := N) (D := X.D) (ci := ci) C.1 C.2.1 C.2.2.2.2.1 hin C.2.2.2.1 C.2.2.2.2.2.1 hP p he hc kk hk (C.2.2.2.2.1 _ hlink) (fun _ h9 => h9) hv hd (k H locs ls hw hP hD hS hl)
theorem r_getI (C : k_C X cc own nL ad) {ix p ci kk : Nat} {sl : List Nat} {v : Int32} (hd : decode cc pc = .ok (.getfield ix, 3)) (hn : pc + 3 = pc') (F : k_FL own ix ci kk) (hs : h.1[p]? = some (0, ci, sl)) (hsl : sl[kk]? = some 0) (hv : h.2.1 p kk = v) (k : k_W X nL cells slots Q ad h pc' lv (.int v :: st)) : k_W X nL cells slots Q ad h pc lv (.ref p :: st) :=
  r_getf C hd hn F hs hsl (by subst hv; exact k)
theorem r_getL (C : k_C X cc own nL ad) {ix p ci kk : Nat} {sl : List Nat} {v : Int64} (hd : decode cc pc = .ok (.getfield ix, 3)) (hn : pc + 3 = pc') (F : k_FL own ix ci kk) (hs : h.1[p]? = some (0, ci, sl)) (hsl : sl[kk]? = some 1) (hv : h.2.2.1 p kk = v) (k : k_W X nL cells slots Q ad h pc' lv (.long v :: st)) : k_W X nL cells slots Q ad h pc lv (.ref p :: st) :=
  r_getf C hd hn F hs hsl (by subst hv; exact k)
theorem r_getR (C : k_C X cc own nL ad) {ix p ci kk q : Nat} {sl : List Nat} (hd : decode cc pc = .ok (.getfield ix, 3)) (hn : pc + 3 = pc') (F : k_FL own ix ci kk) (hs : h.1[p]? = some (0, ci, sl)) (hsl : sl[kk]? = some (q + 3)) (k : k_W X nL cells slots Q ad h pc' lv (.ref q :: st)) : k_W X nL cells slots Q ad h pc lv (.ref p :: st) :=
  r_getf C hd hn F hs hsl k
theorem r_putI (C : k_C X cc own nL ad) {ix p ci kk : Nat} {sl : List Nat} {v : Int32} (hd : decode cc pc = .ok (.putfield ix, 3)) (hn : pc + 3 = pc') (F : k_FP own ix ci kk .int) (hs : h.1[p]? = some (0, ci, sl)) (hsl : sl[kk]? = some 0) (k : k_W X nL cells slots Q ad (h.1, k_u h.2.1 p kk v, h.2.2) pc' lv st) : k_W X nL cells slots Q ad h pc lv (.int v :: .ref p :: st) := by
  subst hn
  intro H locs ls hw hP hD hS hl
  obtain ⟨Cn, T, N, ty0, hc, hin, hty, hnm, hk, hfin, hd0, hlink⟩ := F
  have he := k_w_at ad X.cA h hs
  have hlen : kk < (sl.mapIdx (fun k d => k_fv ad h.2.1 h.2.2.1 p k d)).length := by rw [List.length_mapIdx]; exact (List.getElem?_eq_some_iff.mp hsl).1
  have e1 : (sl.mapIdx (fun k d => k_fv ad h.2.1 h.2.2.1 p k d)).set kk (.int v) = sl.mapIdx (fun k d => k_fv ad (k_u h.2.1 p kk v) h.2.2.1 p k d) := by
    refine k_fs_set ⟨0, hsl, ?_⟩ (fun j d hj hjk => ?_)
    · show Value.int (k_u h.2.1 p kk v p kk) = .int v
      unfold k_u; rw [if_pos rfl, if_pos rfl]
    · match d with
      | 0 => show Value.int (k_u h.2.1 p kk v p j) = .int (h.2.1 p j); unfold k_u; rw [if_pos rfl, if_neg hjk]
      | 1 => rfl
      | 2 => rfl
      | d + 3 => rfl
  have e2 : (k_w ad X.cA h).set p (ad p, .inr (ci, (sl.mapIdx (fun k d => k_fv ad h.2.1 h.2.2.1 p k d)).set kk (.int v))) = k_w ad X.cA (h.1, k_u h.2.1 p kk v, h.2.2) := by
    rw [e1]
    exact k_set_eq (s := (0, ci, sl)) (h' := (h.1, k_u h.2.1 p kk v, h.2.2)) hs rfl (fun q s2 _ hq => k_E_cong (k_u_ne hq) rfl rfl)
  rcases hlink with hlink | ⟨host, hlink⟩
  · exact va_put (C := Cn) (T := T) (N := N) (D := X.D) (ci := ci) (v := .int v) (ty := .int) C.1 C.2.1 C.2.2.2.2.1 hin ty0 hty hnm C.2.2.2.1 C.2.2.2.2.2.1 hP hD hS p he hc kk hk (C.2.2.2.2.1 _ hlink) (fun _ h9 => h9) hfin hd0 rfl rfl hlen hd (fun H1 locs1 hP1 hD1 hS1 => k H1 locs1 ls hw (e2 ▸ hP1) (e2 ▸ hD1) hS1 hl)
  · exact va_putN (C := Cn) (T := T) (N := N) (D := X.D) (ci := ci) (v := .int v) (ty := .int) C.1 C.2.1 C.2.2.2.2.1 hin ty0 hty hnm C.2.2.2.1 C.2.2.2.2.2.1 hP hD hS p he hc kk hk (C.2.2.2.2.1 _ hlink) (fun _ h9 => h9) hfin hd0 rfl rfl hlen hd (fun H1 locs1 hP1 hD1 hS1 => k H1 locs1 ls hw (e2 ▸ hP1) (e2 ▸ hD1) hS1 hl)
theorem r_putL (C : k_C X cc own nL ad) {ix p ci kk : Nat} {sl : List Nat} {v : Int64} (hd : decode cc pc = .ok (.putfield ix, 3)) (hn : pc + 3 = pc') (F : k_FP own ix ci kk .long) (hs : h.1[p]? = some (0, ci, sl)) (hsl : sl[kk]? = some 1) (k : k_W X nL cells slots Q ad (h.1, h.2.1, k_u h.2.2.1 p kk v, h.2.2.2) pc' lv st) : k_W X nL cells slots Q ad h pc lv (.long v :: .ref p :: st) := by
  subst hn
  intro H locs ls hw hP hD hS hl
  obtain ⟨Cn, T, N, ty0, hc, hin, hty, hnm, hk, hfin, hd0, hlink⟩ := F
  have he := k_w_at ad X.cA h hs
  have hlen : kk < (sl.mapIdx (fun k d => k_fv ad h.2.1 h.2.2.1 p k d)).length := by rw [List.length_mapIdx]; exact (List.getElem?_eq_some_iff.mp hsl).1
  have e1 : (sl.mapIdx (fun k d => k_fv ad h.2.1 h.2.2.1 p k d)).set kk (.long v) = sl.mapIdx (fun k d => k_fv ad h.2.1 (k_u h.2.2.1 p kk v) p k d) := by
    refine k_fs_set ⟨1, hsl, ?_⟩ (fun j d hj hjk => ?_)
    · show Value.long (k_u h.2.2.1 p kk v p kk) = .long v
      unfold k_u; rw [if_pos rfl, if_pos rfl]
    · match d with
      | 0 => rfl
      | 1 => show Value.long (k_u h.2.2.1 p kk v p j) = .long (h.2.2.1 p j); unfold k_u; rw [if_pos rfl, if_neg hjk]
      | 2 => rfl
      | d + 3 => rfl
  have e2 : (k_w ad X.cA h).set p (ad p, .inr (ci, (sl.mapIdx (fun k d => k_fv ad h.2.1 h.2.2.1 p k d)).set kk (.long v))) = k_w ad X.cA (h.1, h.2.1, k_u h.2.2.1 p kk v, h.2.2.2) := by
    rw [e1]
    exact k_set_eq (s := (0, ci, sl)) (h' := (h.1, h.2.1, k_u h.2.2.1 p kk v, h.2.2.2)) hs rfl (fun q s2 _ hq => k_E_cong rfl (k_u_ne hq) rfl)
  rcases hlink with hlink | ⟨host, hlink⟩
  · exact va_put (C := Cn) (T := T) (N := N) (D := X.D) (ci := ci) (v := .long v) (ty := .long) C.1 C.2.1 C.2.2.2.2.1 hin ty0 hty hnm C.2.2.2.1 C.2.2.2.2.2.1 hP hD hS p he hc kk hk (C.2.2.2.2.1 _ hlink) (fun _ h9 => h9) hfin hd0 rfl rfl hlen hd (fun H1 locs1 hP1 hD1 hS1 => k H1 locs1 ls hw (e2 ▸ hP1) (e2 ▸ hD1) hS1 hl)
  · exact va_putN (C := Cn) (T := T) (N := N) (D := X.D) (ci := ci) (v := .long v) (ty := .long) C.1 C.2.1 C.2.2.2.2.1 hin ty0 hty hnm C.2.2.2.1 C.2.2.2.2.2.1 hP hD hS p he hc kk hk (C.2.2.2.2.1 _ hlink) (fun _ h9 => h9) hfin hd0 rfl rfl hlen hd (fun H1 locs1 hP1 hD1 hS1 => k H1 locs1 ls hw (e2 ▸ hP1) (e2 ▸ hD1) hS1 hl)
/-! arrays: ints, bytes, booleans, longs -/
theorem r_iald (C : k_C X cc own nL ad) {p n : Nat} {sl : List Nat} {i : Int32} {f : Nat → Int32} (hd : decode cc pc = .ok (.iaload, 1)) (hn : pc + 1 = pc') (hs : h.1[p]? = some (1, n, sl)) (hf : h.2.1 p = f) (hin : vp_in i n) (k : k_W X nL cells slots Q ad h pc' lv (.int (f i.toNatClampNeg) :: st)) : k_W X nL cells slots Q ad h pc lv (.int i :: .ref p :: st) := by
  subst hn; subst hf
  exact fun H locs ls hw hP hD hS hl => va_iald C.1 C.2.1 C.2.2.2.2.2.1 hP p 0 (k_w_at ad X.cA h hs) rfl hin hd (k H locs ls hw hP hD hS hl)
theorem r_bald (C : k_C X cc own nL ad) {p n : Nat} {sl : List Nat} {i : Int32} {f : Nat → Int32} (hd : decode cc pc = .ok (.baload, 1)) (hn : pc + 1 = pc') (hs : h.1[p]? = some (2, n, sl)) (hf : h.2.1 p = f) (hin : vp_in i n) (k : k_W X nL cells slots Q ad h pc' lv (.int (f i.toNatClampNeg) :: st)) : k_W X nL cells slots Q ad h pc lv (.int i :: .ref p :: st) := by
  subst hn; subst hf
  exact fun H locs ls hw hP hD hS hl => va_bald C.1 C.2.1 C.2.2.2.2.2.1 hP p 1 (k_w_at ad X.cA h hs) rfl hin hd (k H locs ls hw hP hD hS hl)
theorem r_zald (C : k_C X cc own nL ad) {p n : Nat} {sl : List Nat} {i : Int32} {f : Nat → Int32} (hd : decode cc pc = .ok (.baload, 1)) (hn : pc + 1 = pc') (hs : h.1[p]? = some (3, n, sl)) (hf : h.2.1 p = f) (hin : vp_in i n) (k : k_W X nL cells slots Q ad h pc' lv (.int (f i.toNatClampNeg) :: st)) : k_W X nL cells slots Q ad h pc lv (.int i :: .ref p :: st) := by
  subst hn; subst hf
  exact fun H locs ls hw hP hD hS hl => va_zald C.1 C.2.1 C.2.2.2.2.2.1 hP p 2 (k_w_at ad X.cA h hs) rfl hin hd (k H locs ls hw hP hD hS hl)
theorem r_lald (C : k_C X cc own nL ad) {p n : Nat} {sl : List Nat} {i : Int32} {f : Nat → Int64} (hd : decode cc pc = .ok (.laload, 1)) (hn : pc + 1 = pc') (hs : h.1[p]? = some (4, n, sl)) (hf : h.2.2.1 p = f) (hin : vp_in i n) (k : k_W X nL cells slots Q ad h pc' lv (.long (f i.toNatClampNeg) :: st)) : k_W X nL cells slots Q ad h pc lv (.int i :: .ref p :: st) := by
  subst hn; subst hf
  exact fun H locs ls hw hP hD hS hl => va_lald C.1 C.2.1 C.2.2.2.2.2.1 hP p 3 (k_w_at ad X.cA h hs) rfl hin hd (k H locs ls hw hP hD hS hl)
theorem k_set_ar {cA : Nat → Nat} {p t n : Nat} {sl : List Nat} {f : Nat → Int32} {e : va_E} (hs : h.1[p]? = some (t + 1, n, sl)) (he : k_E ad cA (h.1, k_ua h.2.1 p f, h.2.2) p (t + 1, n, sl) = e) : (k_w ad cA h).set p (ad p, e) = k_w ad cA (h.1, k_ua h.2.1 p f, h.2.2) := by
  rw [← he]
  exact k_set_eq (h' := (h.1, k_ua h.2.1 p f, h.2.2)) hs rfl (fun q s2 _ hq => k_E_cong (k_ua_ne hq) rfl rfl)
theorem r_iast (C : k_C X cc own nL ad) {p n : Nat} {sl : List Nat} {i x : Int32} {f : Nat → Int32} (hd : decode cc pc = .ok (.iastore, 1)) (hn : pc + 1 = pc') (hs : h.1[p]? = some (1, n, sl)) (hf : h.2.1 p = f) (hin : vp_in i n) (k : k_W X nL cells slots Q ad (h.1, k_ua h.2.1 p (upd f i.toNatClampNeg x), h.2.2) pc' lv st) : k_W X nL cells slots Q ad h pc lv (.int x :: .int i :: .ref p :: st) := by
  subst hn; subst hf
  intro H locs ls hw hP hD hS hl
  have e2 : (k_w ad X.cA h).set p (ad p, .inl (X.cA 0, n, .inl (upd (h.2.1 p) i.toNatClampNeg x))) = k_w ad X.cA (h.1, k_ua h.2.1 p (upd (h.2.1 p) i.toNatClampNeg x), h.2.2) := k_set_ar (t := 0) hs (by
    show (Sum.inl (X.cA 0, n, Sum.inl (k_ua h.2.1 p (upd (h.2.1 p) i.toNatClampNeg x) p)) : va_E) = _
    rw [k_ua_self])
  exact va_iast C.1 C.2.1 C.2.2.2.2.2.1 hP hD hS p 0 (k_w_at ad X.cA h hs) rfl hin hd (fun H1 locs1 hP1 hD1 hS1 => k H1 locs1 ls hw (e2 ▸ hP1) (e2 ▸ hD1) hS1 hl)
theorem r_bast (C : k_C X cc own nL ad) {p n : Nat} {sl : List Nat} {i x : Int32} {f : Nat → Int32} (hd : decode cc pc = .ok (.bastore, 1)) (hn : pc + 1 = pc') (hs : h.1[p]? = some (2, n, sl)) (hf : h.2.1 p = f) (hin : vp_in i n) (k : k_W X nL cells slots Q ad (h.1, k_ua h.2.1 p (upd f i.toNatClampNeg (vp_nar .byte x)), h.2.2) pc' lv st) : k_W X nL cells slots Q ad h pc lv (.int x :: .int i :: .ref p :: st) := by
  subst hn; subst hf
  intro H locs ls hw hP hD hS hl
  have e2 : (k_w ad X.cA h).set p (ad p, .inl (X.cA 1, n, .inl (upd (h.2.1 p) i.toNatClampNeg (vp_nar .byte x)))) = k_w ad X.cA (h.1, k_ua h.2.1 p (upd (h.2.1 p) i.toNatClampNeg (vp_nar .byte x)), h.2.2) := k_set_ar (t := 1) hs (by
    show (Sum.inl (X.cA 1, n, Sum.inl (k_ua h.2.1 p (upd (h.2.1 p) i.toNatClampNeg (vp_nar .byte x)) p)) : va_E) = _
    rw [k_ua_self])
  exact va_bast C.1 C.2.1 C.2.2.2.2.2.1 hP hD hS p 1 (k_w_at ad X.cA h hs) rfl hin hd (fun H1 locs1 hP1 hD1 hS1 => k H1 locs1 ls hw (e2 ▸ hP1) (e2 ▸ hD1) hS1 hl)
theorem r_zast (C : k_C X cc own nL ad) {p n : Nat} {sl : List Nat} {i x : Int32} {f : Nat → Int32} (hd : decode cc pc = .ok (.bastore, 1)) (hn : pc + 1 = pc') (hs : h.1[p]? = some (3, n, sl)) (hf : h.2.1 p = f) (hin : vp_in i n) (k : k_W X nL cells slots Q ad (h.1, k_ua h.2.1 p (upd f i.toNatClampNeg (vp_nar .boolean x)), h.2.2) pc' lv st) : k_W X nL cells slots Q ad h pc lv (.int x :: .int i :: .ref p :: st) := by
  subst hn; subst hf
  intro H locs ls hw hP hD hS hl
  have e2 : (k_w ad X.cA h).set p (ad p, .inl (X.cA 2, n, .inl (upd (h.2.1 p) i.toNatClampNeg (vp_nar .boolean x)))) = k_w ad X.cA (h.1, k_ua h.2.1 p (upd (h.2.1 p) i.toNatClampNeg (vp_nar .boolean x)), h.2.2) := k_set_ar (t := 2) hs (by
    show (Sum.inl (X.cA 2, n, Sum.inl (k_ua h.2.1 p (upd (h.2.1 p) i.toNatClampNeg (vp_nar .boolean x)) p)) : va_E) = _
    rw [k_ua_self])
  exact va_zast C.1 C.2.1 C.2.2.2.2.2.1 hP hD hS p 2 (k_w_at ad X.cA h hs) rfl hin hd (fun H1 locs1 hP1 hD1 hS1 => k H1 locs1 ls hw (e2 ▸ hP1) (e2 ▸ hD1) hS1 hl)
theorem r_last (C : k_C X cc own nL ad) {p n : Nat} {sl : List Nat} {i : Int32} {x : Int64} {f : Nat → Int64} (hd : decode cc pc = .ok (.lastore, 1)) (hn : pc + 1 = pc') (hs : h.1[p]? = some (4, n, sl)) (hf : h.2.2.1 p = f) (hin : vp_in i n) (k : k_W X nL cells slots Q ad (h.1, h.2.1, k_ua h.2.2.1 p (vp_updL f i.toNatClampNeg x), h.2.2.2) pc' lv st) : k_W X nL cells slots Q ad h pc lv (.long x :: .int i :: .ref p :: st) := by
  subst hn; subst hf
  intro H locs ls hw hP hD hS hl
  have e2 : (k_w ad X.cA h).set p (ad p, .inl (X.cA 3, n, .inr (.inl (vp_updL (h.2.2.1 p) i.toNatClampNeg x)))) = k_w ad X.cA (h.1, h.2.1, k_ua h.2.2.1 p (vp_updL (h.2.2.1 p) i.toNatClampNeg x), h.2.2.2) := by
    have e3 : k_E ad X.cA (h.1, h.2.1, k_ua h.2.2.1 p (vp_updL (h.2.2.1 p) i.toNatClampNeg x), h.2.2.2) p (3 + 1, n, sl) = .inl (X.cA 3, n, .inr (.inl (vp_updL (h.2.2.1 p) i.toNatClampNeg x))) := by
      show (Sum.inl (X.cA 3, n, Sum.inr (Sum.inl (k_ua h.2.2.1 p (vp_updL (h.2.2.1 p) i.toNatClampNeg x) p))) : va_E) = _
      rw [k_ua_self]
    rw [← e3]
    exact k_set_eq (h' := (h.1, h.2.1, k_ua h.2.2.1 p (vp_updL (h.2.2.1 p) i.toNatClampNeg x), h.2.2.2)) hs rfl (fun q s2 _ hq => k_E_cong rfl (k_ua_ne hq) rfl)
  exact va_last C.1 C.2.1 C.2.2.2.2.2.1 hP hD hS p 3 (k_w_at ad X.cA h hs) rfl hin hd (fun H1 locs1 hP1 hD1 hS1 => k H1 locs1 ls hw (e2 ▸ hP1) (e2 ▸ hD1) hS1 hl)
theorem r_alen (C : k_C X cc own nL ad) {p t n : Nat} {sl : List Nat} {v : Int32} (hd : decode cc pc = .ok (.arraylength, 1)) (hn : pc + 1 = pc') (hs : h.1[p]? = some (t + 1, n, sl)) (ht : t < 5) (hv : Int32.ofNat n = v) (k : k_W X nL cells slots Q ad h pc' lv (.int v :: st)) : k_W X nL cells slots Q ad h pc lv (.ref p :: st) := by
  subst hn
  intro H locs ls hw hP hD hS hl
  have htt : ∃ ty, (k_tys X.cA)[t]? = some (X.cA t, ty) := by
    match t, ht with
    | 0, _ => exact ⟨_, rfl⟩
    | 1, _ => exact ⟨_, rfl⟩
    | 2, _ => exact ⟨_, rfl⟩
    | 3, _ => exact ⟨_, rfl⟩
    | 4, _ => exact ⟨_, rfl⟩
  obtain ⟨ty, hty⟩ := htt
  exact va_alen C.1 C.2.1 C.2.2.2.2.2.1 hP p t (k_w_at ad X.cA h hs) hty hv hd (k H locs ls hw hP hD hS hl)
end HEAP
