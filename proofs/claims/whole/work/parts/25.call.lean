/-! CALLS -/
abbrev k_nd (y : MethodName) (n : Nat) : Prop := y.cls ≠ "java/lang/invoke/MethodHandle" ∧ y.cls ≠ "java/lang/invoke/VarHandle" ∧ (parseMethodDescriptor y.desc).map (fun d => d.parameters.length) = some n
def k_MV (y : MethodName) (cc : ByteArray) (maxL : Nat) (rt : Option FieldType) (n : Nat) : Prop := Cond.instanceMethod y ∈ k_tb ∧ Cond.selects y.cls y y ∈ k_tb ∧ Cond.initialized y.cls ∈ k_tb ∧ Cond.code y cc maxL rt ∈ k_tb ∧ k_nd y n
def k_MS (y : MethodName) (cc : ByteArray) (maxL : Nat) (rt : Option FieldType) (n : Nat) : Prop := Cond.static y ∈ k_tb ∧ Cond.initialized y.cls ∈ k_tb ∧ Cond.code y cc maxL rt ∈ k_tb ∧ k_nd y n
def k_MI (y : MethodName) (cc : ByteArray) (maxL : Nat) (n : Nat) : Prop := Cond.instanceMethod y ∈ k_tb ∧ Cond.initialized y.cls ∈ k_tb ∧ Cond.code y cc maxL none ∈ k_tb ∧ y.name = "<init>" ∧ k_nd y n
def k_lk (own : String) (ix : Nat) (y : MethodName) : Prop := Cond.methodLink own ix y ∈ k_tb ∨ ∃ host, (own, ix, y, host) ∈ k_nl
/-- the place of a picture's part in the whole -/
def k_al (pi : List Nat) (ad : Nat → Nat) : Nat → Nat := fun i => if i < pi.length then ad (pi.getD i 0) else ad i
def k_pl (pi : List Nat) (shl : List k_Sh) (h : k_H) : k_H := (shl, fun i => if i < pi.length then h.2.1 (pi.getD i 0) else fun _ => 0, fun i => if i < pi.length then h.2.2.1 (pi.getD i 0) else fun _ => 0, fun _ _ => none)
def k_rs (pi : List Nat) (s : k_Sh) : k_Sh := match s.1 with
  | 0 => (0, s.2.1, s.2.2.map (fun d => if d < 3 then d else pi.getD (d - 3) 0 + 3))
  | _ + 1 => s
def k_c1 (pi : List Nat) (s : k_Sh) : Bool := decide (s.1 < 5) && (s.1 != 0 || s.2.2.all (fun d => decide (d < 3 + pi.length)))
def k_ck (pi : List Nat) (shl sh : List k_Sh) : Bool := pi.length == shl.length && Nat.ble pi.length 1000000 && va_nd pi && (pi.zip shl).all (fun q => decide (sh[q.1]? = some (k_rs pi q.2)) && k_c1 pi q.2)
def k_ru (pi : List Nat) (u : k_U) : k_U := (pi.getD u.1 0, u.2)
theorem k_ck_len {pi : List Nat} {shl sh : List k_Sh} (h : k_ck pi shl sh = true) : pi.length = shl.length ∧ pi.length ≤ 1000000 ∧ va_nd pi = true := by
  unfold k_ck at h
  simp only [Bool.and_eq_true, beq_iff_eq] at h
  exact ⟨h.1.1.1, Nat.le_of_ble_eq_true h.1.1.2, h.1.2⟩
theorem k_ck_at {pi : List Nat} {shl sh : List k_Sh} (h : k_ck pi shl sh = true) {i : Nat} {s : k_Sh} (hs : shl[i]? = some s) : i < pi.length ∧ sh[pi.getD i 0]? = some (k_rs pi s) ∧ k_c1 pi s = true := by
  have hl := (k_ck_len h).1
  have hi : i < pi.length := by rw [hl]; exact (List.getElem?_eq_some_iff.mp hs).1
  unfold k_ck at h
  simp only [Bool.and_eq_true] at h
  have hz : (pi.zip shl)[i]? = some (pi.getD i 0, s) := by
    rw [List.getElem?_zip_eq_some]
    refine ⟨?_, hs⟩
    rw [List.getD_eq_getElem?_getD, List.getElem?_eq_getElem hi]; rfl
  have h2 := List.all_eq_true.mp h.2 _ (List.mem_of_getElem? hz)
  simp only [Bool.and_eq_true, decide_eq_true_eq] at h2
  exact ⟨hi, h2.1, h2.2⟩
theorem k_inj {pi : List Nat} (h : va_nd pi = true) {i j : Nat} (hi : i < pi.length) (hj : j < pi.length) (e : pi.getD i 0 = pi.getD j 0) : i = j := by
  rw [List.getD_eq_getElem?_getD, List.getD_eq_getElem?_getD, List.getElem?_eq_getElem hi, List.getElem?_eq_getElem hj] at e
  have e' : pi[i] = pi[j] := e
  exact va_nd_inj pi h i j pi[i] (List.getElem?_eq_getElem hi) (by rw [List.getElem?_eq_getElem hj, e'])
/-- a cell of the part is the whole's cell -/
theorem k_E_pl {ad cA : Nat → Nat} {pi : List Nat} {shl : List k_Sh} {h : k_H} {i : Nat} {s : k_Sh} (hi : i < pi.length) (hc : k_c1 pi s = true) : k_E (k_al pi ad) cA (k_pl pi shl h) i s = k_E ad cA h (pi.getD i 0) (k_rs pi s) := by
  obtain ⟨t, n, sl⟩ := s
  unfold k_c1 at hc
  simp only [Bool.and_eq_true, bne_iff_ne, ne_eq, Bool.or_eq_true, decide_eq_true_eq] at hc
  have eI : (k_pl pi shl h).2.1 i = h.2.1 (pi.getD i 0) := by
    show (if i < pi.length then h.2.1 (pi.getD i 0) else fun _ => 0) = _
    rw [if_pos hi]
  have eL : (k_pl pi shl h).2.2.1 i = h.2.2.1 (pi.getD i 0) := by
    show (if i < pi.length then h.2.2.1 (pi.getD i 0) else fun _ => 0) = _
    rw [if_pos hi]
  cases t with
  | zero =>
    show (Sum.inr (n, sl.mapIdx (fun k d => k_fv (k_al pi ad) (k_pl pi shl h).2.1 (k_pl pi shl h).2.2.1 i k d)) : va_E) = Sum.inr (n, (sl.map (fun d => if d < 3 then d else pi.getD (d - 3) 0 + 3)).mapIdx (fun k d => k_fv ad h.2.1 h.2.2.1 (pi.getD i 0) k d))
    congr 2
    apply List.ext_getElem?
    intro j
    rw [List.getElem?_mapIdx, List.getElem?_mapIdx, List.getElem?_map]
    cases hj : sl[j]? with
    | none => rfl
    | some d =>
      have hd : d < 3 + pi.length := by
        rcases hc.2 with z | z
        · exact absurd rfl z
        · exact of_decide_eq_true (List.all_eq_true.mp z d (List.mem_of_getElem? hj))
      show some (k_fv (k_al pi ad) (k_pl pi shl h).2.1 (k_pl pi shl h).2.2.1 i j d) = some (k_fv ad h.2.1 h.2.2.1 (pi.getD i 0) j (if d < 3 then d else pi.getD (d - 3) 0 + 3))
      match d with
      | 0 => show some (Value.int ((k_pl pi shl h).2.1 i j)) = some (Value.int (h.2.1 (pi.getD i 0) j)); rw [eI]
      | 1 => show some (Value.long ((k_pl pi shl h).2.2.1 i j)) = some (Value.long (h.2.2.1 (pi.getD i 0) j)); rw [eL]
      | 2 => rfl
      | d + 3 =>
        rw [if_neg (by omega), show d + 3 - 3 = d by omega]
        show some (Value.ref (k_al pi ad d)) = some (Value.ref (ad (pi.getD d 0)))
        unfold k_al
        rw [if_pos (by omega)]
  | succ t =>
    show (Sum.inl (cA t, k_ar (k_al pi ad) (k_pl pi shl h) i t n) : va_E) = Sum.inl (cA t, k_ar ad h (pi.getD i 0) t n)
    congr 2
    match t with
    | 0 => show (n, Sum.inl ((k_pl pi shl h).2.1 i)) = ((n, Sum.inl (h.2.1 (pi.getD i 0))) : vp_A); rw [eI]
    | 1 => show (n, Sum.inl ((k_pl pi shl h).2.1 i)) = ((n, Sum.inl (h.2.1 (pi.getD i 0))) : vp_A); rw [eI]
    | 2 => show (n, Sum.inl ((k_pl pi shl h).2.1 i)) = ((n, Sum.inl (h.2.1 (pi.getD i 0))) : vp_A); rw [eI]
    | 3 => show (n, Sum.inr (Sum.inl ((k_pl pi shl h).2.2.1 i))) = ((n, Sum.inr (Sum.inl (h.2.2.1 (pi.getD i 0)))) : vp_A); rw [eL]
    | t + 4 => exact absurd hc.1 (by omega)
/-- the part of a changed whole -/
theorem k_pl_a1 {pi : List Nat} {shl : List k_Sh} {h : k_H} {u : k_U} (hn : va_nd pi = true) (hu : u.1 < pi.length) : k_a1 u (k_pl pi shl h) = k_pl pi shl (k_a1 (k_ru pi u) h) := by
  have key1 : ∀ {α : Type} (f : Nat → Nat → α) (z : Nat → α) (p k : Nat) (v : α), p < pi.length → k_u (fun i => if i < pi.length then f (pi.getD i 0) else z) p k v = fun i => if i < pi.length then k_u f (pi.getD p 0) k v (pi.getD i 0) else z := by
    intro α f z p k v hp
    funext a b
    unfold k_u
    by_cases ha : a = p
    · subst ha
      simp [hp]
    · by_cases hl : a < pi.length
      · have : ¬ pi.getD a 0 = pi.getD p 0 := fun e => ha (k_inj hn hl hp e)
        simp only [if_neg ha, if_pos hl, if_neg this]
      · simp only [if_neg ha, if_neg hl]
  have key2 : ∀ {α : Type} (f : Nat → Nat → α) (z : Nat → α) (p : Nat) (g : Nat → α), p < pi.length → k_ua (fun i => if i < pi.length then f (pi.getD i 0) else z) p g = fun i => if i < pi.length then k_ua f (pi.getD p 0) g (pi.getD i 0) else z := by
    intro α f z p g hp
    funext a
    unfold k_ua
    by_cases ha : a = p
    · subst ha
      simp [hp]
    · by_cases hl : a < pi.length
      · have : ¬ pi.getD a 0 = pi.getD p 0 := fun e => ha (k_inj hn hl hp e)
        simp only [if_neg ha, if_pos hl, if_neg this]
      · simp only [if_neg ha, if_neg hl]
  obtain ⟨p, x⟩ := u
  rcases x with ⟨k, v⟩ | ⟨k, v⟩ | g | g
  · show ((shl, k_u (fun i => if i < pi.length then h.2.1 (pi.getD i 0) else fun _ => 0) p k v, _, _) : k_H) = (shl, _, _, _)
    rw [key1 _ _ _ _ _ hu]; rfl
  · show ((shl, _, k_u (fun i => if i < pi.length then h.2.2.1 (pi.getD i 0) else fun _ => 0) p k v, _) : k_H) = (shl, _, _, _)
    rw [key1 _ _ _ _ _ hu]; rfl
  · show ((shl, k_ua (fun i => if i < pi.length then h.2.1 (pi.getD i 0) else fun _ => 0) p g, _, _) : k_H) = (shl, _, _, _)
    rw [key2 _ _ _ _ hu]; rfl
  · show ((shl, _, k_ua (fun i => if i < pi.length then h.2.2.1 (pi.getD i 0) else fun _ => 0) p g, _) : k_H) = (shl, _, _, _)
    rw [key2 _ _ _ _ hu]; rfl
theorem k_pl_ap {pi : List Nat} {shl : List k_Sh} (hn : va_nd pi = true) : ∀ (us : List k_U) (h : k_H), (∀ u ∈ us, u.1 < pi.length) → k_ap us (k_pl pi shl h) = k_pl pi shl (k_ap (us.map (k_ru pi)) h)
  | [], _, _ => rfl
  | u :: us, h, hu => by
    show k_ap us (k_a1 u (k_pl pi shl h)) = k_pl pi shl (k_ap (us.map (k_ru pi)) (k_a1 (k_ru pi u) h))
    rw [k_pl_a1 hn (hu u List.mem_cons_self), k_pl_ap hn us _ (fun w hw => hu w (List.mem_cons_of_mem _ hw))]
/-- what is not touched -/
theorem k_a1_out {u : k_U} {h : k_H} {p : Nat} (hp : p ≠ u.1) : (k_a1 u h).2.1 p = h.2.1 p ∧ (k_a1 u h).2.2.1 p = h.2.2.1 p ∧ (k_a1 u h).2.2.2 p = h.2.2.2 p := by
  obtain ⟨q, x⟩ := u
  rcases x with ⟨k, v⟩ | ⟨k, v⟩ | g | g
  · exact ⟨k_u_ne hp, rfl, rfl⟩
  · exact ⟨rfl, k_u_ne hp, rfl⟩
  · exact ⟨k_ua_ne hp, rfl, rfl⟩
  · exact ⟨rfl, k_ua_ne hp, rfl⟩
theorem k_ap_out {p : Nat} : ∀ (us : List k_U) (h : k_H), (∀ u ∈ us, p ≠ u.1) → (k_ap us h).2.1 p = h.2.1 p ∧ (k_ap us h).2.2.1 p = h.2.2.1 p ∧ (k_ap us h).2.2.2 p = h.2.2.2 p
  | [], _, _ => ⟨rfl, rfl, rfl⟩
  | u :: us, h, hu => by
    obtain ⟨a1, a2, a3⟩ := k_ap_out us (k_a1 u h) (fun w hw => hu w (List.mem_cons_of_mem _ hw))
    obtain ⟨b1, b2, b3⟩ := k_a1_out (h := h) (hu u List.mem_cons_self)
    exact ⟨a1.trans b1, a2.trans b2, a3.trans b3⟩
/-- behind a call on a part: the whole again -/
theorem k_join {D : va_G} {A : Nat → Prop} {ad cA : Nat → Nat} {pi : List Nat} {shl : List k_Sh} {h : k_H} {us : List k_U} {H H1 : Heap} (hP : va_P D vwCl (k_w ad cA h) H) (hD : va_D A (k_w ad cA h)) (hck : k_ck pi shl h.1 = true) (hu : ∀ u ∈ us, u.1 < pi.length)
    (hk : ∀ q : Nat, q < H.size → ¬ va_A (k_w (k_al pi ad) cA (k_pl pi shl h)) H.size q → H1[q]? = H[q]?) (hP1 : va_P D vwCl (k_w (k_al pi ad) cA (k_ap us (k_pl pi shl h))) H1) : va_P D vwCl (k_w ad cA (k_ap (us.map (k_ru pi)) h)) H1 := by
  obtain ⟨hlen, -, hn⟩ := k_ck_len hck
  intro p q hq
  obtain ⟨s, hs, rfl⟩ := k_w_of hq
  rw [k_ap_sh] at hs
  by_cases hin : ∃ i, i < pi.length ∧ pi.getD i 0 = p
  · obtain ⟨i, hi, rfl⟩ := hin
    have hsl : shl[i]? = some shl[i] := List.getElem?_eq_getElem (by omega)
    obtain ⟨-, h2, h3⟩ := k_ck_at hck hsl
    cases (Option.some.inj (hs.symm.trans h2))
    have h4 := hP1 i _ (k_w_at (k_al pi ad) cA (k_ap us (k_pl pi shl h)) (by rw [k_ap_sh]; exact hsl))
    rw [k_pl_ap hn us h hu, k_E_pl hi h3] at h4
    have e : k_al pi ad i = ad (pi.getD i 0) := by unfold k_al; rw [if_pos hi]
    rw [e] at h4
    exact h4
  · have hout : ∀ u ∈ us.map (k_ru pi), p ≠ u.1 := by
      intro u hu2 e
      obtain ⟨w, hw, rfl⟩ := List.mem_map.mp hu2
      exact hin ⟨w.1, hu w hw, e.symm⟩
    obtain ⟨e1, e2, e3⟩ := k_ap_out (us.map (k_ru pi)) h hout
    have hat := hP p _ (k_w_at ad cA h hs)
    rw [k_E_cong e1 e2 e3]
    refine hat.kept (hk (ad p) hat.lt ?_)
    rintro (⟨i, e, hi⟩ | hge)
    · obtain ⟨s2, hs2, he2⟩ := k_w_of hi
      obtain ⟨hil, h2, -⟩ := k_ck_at hck hs2
      have ea : ad p = k_al pi ad i := congrArg Prod.fst he2
      unfold k_al at ea
      rw [if_pos hil] at ea
      have := hD.1 p (pi.getD i 0) _ _ (k_w_at ad cA h hs) (k_w_at ad cA h h2) ea
      exact hin ⟨i, hil, this.symm⟩
    · exact Nat.lt_irrefl _ (Nat.lt_of_lt_of_le hat.lt hge)
/-- the part stands in the whole's heap -/
theorem k_part {D : va_G} {A : Nat → Prop} {ad cA : Nat → Nat} {pi : List Nat} {shl : List k_Sh} {h : k_H} {H : Heap} (hP : va_P D vwCl (k_w ad cA h) H) (hD : va_D A (k_w ad cA h)) (hck : k_ck pi shl h.1 = true) : va_P D vwCl (k_w (k_al pi ad) cA (k_pl pi shl h)) H ∧ va_D A (k_w (k_al pi ad) cA (k_pl pi shl h)) := by
  obtain ⟨hlen, -, hn⟩ := k_ck_len hck
  have key : ∀ (i : Nat) (q : Nat × va_E), (k_w (k_al pi ad) cA (k_pl pi shl h))[i]? = some q → i < pi.length ∧ (k_w ad cA h)[pi.getD i 0]? = some q := by
    intro i q hq
    obtain ⟨s, hs, rfl⟩ := k_w_of hq
    obtain ⟨hi, h2, h3⟩ := k_ck_at hck hs
    refine ⟨hi, ?_⟩
    rw [k_w_at ad cA h h2, k_E_pl hi h3]
    unfold k_al
    rw [if_pos hi]
  refine ⟨fun i q hq => hP _ q (key i q hq).2, fun i j x y hx hy e => ?_, fun i q hq => hD.2 _ q (key i q hq).2⟩
  obtain ⟨hi, h1⟩ := key i x hx
  obtain ⟨hj, h2⟩ := key j y hy
  exact k_inj hn hi hj (hD.1 _ _ x y h1 h2 e)
