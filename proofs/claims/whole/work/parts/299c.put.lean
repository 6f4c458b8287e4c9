/-! REFERENCES: fields, arrays of mines; Object's constructor -/
def k_st1 (p : Nat) (s : k_Sh) (h : k_H) : k_H := (h.1.set p s, h.2)
theorem k_wf_st1 {h : k_H} {p : Nat} {s : k_Sh} (hw : k_wf h) (hs : s.1 = 0 → ∀ d ∈ s.2.2, d < h.1.length + 3) : k_wf (k_st1 p s h) := by
  have hl : (k_st1 p s h).1.length = h.1.length := by show (h.1.set p s).length = _; rw [List.length_set]
  refine ⟨fun q s2 hq h0 d hd => ?_, fun q j x hx => by rw [hl]; exact hw.2 q j x hx⟩
  rw [hl]
  have hq2 : (h.1.set p s)[q]? = some s2 := hq
  by_cases he : p = q
  · subst he
    rw [List.getElem?_set_self'] at hq2
    cases hz : h.1[p]? with
    | none => rw [hz] at hq2; cases hq2
    | some s3 =>
      rw [hz] at hq2
      cases hq2
      exact hs h0 d hd
  · rw [List.getElem?_set_ne he] at hq2
    exact hw.1 q s2 hq2 h0 d hd
/-- a final reference of this class, in its constructor -/
def k_FF (own : String) (ix ci kk : Nat) : Prop := ∃ (Cn : String) (T : u_T) (N : Nat) (ty0 : Nat → FieldType) (ty : FieldType), vwCl[ci]? = some (Cn, T, N) ∧ (∀ w ∈ u_ws Cn T N, w ∈ k_tb) ∧ (∀ k, k < N → parseFieldDescriptor (T k).2.2.1 = some (ty0 k)) ∧ (∀ a, a < N → ∀ b, b < N → a ≠ b → (T a).2.1 ≠ (T b).2.1) ∧ kk < N ∧ (T kk).2.2.2 = true ∧ (T kk).1 = own ∧ parseFieldDescriptor (T kk).2.2.1 = some ty ∧ (∀ a : Nat, narrow ty (.ref a) = .ref a ∧ fits ty (.ref a) = true) ∧ Cond.fieldLink own ix (T kk).1 (T kk).2.1 (T kk).2.2.1 ∈ k_tb
section PUTR
variable {X : k_X} {cc : ByteArray} {own : String} {nL cells slots : Nat} {Q : State → Prop} {ad : Nat → Nat} {h : k_H} {pc pc' : Nat} {lv : List (Option Value)} {st : List Value}
theorem g_putR (C : k_C X cc own nL ad) (hnm : X.meth.name = "<init>") {ix p ci kk q : Nat} {sl : List Nat} (hd : decode cc pc = .ok (.putfield ix, 3)) (hn : pc + 3 = pc') (F : k_FF own ix ci kk) (hs : h.1[p]? = some (0, ci, sl)) (hk : kk < sl.length) (hq : q < h.1.length)
    (k : k_W X nL cells slots Q ad (k_st1 p (0, ci, sl.set kk (q + 3)) h) pc' lv st) : k_W X nL cells slots Q ad h pc lv (.ref q :: .ref p :: st) := by
  subst hn
  intro H locs ls hw hP hD hS hl
  obtain ⟨Cn, T, N, ty0, ty, hc, hin, hty, hnm2, hkN, hfin, hdecl, hd0, hnf, hlink⟩ := F
  have he := k_w_at ad X.cA h hs
  have hlen : kk < (sl.mapIdx (fun k d => k_fv ad h.2.1 h.2.2.1 p k d)).length := by rw [List.length_mapIdx]; exact hk
  have hp : p < h.1.length := (List.getElem?_eq_some_iff.mp hs).1
  have e1 : (sl.mapIdx (fun k d => k_fv ad h.2.1 h.2.2.1 p k d)).set kk (.ref (ad q)) = (sl.set kk (q + 3)).mapIdx (fun k d => k_fv ad h.2.1 h.2.2.1 p k d) := by
    apply List.ext_getElem?
    intro j
    rw [List.getElem?_mapIdx]
    by_cases hj : kk = j
    · subst hj
      rw [List.getElem?_set_self hlen, List.getElem?_set_self hk]
      rfl
    · rw [List.getElem?_set_ne hj, List.getElem?_set_ne hj, List.getElem?_mapIdx]
  have e2 : (k_w ad X.cA h).set p (ad p, .inr (ci, (sl.mapIdx (fun k d => k_fv ad h.2.1 h.2.2.1 p k d)).set kk (.ref (ad q)))) = k_w ad X.cA (k_st1 p (0, ci, sl.set kk (q + 3)) h) := by
    rw [e1]
    apply List.ext_getElem?
    intro j
    by_cases hj : p = j
    · subst hj
      rw [List.getElem?_set_self (by unfold k_w; rw [List.length_mapIdx]; exact hp), k_w_at ad X.cA (k_st1 p (0, ci, sl.set kk (q + 3)) h) (p := p) (s := (0, ci, sl.set kk (q + 3))) (by show (h.1.set p _)[p]? = _; rw [List.getElem?_set_self hp])]
      rfl
    · rw [List.getElem?_set_ne hj]
      unfold k_w
      rw [List.getElem?_mapIdx, List.getElem?_mapIdx]
      show _ = ((h.1.set p (0, ci, sl.set kk (q + 3)))[j]?).map _
      rw [List.getElem?_set_ne hj]
      rfl
  have hw2 : k_wf (k_st1 p (0, ci, sl.set kk (q + 3)) h) := k_wf_st1 hw (fun _ d hd => by
    rcases List.mem_or_eq_of_mem_set hd with z | z
    · exact hw.1 p _ hs rfl d z
    · omega)
  exact va_putF (C := Cn) (T := T) (N := N) (D := X.D) (ci := ci) (v := .ref (ad q)) (ty := ty) C.1 C.2.1 C.2.2.2.2.1 hin ty0 hty hnm2 C.2.2.2.1 C.2.2.2.2.2.1 hP hD hS p he hc kk hkN (C.2.2.2.2.1 _ hlink) (fun _ h9 => h9) hfin hnm hdecl hd0 (hnf _).1 (hnf _).2 hlen hd (fun H1 locs1 hP1 hD1 hS1 => k H1 locs1 ls hw2 (e2 ▸ hP1) (e2 ▸ hD1) hS1 hl)
theorem g_newq (C : k_C X cc own nL ad) {N ix : Nat} {n : Int32} (hd : decode cc pc = .ok (.anewarray ix, 3)) (hn : pc + 3 = pc') (hcl : Cond.classLink own ix "LullabyPit$Mine" ∈ k_tb) (hn0 : ¬ n < 0) (hN : n.toNatClampNeg = N) (hbytes : N * 4 ≤ 536870912) (hcs : cells + 1 ≤ X.R.cells ∧ slots + N ≤ X.R.slots) (hlen : h.1.length < 1000000) (hlo : k_okL h.1.length lv) (hso : k_okS h.1.length st)
    (k : ∀ ad' : Nat → Nat, k_sm h.1.length ad ad' → k_C X cc own nL ad' → k_W X nL (cells + 1) (slots + N) Q ad' (k_gr (5, N, []) h) pc' lv (.ref h.1.length :: st)) : k_W X nL cells slots Q ad h pc lv (.int n :: st) := by
  subst hn
  intro H locs ls hw hP hD hS hll
  refine va_newq C.1 C.2.1 C.2.2.2.1 (C.2.2.2.2.1 _ hcl) C.2.2.2.2.2.2.2.2.2.2.2.2.2.2.2.2.1 C.2.2.2.2.2.1 hP hD hS C.2.2.2.2.2.2.1 hn0 hN hbytes hcs.1 hcs.2 hd (fun q cA H1 hK1 hP1 hD1 hS1 => ?_)
  have hcA : cA = X.cA 4 := by
    have h1 := (hK1.2 (k_tys X.cA).length (cA, .object "LullabyPit$Mine") (by rw [List.getElem?_append_right (Nat.le_refl _), Nat.sub_self]; rfl)).2
    have h2 := (C.2.2.2.2.2.1.2 4 (X.cA 4, .object "LullabyPit$Mine") rfl).2
    obtain ⟨-, -, -, -, -, a4⟩ := h1
    obtain ⟨-, -, -, -, -, b4⟩ := h2
    exact Option.some.inj (a4.symm.trans b4)
  subst hcA
  have hsm : k_sm h.1.length ad (k_na ad h.1.length q) := k_na_sm hlen
  have e1 : k_na ad h.1.length q h.1.length = q := if_pos rfl
  have e2 : k_w (k_na ad h.1.length q) X.cA (k_gr (5, N, []) h) = k_w ad X.cA h ++ [(q, .inl (X.cA 4, N, .inr (.inr (.inr (.inr (fun _ => none))))))] := by
    rw [k_w_gr hw hsm, e1]
    congr 3
    show (Sum.inl (X.cA 4, N, Sum.inr (Sum.inr (Sum.inr (Sum.inr (fun j => (k_ua h.2.2.2 h.1.length (fun _ => none) h.1.length j).map (k_na ad h.1.length q)))))) : va_E) = _
    rw [k_ua_self]
    rfl
  have hw2 : k_wf (k_gr (5, N, []) h) := k_wf_gr hw (fun z => by cases z)
  have := k _ hsm (k_C_sm C hsm) H1 locs ls hw2 (by rw [e2]; exact hP1) (by rw [e2]; exact hD1) hS1 (k_lh_sm hll hsm hlo)
  rw [List.map_cons, k_st_sm hsm hso] at this
  have e3 : k_rl (k_na ad h.1.length q) (.ref h.1.length) = .ref q := by show Value.ref _ = _; rw [e1]
  rw [e3] at this
  exact this
def k_rv (o : Option Nat) : Value := match o with
  | some q => .ref q
  | none => .null
theorem r_aaldo (C : k_C X cc own nL ad) {p n j : Nat} {sl : List Nat} {i : Int32} (hd : decode cc pc = .ok (.aaload, 1)) (hn : pc + 1 = pc') (hs : h.1[p]? = some (5, n, sl)) (hin : vp_in i n) (hj : i.toNatClampNeg = j) (k : k_W X nL cells slots Q ad h pc' lv (k_rv (h.2.2.2 p j) :: st)) : k_W X nL cells slots Q ad h pc lv (.int i :: .ref p :: st) := by
  subst hn; subst hj
  intro H locs ls hw hP hD hS hl
  refine va_aldq C.1 C.2.1 C.2.2.2.2.2.1 hP p 4 (k_w_at ad X.cA h hs) rfl hin hd ?_
  have e : va_rf ((h.2.2.2 p i.toNatClampNeg).map ad) = k_rl ad (k_rv (h.2.2.2 p i.toNatClampNeg)) := by cases h.2.2.2 p i.toNatClampNeg <;> rfl
  show k_Wx X H locs cells slots Q (F0 X.m (pc + 1) ls (va_rf ((h.2.2.2 p i.toNatClampNeg).map ad) :: st.map (k_rl ad)))
  rw [e]
  exact k H locs ls hw hP hD hS hl
def k_uR (p j q : Nat) (h : k_H) : k_H := (h.1, h.2.1, h.2.2.1, k_u h.2.2.2 p j (some q))
theorem g_aast (C : k_C X cc own nL ad) {p n j q : Nat} {sl sl2 : List Nat} {i : Int32} (hd : decode cc pc = .ok (.aastore, 1)) (hn : pc + 1 = pc') (hs : h.1[p]? = some (5, n, sl)) (hq : h.1[q]? = some (0, 3, sl2)) (hin : vp_in i n) (hj : i.toNatClampNeg = j)
    (k : k_W X nL cells slots Q ad (k_uR p j q h) pc' lv st) : k_W X nL cells slots Q ad h pc lv (.ref q :: .int i :: .ref p :: st) := by
  subst hn; subst hj
  intro H locs ls hw hP hD hS hl
  refine va_astq C.1 C.2.1 C.2.2.2.2.2.1 hP hD hS p 4 q 3 (k_w_at ad X.cA h hs) rfl (k_w_at ad X.cA h hq) rfl hin hd (fun H1 locs1 hP1 hD1 hS1 => ?_)
  have e2 : (k_w ad X.cA h).set p (ad p, .inl (X.cA 4, n, .inr (.inr (.inr (.inr (va_up (fun j => (h.2.2.2 p j).map ad) i.toNatClampNeg (some (ad q)))))))) = k_w ad X.cA (k_uR p i.toNatClampNeg q h) := by
    have e3 : k_E ad X.cA (k_uR p i.toNatClampNeg q h) p (4 + 1, n, sl) = .inl (X.cA 4, n, .inr (.inr (.inr (.inr (va_up (fun j => (h.2.2.2 p j).map ad) i.toNatClampNeg (some (ad q))))))) := by
      show (Sum.inl (X.cA 4, n, Sum.inr (Sum.inr (Sum.inr (Sum.inr (fun j => (k_u h.2.2.2 p i.toNatClampNeg (some q) p j).map ad))))) : va_E) = _
      have e4 : (fun j => (k_u h.2.2.2 p i.toNatClampNeg (some q) p j).map ad) = va_up (fun j => (h.2.2.2 p j).map ad) i.toNatClampNeg (some (ad q)) := by
        funext j
        unfold k_u va_up
        rw [if_pos rfl]
        by_cases hj : j = i.toNatClampNeg
        · subst hj; simp
        · simp [hj]
      rw [e4]
    rw [← e3]
    exact k_set_eq (h' := k_uR p i.toNatClampNeg q h) hs rfl (fun z s2 _ hz => k_E_cong rfl rfl (k_u_ne hz))
  have hw2 : k_wf (k_uR p i.toNatClampNeg q h) := by
    refine ⟨hw.1, fun a b x hx => ?_⟩
    have hx2 : k_u h.2.2.2 p i.toNatClampNeg (some q) a b = some x := hx
    unfold k_u at hx2
    by_cases h1 : a = p
    · rw [if_pos h1] at hx2
      by_cases h2 : b = i.toNatClampNeg
      · rw [if_pos h2] at hx2
        cases hx2
        exact (List.getElem?_eq_some_iff.mp hq).1
      · rw [if_neg h2] at hx2
        exact hw.2 a b x hx2
    · rw [if_neg h1] at hx2
      exact hw.2 a b x hx2
  exact k H1 locs1 ls hw2 (e2 ▸ hP1) (e2 ▸ hD1) hS1 hl
theorem w_oiI : Cond.instanceMethod Lib.objectInit ∈ k_tb := by decide +kernel
theorem w_oiC : Cond.code Lib.objectInit ⟨#[0xb1]⟩ 1 none ∈ k_tb := by decide +kernel
theorem r_objinit {F NN : Nat} (C : k_C X cc own nL ad) (hR : X.R.frames = F ∧ X.R.locals = NN) {ix p : Nat} (hd : decode cc pc = .ok (.invokespecial ix, 3)) (hn : pc + 3 = pc') (hl : Cond.methodLink own ix Lib.objectInit ∈ k_tb) (h1 : Nat.ble 1 F = true) (h2 : Nat.ble ((st.map fun v => v.category).sum + 12) NN = true) (k : k_W X nL cells slots Q ad h pc' lv st) : k_W X nL cells slots Q ad h pc lv (.ref p :: st) := by
  subst hn
  intro H locs ls hw hP hD hS hll
  have h3 := k_cats ad st
  refine W.objInit (g := F0 X.m pc ls ((Value.ref p :: st).map (k_rl ad))) C.1 C.2.1 C.2.2.2.1 (C.2.2.2.2.1 _ hl) (C.2.2.2.2.1 _ w_oiI) (C.2.2.2.2.1 _ w_oiC) rfl (hll.1.trans C.2.2.1.symm) (a := ad p) (rest := st.map (k_rl ad)) rfl hd (by rw [hR.1]; exact Nat.le_of_ble_eq_true h1) ?_ (k H locs ls hw hP hD hS hll)
  show 2 * 0 + ((st.map (k_rl ad)).map fun v => v.category).sum + 12 ≤ X.R.locals
  rw [h3, hR.2]
  have := Nat.le_of_ble_eq_true h2
  omega
end PUTR
