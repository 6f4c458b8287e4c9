/-! CONTRACTS THAT MAKE CELLS OR THROW -/
/-- a change of addresses that keeps the places below n, and the constants' -/
def k_sm (n : Nat) (ad ad' : Nat → Nat) : Prop := ∀ p : Nat, p < n ∨ 1000000 ≤ p → ad' p = ad p
theorem k_sm_rf (n : Nat) (ad : Nat → Nat) : k_sm n ad ad := fun _ _ => rfl
theorem k_sm_tr {n m : Nat} {a b c : Nat → Nat} (h1 : k_sm n a b) (h2 : k_sm m b c) (h : n ≤ m) : k_sm n a c := fun p hp => (h2 p (hp.elim (fun z => Or.inl (by omega)) Or.inr)).trans (h1 p hp)
def k_okv (n : Nat) : Value → Prop
  | .ref p => p < n ∨ 1000000 ≤ p
  | _ => True
def k_okL (n : Nat) : List (Option Value) → Prop
  | [] => True
  | none :: l => k_okL n l
  | some v :: l => k_okv n v ∧ k_okL n l
def k_okS (n : Nat) : List Value → Prop
  | [] => True
  | v :: l => k_okv n v ∧ k_okS n l
theorem k_rl_sm {n : Nat} {ad ad' : Nat → Nat} (h : k_sm n ad ad') {v : Value} (hv : k_okv n v) : k_rl ad' v = k_rl ad v := by
  cases v with
  | ref p => show Value.ref (ad' p) = Value.ref (ad p); rw [h p hv]
  | _ => rfl
theorem k_okL_at {n : Nat} : ∀ {lv : List (Option Value)} {i : Nat} {v : Value}, k_okL n lv → lv[i]? = some (some v) → k_okv n v
  | [], i, v, _, h => by simp at h
  | none :: l, 0, v, _, h => by simp at h
  | none :: l, i + 1, v, ho, h => k_okL_at (lv := l) (i := i) ho h
  | some w :: l, 0, v, ho, h => by
    have e : w = v := by simpa using h
    subst e; exact ho.1
  | some w :: l, i + 1, v, ho, h => k_okL_at (lv := l) (i := i) ho.2 h
theorem k_lh_sm {n nL : Nat} {ad ad' : Nat → Nat} {ls : Array Slot} {lv : List (Option Value)} (h : k_lh ad ls nL lv) (hs : k_sm n ad ad') (ho : k_okL n lv) : k_lh ad' ls nL lv :=
  ⟨h.1, h.2.1, fun i v hv => by rw [k_rl_sm hs (k_okL_at ho hv)]; exact h.2.2 i v hv⟩
theorem k_st_sm {n : Nat} {ad ad' : Nat → Nat} (hs : k_sm n ad ad') : ∀ {st : List Value}, k_okS n st → st.map (k_rl ad') = st.map (k_rl ad)
  | [], _ => rfl
  | v :: l, ho => by rw [List.map_cons, List.map_cons, k_rl_sm hs ho.1, k_st_sm hs ho.2]
theorem k_C_sm {X : k_X} {cc : ByteArray} {own : String} {nL n : Nat} {ad ad' : Nat → Nat} (C : k_C X cc own nL ad) (hs : k_sm n ad ad') : k_C X cc own nL ad' :=
  ⟨C.1, C.2.1, C.2.2.1, C.2.2.2.1, C.2.2.2.2.1, C.2.2.2.2.2.1, C.2.2.2.2.2.2.1, C.2.2.2.2.2.2.2.1, C.2.2.2.2.2.2.2.2.ad (fun p hp => hs p (Or.inr hp))⟩
/-- the end of such a method: what it returns, the picture behind, the places of old as they were -/
def k_PoX (D : va_G) (cA ad : Nat → Nat) (n0 : Nat) (A : Nat → Prop) (Rr : Option Value → k_H → Prop) : Array Value → State → Outcome → State → Prop := fun _ st oc t => ∃ (v : Option Value) (ad' : Nat → Nat) (h' : k_H), Rr v h' ∧ k_sm n0 ad ad' ∧ oc = .returned (v.map (k_rl ad')) ∧ k_wf h' ∧ va_P D vwCl (k_w ad' cA h') t.heap ∧ va_D A (k_w ad' cA h') ∧ va_F A st t
def k_XC (D : va_G) (cA ad : Nat → Nat) (n0 : Nat) (A : Nat → Prop) (Rx : String → k_H → Prop) : String → State → State → Prop := fun E st t => ∃ (ad' : Nat → Nat) (h' : k_H), Rx E h' ∧ k_sm n0 ad ad' ∧ k_wf h' ∧ va_P D vwCl (k_w ad' cA h') t.heap ∧ va_D A (k_w ad' cA h') ∧ va_F A st t
abbrev k_rm (f n mc ms : Nat) : Room := { frames := f, cells := mc, slots := ms, locals := n }
/-- returns or throws, mc cells of ms slots at most are new -/
def k_CX (l : Launch) (y : MethodName) (cc : ByteArray) (maxL : Nat) (rt : Option FieldType) (f n mc ms : Nat) (av : List Value) (h : k_H) (Rr : Option Value → k_H → Prop) (Rx : String → k_H → Prop) : Prop :=
  ∀ (D : va_G) (cA ad : Nat → Nat) (sz : Nat), vx_Met l y (k_ws y cc maxL rt) (k_rm f n mc ms) (va_Pc (av.map (k_rl ad)) (k_Pre D cA ad sz h)) (k_PoX D cA ad h.1.length (va_A (k_w ad cA h) sz) Rr) (k_XC D cA ad h.1.length (va_A (k_w ad cA h) sz) Rx) mc ms (va_A (k_w ad cA h) sz)
/-- returns, mc cells of ms slots at most are new -/
def k_CG (l : Launch) (y : MethodName) (cc : ByteArray) (maxL : Nat) (rt : Option FieldType) (f n mc ms : Nat) (av : List Value) (h : k_H) (Rr : Option Value → k_H → Prop) : Prop :=
  ∀ (D : va_G) (cA ad : Nat → Nat) (sz : Nat), Met l y (k_ws y cc maxL rt) (k_rm f n mc ms) (va_Pc (av.map (k_rl ad)) (k_Pre D cA ad sz h)) (k_PoX D cA ad h.1.length (va_A (k_w ad cA h) sz) Rr) mc ms (va_A (k_w ad cA h) sz)
def k_QX (X : k_X) (ad : Nat → Nat) (n0 : Nat) (Rr : Option Value → k_H → Prop) (Rx : String → k_H → Prop) (mc ms : Nat) : State → Prop := vx_MQ X.b (k_PoX X.D X.cA ad n0 X.A Rr) (k_XC X.D X.cA ad n0 X.A Rx) X.a X.s mc ms X.A
def k_QG (X : k_X) (ad : Nat → Nat) (n0 : Nat) (Rr : Option Value → k_H → Prop) (mc ms : Nat) : State → Prop := MQ X.b (k_PoX X.D X.cA ad n0 X.A Rr) X.a X.s mc ms X.A
theorem k_enlen {ad : Nat → Nat} : ∀ av : List Value, (lg_sl (av.map (k_rl ad))).length = (k_en av).length
  | [] => rfl
  | a :: as => by
    show (lg_sl (k_rl ad a :: as.map (k_rl ad))).length = (k_en (a :: as)).length
    have ih := k_enlen (ad := ad) as
    unfold lg_sl at ih ⊢
    rw [List.flatMap_cons, List.length_append, ih, k_cat]
    show _ = (if a.category = 2 then some a :: none :: k_en as else some a :: k_en as).length
    by_cases hc : a.category = 2
    · rw [if_pos hc, if_pos hc]; simp; omega
    · rw [if_neg hc, if_neg hc]; simp; omega
theorem k_ofWX {l : Launch} {y : MethodName} {cc : ByteArray} {maxL : Nat} {rt : Option FieldType} {f n mc ms : Nat} {av : List Value} {h : k_H} {Rr : Option Value → k_H → Prop} {Rx : String → k_H → Prop} (hy : plainName y.cls = true) (hm : (k_en av).length ≤ maxL)
    (body : ∀ (X : k_X) (ad : Nat → Nat), X.l = l → X.R = k_rm f n mc ms → X.meth.sig.returnType = rt → k_C X cc y.cls maxL ad → (∀ x ∈ X.c.exceptionTable.toList, False) → k_W X maxL 0 0 (k_QX X ad h.1.length Rr Rx mc ms) ad h 0 (k_e0 av maxL) []) : k_CX l y cc maxL rt f n mc ms av h Rr Rx := by
  intro D cA ad sz
  refine vx_ofW (cc := cc) (maxL := maxL) (ret := rt) hy rfl ?_
  intro p e s m args below meth c s₁ B hml hx hv
  obtain ⟨rfl, hsz, hwf, hP, hK, hD, hSF⟩ := hv
  subst hsz
  have hts := atoms_spec (ws := k_ws y cc maxL rt) B.pre
  have hl := lv_entry (av.map (k_rl ad)) (n := maxL) (by rw [k_enlen]; exact hm)
  rw [lg_entry_eq]
  exact body (p, l, e, k_rm f n mc ms, s, m, (av.map (k_rl ad)).toArray, below, meth, c, D, cA, va_A (k_w ad cA h) s.heap.size) ad rfl rfl B.returns
    ⟨B.exec, B.bytes, hml, findClass_of_methodNamed B.named, fun w hw => hts w (List.mem_cons_of_mem _ hw), hK, fun q h => Or.inr h, B.notSynchronized, hSF⟩ hx s.heap [] _ hwf hP hD.self va_S.rf (k_lh_e0 hl)
theorem k_ofWG {l : Launch} {y : MethodName} {cc : ByteArray} {maxL : Nat} {rt : Option FieldType} {f n mc ms : Nat} {av : List Value} {h : k_H} {Rr : Option Value → k_H → Prop} (hy : plainName y.cls = true) (hm : (k_en av).length ≤ maxL)
    (body : ∀ (X : k_X) (ad : Nat → Nat), X.l = l → X.R = k_rm f n mc ms → X.meth.sig.returnType = rt → k_C X cc y.cls maxL ad → X.meth.name = y.name → k_W X maxL 0 0 (k_QG X ad h.1.length Rr mc ms) ad h 0 (k_e0 av maxL) []) : k_CG l y cc maxL rt f n mc ms av h Rr := by
  intro D cA ad sz
  refine Met.ofW (cc := cc) (maxL := maxL) (ret := rt) hy rfl ?_
  intro p e s m args below meth c s₁ B hml hv
  obtain ⟨rfl, hsz, hwf, hP, hK, hD, hSF⟩ := hv
  subst hsz
  have hts := atoms_spec (ws := k_ws y cc maxL rt) B.pre
  have hl := lv_entry (av.map (k_rl ad)) (n := maxL) (by rw [k_enlen]; exact hm)
  rw [lg_entry_eq]
  exact body (p, l, e, k_rm f n mc ms, s, m, (av.map (k_rl ad)).toArray, below, meth, c, D, cA, va_A (k_w ad cA h) s.heap.size) ad rfl rfl B.returns
    ⟨B.exec, B.bytes, hml, findClass_of_methodNamed B.named, fun w hw => hts w (List.mem_cons_of_mem _ hw), hK, fun q h => Or.inr h, B.notSynchronized, hSF⟩ (name_of_methodNamed B.named B.method).1 s.heap [] _ hwf hP hD.self va_S.rf (k_lh_e0 hl)
/-- with q thrown over the frame -/
def k_VW (X : k_X) (nL cells slots : Nat) (Q : State → Prop) (ad : Nat → Nat) (h : k_H) (pc : Nat) (lv : List (Option Value)) (E : String) : Prop :=
  ∀ (H : Heap) (locs : List Loc) (ls : Array Slot) (q : Addr) (ce : Cell) (st : List Value), k_wf h → va_P X.D vwCl (k_w ad X.cA h) H → va_D X.A (k_w ad X.cA h) → va_S X.A X.s.heap H locs → k_lh ad ls nL lv → H[q]? = some ce → ce.vm = .none → X.s.vm.findClass E = some ce.cls → vx_W X.p X.l X.e X.R X.s X.m X.a X.b X.meth X.c H locs cells slots Q (F0 X.m pc ls st) q
section XRET
variable {X : k_X} {cc : ByteArray} {own : String} {nL cells slots mc ms n0 : Nat} {ad0 ad : Nat → Nat} {h : k_H} {pc : Nat} {lv : List (Option Value)} {Rr : Option Value → k_H → Prop} {Rx : String → k_H → Prop}
theorem g_vret (C : k_C X cc own nL ad) (hr : X.meth.sig.returnType = none) (hc : cells ≤ mc) (hs : slots ≤ ms) (hR : Rr none h) (hsm : k_sm n0 ad0 ad) (hd : decode cc pc = .ok (.return_, 1)) : k_W X nL cells slots (k_QG X ad0 n0 Rr mc ms) ad h pc lv [] :=
  fun _ _ _ hw hP hD hS _ => W.widen hc hs (W.vret C.1 C.2.1 hr (fun _ ht _ => ⟨none, ad, h, hR, hsm, rfl, hw, by rw [ht]; exact hP, hD, hS.F ht⟩) hS.2.2 hd C.2.2.2.2.2.2.2.1)
theorem g_iret (C : k_C X cc own nL ad) {x : Int32} (hr : X.meth.sig.returnType = some .int) (hc : cells ≤ mc) (hs : slots ≤ ms) (hR : Rr (some (.int x)) h) (hsm : k_sm n0 ad0 ad) (hd : decode cc pc = .ok (.ireturn, 1)) : k_W X nL cells slots (k_QG X ad0 n0 Rr mc ms) ad h pc lv [.int x] :=
  fun _ _ _ hw hP hD hS _ => W.widen hc hs (W.iret C.1 C.2.1 hr (fun _ ht _ => ⟨some (.int x), ad, h, hR, hsm, rfl, hw, by rw [ht]; exact hP, hD, hS.F ht⟩) hS.2.2 hd C.2.2.2.2.2.2.2.1)
theorem g_zret (C : k_C X cc own nL ad) {x : Int32} (hr : X.meth.sig.returnType = some .boolean) (hx : x = 0 ∨ x = 1) (hc : cells ≤ mc) (hs : slots ≤ ms) (hR : Rr (some (.int x)) h) (hsm : k_sm n0 ad0 ad) (hd : decode cc pc = .ok (.ireturn, 1)) : k_W X nL cells slots (k_QG X ad0 n0 Rr mc ms) ad h pc lv [.int x] :=
  fun _ _ _ hw hP hD hS _ => W.widen hc hs (W.zret C.1 C.2.1 hr (by rcases hx with rfl | rfl <;> rfl) (fun _ ht _ => ⟨some (.int x), ad, h, hR, hsm, rfl, hw, by rw [ht]; exact hP, hD, hS.F ht⟩) hS.2.2 hd C.2.2.2.2.2.2.2.1)
theorem g_lret (C : k_C X cc own nL ad) {x : Int64} (hr : X.meth.sig.returnType = some .long) (hc : cells ≤ mc) (hs : slots ≤ ms) (hR : Rr (some (.long x)) h) (hsm : k_sm n0 ad0 ad) (hd : decode cc pc = .ok (.lreturn, 1)) : k_W X nL cells slots (k_QG X ad0 n0 Rr mc ms) ad h pc lv [.long x] :=
  fun _ _ _ hw hP hD hS _ => W.widen hc hs (W.lret C.1 C.2.1 hr (fun _ ht _ => ⟨some (.long x), ad, h, hR, hsm, rfl, hw, by rw [ht]; exact hP, hD, hS.F ht⟩) hS.2.2 hd C.2.2.2.2.2.2.2.1)
theorem x_of_g {st : List Value} (k : k_W X nL cells slots (k_QG X ad0 n0 Rr mc ms) ad h pc lv st) : k_W X nL cells slots (k_QX X ad0 n0 Rr Rx mc ms) ad h pc lv st := fun H locs ls hw hP hD hS hl => vx_ret (k H locs ls hw hP hD hS hl)
theorem x_out {E : String} (C : k_C X cc own nL ad) (hx : ∀ x ∈ X.c.exceptionTable.toList, False) (hc : cells ≤ mc) (hs : slots ≤ ms) (hR : Rx E h) (hsm : k_sm n0 ad0 ad) : k_VW X nL cells slots (k_QX X ad0 n0 Rr Rx mc ms) ad h pc lv E :=
  fun _ _ _ _ _ _ hw hP hD hS _ hce hcv hcl => vx_out (fun x h => (hx x h).elim) C.2.2.2.2.2.2.2.1 hce hcv hcl (fun _ ht _ => ⟨ad, h, hR, hsm, hw, by rw [ht]; exact hP, hD, hS.F ht⟩) hS.2.2 hc hs
end XRET
theorem k_wordsX {X : k_X} {cc : ByteArray} {own : String} {nL : Nat} {ad : Nat → Nat} {y : MethodName} {c2 : ByteArray} {maxL ix n f nn mc ms F NN : Nat} {rt : Option FieldType} (C : k_C X cc own nL ad) (hcd : Cond.code y c2 maxL rt ∈ k_tb) (hini : Cond.initialized y.cls ∈ k_tb) (hnd : k_nd y n) (hR : X.R.frames = F ∧ X.R.locals = NN) (h1 : Nat.ble (f + 1) F = true) (h2 : Nat.ble (8 + (maxL + 11) + nn) NN = true) (hl : Cond.methodLink own ix y ∈ k_tb) :
    CallB X.R X.s X.a own ix y c2 maxL rt (k_ws y c2 maxL rt) (k_rm f nn mc ms) mc ms n :=
  callB_of n C.2.2.2.2.1 (k_goodIn hcd) rfl rfl rfl (C.2.2.2.2.1 _ hini) (C.2.2.2.2.1 _ hl) hnd ⟨by rw [hR.1]; exact Nat.le_of_ble_eq_true h1, by rw [hR.2]; exact Nat.le_of_ble_eq_true h2⟩
theorem k_wordsNX {X : k_X} {cc : ByteArray} {own : String} {nL : Nat} {ad : Nat → Nat} {y : MethodName} {c2 : ByteArray} {maxL ix n f nn mc ms F NN : Nat} {rt : Option FieldType} {host : String} (C : k_C X cc own nL ad) (hcd : Cond.code y c2 maxL rt ∈ k_tb) (hini : Cond.initialized y.cls ∈ k_tb) (hnd : k_nd y n) (hR : X.R.frames = F ∧ X.R.locals = NN) (h1 : Nat.ble (f + 1) F = true) (h2 : Nat.ble (8 + (maxL + 11) + nn) NN = true) (hl : (own, ix, y, host) ∈ k_nl) :
    va_CN X.R X.s X.a own ix y host c2 maxL rt (k_ws y c2 maxL rt) (k_rm f nn mc ms) mc ms n :=
  va_cnB n C.2.2.2.2.1 (k_goodIn hcd) rfl rfl rfl (C.2.2.2.2.2.2.2.2.2.2.1 _ hl) (C.2.2.2.2.1 _ hini) hnd ⟨by rw [hR.1]; exact Nat.le_of_ble_eq_true h1, by rw [hR.2]; exact Nat.le_of_ble_eq_true h2⟩
section XCALL
variable {X : k_X} {cc : ByteArray} {own : String} {nL cells slots mc ms : Nat} {Q : State → Prop} {ad : Nat → Nat} {h : k_H} {pc pc' : Nat} {lv : List (Option Value)} {st : List Value} {Rr : Option Value → k_H → Prop} {Rx : String → k_H → Prop}
theorem k_stk {v : Option Value} {ad' : Nat → Nat} {n : Nat} (hsm : k_sm n ad ad') (hso : k_okS n st) : (v.map (k_rl ad')).toList ++ st.map (k_rl ad) = (v.toList ++ st).map (k_rl ad') := by
  rw [List.map_append, k_st_sm hsm hso]
  cases v <;> rfl
theorem k_backX {H : Heap} {locs : List Loc} {ls : Array Slot} {a : Array Value} {st0 : List Value} (C : k_C X cc own nL ad) (hD : va_D X.A (k_w ad X.cA h)) (hS : va_S X.A X.s.heap H locs) (hl : k_lh ad ls nL lv) (hlo : k_okL h.1.length lv) (hso : k_okS h.1.length st)
    (hr : vx_Run X.p X.l X.e X.R X.s X.m X.a X.b X.meth X.c H locs cells slots mc ms (F0 X.m pc ls st0) (st.map (k_rl ad)) (k_PoX X.D X.cA ad h.1.length (va_A (k_w ad X.cA h) H.size) Rr a) (k_XC X.D X.cA ad h.1.length (va_A (k_w ad X.cA h) H.size) Rx) (va_A (k_w ad X.cA h) H.size))
    (k : ∀ (v : Option Value) (ad' : Nat → Nat) (h' : k_H), Rr v h' → k_sm h.1.length ad ad' → k_C X cc own nL ad' → k_W X nL (cells + mc) (slots + ms) Q ad' h' (pc + 3) lv (v.toList ++ st))
    (kx : ∀ (E : String) (ad' : Nat → Nat) (h' : k_H), Rx E h' → k_sm h.1.length ad ad' → k_C X cc own nL ad' → k_VW X nL (cells + mc) (slots + ms) Q ad' h' pc lv E) : k_Wx X H locs cells slots Q (F0 X.m pc ls st0) := by
  have hF := k_free C.2.2.2.2.2.2.1 hD hS
  intro T hT Z
  rcases hr T hT Z with ⟨v0, st₀, t, T', L, h0, X', hL, e1, e2, ⟨v, ad', h', hRr, hsm, hv, hw', hP', hD', hF'⟩, gs⟩ | ⟨q, st₀, t, T', L, E, ce, h0, X', hL, e1, e2, ⟨ad', h', hRx, hsm, hw', hP', hD', hF'⟩, hce, hcv, hcl, gs⟩
  · cases hv
    have hS2 : va_S X.A X.s.heap T'.heap (locs ++ L) := k_S1 hS hF hL h0 e1.symm hF'
    obtain ⟨t2, a1, b1⟩ := k v ad' h' hRr hsm (k_C_sm C hsm) T'.heap (locs ++ L) ls hw' (by rw [e1]; exact hP') ⟨hD'.1, fun i q hq => hF _ (hD'.2 i q hq)⟩ hS2 (k_lh_sm hl hsm hlo) T' rfl X'
    refine ⟨t2, gs t2 ?_, b1⟩
    rw [← k_stk hsm hso] at a1
    exact a1
  · have hS2 : va_S X.A X.s.heap T'.heap (locs ++ L) := k_S1 hS hF hL h0 e1.symm hF'
    obtain ⟨t2, a1, b1⟩ := kx E ad' h' hRx hsm (k_C_sm C hsm) T'.heap (locs ++ L) ls q ce (st.map (k_rl ad)) hw' (by rw [e1]; exact hP') ⟨hD'.1, fun i q hq => hF _ (hD'.2 i q hq)⟩ hS2 (k_lh_sm hl hsm hlo) (by rw [e1]; exact hce) hcv hcl T' rfl X'
    exact ⟨t2, gs.trans a1, b1⟩
theorem k_backG {H : Heap} {locs : List Loc} {ls : Array Slot} {a : Array Value} {st0 : List Value} (C : k_C X cc own nL ad) (hD : va_D X.A (k_w ad X.cA h)) (hS : va_S X.A X.s.heap H locs) (hl : k_lh ad ls nL lv) (hlo : k_okL h.1.length lv) (hso : k_okS h.1.length st)
    (hr : va_Run X.p X.l X.e X.R X.s X.m X.a X.b X.meth X.c H locs cells slots mc ms (F0 X.m pc ls st0) (st.map (k_rl ad)) (k_PoX X.D X.cA ad h.1.length (va_A (k_w ad X.cA h) H.size) Rr a) (va_A (k_w ad X.cA h) H.size))
    (k : ∀ (v : Option Value) (ad' : Nat → Nat) (h' : k_H), Rr v h' → k_sm h.1.length ad ad' → k_C X cc own nL ad' → k_W X nL (cells + mc) (slots + ms) Q ad' h' (pc + 3) lv (v.toList ++ st)) : k_Wx X H locs cells slots Q (F0 X.m pc ls st0) := by
  have hF := k_free C.2.2.2.2.2.2.1 hD hS
  intro T hT Z
  obtain ⟨v0, st₀, t, T', L, h0, X', hL, e1, e2, ⟨v, ad', h', hRr, hsm, hv, hw', hP', hD', hF'⟩, gs⟩ := hr T hT Z
  cases hv
  have hS2 : va_S X.A X.s.heap T'.heap (locs ++ L) := k_S1 hS hF hL h0 e1.symm hF'
  obtain ⟨t2, a1, b1⟩ := k v ad' h' hRr hsm (k_C_sm C hsm) T'.heap (locs ++ L) ls hw' (by rw [e1]; exact hP') ⟨hD'.1, fun i q hq => hF _ (hD'.2 i q hq)⟩ hS2 (k_lh_sm hl hsm hlo) T' rfl X'
  refine ⟨t2, gs t2 ?_, b1⟩
  rw [← k_stk hsm hso] at a1
  exact a1
variable {y : MethodName} {c2 : ByteArray} {maxL n ix f nn F NN b ci N : Nat} {rt : Option FieldType} {sl : List Nat} {T : u_T} {As stk : List Value}
/-- a call of a method that may throw -/
theorem c_VX (C : k_C X cc own nL ad) (hR : X.R.frames = F ∧ X.R.locals = NN) (hcs : cells + mc ≤ X.R.cells ∧ slots + ms ≤ X.R.slots) (M : k_MV y c2 maxL rt n) (hl : Cond.methodLink own ix y ∈ k_tb) (hd : decode cc pc = .ok (.invokevirtual ix, 3)) (hn : pc + 3 = pc') (h1 : Nat.ble (f + 1) F = true) (h2 : Nat.ble (8 + (maxL + 11) + nn) NN = true) (hs : h.1[b]? = some (0, ci, sl)) (hc : vwCl[ci]? = some (y.cls, T, N)) (K : k_CX X.l y c2 maxL rt f nn mc ms (.ref b :: As) h Rr Rx) (hA : As.length = n) (hst : Nat.ble ((st.map fun v => v.category).sum) 8 = true) (hstk : As.reverse ++ .ref b :: st = stk) (hlo : k_okL h.1.length lv) (hso : k_okS h.1.length st)
    (kx : ∀ (E : String) (ad' : Nat → Nat) (h' : k_H), Rx E h' → k_sm h.1.length ad ad' → k_C X cc own nL ad' → k_VW X nL (cells + mc) (slots + ms) Q ad' h' pc lv E)
    (k : ∀ (v : Option Value) (ad' : Nat → Nat) (h' : k_H), Rr v h' → k_sm h.1.length ad ad' → k_C X cc own nL ad' → k_W X nL (cells + mc) (slots + ms) Q ad' h' pc' lv (v.toList ++ st)) : k_W X nL cells slots Q ad h pc lv stk := by
  subst hn
  intro H locs ls hw hP hD hS hll
  obtain ⟨hin, hse, hini, hcd, hnd⟩ := M
  refine k_backX (a := ((.ref b :: As).map (k_rl ad)).toArray) C hD hS hll hlo hso ?_ k kx
  have hstack : stk.map (k_rl ad) = (As.map (k_rl ad)).reverse ++ .ref (ad b) :: st.map (k_rl ad) := by
    rw [← hstk, List.map_append, List.map_cons, List.map_reverse]; rfl
  exact vx_runV (As := As.map (k_rl ad)) (b := ad b) (rest := st.map (k_rl ad)) ⟨C.1, C.2.1, C.2.2.1, C.2.2.2.1, C.2.2.2.2.1⟩ (K X.D X.cA ad H.size) ⟨k_wordsX C hcd hini hnd hR h1 h2 hl, C.2.2.2.2.1 _ hin, C.2.2.2.2.1 _ hse⟩ ⟨k_frameB, va_recv C.2.2.2.2.2.1 hP hc (k_w_at ad X.cA h hs), fun U hU hW => k_preI C hw hP hD hS U hU hW⟩ rfl (by rw [List.length_map]; exact hA) hll.1 hstack (k_cat8 hst) hd hcs
/-- .. that makes cells -/
theorem c_VG (C : k_C X cc own nL ad) (hR : X.R.frames = F ∧ X.R.locals = NN) (hcs : cells + mc ≤ X.R.cells ∧ slots + ms ≤ X.R.slots) (M : k_MV y c2 maxL rt n) (hl : Cond.methodLink own ix y ∈ k_tb) (hd : decode cc pc = .ok (.invokevirtual ix, 3)) (hn : pc + 3 = pc') (h1 : Nat.ble (f + 1) F = true) (h2 : Nat.ble (8 + (maxL + 11) + nn) NN = true) (hs : h.1[b]? = some (0, ci, sl)) (hc : vwCl[ci]? = some (y.cls, T, N)) (K : k_CG X.l y c2 maxL rt f nn mc ms (.ref b :: As) h Rr) (hA : As.length = n) (hst : Nat.ble ((st.map fun v => v.category).sum) 8 = true) (hstk : As.reverse ++ .ref b :: st = stk) (hlo : k_okL h.1.length lv) (hso : k_okS h.1.length st)
    (k : ∀ (v : Option Value) (ad' : Nat → Nat) (h' : k_H), Rr v h' → k_sm h.1.length ad ad' → k_C X cc own nL ad' → k_W X nL (cells + mc) (slots + ms) Q ad' h' pc' lv (v.toList ++ st)) : k_W X nL cells slots Q ad h pc lv stk := by
  subst hn
  intro H locs ls hw hP hD hS hll
  obtain ⟨hin, hse, hini, hcd, hnd⟩ := M
  refine k_backG (a := ((.ref b :: As).map (k_rl ad)).toArray) C hD hS hll hlo hso ?_ k
  have hstack : stk.map (k_rl ad) = (As.map (k_rl ad)).reverse ++ .ref (ad b) :: st.map (k_rl ad) := by
    rw [← hstk, List.map_append, List.map_cons, List.map_reverse]; rfl
  exact va_runV (As := As.map (k_rl ad)) (b := ad b) (rest := st.map (k_rl ad)) ⟨C.1, C.2.1, C.2.2.1, C.2.2.2.1, C.2.2.2.2.1⟩ (K X.D X.cA ad H.size) ⟨k_wordsX C hcd hini hnd hR h1 h2 hl, C.2.2.2.2.1 _ hin, C.2.2.2.2.1 _ hse⟩ ⟨k_frameB, va_recv C.2.2.2.2.2.1 hP hc (k_w_at ad X.cA h hs), fun U hU hW => k_preI C hw hP hD hS U hU hW⟩ rfl (by rw [List.length_map]; exact hA) hll.1 hstack (k_cat8 hst) hd hcs
theorem c_SG (C : k_C X cc own nL ad) (hR : X.R.frames = F ∧ X.R.locals = NN) (hcs : cells + mc ≤ X.R.cells ∧ slots + ms ≤ X.R.slots) (M : k_MS y c2 maxL rt n) (hl : Cond.methodLink own ix y ∈ k_tb) (hd : decode cc pc = .ok (.invokestatic ix, 3)) (hn : pc + 3 = pc') (h1 : Nat.ble (f + 1) F = true) (h2 : Nat.ble (8 + (maxL + 11) + nn) NN = true) (K : k_CG X.l y c2 maxL rt f nn mc ms As h Rr) (hA : As.length = n) (hst : Nat.ble ((st.map fun v => v.category).sum) 8 = true) (hstk : As.reverse ++ st = stk) (hlo : k_okL h.1.length lv) (hso : k_okS h.1.length st)
    (k : ∀ (v : Option Value) (ad' : Nat → Nat) (h' : k_H), Rr v h' → k_sm h.1.length ad ad' → k_C X cc own nL ad' → k_W X nL (cells + mc) (slots + ms) Q ad' h' pc' lv (v.toList ++ st)) : k_W X nL cells slots Q ad h pc lv stk := by
  subst hn
  intro H locs ls hw hP hD hS hll
  obtain ⟨hsta, hini, hcd, hnd⟩ := M
  refine k_backG (a := (As.map (k_rl ad)).toArray) C hD hS hll hlo hso ?_ k
  have hstack : stk.map (k_rl ad) = (As.map (k_rl ad)).reverse ++ st.map (k_rl ad) := by
    rw [← hstk, List.map_append, List.map_reverse]
  exact va_runS (As := As.map (k_rl ad)) (rest := st.map (k_rl ad)) ⟨C.1, C.2.1, C.2.2.1, C.2.2.2.1, C.2.2.2.2.1⟩ (K X.D X.cA ad H.size) ⟨k_wordsX C hcd hini hnd hR h1 h2 hl, C.2.2.2.2.1 _ hsta⟩ ⟨k_frameB, fun U hU hW => k_preI C hw hP hD hS U hU hW⟩ rfl (by rw [List.length_map]; exact hA) hll.1 hstack (k_cat8 hst) hd hcs
/-- a constructor -/
theorem c_IG (C : k_C X cc own nL ad) (hR : X.R.frames = F ∧ X.R.locals = NN) (hcs : cells + mc ≤ X.R.cells ∧ slots + ms ≤ X.R.slots) (M : k_MI y c2 maxL n) (hl : k_lk own ix y) (hd : decode cc pc = .ok (.invokespecial ix, 3)) (hn : pc + 3 = pc') (h1 : Nat.ble (f + 1) F = true) (h2 : Nat.ble (8 + (maxL + 11) + nn) NN = true) (K : k_CG X.l y c2 maxL none f nn mc ms (.ref b :: As) h Rr) (hA : As.length = n) (hst : Nat.ble ((st.map fun v => v.category).sum) 8 = true) (hstk : As.reverse ++ .ref b :: st = stk) (hlo : k_okL h.1.length lv) (hso : k_okS h.1.length st)
    (k : ∀ (v : Option Value) (ad' : Nat → Nat) (h' : k_H), Rr v h' → k_sm h.1.length ad ad' → k_C X cc own nL ad' → k_W X nL (cells + mc) (slots + ms) Q ad' h' pc' lv (v.toList ++ st)) : k_W X nL cells slots Q ad h pc lv stk := by
  subst hn
  intro H locs ls hw hP hD hS hll
  obtain ⟨hin, hini, hcd, hnm, hnd⟩ := M
  refine k_backG (a := ((.ref b :: As).map (k_rl ad)).toArray) C hD hS hll hlo hso ?_ k
  have hstack : stk.map (k_rl ad) = (As.map (k_rl ad)).reverse ++ .ref (ad b) :: st.map (k_rl ad) := by
    rw [← hstk, List.map_append, List.map_cons, List.map_reverse]; rfl
  rcases hl with hl | ⟨host, hl⟩
  · exact va_runI (As := As.map (k_rl ad)) (b := ad b) (rest := st.map (k_rl ad)) ⟨C.1, C.2.1, C.2.2.1, C.2.2.2.1, C.2.2.2.2.1⟩ (K X.D X.cA ad H.size) ⟨k_wordsX C hcd hini hnd hR h1 h2 hl, hnm, C.2.2.2.2.1 _ hin⟩ ⟨k_frameB, fun U hU hW => k_preI (av := .ref b :: As) C hw hP hD hS U hU hW⟩ rfl (by rw [List.length_map]; exact hA) hll.1 hstack (k_cat8 hst) hd hcs
  · exact va_runIN (As := As.map (k_rl ad)) (b := ad b) (rest := st.map (k_rl ad)) ⟨C.1, C.2.1, C.2.2.1, C.2.2.2.1, C.2.2.2.2.1⟩ (K X.D X.cA ad H.size) ⟨k_wordsNX C hcd hini hnd hR h1 h2 hl, hnm, C.2.2.2.2.1 _ hin⟩ ⟨k_frameB, fun U hU hW => k_preI (av := .ref b :: As) C hw hP hD hS U hU hW⟩ rfl (by rw [List.length_map]; exact hA) hll.1 hstack (k_cat8 hst) hd hcs
/-- the words of a throw that are none of the tables' good ones -/
def k_xw (cls : String) : List Cond := [.castable cls cls, .declares (k_dS "java/lang/RuntimeException"), .declares (k_dS "java/lang/Exception"), .declares (k_dS "java/lang/Throwable")]
theorem k_xw_ok {cls : String} {s : State} {a : Array Value} (h1 : k_Cs cls cls s) (h2 : k_SX s) : ∀ w ∈ k_xw cls, w.before a s = true :=
  vx_c h1.word (vx_c h2.2.2.2.2.2.2.1.use (vx_c h2.2.2.2.2.2.2.2.1.use (vx_c h2.2.2.2.2.2.2.2.2.use vx_n)))
/-- new E(text), thrown -/
theorem x_throwSW {n0 : Nat} {ad0 : Nat → Nat} {cls text : String} {names : List String} {ik is ic i : Nat} (C : k_C X cc own nL ad) (hl : X.l.stackTraces = false) (hx : ∀ x ∈ X.c.exceptionTable.toList, False) (hR : X.R.frames = F ∧ X.R.locals = NN) (hcs : cells + 1 ≤ X.R.cells ∧ slots + 6 ≤ X.R.slots) (hst : k_st[i]? = some (own, is, text)) (hcls : Bundle.fit cls = true) (hnames : ∀ n ∈ names, Bundle.fit n = true)
    (hk : Cond.classLink own ik cls ∈ k_tb) (hini : Cond.initialized cls ∈ k_tb) (hat : ∀ w ∈ (vx_atS own ic cls names).filter goodWord, w ∈ k_tb) (hat2 : ∀ w ∈ (vx_atS own ic cls names).filter (fun w => !goodWord w), w ∈ k_xw cls) (hat3 : ∀ w ∈ vx_atS own ic cls names, vx_ot w = true) (hcs2 : k_Cs cls cls X.s)
    (d0 : decode cc pc = .ok (.new ik, 3)) (d3 : decode cc (pc + 3) = .ok (.dup, 1)) (d4 : decode cc (pc + 4) = .ok (.ldc_w is, 3)) (d7 : decode cc (pc + 7) = .ok (.invokespecial ic, 3)) (d10 : decode cc (pc + 10) = .ok (.athrow, 1))
    (h1 : Nat.ble (names.length + 4) F = true) (h2 : Nat.ble ((st.map fun v => v.category).sum + (13 * (names.length + 1) + 43)) NN = true)
    (hRx : Rx cls h) (hsm : k_sm n0 ad0 ad) (hc : cells + 1 ≤ mc) (hs : slots + 6 ≤ ms) : k_W X nL cells slots (k_QX X ad0 n0 Rr Rx mc ms) ad h pc lv st := by
  intro H locs ls hw hP hD hS hll
  have h3 := k_cats ad st
  refine vx_throwSW C.1 C.2.1 hl C.2.2.2.1 hcls hnames (C.2.2.2.2.1 _ hk) (C.2.2.2.2.1 _ hini) (C.2.2.2.2.2.2.2.2.2.1 i _ hst) (vx_hat (fun w h => C.2.2.2.2.1 _ (hat w h)) hat2 (k_xw_ok hcs2 C.2.2.2.2.2.2.2.2.2.2.2.2.2.2.2.2)) ?_ C.2.2.2.2.2.2.2.2.2.2.2.2.2.1 C.2.2.2.2.2.2.2.2.2.2.2.2.2.2.1 hS (hll.1.trans C.2.2.1.symm) d0 d3 d4 d7 d10 (fun x h => (hx x h).elim) (by rw [hR.1]; have := Nat.le_of_ble_eq_true h1; omega) (by rw [h3, hR.2]; exact Nat.le_of_ble_eq_true h2) hcs.1 hcs.2 C.2.2.2.2.2.2.2.1 ?_ hS.2.2 hc hs
  · intro w hw2
    rcases List.mem_cons.mp hw2 with e | hw3
    · subst e; unfold vx_ot; rw [k_good _ hk, Bool.or_true]
    · rcases List.mem_cons.mp hw3 with e | hw4
      · subst e; unfold vx_ot; rw [k_good _ hini, Bool.or_true]
      · exact hat3 w hw4
  · intro t hal hz hkp
    exact ⟨ad, h, hRx, hsm, hw, hP.kept (fun k q hq => hkp q.1 (hP k q hq).lt), hD, Nat.le_trans hS.1 hz, fun q h1 h2 => (hkp q (Nat.lt_of_lt_of_le h1 hS.1)).trans (hS.2.1 q h1 h2)⟩
end XCALL
