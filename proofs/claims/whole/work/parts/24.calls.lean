theorem k_step {us us' : List k_U} {ks : List (Nat × Nat × Nat)} {h0 : k_H} (u : k_U) (hk : us.map k_ky = ks) (hds : k_ds ks = true) (hin : ks.contains (k_ky u) = true) (hmg : k_rp u us = us') : k_a1 u (k_ap us h0) = k_ap us' h0 := by
  subst hk; subst hmg
  exact k_ap_rp us u h0 hds (by simpa using hin)
section PUTS
variable {X : k_X} {cc : ByteArray} {own : String} {nL cells slots : Nat} {Q : State → Prop} {ad : Nat → Nat} {h0 : k_H} {us us' : List k_U} {ks : List (Nat × Nat × Nat)} {pc pc' : Nat} {lv : List (Option Value)} {st : List Value}
theorem p_I (C : k_C X cc own nL ad) {ix p ci kk : Nat} {sl : List Nat} {v : Int32} (hd : decode cc pc = .ok (.putfield ix, 3)) (hn : pc + 3 = pc') (F : k_FP own ix ci kk .int) (hs : h0.1[p]? = some (0, ci, sl)) (hsl : sl[kk]? = some 0) (hds : k_ds ks = true) (hk : us.map k_ky = ks) (hin : ks.contains (p, 0, kk) = true) (hmg : k_rp (p, .inl (kk, v)) us = us') (k : k_W X nL cells slots Q ad (k_ap us' h0) pc' lv st) : k_W X nL cells slots Q ad (k_ap us h0) pc lv (.int v :: .ref p :: st) := by
  refine r_putI C hd hn F (by rw [k_ap_sh]; exact hs) hsl ?_
  rw [← k_step (p, .inl (kk, v)) hk hds hin hmg] at k
  exact k
theorem p_L (C : k_C X cc own nL ad) {ix p ci kk : Nat} {sl : List Nat} {v : Int64} (hd : decode cc pc = .ok (.putfield ix, 3)) (hn : pc + 3 = pc') (F : k_FP own ix ci kk .long) (hs : h0.1[p]? = some (0, ci, sl)) (hsl : sl[kk]? = some 1) (hds : k_ds ks = true) (hk : us.map k_ky = ks) (hin : ks.contains (p, 1, kk) = true) (hmg : k_rp (p, .inr (.inl (kk, v))) us = us') (k : k_W X nL cells slots Q ad (k_ap us' h0) pc' lv st) : k_W X nL cells slots Q ad (k_ap us h0) pc lv (.long v :: .ref p :: st) := by
  refine r_putL C hd hn F (by rw [k_ap_sh]; exact hs) hsl ?_
  rw [← k_step (p, .inr (.inl (kk, v))) hk hds hin hmg] at k
  exact k
theorem p_i (C : k_C X cc own nL ad) {p n : Nat} {sl : List Nat} {i x : Int32} {f : Nat → Int32} (hd : decode cc pc = .ok (.iastore, 1)) (hn : pc + 1 = pc') (hs : h0.1[p]? = some (1, n, sl)) (hf : (k_ap us h0).2.1 p = f) (hin : vp_in i n) (hds : k_ds ks = true) (hk : us.map k_ky = ks) (hi : ks.contains (p, 2, 0) = true) (hmg : k_rp (p, .inr (.inr (.inl (upd f i.toNatClampNeg x)))) us = us') (k : k_W X nL cells slots Q ad (k_ap us' h0) pc' lv st) : k_W X nL cells slots Q ad (k_ap us h0) pc lv (.int x :: .int i :: .ref p :: st) := by
  refine r_iast C hd hn (by rw [k_ap_sh]; exact hs) hf hin ?_
  rw [← k_step (p, .inr (.inr (.inl (upd f i.toNatClampNeg x)))) hk hds hi hmg] at k
  exact k
theorem p_b (C : k_C X cc own nL ad) {p n : Nat} {sl : List Nat} {i x : Int32} {f : Nat → Int32} (hd : decode cc pc = .ok (.bastore, 1)) (hn : pc + 1 = pc') (hs : h0.1[p]? = some (2, n, sl)) (hf : (k_ap us h0).2.1 p = f) (hin : vp_in i n) (hds : k_ds ks = true) (hk : us.map k_ky = ks) (hi : ks.contains (p, 2, 0) = true) (hmg : k_rp (p, .inr (.inr (.inl (upd f i.toNatClampNeg (vp_nar .byte x))))) us = us') (k : k_W X nL cells slots Q ad (k_ap us' h0) pc' lv st) : k_W X nL cells slots Q ad (k_ap us h0) pc lv (.int x :: .int i :: .ref p :: st) := by
  refine r_bast C hd hn (by rw [k_ap_sh]; exact hs) hf hin ?_
  rw [← k_step (p, .inr (.inr (.inl (upd f i.toNatClampNeg (vp_nar .byte x))))) hk hds hi hmg] at k
  exact k
theorem p_z (C : k_C X cc own nL ad) {p n : Nat} {sl : List Nat} {i x : Int32} {f : Nat → Int32} (hd : decode cc pc = .ok (.bastore, 1)) (hn : pc + 1 = pc') (hs : h0.1[p]? = some (3, n, sl)) (hf : (k_ap us h0).2.1 p = f) (hin : vp_in i n) (hds : k_ds ks = true) (hk : us.map k_ky = ks) (hi : ks.contains (p, 2, 0) = true) (hmg : k_rp (p, .inr (.inr (.inl (upd f i.toNatClampNeg (vp_nar .boolean x))))) us = us') (k : k_W X nL cells slots Q ad (k_ap us' h0) pc' lv st) : k_W X nL cells slots Q ad (k_ap us h0) pc lv (.int x :: .int i :: .ref p :: st) := by
  refine r_zast C hd hn (by rw [k_ap_sh]; exact hs) hf hin ?_
  rw [← k_step (p, .inr (.inr (.inl (upd f i.toNatClampNeg (vp_nar .boolean x))))) hk hds hi hmg] at k
  exact k
theorem p_l (C : k_C X cc own nL ad) {p n : Nat} {sl : List Nat} {i : Int32} {x : Int64} {f : Nat → Int64} (hd : decode cc pc = .ok (.lastore, 1)) (hn : pc + 1 = pc') (hs : h0.1[p]? = some (4, n, sl)) (hf : (k_ap us h0).2.2.1 p = f) (hin : vp_in i n) (hds : k_ds ks = true) (hk : us.map k_ky = ks) (hi : ks.contains (p, 3, 0) = true) (hmg : k_rp (p, .inr (.inr (.inr (vp_updL f i.toNatClampNeg x)))) us = us') (k : k_W X nL cells slots Q ad (k_ap us' h0) pc' lv st) : k_W X nL cells slots Q ad (k_ap us h0) pc lv (.long x :: .int i :: .ref p :: st) := by
  refine r_last C hd hn (by rw [k_ap_sh]; exact hs) hf hin ?_
  rw [← k_step (p, .inr (.inr (.inr (vp_updL f i.toNatClampNeg x)))) hk hds hi hmg] at k
  exact k
end PUTS
/-! CONTRACTS -/
theorem k_good : ∀ w ∈ k_tb, goodWord w = true := fun _ h => (List.mem_filter.mp h).2
def k_ws (y : MethodName) (cc : ByteArray) (maxL : Nat) (rt : Option FieldType) : List Cond := .code y cc maxL rt :: k_tb
theorem k_goodIn {y : MethodName} {cc : ByteArray} {maxL : Nat} {rt : Option FieldType} (hc : Cond.code y cc maxL rt ∈ k_tb) : GoodIn k_tb (k_ws y cc maxL rt) := by
  intro w hw
  rcases List.mem_cons.mp hw with h | h
  · subst h; exact ⟨hc, good_of_word (k_good _ hc)⟩
  · exact ⟨h, good_of_word (k_good w h)⟩
def k_Pre (D : va_G) (cA ad : Nat → Nat) (sz : Nat) (h : k_H) (U : State) : Prop := U.heap.size = sz ∧ k_wf h ∧ va_P D vwCl (k_w ad cA h) U.heap ∧ va_K D vwCl (k_tys cA) U ∧ va_D (fun _ => True) (k_w ad cA h) ∧ k_SF ad (va_A (k_w ad cA h) sz) U U.heap
def k_Po (D : va_G) (cA ad : Nat → Nat) (A : Nat → Prop) (v : Option Value) (h' : k_H) : Array Value → State → Outcome → State → Prop := fun _ st oc t => oc = .returned (v.map (k_rl ad)) ∧ k_wf h' ∧ va_P D vwCl (k_w ad cA h') t.heap ∧ va_F A st t
/-- a method's contract: with these arguments, over this picture, it returns v, and the picture is changed as us tell -/
def k_CT (l : Launch) (y : MethodName) (cc : ByteArray) (maxL : Nat) (rt : Option FieldType) (f n : Nat) (av : List Value) (h : k_H) (v : Option Value) (us : List k_U) : Prop :=
  ∀ (D : va_G) (cA ad : Nat → Nat) (sz : Nat), Met l y (k_ws y cc maxL rt) ({ frames := f, cells := 0, slots := 0, locals := n }) (va_Pc (av.map (k_rl ad)) (k_Pre D cA ad sz h)) (k_Po D cA ad (va_A (k_w ad cA h) sz) v (k_ap us h)) 0 0 (va_A (k_w ad cA h) sz)
def k_Q (X : k_X) (ad : Nat → Nat) (v : Option Value) (h' : k_H) : State → Prop := MQ X.b (k_Po X.D X.cA ad X.A v h') X.a X.s 0 0 X.A
theorem k_ofW {l : Launch} {y : MethodName} {cc : ByteArray} {maxL : Nat} {rt : Option FieldType} {f n : Nat} {av : List Value} {h : k_H} {v : Option Value} {us : List k_U} (hy : plainName y.cls = true) (hm : (k_en av).length ≤ maxL)
    (body : ∀ (X : k_X) (ad : Nat → Nat), X.l = l → X.R = ({ frames := f, cells := 0, slots := 0, locals := n } : Room) → X.meth.sig.returnType = rt → k_C X cc y.cls maxL ad → k_W X maxL 0 0 (k_Q X ad v (k_ap us h)) ad h 0 (k_e0 av maxL) []) : k_CT l y cc maxL rt f n av h v us := by
  intro D cA ad sz
  refine Met.ofW (cc := cc) (maxL := maxL) (ret := rt) hy rfl ?_
  intro p e s m args below meth c s₁ B hml hv
  obtain ⟨rfl, hsz, hwf, hP, hK, hD, hSF⟩ := hv
  subst hsz
  have hts := atoms_spec (ws := k_ws y cc maxL rt) B.pre
  have hlen : (lg_sl (av.map (k_rl ad))).length ≤ maxL := by
    have e : ∀ av : List Value, (lg_sl (av.map (k_rl ad))).length = (k_en av).length := by
      intro av
      induction av with
      | nil => rfl
      | cons a as ih =>
        show (lg_sl (k_rl ad a :: as.map (k_rl ad))).length = (k_en (a :: as)).length
        unfold lg_sl at ih ⊢
        rw [List.flatMap_cons, List.length_append, ih, k_cat]
        show _ = (if a.category = 2 then some a :: none :: k_en as else some a :: k_en as).length
        by_cases hc : a.category = 2
        · rw [if_pos hc, if_pos hc]; simp; omega
        · rw [if_neg hc, if_neg hc]; simp; omega
    rw [e]; exact hm
  have hl := lv_entry (av.map (k_rl ad)) hlen
  rw [lg_entry_eq]
  exact body (p, l, e, ({ frames := f, cells := 0, slots := 0, locals := n } : Room), s, m, (av.map (k_rl ad)).toArray, below, meth, c, D, cA, va_A (k_w ad cA h) s.heap.size) ad rfl rfl B.returns
    ⟨B.exec, B.bytes, hml, findClass_of_methodNamed B.named, fun w hw => hts w (List.mem_cons_of_mem _ hw), hK, fun q h => Or.inr h, B.notSynchronized, hSF⟩ s.heap [] _ hwf hP hD.self va_S.rf (k_lh_e0 hl)
section RETS
variable {X : k_X} {cc : ByteArray} {own : String} {nL : Nat} {ad : Nat → Nat} {h : k_H} {pc : Nat} {lv : List (Option Value)}
theorem r_vret (C : k_C X cc own nL ad) (hr : X.meth.sig.returnType = none) (hd : decode cc pc = .ok (.return_, 1)) : k_W X nL 0 0 (k_Q X ad none h) ad h pc lv [] :=
  fun _ _ _ hw hP _ hS _ => W.vret C.1 C.2.1 hr (fun _ ht _ => ⟨rfl, hw, by rw [ht]; exact hP, hS.F ht⟩) hS.2.2 hd C.2.2.2.2.2.2.2.1
theorem r_iret (C : k_C X cc own nL ad) {x : Int32} (hr : X.meth.sig.returnType = some .int) (hd : decode cc pc = .ok (.ireturn, 1)) : k_W X nL 0 0 (k_Q X ad (some (.int x)) h) ad h pc lv [.int x] :=
  fun _ _ _ hw hP _ hS _ => W.iret C.1 C.2.1 hr (fun _ ht _ => ⟨rfl, hw, by rw [ht]; exact hP, hS.F ht⟩) hS.2.2 hd C.2.2.2.2.2.2.2.1
theorem r_zret (C : k_C X cc own nL ad) {x : Int32} (hr : X.meth.sig.returnType = some .boolean) (hx : x = 0 ∨ x = 1) (hd : decode cc pc = .ok (.ireturn, 1)) : k_W X nL 0 0 (k_Q X ad (some (.int x)) h) ad h pc lv [.int x] :=
  fun _ _ _ hw hP _ hS _ => W.zret C.1 C.2.1 hr (by rcases hx with rfl | rfl <;> rfl) (fun _ ht _ => ⟨rfl, hw, by rw [ht]; exact hP, hS.F ht⟩) hS.2.2 hd C.2.2.2.2.2.2.2.1
theorem r_lret (C : k_C X cc own nL ad) {x : Int64} (hr : X.meth.sig.returnType = some .long) (hd : decode cc pc = .ok (.lreturn, 1)) : k_W X nL 0 0 (k_Q X ad (some (.long x)) h) ad h pc lv [.long x] :=
  fun _ _ _ hw hP _ hS _ => W.lret C.1 C.2.1 hr (fun _ ht _ => ⟨rfl, hw, by rw [ht]; exact hP, hS.F ht⟩) hS.2.2 hd C.2.2.2.2.2.2.2.1
end RETS
