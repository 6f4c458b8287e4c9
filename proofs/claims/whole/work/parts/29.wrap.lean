theorem tm1 {w : Cond} (h : w ∈ tables_1_1) : w ∈ lw_tbl := List.mem_append_right _ (List.mem_append_left _ h)
theorem tm2 {w : Cond} (h : w ∈ tables_1_2) : w ∈ lw_tbl := List.mem_append_right _ (List.mem_append_right _ (List.mem_append_left _ h))
theorem tm3 {w : Cond} (h : w ∈ tables_1_3) : w ∈ lw_tbl := List.mem_append_right _ (List.mem_append_right _ (List.mem_append_right _ (List.mem_append_left _ h)))
theorem tm4 {w : Cond} (h : w ∈ tables_1_4) : w ∈ lw_tbl := List.mem_append_right _ (List.mem_append_right _ (List.mem_append_right _ (List.mem_append_right _ (List.mem_append_left _ h))))
theorem tm5 {w : Cond} (h : w ∈ tables_1_5) : w ∈ lw_tbl := List.mem_append_right _ (List.mem_append_right _ (List.mem_append_right _ (List.mem_append_right _ (List.mem_append_right _ (List.mem_append_left _ h)))))
theorem tm6 {w : Cond} (h : w ∈ tables_1_6) : w ∈ lw_tbl := List.mem_append_right _ (List.mem_append_right _ (List.mem_append_right _ (List.mem_append_right _ (List.mem_append_right _ (List.mem_append_right _ (List.mem_append_left _ h))))))
theorem tm7 {w : Cond} (h : w ∈ tables_1_7) : w ∈ lw_tbl := List.mem_append_right _ (List.mem_append_right _ (List.mem_append_right _ (List.mem_append_right _ (List.mem_append_right _ (List.mem_append_right _ (List.mem_append_right _ (List.mem_append_left _ h)))))))
theorem tm8 {w : Cond} (h : w ∈ tables_1_8) : w ∈ lw_tbl := List.mem_append_right _ (List.mem_append_right _ (List.mem_append_right _ (List.mem_append_right _ (List.mem_append_right _ (List.mem_append_right _ (List.mem_append_right _ (List.mem_append_right _ (List.mem_append_left _ h))))))))
theorem tm9 {w : Cond} (h : w ∈ tables_1_9) : w ∈ lw_tbl := List.mem_append_right _ (List.mem_append_right _ (List.mem_append_right _ (List.mem_append_right _ (List.mem_append_right _ (List.mem_append_right _ (List.mem_append_right _ (List.mem_append_right _ (List.mem_append_right _ h))))))))
theorem tmp {y : MethodName} (n : Nat) (h : (y, n) ∈ lw_privs) : Cond.selects y.cls y y ∈ lw_tbl := List.mem_append_left _ (List.mem_map_of_mem (f := fun q : MethodName × Nat => Cond.selects q.1.cls q.1 q.1) h)
section WRAP
variable {X : k_X} {cc : ByteArray} {own : String} {nL cells slots : Nat} {Q : State → Prop} {ad : Nat → Nat} {h h' : k_H} {pc pc' : Nat} {lv : List (Option Value)} {st st' : List Value}
variable {y : MethodName} {c2 : ByteArray} {maxL n ix f nn F NN b ci N bl : Nat} {rt : Option FieldType} {sl : List Nat} {T : u_T} {As Al stk : List Value} {v : Option Value} {us : List k_U} {pi : List Nat} {shl : List k_Sh}
theorem d_V (C : k_C X cc own nL ad) (hR : X.R.frames = F ∧ X.R.locals = NN) (hcs : cells ≤ X.R.cells ∧ slots ≤ X.R.slots) (M : k_MV y c2 maxL rt n) (hl : k_lk own ix y) (hd : decode cc pc = .ok (.invokevirtual ix, 3)) (hn : pc + 3 = pc') (h1 : Nat.ble (f + 1) F = true) (h2 : Nat.ble (8 + (maxL + 11) + nn) NN = true) (hs : h.1[b]? = some (0, ci, sl)) (hc : vwCl[ci]? = some (y.cls, T, N)) (K : k_CT X.l y c2 maxL rt f nn (.ref b :: As) h v us) (hA : As.length = n) (hst : Nat.ble ((st.map fun v => v.category).sum) 8 = true) (hstk : As.reverse ++ .ref b :: st = stk) (eh : k_ap us h = h') (est : v.toList ++ st = st')
    (k : k_W X nL cells slots Q ad h' pc' lv st') : k_W X nL cells slots Q ad h pc lv stk := by
  subst eh; subst est
  exact c_V C hR hcs M hl hd hn h1 h2 hs hc K hA hst hstk k
theorem d_S (C : k_C X cc own nL ad) (hR : X.R.frames = F ∧ X.R.locals = NN) (hcs : cells ≤ X.R.cells ∧ slots ≤ X.R.slots) (M : k_MS y c2 maxL rt n) (hl : k_lk own ix y) (hd : decode cc pc = .ok (.invokestatic ix, 3)) (hn : pc + 3 = pc') (h1 : Nat.ble (f + 1) F = true) (h2 : Nat.ble (8 + (maxL + 11) + nn) NN = true) (K : k_CT X.l y c2 maxL rt f nn As h v us) (hA : As.length = n) (hst : Nat.ble ((st.map fun v => v.category).sum) 8 = true) (hstk : As.reverse ++ st = stk) (eh : k_ap us h = h') (est : v.toList ++ st = st')
    (k : k_W X nL cells slots Q ad h' pc' lv st') : k_W X nL cells slots Q ad h pc lv stk := by
  subst eh; subst est
  exact c_S C hR hcs M hl hd hn h1 h2 K hA hst hstk k
theorem d_Vp (C : k_C X cc own nL ad) (hR : X.R.frames = F ∧ X.R.locals = NN) (hcs : cells ≤ X.R.cells ∧ slots ≤ X.R.slots) (M : k_MV y c2 maxL rt n) (hl : k_lk own ix y) (hd : decode cc pc = .ok (.invokevirtual ix, 3)) (hn : pc + 3 = pc') (h1 : Nat.ble (f + 1) F = true) (h2 : Nat.ble (8 + (maxL + 11) + nn) NN = true) (hck : k_ck pi shl h.1 = true) (hs : shl[bl]? = some (0, ci, sl)) (hc : vwCl[ci]? = some (y.cls, T, N)) (K : k_CT X.l y c2 maxL rt f nn (.ref bl :: Al) (k_pl pi shl h) v us) (hb : pi.getD bl 0 = b) (hAl : ∀ ad : Nat → Nat, Al.map (k_rl (k_al pi ad)) = As.map (k_rl ad)) (hu : us.all (fun u => decide (u.1 < pi.length)) = true) (hv : ∀ ad : Nat → Nat, v.map (k_rl (k_al pi ad)) = v.map (k_rl ad)) (hA : Al.length = n) (hst : Nat.ble ((st.map fun v => v.category).sum) 8 = true) (hstk : As.reverse ++ .ref b :: st = stk) (eh : k_ap (us.map (k_ru pi)) h = h') (est : v.toList ++ st = st')
    (k : k_W X nL cells slots Q ad h' pc' lv st') : k_W X nL cells slots Q ad h pc lv stk := by
  subst eh; subst est
  exact c_Vp C hR hcs M hl hd hn h1 h2 hck hs hc K hb hAl hu hv hA hst hstk k
theorem d_Sp (C : k_C X cc own nL ad) (hR : X.R.frames = F ∧ X.R.locals = NN) (hcs : cells ≤ X.R.cells ∧ slots ≤ X.R.slots) (M : k_MS y c2 maxL rt n) (hl : k_lk own ix y) (hd : decode cc pc = .ok (.invokestatic ix, 3)) (hn : pc + 3 = pc') (h1 : Nat.ble (f + 1) F = true) (h2 : Nat.ble (8 + (maxL + 11) + nn) NN = true) (hck : k_ck pi shl h.1 = true) (K : k_CT X.l y c2 maxL rt f nn Al (k_pl pi shl h) v us) (hAl : ∀ ad : Nat → Nat, Al.map (k_rl (k_al pi ad)) = As.map (k_rl ad)) (hu : us.all (fun u => decide (u.1 < pi.length)) = true) (hv : ∀ ad : Nat → Nat, v.map (k_rl (k_al pi ad)) = v.map (k_rl ad)) (hA : Al.length = n) (hst : Nat.ble ((st.map fun v => v.category).sum) 8 = true) (hstk : As.reverse ++ st = stk) (eh : k_ap (us.map (k_ru pi)) h = h') (est : v.toList ++ st = st')
    (k : k_W X nL cells slots Q ad h' pc' lv st') : k_W X nL cells slots Q ad h pc lv stk := by
  subst eh; subst est
  exact c_Sp C hR hcs M hl hd hn h1 h2 hck K hAl hu hv hA hst hstk k
end WRAP
theorem w_maxS : Cond.static Lib.Math.max.name ∈ k_tb := by decide +kernel
theorem w_minS : Cond.static Lib.Math.min.name ∈ k_tb := by decide +kernel
theorem w_mathI : Cond.initialized "java/lang/Math" ∈ k_tb := by decide +kernel
theorem w_maxC : Cond.code Lib.Math.max.name Lib.Math.max.code 2 (some .int) ∈ k_tb := by decide +kernel
theorem w_minC : Cond.code Lib.Math.min.name Lib.Math.min.code 2 (some .int) ∈ k_tb := by decide +kernel
theorem w_acN : Cond.native arraycopyName ∈ k_tb := by decide +kernel
theorem w_acS : Cond.static arraycopyName ∈ k_tb := by decide +kernel
theorem w_acI : Cond.initialized "java/lang/System" ∈ k_tb := by decide +kernel
section JDKR
variable {X : k_X} {cc : ByteArray} {own : String} {nL : Nat} {Q : State → Prop} {ad : Nat → Nat} {h h0 : k_H} {us us' : List k_U} {ks : List (Nat × Nat × Nat)} {pc pc' : Nat} {lv : List (Option Value)} {st : List Value} {F NN ix : Nat}
theorem r_max (C : k_C X cc own nL ad) (hR : X.R.frames = F ∧ X.R.locals = NN) {x y : Int32} (hd : decode cc pc = .ok (.invokestatic ix, 3)) (hn : pc + 3 = pc') (hl : Cond.methodLink own ix Lib.Math.max.name ∈ k_tb) (h1 : Nat.ble 1 F = true) (h2 : Nat.ble 21 NN = true) (h3 : Nat.ble ((st.map fun v => v.category).sum) 8 = true) (k : k_W X nL 0 0 Q ad h pc' lv (.int (if x < y then y else x) :: st)) : k_W X nL 0 0 Q ad h pc lv (.int y :: .int x :: st) := by
  subst hn
  intro H locs ls hw hP hD hS hll
  have h3' := Nat.le_of_ble_eq_true h3
  have h2' := Nat.le_of_ble_eq_true h2
  refine va_mmax C.1 C.2.1 (by rw [C.2.2.1]; exact hll.1.symm) C.2.2.2.1 (C.2.2.2.2.1 _ hl) (C.2.2.2.2.1 _ w_maxS) (C.2.2.2.2.1 _ w_mathI) (C.2.2.2.2.1 _ w_maxC) (by rw [hR.1]; exact Nat.le_of_ble_eq_true h1) ?_ (Nat.zero_le _) (Nat.zero_le _) hd (k H locs ls hw hP hD hS hll)
  have := k_cats ad st
  show ((st.map (k_rl ad)).map fun v => v.category).sum + 13 ≤ X.R.locals
  rw [this, hR.2]; omega
theorem r_min (C : k_C X cc own nL ad) (hR : X.R.frames = F ∧ X.R.locals = NN) {x y : Int32} (hd : decode cc pc = .ok (.invokestatic ix, 3)) (hn : pc + 3 = pc') (hl : Cond.methodLink own ix Lib.Math.min.name ∈ k_tb) (h1 : Nat.ble 1 F = true) (h2 : Nat.ble 21 NN = true) (h3 : Nat.ble ((st.map fun v => v.category).sum) 8 = true) (k : k_W X nL 0 0 Q ad h pc' lv (.int (if y < x then y else x) :: st)) : k_W X nL 0 0 Q ad h pc lv (.int y :: .int x :: st) := by
  subst hn
  intro H locs ls hw hP hD hS hll
  have h3' := Nat.le_of_ble_eq_true h3
  have h2' := Nat.le_of_ble_eq_true h2
  refine va_mmin C.1 C.2.1 (by rw [C.2.2.1]; exact hll.1.symm) C.2.2.2.1 (C.2.2.2.2.1 _ hl) (C.2.2.2.2.1 _ w_minS) (C.2.2.2.2.1 _ w_mathI) (C.2.2.2.2.1 _ w_minC) (by rw [hR.1]; exact Nat.le_of_ble_eq_true h1) ?_ (Nat.zero_le _) (Nat.zero_le _) hd (k H locs ls hw hP hD hS hll)
  have := k_cats ad st
  show ((st.map (k_rl ad)).map fun v => v.category).sum + 13 ≤ X.R.locals
  rw [this, hR.2]; omega
theorem r_ldcw {cells slots : Nat} (C : k_C X cc own nL ad) {v : Int32} (hd : decode cc pc = .ok (.ldc_w ix, 3)) (hn : pc + 3 = pc') (hm : Cond.constant own ix v ∈ k_tb) (k : k_W X nL cells slots Q ad h pc' lv (.int v :: st)) : k_W X nL cells slots Q ad h pc lv st := by
  subst hn
  exact fun H locs ls hw hP hD hS hl => lv_ldcw C.1 C.2.1 C.2.2.2.1 (C.2.2.2.2.1 _ hm) hd (k H locs ls hw hP hD hS hl)
theorem r_acopy (C : k_C X cc own nL ad) (hR : X.R.frames = F ∧ X.R.locals = NN) {p q n0 n1 a b m : Nat} {sl sl' : List Nat} {sp dp n : Int32} {f g : Nat → Int32} (hd : decode cc pc = .ok (.invokestatic ix, 3)) (hn : pc + 3 = pc') (hl : Cond.methodLink own ix arraycopyName ∈ k_tb) (hs0 : h0.1[p]? = some (1, n0, sl)) (hs1 : h0.1[q]? = some (1, n1, sl')) (hf : (k_ap us h0).2.1 p = f) (hg : (k_ap us h0).2.1 q = g)
    (h1 : ¬ sp < 0 ∧ ¬ dp < 0 ∧ ¬ n < 0) (ha : sp.toNatClampNeg = a) (hb : dp.toNatClampNeg = b) (hm : n.toNatClampNeg = m) (h4 : Nat.ble (a + m) n0 = true ∧ Nat.ble (b + m) n1 = true) (hds : k_ds ks = true) (hk : us.map k_ky = ks) (hi : ks.contains (q, 2, 0) = true) (hmg : k_rp (q, .inr (.inr (.inl (va_cpy f g a b m)))) us = us') (hF : Nat.ble 1 F = true) (hN : Nat.ble ((st.map fun v => v.category).sum + (nativeFrameWords "java/lang/System" "arraycopy" 5 + 11)) NN = true)
    (k : k_W X nL 0 0 Q ad (k_ap us' h0) pc' lv st) : k_W X nL 0 0 Q ad (k_ap us h0) pc lv (.int n :: .int dp :: .ref q :: .int sp :: .ref p :: st) := by
  subst hn; subst hf; subst hg
  intro H locs ls hw hP hD hS hll
  have hs0' : (k_ap us h0).1[p]? = some (1, n0, sl) := by rw [k_ap_sh]; exact hs0
  have hs1' : (k_ap us h0).1[q]? = some (1, n1, sl') := by rw [k_ap_sh]; exact hs1
  have e3 := k_step (h0 := h0) (q, .inr (.inr (.inl (va_cpy ((k_ap us h0).2.1 p) ((k_ap us h0).2.1 q) a b m)))) hk hds hi hmg
  have e2 : (k_w ad X.cA (k_ap us h0)).set q (ad q, .inl (X.cA 0, n1, .inl (va_cpy ((k_ap us h0).2.1 p) ((k_ap us h0).2.1 q) sp.toNatClampNeg dp.toNatClampNeg n.toNatClampNeg))) = k_w ad X.cA (k_ap us' h0) := by
    rw [← e3, ha, hb, hm]
    exact k_set_ar (h := k_ap us h0) (t := 0) hs1' (by
      show (Sum.inl (X.cA 0, n1, Sum.inl (k_ua (k_ap us h0).2.1 q (va_cpy ((k_ap us h0).2.1 p) ((k_ap us h0).2.1 q) a b m) q)) : va_E) = _
      rw [k_ua_self])
  refine va_copyi (n0 := n0) (n1 := n1) (ty := .int) C.1 C.2.1 (by rw [C.2.2.1]; exact hll.1.symm) C.2.2.2.1 (C.2.2.2.2.1 _ hl) (C.2.2.2.2.1 _ w_acN) (C.2.2.2.2.1 _ w_acS) (C.2.2.2.2.1 _ w_acI) C.2.2.2.2.2.1 hP hD hS p q 0 0 (k_w_at ad X.cA _ hs0') (k_w_at ad X.cA _ hs1') rfl rfl rfl h1.1 h1.2.1 h1.2.2 (by rw [ha, hm]; exact Nat.le_of_ble_eq_true h4.1) (by rw [hb, hm]; exact Nat.le_of_ble_eq_true h4.2) (fun _ _ => rfl) (by rw [hR.1]; exact Nat.le_of_ble_eq_true hF) ?_ hd (fun H1 locs1 hP1 hD1 hS1 => k H1 locs1 ls (k_wf_ap (by have := hw; unfold k_wf at this ⊢; rw [k_ap_sh, k_ap_rf] at this; exact this)) (e2 ▸ hP1) (e2 ▸ hD1) hS1 hll)
  have e4 := k_cats ad st
  show ((st.map (k_rl ad)).map fun v => v.category).sum + (nativeFrameWords "java/lang/System" "arraycopy" 5 + 11) ≤ X.R.locals
  rw [e4, hR.2]
  exact Nat.le_of_ble_eq_true hN
end JDKR
theorem k_ck_app {pi : List Nat} {shl sh rest : List k_Sh} (h : k_ck pi shl sh = true) : k_ck pi shl (sh ++ rest) = true := by
  unfold k_ck at h ⊢
  simp only [Bool.and_eq_true] at h ⊢
  refine ⟨h.1, List.all_eq_true.mpr (fun q hq => ?_)⟩
  have h2 := List.all_eq_true.mp h.2 q hq
  simp only [Bool.and_eq_true, decide_eq_true_eq] at h2 ⊢
  refine ⟨?_, h2.2⟩
  rw [List.getElem?_append_left (List.getElem?_eq_some_iff.mp h2.1).1]
  exact h2.1
theorem k_ao_I {h : k_H} {us : List k_U} {p k : Nat} {c : Int32} (e1 : h.2.1 p k = c) (e : k_ap us h = h) : k_ap ((p, .inl (k, c)) :: us) h = h := by subst e1; exact k_ap_I e
theorem k_ao_L {h : k_H} {us : List k_U} {p k : Nat} {c : Int64} (e1 : h.2.2.1 p k = c) (e : k_ap us h = h) : k_ap ((p, .inr (.inl (k, c))) :: us) h = h := by subst e1; exact k_ap_L e
theorem k_ao_A {h : k_H} {us : List k_U} {p : Nat} {c : Nat → Int32} (e1 : h.2.1 p = c) (e : k_ap us h = h) : k_ap ((p, .inr (.inr (.inl c))) :: us) h = h := by subst e1; exact k_ap_A e
theorem k_ao_B {h : k_H} {us : List k_U} {p : Nat} {c : Nat → Int64} (e1 : h.2.2.1 p = c) (e : k_ap us h = h) : k_ap ((p, .inr (.inr (.inr c))) :: us) h = h := by subst e1; exact k_ap_B e
