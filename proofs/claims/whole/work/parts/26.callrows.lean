theorem k_frameB {av : List Value} {D : va_G} {cA ad : Nat → Nat} {sz : Nat} {h : k_H} : FrameBlind (va_Pc av (k_Pre D cA ad sz h)) := by
  intro a U g mk q
  obtain ⟨q0, q1, q2, q3, q4, q5, q6⟩ := q
  exact ⟨q0, q1, q2, q3, va_K.moved (u := U) (U := U.calling g mk a) (Vm.Alike.refl U.vm) q4, q5, k_SF.moved (u := U) (U := U.calling g mk a) (State.WarmedH.refl U) q6⟩
section CALLS
variable {X : k_X} {cc : ByteArray} {own : String} {nL cells slots : Nat} {Q : State → Prop} {ad : Nat → Nat} {h : k_H} {pc pc' : Nat} {lv : List (Option Value)} {st : List Value}
theorem k_free {H : Heap} {locs : List Loc} (hA : ∀ q : Nat, X.s.heap.size ≤ q → X.A q) {w : va_W} (hD : va_D X.A w) (hS : va_S X.A X.s.heap H locs) : ∀ q, va_A w H.size q → X.A q := by
  rintro q (⟨i, e, hi⟩ | hge)
  · exact hD.2 i _ hi
  · exact hA q (Nat.le_trans hS.1 hge)
/-- a contract's start, in a caller's heap -/
theorem k_pre (C : k_C X cc own nL ad) {H : Heap} {locs : List Loc} {pi : List Nat} {shl : List k_Sh} {av : List Value} (hw : k_wf (k_pl pi shl h)) (hP : va_P X.D vwCl (k_w ad X.cA h) H) (hD : va_D X.A (k_w ad X.cA h)) (hS : va_S X.A X.s.heap H locs) (hck : k_ck pi shl h.1 = true) (U : State) (hU : U.heap = H) (hW : X.s.WarmedH U.vm) :
    va_Pc (av.map (k_rl (k_al pi ad))) (k_Pre X.D X.cA (k_al pi ad) H.size (k_pl pi shl h)) (av.map (k_rl (k_al pi ad))).toArray U := by
  obtain ⟨hP1, hD1⟩ := k_part hP hD hck
  refine ⟨rfl, by rw [hU], hw, by rw [hU]; exact hP1, va_K.moved hW.alike C.2.2.2.2.2.1, ⟨hD1.1, fun _ _ _ => trivial⟩, ?_⟩
  rw [hU]
  have h1 : k_SF ad X.A X.s H := k_SF.kept C.2.2.2.2.2.2.2.2 hS.2.1
  have h2 : k_SF (k_al pi ad) X.A X.s H := h1.ad (fun p hp => by
    unfold k_al
    rw [if_neg (by have := (k_ck_len hck).2.1; omega)])
  exact k_SF.moved hW (h2.narrow (k_free C.2.2.2.2.2.2.1 hD1 hS))
theorem k_preI (C : k_C X cc own nL ad) {H : Heap} {locs : List Loc} {av : List Value} (hw : k_wf h) (hP : va_P X.D vwCl (k_w ad X.cA h) H) (hD : va_D X.A (k_w ad X.cA h)) (hS : va_S X.A X.s.heap H locs) (U : State) (hU : U.heap = H) (hW : X.s.WarmedH U.vm) :
    va_Pc (av.map (k_rl ad)) (k_Pre X.D X.cA ad H.size h) (av.map (k_rl ad)).toArray U := by
  refine ⟨rfl, by rw [hU], hw, by rw [hU]; exact hP, va_K.moved hW.alike C.2.2.2.2.2.1, ⟨hD.1, fun _ _ _ => trivial⟩, ?_⟩
  rw [hU]
  exact k_SF.moved hW ((k_SF.kept C.2.2.2.2.2.2.2.2 hS.2.1).narrow (k_free C.2.2.2.2.2.2.1 hD hS))
/-- what a call leaves: the caller's heap -/
theorem k_S1 {H H1 : Heap} {locs L : List Loc} {A1 : Nat → Prop} {st₀ t : State} (hS : va_S X.A X.s.heap H locs) (hF : ∀ q, A1 q → X.A q) (hL : ∀ q ∈ L, A1 q.base) (h0 : st₀.heap = H) (h1 : t.heap = H1) (hf : va_F A1 st₀ t) : va_S X.A X.s.heap H1 (locs ++ L) := by
  refine ⟨?_, fun q h2 h3 => ?_, fun q hq => ?_⟩
  · have := hf.1; rw [h0, h1] at this; exact Nat.le_trans hS.1 this
  · have := hf.2 q (by rw [h0]; exact Nat.lt_of_lt_of_le h2 hS.1) (fun z => h3 (hF q z))
    rw [h1, h0] at this
    rw [this]; exact hS.2.1 q h2 h3
  · rcases List.mem_append.mp hq with z | z
    · exact hS.2.2 q z
    · exact hF _ (hL q z)
theorem k_back {H : Heap} {locs : List Loc} {ls : Array Slot} {pi : List Nat} {shl : List k_Sh} {v : Option Value} {us : List k_U} {a : Array Value} {st0 : List Value} (hw : k_wf h) (hA : ∀ q : Nat, X.s.heap.size ≤ q → X.A q) (hP : va_P X.D vwCl (k_w ad X.cA h) H) (hD : va_D X.A (k_w ad X.cA h)) (hS : va_S X.A X.s.heap H locs) (hl : k_lh ad ls nL lv) (hck : k_ck pi shl h.1 = true) (hu : us.all (fun u => decide (u.1 < pi.length)) = true) (hv : v.map (k_rl (k_al pi ad)) = v.map (k_rl ad))
    (hr : va_Run X.p X.l X.e X.R X.s X.m X.a X.b X.meth X.c H locs cells slots 0 0 (F0 X.m pc ls st0) (st.map (k_rl ad)) (k_Po X.D X.cA (k_al pi ad) (va_A (k_w (k_al pi ad) X.cA (k_pl pi shl h)) H.size) v (k_ap us (k_pl pi shl h)) a) (va_A (k_w (k_al pi ad) X.cA (k_pl pi shl h)) H.size))
    (k : k_W X nL cells slots Q ad (k_ap (us.map (k_ru pi)) h) (pc + 3) lv (v.toList ++ st)) : k_Wx X H locs cells slots Q (F0 X.m pc ls st0) := by
  obtain ⟨hP1, hD1⟩ := k_part hP hD hck
  have hF := k_free hA hD1 hS
  intro T hT Z
  obtain ⟨w, st₀, t, T', L, h0, X', hL, e1, e2, ⟨q1, q2, q3, q4⟩, gs⟩ := hr T hT Z
  cases q1
  have hk : ∀ q : Nat, q < H.size → ¬ va_A (k_w (k_al pi ad) X.cA (k_pl pi shl h)) H.size q → T'.heap[q]? = H[q]? := by
    intro q z1 z2
    have := q4.2 q (by rw [h0]; exact z1) z2
    rw [h0, ← e1] at this
    exact this
  have hP2 := k_join hP hD hck (fun u hu2 => of_decide_eq_true (List.all_eq_true.mp hu u hu2)) hk (by rw [e1]; exact q3)
  have hD2 : va_D X.A (k_w ad X.cA (k_ap (us.map (k_ru pi)) h)) := by
    have key : ∀ (i : Nat) (q : Nat × va_E), (k_w ad X.cA (k_ap (us.map (k_ru pi)) h))[i]? = some q → ∃ q2, (k_w ad X.cA h)[i]? = some q2 ∧ q2.1 = q.1 := by
      intro i q hq
      obtain ⟨s, hs, rfl⟩ := k_w_of hq
      rw [k_ap_sh] at hs
      exact ⟨_, k_w_at ad X.cA h hs, rfl⟩
    refine ⟨fun i j x y hx hy e => ?_, fun i q hq => ?_⟩
    · obtain ⟨x2, a1, b1⟩ := key i x hx
      obtain ⟨y2, a2, b2⟩ := key j y hy
      exact hD.1 i j x2 y2 a1 a2 (by rw [b1, b2, e])
    · obtain ⟨q2, a1, b1⟩ := key i q hq
      rw [← b1]; exact hD.2 i q2 a1
  have hS2 : va_S X.A X.s.heap T'.heap (locs ++ L) := k_S1 hS hF hL h0 e1.symm q4
  obtain ⟨t2, a1, b1⟩ := k T'.heap (locs ++ L) ls (k_wf_ap hw) hP2 hD2 hS2 hl T' rfl X'
  refine ⟨t2, gs t2 ?_, b1⟩
  have e3 : (v.toList ++ st).map (k_rl ad) = (v.map (k_rl (k_al pi ad))).toList ++ st.map (k_rl ad) := by
    rw [hv, List.map_append]
    cases v <;> rfl
  rw [e3] at a1
  exact a1
theorem k_backI {H : Heap} {locs : List Loc} {ls : Array Slot} {v : Option Value} {us : List k_U} {a : Array Value} {st0 : List Value} (hw : k_wf h) (hA : ∀ q : Nat, X.s.heap.size ≤ q → X.A q) (hD : va_D X.A (k_w ad X.cA h)) (hS : va_S X.A X.s.heap H locs) (hl : k_lh ad ls nL lv)
    (hr : va_Run X.p X.l X.e X.R X.s X.m X.a X.b X.meth X.c H locs cells slots 0 0 (F0 X.m pc ls st0) (st.map (k_rl ad)) (k_Po X.D X.cA ad (va_A (k_w ad X.cA h) H.size) v (k_ap us h) a) (va_A (k_w ad X.cA h) H.size))
    (k : k_W X nL cells slots Q ad (k_ap us h) (pc + 3) lv (v.toList ++ st)) : k_Wx X H locs cells slots Q (F0 X.m pc ls st0) := by
  have hF := k_free hA hD hS
  intro T hT Z
  obtain ⟨w, st₀, t, T', L, h0, X', hL, e1, e2, ⟨q1, q2, q3, q4⟩, gs⟩ := hr T hT Z
  cases q1
  have hD2 : va_D X.A (k_w ad X.cA (k_ap us h)) := by
    have key : ∀ (i : Nat) (q : Nat × va_E), (k_w ad X.cA (k_ap us h))[i]? = some q → ∃ q2, (k_w ad X.cA h)[i]? = some q2 ∧ q2.1 = q.1 := by
      intro i q hq
      obtain ⟨s, hs, rfl⟩ := k_w_of hq
      rw [k_ap_sh] at hs
      exact ⟨_, k_w_at ad X.cA h hs, rfl⟩
    refine ⟨fun i j x y hx hy e => ?_, fun i q hq => ?_⟩
    · obtain ⟨x2, a1, b1⟩ := key i x hx
      obtain ⟨y2, a2, b2⟩ := key j y hy
      exact hD.1 i j x2 y2 a1 a2 (by rw [b1, b2, e])
    · obtain ⟨q2, a1, b1⟩ := key i q hq
      rw [← b1]; exact hD.2 i q2 a1
  have hS2 : va_S X.A X.s.heap T'.heap (locs ++ L) := k_S1 hS hF hL h0 e1.symm q4
  obtain ⟨t2, a1, b1⟩ := k T'.heap (locs ++ L) ls q2 (by rw [e1]; exact q3) hD2 hS2 hl T' rfl X'
  refine ⟨t2, gs t2 ?_, b1⟩
  have e3 : (v.toList ++ st).map (k_rl ad) = (v.map (k_rl ad)).toList ++ st.map (k_rl ad) := by
    rw [List.map_append]
    cases v <;> rfl
  rw [e3] at a1
  exact a1
theorem k_words {y : MethodName} {c2 : ByteArray} {maxL ix n f nn F NN : Nat} {rt : Option FieldType} (C : k_C X cc own nL ad) (hcd : Cond.code y c2 maxL rt ∈ k_tb) (hini : Cond.initialized y.cls ∈ k_tb) (hnd : k_nd y n) (hR : X.R.frames = F ∧ X.R.locals = NN) (h1 : Nat.ble (f + 1) F = true) (h2 : Nat.ble (8 + (maxL + 11) + nn) NN = true) (hl : Cond.methodLink own ix y ∈ k_tb) :
    CallB X.R X.s X.a own ix y c2 maxL rt (k_ws y c2 maxL rt) ({ frames := f, cells := 0, slots := 0, locals := nn }) 0 0 n :=
  callB_of n C.2.2.2.2.1 (k_goodIn hcd) rfl rfl rfl (C.2.2.2.2.1 _ hini) (C.2.2.2.2.1 _ hl) hnd ⟨by rw [hR.1]; exact Nat.le_of_ble_eq_true h1, by rw [hR.2]; exact Nat.le_of_ble_eq_true h2⟩
theorem k_wordsN {y : MethodName} {c2 : ByteArray} {maxL ix n f nn F NN : Nat} {rt : Option FieldType} {host : String} (C : k_C X cc own nL ad) (hcd : Cond.code y c2 maxL rt ∈ k_tb) (hini : Cond.initialized y.cls ∈ k_tb) (hnd : k_nd y n) (hR : X.R.frames = F ∧ X.R.locals = NN) (h1 : Nat.ble (f + 1) F = true) (h2 : Nat.ble (8 + (maxL + 11) + nn) NN = true) (hl : (own, ix, y, host) ∈ k_nl) :
    va_CN X.R X.s X.a own ix y host c2 maxL rt (k_ws y c2 maxL rt) ({ frames := f, cells := 0, slots := 0, locals := nn }) 0 0 n :=
  va_cnB n C.2.2.2.2.1 (k_goodIn hcd) rfl rfl rfl (C.2.2.2.2.2.2.2.2.2.2.1 _ hl) (C.2.2.2.2.1 _ hini) hnd ⟨by rw [hR.1]; exact Nat.le_of_ble_eq_true h1, by rw [hR.2]; exact Nat.le_of_ble_eq_true h2⟩
theorem k_cat8 (hst : Nat.ble ((st.map fun v => v.category).sum) 8 = true) {ls : Array Slot} {s0 : List Value} : 2 * (F0 X.m pc ls s0).monitorRoom + ((st.map (k_rl ad)).map fun v => v.category).sum ≤ 8 := by
  rw [k_cats]
  exact lv_room (Nat.le_of_ble_eq_true hst)
theorem k_al_rev {As : List Value} {b : Nat} {stk : List Value} {pi : List Nat} {Al : List Value} {bl : Nat} (hstk : As.reverse ++ .ref b :: st = stk) (hAl : Al.map (k_rl (k_al pi ad)) = As.map (k_rl ad)) (hb : k_al pi ad bl = ad b) : stk.map (k_rl ad) = (Al.map (k_rl (k_al pi ad))).reverse ++ .ref (k_al pi ad bl) :: st.map (k_rl ad) := by
  rw [← hstk, List.map_append, List.map_cons, List.map_reverse, hAl, hb]
  rfl
end CALLS
