theorem mv_X10_pit : k_MV yX10_pit cX10_pit 2 (some .int) 1 := ⟨(k_me (tm3 (List.mem_of_getElem? (i := 134) rfl)) rfl), (k_me (tm3 (List.mem_of_getElem? (i := 135) rfl)) rfl), (k_me (tm1 (List.mem_of_getElem? (i := 1) rfl)) rfl), (k_me (tm3 (List.mem_of_getElem? (i := 136) rfl)) rfl), by decide, by decide, by decide +kernel⟩
theorem mv_X10_law : k_MV yX10_law cX10_law 3 (some .int) 2 := ⟨(k_me (tm4 (List.mem_of_getElem? (i := 125) rfl)) rfl), (k_me (tm4 (List.mem_of_getElem? (i := 126) rfl)) rfl), (k_me (tm1 (List.mem_of_getElem? (i := 1) rfl)) rfl), (k_me (tm4 (List.mem_of_getElem? (i := 127) rfl)) rfl), by decide, by decide, by decide +kernel⟩
theorem mv_X10_work : k_MV yX10_work cX10_work 2 (some .int) 1 := ⟨(k_me (tm4 (List.mem_of_getElem? (i := 180) rfl)) rfl), (k_me (tm4 (List.mem_of_getElem? (i := 181) rfl)) rfl), (k_me (tm1 (List.mem_of_getElem? (i := 1) rfl)) rfl), (k_me (tm4 (List.mem_of_getElem? (i := 182) rfl)) rfl), by decide, by decide, by decide +kernel⟩
theorem mv_X10_book : k_MV yX10_book cX10_book 2 (some .int) 1 := ⟨(k_me (tm5 (List.mem_of_getElem? (i := 68) rfl)) rfl), (k_me (tm5 (List.mem_of_getElem? (i := 69) rfl)) rfl), (k_me (tm1 (List.mem_of_getElem? (i := 1) rfl)) rfl), (k_me (tm5 (List.mem_of_getElem? (i := 70) rfl)) rfl), by decide, by decide, by decide +kernel⟩
theorem mv_X10_told : k_MV yX10_told cX10_told 2 (some .int) 1 := ⟨(k_me (tm5 (List.mem_of_getElem? (i := 85) rfl)) rfl), (k_me (tm5 (List.mem_of_getElem? (i := 86) rfl)) rfl), (k_me (tm1 (List.mem_of_getElem? (i := 1) rfl)) rfl), (k_me (tm5 (List.mem_of_getElem? (i := 87) rfl)) rfl), by decide, by decide, by decide +kernel⟩
theorem mv_X10_cell : k_MV yX10_cell cX10_cell 5 (some .int) 3 := ⟨(k_me (tm5 (List.mem_of_getElem? (i := 93) rfl)) rfl), (k_me (tm5 (List.mem_of_getElem? (i := 94) rfl)) rfl), (k_me (tm1 (List.mem_of_getElem? (i := 1) rfl)) rfl), (k_me (tm5 (List.mem_of_getElem? (i := 95) rfl)) rfl), by decide, by decide, by decide +kernel⟩
theorem mv_X10_kind : k_MV yX10_kind cX10_kind 3 (some .int) 2 := ⟨(k_me (tm5 (List.mem_of_getElem? (i := 125) rfl)) rfl), (k_me (tm5 (List.mem_of_getElem? (i := 126) rfl)) rfl), (k_me (tm1 (List.mem_of_getElem? (i := 1) rfl)) rfl), (k_me (tm5 (List.mem_of_getElem? (i := 127) rfl)) rfl), by decide, by decide, by decide +kernel⟩
theorem mv_X10_order : k_MV yX10_order cX10_order 3 (some .int) 2 := ⟨(k_me (tm5 (List.mem_of_getElem? (i := 138) rfl)) rfl), (k_me (tm5 (List.mem_of_getElem? (i := 139) rfl)) rfl), (k_me (tm1 (List.mem_of_getElem? (i := 1) rfl)) rfl), (k_me (tm5 (List.mem_of_getElem? (i := 140) rfl)) rfl), by decide, by decide, by decide +kernel⟩
theorem mv_X10_note : k_MV yX10_note cX10_note 3 (some .int) 2 := ⟨(k_me (tm5 (List.mem_of_getElem? (i := 170) rfl)) rfl), (k_me (tm5 (List.mem_of_getElem? (i := 171) rfl)) rfl), (k_me (tm1 (List.mem_of_getElem? (i := 1) rfl)) rfl), (k_me (tm5 (List.mem_of_getElem? (i := 172) rfl)) rfl), by decide, by decide, by decide +kernel⟩
theorem mv_X10_lacks : k_MV yX10_lacks cX10_lacks 2 (some .int) 1 := ⟨(k_me (tm5 (List.mem_of_getElem? (i := 177) rfl)) rfl), (k_me (tm5 (List.mem_of_getElem? (i := 178) rfl)) rfl), (k_me (tm1 (List.mem_of_getElem? (i := 1) rfl)) rfl), (k_me (tm5 (List.mem_of_getElem? (i := 179) rfl)) rfl), by decide, by decide, by decide +kernel⟩
theorem mv_X10_can : k_MV yX10_can cX10_can 3 (some .int) 2 := ⟨(k_me (tm5 (List.mem_of_getElem? (i := 185) rfl)) rfl), (k_me (tm5 (List.mem_of_getElem? (i := 186) rfl)) rfl), (k_me (tm1 (List.mem_of_getElem? (i := 1) rfl)) rfl), (k_me (tm5 (List.mem_of_getElem? (i := 187) rfl)) rfl), by decide, by decide, by decide +kernel⟩
theorem mv_X10_falls : k_MV yX10_falls cX10_falls 3 (some .boolean) 2 := ⟨(k_me (tm5 (List.mem_of_getElem? (i := 193) rfl)) rfl), (k_me (tm5 (List.mem_of_getElem? (i := 194) rfl)) rfl), (k_me (tm1 (List.mem_of_getElem? (i := 1) rfl)) rfl), (k_me (tm5 (List.mem_of_getElem? (i := 195) rfl)) rfl), by decide, by decide, by decide +kernel⟩
theorem mv_X10_risks : k_MV yX10_risks cX10_risks 5 (some .int) 2 := ⟨(k_me (tm5 (List.mem_of_getElem? (i := 204) rfl)) rfl), (k_me (tm5 (List.mem_of_getElem? (i := 205) rfl)) rfl), (k_me (tm1 (List.mem_of_getElem? (i := 1) rfl)) rfl), (k_me (tm5 (List.mem_of_getElem? (i := 206) rfl)) rfl), by decide, by decide, by decide +kernel⟩
theorem mv_X10_harm : k_MV yX10_harm cX10_harm 3 (some .int) 2 := ⟨(k_me (tm5 (List.mem_of_getElem? (i := 218) rfl)) rfl), (k_me (tm5 (List.mem_of_getElem? (i := 219) rfl)) rfl), (k_me (tm1 (List.mem_of_getElem? (i := 1) rfl)) rfl), (k_me (tm5 (List.mem_of_getElem? (i := 220) rfl)) rfl), by decide, by decide, by decide +kernel⟩
theorem mv_X10_best : k_MV yX10_best cX10_best 3 (some .long) 2 := ⟨(k_me (tm5 (List.mem_of_getElem? (i := 226) rfl)) rfl), (k_me (tm5 (List.mem_of_getElem? (i := 227) rfl)) rfl), (k_me (tm1 (List.mem_of_getElem? (i := 1) rfl)) rfl), (k_me (tm5 (List.mem_of_getElem? (i := 228) rfl)) rfl), by decide, by decide, by decide +kernel⟩
theorem mv_X10_way : k_MV yX10_way cX10_way 5 (some .int) 3 := ⟨(k_me (tm6 (List.mem_of_getElem? (i := 14) rfl)) rfl), (k_me (tm6 (List.mem_of_getElem? (i := 15) rfl)) rfl), (k_me (tm1 (List.mem_of_getElem? (i := 1) rfl)) rfl), (k_me (tm6 (List.mem_of_getElem? (i := 16) rfl)) rfl), by decide, by decide, by decide +kernel⟩
theorem mv_X10_hold : k_MV yX10_hold cX10_hold 2 (some .long) 1 := ⟨(k_me (tm6 (List.mem_of_getElem? (i := 41) rfl)) rfl), (k_me (tm6 (List.mem_of_getElem? (i := 42) rfl)) rfl), (k_me (tm1 (List.mem_of_getElem? (i := 1) rfl)) rfl), (k_me (tm6 (List.mem_of_getElem? (i := 43) rfl)) rfl), by decide, by decide, by decide +kernel⟩
theorem mv_X10_fill : k_MV yX10_fill cX10_fill 2 (some .int) 1 := ⟨(k_me (tm6 (List.mem_of_getElem? (i := 71) rfl)) rfl), (k_me (tm6 (List.mem_of_getElem? (i := 72) rfl)) rfl), (k_me (tm1 (List.mem_of_getElem? (i := 1) rfl)) rfl), (k_me (tm6 (List.mem_of_getElem? (i := 73) rfl)) rfl), by decide, by decide, by decide +kernel⟩
theorem mv_X10_tap : k_MV yX10_tap cX10_tap 2 (some .int) 1 := ⟨(k_me (tm6 (List.mem_of_getElem? (i := 88) rfl)) rfl), (k_me (tm6 (List.mem_of_getElem? (i := 89) rfl)) rfl), (k_me (tm1 (List.mem_of_getElem? (i := 1) rfl)) rfl), (k_me (tm6 (List.mem_of_getElem? (i := 90) rfl)) rfl), by decide, by decide, by decide +kernel⟩
theorem mv_X10_moved : k_MV yX10_moved cX10_moved 3 (some .int) 2 := ⟨(k_me (tm6 (List.mem_of_getElem? (i := 100) rfl)) rfl), (k_me (tm6 (List.mem_of_getElem? (i := 101) rfl)) rfl), (k_me (tm1 (List.mem_of_getElem? (i := 1) rfl)) rfl), (k_me (tm6 (List.mem_of_getElem? (i := 102) rfl)) rfl), by decide, by decide, by decide +kernel⟩
theorem mv_X10_next : k_MV yX10_next cX10_next 2 (some .int) 1 := ⟨(k_me (tm6 (List.mem_of_getElem? (i := 107) rfl)) rfl), (k_me (tm6 (List.mem_of_getElem? (i := 108) rfl)) rfl), (k_me (tm1 (List.mem_of_getElem? (i := 1) rfl)) rfl), (k_me (tm6 (List.mem_of_getElem? (i := 109) rfl)) rfl), by decide, by decide, by decide +kernel⟩
theorem mv_X10_canon : k_MV yX10_canon cX10_canon 4 (some .int) 3 := ⟨(k_me (tm6 (List.mem_of_getElem? (i := 124) rfl)) rfl), (k_me (tm6 (List.mem_of_getElem? (i := 125) rfl)) rfl), (k_me (tm1 (List.mem_of_getElem? (i := 1) rfl)) rfl), (k_me (tm6 (List.mem_of_getElem? (i := 126) rfl)) rfl), by decide, by decide, by decide +kernel⟩
theorem mv_X10_owners : k_MV yX10_owners cX10_owners 4 (some .int) 3 := ⟨(k_me (tm6 (List.mem_of_getElem? (i := 135) rfl)) rfl), (k_me (tm6 (List.mem_of_getElem? (i := 136) rfl)) rfl), (k_me (tm1 (List.mem_of_getElem? (i := 1) rfl)) rfl), (k_me (tm6 (List.mem_of_getElem? (i := 137) rfl)) rfl), by decide, by decide, by decide +kernel⟩
theorem mv_X10_face : k_MV yX10_face cX10_face 3 (some .int) 2 := ⟨(k_me (tm6 (List.mem_of_getElem? (i := 155) rfl)) rfl), (k_me (tm6 (List.mem_of_getElem? (i := 156) rfl)) rfl), (k_me (tm1 (List.mem_of_getElem? (i := 1) rfl)) rfl), (k_me (tm6 (List.mem_of_getElem? (i := 157) rfl)) rfl), by decide, by decide, by decide +kernel⟩
theorem mv_X10_decade : k_MV yX10_decade cX10_decade 5 (some .int) 4 := ⟨(k_me (tm6 (List.mem_of_getElem? (i := 166) rfl)) rfl), (k_me (tm6 (List.mem_of_getElem? (i := 167) rfl)) rfl), (k_me (tm1 (List.mem_of_getElem? (i := 1) rfl)) rfl), (k_me (tm6 (List.mem_of_getElem? (i := 168) rfl)) rfl), by decide, by decide, by decide +kernel⟩
theorem mv_X10_span : k_MV yX10_span cX10_span 10 (some .int) 5 := ⟨(k_me (tm6 (List.mem_of_getElem? (i := 189) rfl)) rfl), (k_me (tm6 (List.mem_of_getElem? (i := 190) rfl)) rfl), (k_me (tm1 (List.mem_of_getElem? (i := 1) rfl)) rfl), (k_me (tm6 (List.mem_of_getElem? (i := 191) rfl)) rfl), by decide, by decide, by decide +kernel⟩
theorem mv_X10_sums : k_MV yX10_sums cX10_sums 2 (some .int) 1 := ⟨(k_me (tm6 (List.mem_of_getElem? (i := 198) rfl)) rfl), (k_me (tm6 (List.mem_of_getElem? (i := 199) rfl)) rfl), (k_me (tm1 (List.mem_of_getElem? (i := 1) rfl)) rfl), (k_me (tm6 (List.mem_of_getElem? (i := 200) rfl)) rfl), by decide, by decide, by decide +kernel⟩
theorem mv_X10_open : k_MV yX10_open cX10_open 2 (some .int) 1 := ⟨(k_me (tm6 (List.mem_of_getElem? (i := 209) rfl)) rfl), (k_me (tm6 (List.mem_of_getElem? (i := 210) rfl)) rfl), (k_me (tm1 (List.mem_of_getElem? (i := 1) rfl)) rfl), (k_me (tm6 (List.mem_of_getElem? (i := 211) rfl)) rfl), by decide, by decide, by decide +kernel⟩
/-! THE LAW'S HELPERS: a call of the class, what it throws caught -/
def k_wsH (y : MethodName) (cc : ByteArray) (maxL : Nat) (rt : Option FieldType) (hh : List (Nat × Nat × Nat × Nat)) : List Cond := .codeWith y cc maxL rt hh :: k_tb
def k_CH (l : Launch) (y : MethodName) (cc : ByteArray) (maxL : Nat) (rt : Option FieldType) (hh : List (Nat × Nat × Nat × Nat)) (f n mc ms : Nat) (av : List Value) (h : k_H) (Rr : Option Value → k_H → Prop) : Prop :=
  ∀ (D : va_G) (cA ad : Nat → Nat) (sz : Nat), vx_Met l y (k_wsH y cc maxL rt hh) (k_rm f n mc ms) (va_Pc (av.map (k_rl ad)) (k_Pre D cA ad sz h)) (k_PoX D cA ad h.1.length (va_A (k_w ad cA h) sz) Rr) (k_XC D cA ad h.1.length (va_A (k_w ad cA h) sz) (fun _ _ => False)) mc ms (va_A (k_w ad cA h) sz)
theorem k_ofWH {l : Launch} {y : MethodName} {cc : ByteArray} {maxL : Nat} {rt : Option FieldType} {hh : List (Nat × Nat × Nat × Nat)} {f n mc ms : Nat} {av : List Value} {h : k_H} {Rr : Option Value → k_H → Prop} (hy : plainName y.cls = true) (hm : (k_en av).length ≤ maxL)
    (body : ∀ (X : k_X) (ad : Nat → Nat), X.l = l → X.R = k_rm f n mc ms → X.meth.sig.returnType = rt → k_C X cc y.cls maxL ad → X.c.exceptionTable.toList = tableOf hh → k_W X maxL 0 0 (k_QX X ad h.1.length Rr (fun _ _ => False) mc ms) ad h 0 (k_e0 av maxL) []) : k_CH l y cc maxL rt hh f n mc ms av h Rr := by
  intro D cA ad sz
  refine vx_ofWH (cc := cc) (maxL := maxL) (ret := rt) (hh := hh) hy rfl ?_
  intro p e s m args below meth c s₁ B hml hv
  obtain ⟨rfl, hsz, hwf, hP, hK, hD, hSF⟩ := hv
  subst hsz
  have hts := atoms_spec (ws := k_wsH y cc maxL rt hh) B.pre
  have hl := lv_entry (av.map (k_rl ad)) (n := maxL) (by rw [k_enlen]; exact hm)
  rw [lg_entry_eq]
  exact body (p, l, e, k_rm f n mc ms, s, m, (av.map (k_rl ad)).toArray, below, meth, c, D, cA, va_A (k_w ad cA h) s.heap.size) ad rfl rfl B.returns
    ⟨B.exec, B.bytes, hml, findClass_of_methodNamed B.named, fun w hw => hts w (List.mem_cons_of_mem _ hw), hK, fun q h => Or.inr h, B.notSynchronized, hSF⟩ (vx_table (x := y) B (hts _ List.mem_cons_self)) s.heap [] _ hwf hP hD.self va_S.rf (k_lh_e0 hl)
section HAND
variable {X : k_X} {cc : ByteArray} {own : String} {nL cells slots : Nat} {Q : State → Prop} {ad : Nat → Nat} {h : k_H} {pc pc' : Nat} {lv : List (Option Value)}
def k_no3 : List (Option Value) → Bool
  | [] => true
  | some (.ref p) :: l => p != 3000000 && k_no3 l
  | _ :: l => k_no3 l
theorem k_no3_at : ∀ {lv : List (Option Value)} {i p : Nat}, k_no3 lv = true → lv[i]? = some (some (.ref p)) → p ≠ 3000000
  | [], i, p, _, h => by simp at h
  | some (.ref r) :: l, 0, p, hn, h => by
    have e : r = p := by simpa using h
    subst e
    have h2 : (r != 3000000 && k_no3 l) = true := hn
    rw [Bool.and_eq_true] at h2
    exact bne_iff_ne.mp h2.1
  | some (.ref r) :: l, i + 1, p, hn, h => by
    have h2 : (r != 3000000 && k_no3 l) = true := hn
    rw [Bool.and_eq_true] at h2
    exact k_no3_at (lv := l) (i := i) h2.2 h
  | none :: l, 0, p, hn, h => by simp at h
  | none :: l, i + 1, p, hn, h => k_no3_at (lv := l) (i := i) hn h
  | some (.int r) :: l, 0, p, hn, h => by simp at h
  | some (.int r) :: l, i + 1, p, hn, h => k_no3_at (lv := l) (i := i) hn h
  | some (.long r) :: l, 0, p, hn, h => by simp at h
  | some (.long r) :: l, i + 1, p, hn, h => k_no3_at (lv := l) (i := i) hn h
  | some (.float r) :: l, 0, p, hn, h => by simp at h
  | some (.float r) :: l, i + 1, p, hn, h => k_no3_at (lv := l) (i := i) hn h
  | some (.double r) :: l, 0, p, hn, h => by simp at h
  | some (.double r) :: l, i + 1, p, hn, h => k_no3_at (lv := l) (i := i) hn h
  | some (.retAddr r) :: l, 0, p, hn, h => by simp at h
  | some (.retAddr r) :: l, i + 1, p, hn, h => k_no3_at (lv := l) (i := i) hn h
  | some .null :: l, 0, p, hn, h => by simp at h
  | some .null :: l, i + 1, p, hn, h => k_no3_at (lv := l) (i := i) hn h
theorem k_no3_rl {lv : List (Option Value)} {q i : Nat} {v : Value} (hn : k_no3 lv = true) (h : lv[i]? = some (some v)) : k_rl (k_na ad 3000000 q) v = k_rl ad v := by
  cases v with
  | ref p =>
    have := k_no3_at hn h
    show Value.ref (k_na ad 3000000 q p) = Value.ref (ad p)
    unfold k_na; rw [if_neg this]
  | _ => rfl
theorem k_lh_x {ls ls' : Array Slot} {q i : Nat} (hl : k_lh ad ls nL lv) (hn : k_no3 lv = true) (hno : lv[i]? = some none) (hcl : k_cl lv i = lv) (hl2 : k_lh (k_na ad 3000000 q) ls' nL (k_s1 lv i (.ref 3000000))) : k_lh ad ls' nL lv := by
  refine ⟨hl2.1, hl2.2.1, fun j v hj => ?_⟩
  have hne : j ≠ i := by rintro rfl; rw [hno] at hj; cases hj
  have h1 : (k_s1 lv i (.ref 3000000))[j]? = some (some v) := by
    unfold k_s1
    rw [hcl, List.getElem?_set_ne (Ne.symm hne)]
    exact hj
  have h2 := hl2.2.2 j v h1
  rw [k_no3_rl hn hj] at h2
  exact h2
/-- the handler's first row: the caught object is put away -/
def k_HW (X : k_X) (nL cells slots : Nat) (Q : State → Prop) (ad : Nat → Nat) (h : k_H) (pc : Nat) (lv : List (Option Value)) : Prop :=
  ∀ (H : Heap) (locs : List Loc) (ls : Array Slot) (q : Addr), k_wf h → va_P X.D vwCl (k_w ad X.cA h) H → va_D X.A (k_w ad X.cA h) → va_S X.A X.s.heap H locs → k_lh ad ls nL lv → k_Wx X H locs cells slots Q (F0 X.m pc ls [.ref q])
theorem x_hand_n (C : k_C X cc own nL ad) {n : Fin 4} (hd : decode cc pc = .ok (.astore_n n, 1)) (hn : pc + 1 = pc') (h1 : (n : Nat) < nL) (h2 : (n : Nat) < lv.length) (h3 : k_no3 lv = true) (hno : lv[(n : Nat)]? = some none) (hcl : k_cl lv n = lv) (k : k_W X nL cells slots Q ad h pc' lv []) : k_HW X nL cells slots Q ad h pc lv := by
  subst hn
  intro H locs ls q hw hP hD hS hl
  have hl' : k_lh (k_na ad 3000000 q) ls nL lv := ⟨hl.1, hl.2.1, fun i v hv => by rw [k_no3_rl h3 hv]; exact hl.2.2 i v hv⟩
  have e : k_rl (k_na ad 3000000 q) (.ref 3000000) = .ref q := by show Value.ref (k_na ad 3000000 q 3000000) = _; unfold k_na; rw [if_pos rfl]
  rw [← e]
  exact lv_astore_n C.1 C.2.1 hd rfl (k_lh_has hl') h1 rfl (fun ls' hl2 => k H locs ls' hw hP hD hS (k_lh_x hl h3 hno hcl (k_lh_s1 h2 hl2)))
theorem x_hand (C : k_C X cc own nL ad) {n : Nat} (hd : decode cc pc = .ok (.astore n, 2)) (hn : pc + 2 = pc') (h1 : n < nL) (h2 : n < lv.length) (h3 : k_no3 lv = true) (hno : lv[n]? = some none) (hcl : k_cl lv n = lv) (k : k_W X nL cells slots Q ad h pc' lv []) : k_HW X nL cells slots Q ad h pc lv := by
  subst hn
  intro H locs ls q hw hP hD hS hl
  have hl' : k_lh (k_na ad 3000000 q) ls nL lv := ⟨hl.1, hl.2.1, fun i v hv => by rw [k_no3_rl h3 hv]; exact hl.2.2 i v hv⟩
  have e : k_rl (k_na ad 3000000 q) (.ref 3000000) = .ref q := by show Value.ref (k_na ad 3000000 q 3000000) = _; unfold k_na; rw [if_pos rfl]
  rw [← e]
  exact lv_astore C.1 C.2.1 hd (k_lh_has hl') h1 rfl (fun ls' hl2 => k H locs ls' hw hP hD hS (k_lh_x hl h3 hno hcl (k_lh_s1 h2 hl2)))
theorem x_catch (C : k_C X cc own nL ad) {E nm : String} (pre : List ExceptionTableEntry) (x : ExceptionTableEntry) (suf : List ExceptionTableEntry) (hsplit : X.c.exceptionTable.toList = pre ++ x :: suf)
    (hpass : ∀ z ∈ pre, covers z pc = false ∨ (z.catchType ≠ 0 ∧ ∃ n2 : String, Cond.classLink own z.catchType n2 ∈ k_tb ∧ va_Nc E n2 X.s)) (hx : covers x pc = true) (h0 : x.catchType ≠ 0) (hlink : Cond.classLink own x.catchType nm ∈ k_tb) (hcast : k_Cs E nm X.s) (kk : k_HW X nL cells slots Q ad h x.handlerPc lv) : k_VW X nL cells slots Q ad h pc lv E :=
  fun H locs ls q _ _ hw hP hD hS hl hce hcv hcl => vx_catch C.2.2.2.1 pre x suf hsplit (fun z hz => (hpass z hz).imp id (fun y => ⟨y.1, y.2.choose, C.2.2.2.2.1 _ y.2.choose_spec.1, y.2.choose_spec.2⟩)) hx h0 (C.2.2.2.2.1 _ hlink) hcast.word hce hcv hcl (kk H locs ls q hw hP hD hS hl)
def k_sL (p : Nat) (g : Nat → Int64) (h : k_H) : k_H := (h.1, h.2.1, k_ua h.2.2.1 p g, h.2.2.2)
/-- the answer put into the row of one long -/
def k_out (x : Int64) (h : k_H) : k_H := k_sL 102 (vp_updL (h.2.2.1 102) 0 x) h
theorem k_SXof (C : k_C X cc own nL ad) : k_SX X.s := C.2.2.2.2.2.2.2.2.2.2.2.2.2.2.2.2
end HAND
def hh_pit : List (Nat × Nat × Nat × Nat) := [(0, 9, 12, 13)]
set_option maxRecDepth 10000 in
theorem c_L_pit (l : Launch) (h : k_H) {a0 : Int32} {f nn mc ms : Nat} {Rr : Option Value → k_H → Prop} {Rx : String → k_H → Prop} (K : k_CX l yX10_pit cX10_pit 2 (some .int) f nn mc ms [.ref 0, .int a0] h Rr Rx) (hX : h.1[0]? = some k_s0) (hO : h.1[102]? = some (4, 1, []))
    (hRr : ∀ v h1, Rr v h1 → (∃ y, v = some (.int y)) ∧ h1.1[102]? = some (4, 1, [])) (hRx : ∀ E h1, Rx E h1 → E = k_IAE) :
    k_CH l yL_pit cL_pit 4 (some .int) hh_pit (f + 1) (nn + 60) mc ms [.ref 0, .int a0, .ref 102] h (fun v h' => (∃ (y : Int32) (h1 : k_H), Rr (some (.int y)) h1 ∧ v = some (.int 0) ∧ h' = k_out y.toInt64 h1) ∨ (∃ (E : String) (h1 : k_H), Rx E h1 ∧ v = some (.int 1) ∧ h' = h1)) := by
  refine k_ofWH (by decide) (Nat.le_of_ble_eq_true rfl) ?_
  intro X ad hlX hR0 hr C hx
  subst hlX
  have hR : X.R.frames = f + 1 ∧ X.R.locals = nn + 60 := by rw [hR0]; exact ⟨rfl, rfl⟩
  have hRc : X.R.cells = mc := by rw [hR0]
  have hRs : X.R.slots = ms := by rw [hR0]
  show k_W X 4 0 0 _ ad h 0 [some (.ref 0), some (.int a0), some (.ref 102), none] []
  refine r_aload_n C dL_pit_0 (rfl : 0 + 1 = 1) rfl ?_
  refine r_iconst (v := (0 : Int32)) C dL_pit_1 (rfl : 1 + 1 = 2) rfl ?_
  refine r_aload_n C dL_pit_2 (rfl : 2 + 1 = 3) rfl ?_
  refine r_iload_n C dL_pit_3 (rfl : 3 + 1 = 4) rfl ?_
  refine c_VX (As := [.int a0]) (st := [.int (0 : Int32), .ref 102]) C hR ⟨by rw [hRc]; omega, by rw [hRs]; omega⟩ mv_X10_pit (k_me (tm3 (List.mem_of_getElem? (i := 133) rfl)) rfl) dL_pit_4 (rfl : 4 + 3 = 7) (k_bl (Nat.le_refl _)) (k_bl (by omega)) hX rfl K rfl rfl rfl ⟨k_okv_of hX, True.intro, k_okv_of hO, True.intro⟩ ⟨True.intro, k_okv_of hO, True.intro⟩ ?_ ?_
  · intro E ad1 h1 hRx1 hsm1 C1
    obtain rfl := hRx E h1 hRx1
    refine x_catch C1 [] (⟨0, 9, 12, 13⟩ : ExceptionTableEntry) [] (by rw [hx]; rfl) (fun _ hz => nomatch hz) (by decide) (by decide) (k_me (tm3 (List.mem_of_getElem? (i := 132) rfl)) rfl) (k_SXof C1).2.2.2.1 ?_
    refine x_hand_n C1 dL_pit_12 (rfl : 12 + 1 = 13) (by decide) (Nat.le_of_ble_eq_true rfl) rfl rfl rfl ?_
    refine r_iconst (v := (1 : Int32)) C1 dL_pit_13 (rfl : 13 + 1 = 14) rfl ?_
    exact x_of_g (g_iret C1 hr (by omega) (by omega) (Or.inr ⟨_, h1, hRx1, rfl, rfl⟩) hsm1 dL_pit_14)
  · intro v ad1 h1 hRr1 hsm1 C1
    obtain ⟨⟨y, rfl⟩, hO1⟩ := hRr v h1 hRr1
    change k_W X _ _ _ _ ad1 h1 _ _ [.int y, .int (0 : Int32), .ref 102]
    refine r_i2l C1 dL_pit_7 (rfl : 7 + 1 = 8) ?_
    refine r_last (f := h1.2.2.1 102) C1 dL_pit_8 (rfl : 8 + 1 = 9) hO1 rfl (show ¬ ((0 : Int32) < 0 ∨ 1 ≤ (0 : Int32).toNatClampNeg) by decide) ?_
    change k_W X _ _ _ _ ad1 (k_out y.toInt64 h1) _ _ []
    refine r_goto (tgt := 15) C1 dL_pit_9 (by decide) ?_
    refine r_iconst (v := (0 : Int32)) C1 dL_pit_15 (rfl : 15 + 1 = 16) rfl ?_
    exact x_of_g (g_iret C1 hr (by omega) (by omega) (Or.inl ⟨y, h1, hRr1, rfl, rfl⟩) hsm1 dL_pit_16)
def hh_law : List (Nat × Nat × Nat × Nat) := [(0, 10, 13, 13)]
set_option maxRecDepth 10000 in
theorem c_L_law (l : Launch) (h : k_H) {a0 a1 : Int32} {f nn mc ms : Nat} {Rr : Option Value → k_H → Prop} {Rx : String → k_H → Prop} (K : k_CX l yX10_law cX10_law 3 (some .int) f nn mc ms [.ref 0, .int a0, .int a1] h Rr Rx) (hX : h.1[0]? = some k_s0) (hO : h.1[102]? = some (4, 1, []))
    (hRr : ∀ v h1, Rr v h1 → (∃ y, v = some (.int y)) ∧ h1.1[102]? = some (4, 1, [])) (hRx : ∀ E h1, Rx E h1 → E = k_IAE) :
    k_CH l yL_law cL_law 5 (some .int) hh_law (f + 1) (nn + 60) mc ms [.ref 0, .int a0, .int a1, .ref 102] h (fun v h' => (∃ (y : Int32) (h1 : k_H), Rr (some (.int y)) h1 ∧ v = some (.int 0) ∧ h' = k_out y.toInt64 h1) ∨ (∃ (E : String) (h1 : k_H), Rx E h1 ∧ v = some (.int 1) ∧ h' = h1)) := by
  refine k_ofWH (by decide) (Nat.le_of_ble_eq_true rfl) ?_
  intro X ad hlX hR0 hr C hx
  subst hlX
  have hR : X.R.frames = f + 1 ∧ X.R.locals = nn + 60 := by rw [hR0]; exact ⟨rfl, rfl⟩
  have hRc : X.R.cells = mc := by rw [hR0]
  have hRs : X.R.slots = ms := by rw [hR0]
  show k_W X 5 0 0 _ ad h 0 [some (.ref 0), some (.int a0), some (.int a1), some (.ref 102), none] []
  refine r_aload_n C dL_law_0 (rfl : 0 + 1 = 1) rfl ?_
  refine r_iconst (v := (0 : Int32)) C dL_law_1 (rfl : 1 + 1 = 2) rfl ?_
  refine r_aload_n C dL_law_2 (rfl : 2 + 1 = 3) rfl ?_
  refine r_iload_n C dL_law_3 (rfl : 3 + 1 = 4) rfl ?_
  refine r_iload_n C dL_law_4 (rfl : 4 + 1 = 5) rfl ?_
  refine c_VX (As := [.int a0, .int a1]) (st := [.int (0 : Int32), .ref 102]) C hR ⟨by rw [hRc]; omega, by rw [hRs]; omega⟩ mv_X10_law (k_me (tm4 (List.mem_of_getElem? (i := 124) rfl)) rfl) dL_law_5 (rfl : 5 + 3 = 8) (k_bl (Nat.le_refl _)) (k_bl (by omega)) hX rfl K rfl rfl rfl ⟨k_okv_of hX, True.intro, True.intro, k_okv_of hO, True.intro⟩ ⟨True.intro, k_okv_of hO, True.intro⟩ ?_ ?_
  · intro E ad1 h1 hRx1 hsm1 C1
    obtain rfl := hRx E h1 hRx1
    refine x_catch C1 [] (⟨0, 10, 13, 13⟩ : ExceptionTableEntry) [] (by rw [hx]; rfl) (fun _ hz => nomatch hz) (by decide) (by decide) (k_me (tm3 (List.mem_of_getElem? (i := 132) rfl)) rfl) (k_SXof C1).2.2.2.1 ?_
    refine x_hand C1 dL_law_13 (rfl : 13 + 2 = 15) (by decide) (Nat.le_of_ble_eq_true rfl) rfl rfl rfl ?_
    refine r_iconst (v := (1 : Int32)) C1 dL_law_15 (rfl : 15 + 1 = 16) rfl ?_
    exact x_of_g (g_iret C1 hr (by omega) (by omega) (Or.inr ⟨_, h1, hRx1, rfl, rfl⟩) hsm1 dL_law_16)
  · intro v ad1 h1 hRr1 hsm1 C1
    obtain ⟨⟨y, rfl⟩, hO1⟩ := hRr v h1 hRr1
    change k_W X _ _ _ _ ad1 h1 _ _ [.int y, .int (0 : Int32), .ref 102]
    refine r_i2l C1 dL_law_8 (rfl : 8 + 1 = 9) ?_
    refine r_last (f := h1.2.2.1 102) C1 dL_law_9 (rfl : 9 + 1 = 10) hO1 rfl (show ¬ ((0 : Int32) < 0 ∨ 1 ≤ (0 : Int32).toNatClampNeg) by decide) ?_
    change k_W X _ _ _ _ ad1 (k_out y.toInt64 h1) _ _ []
    refine r_goto (tgt := 17) C1 dL_law_10 (by decide) ?_
    refine r_iconst (v := (0 : Int32)) C1 dL_law_17 (rfl : 17 + 1 = 18) rfl ?_
    exact x_of_g (g_iret C1 hr (by omega) (by omega) (Or.inl ⟨y, h1, hRr1, rfl, rfl⟩) hsm1 dL_law_18)
def hh_work : List (Nat × Nat × Nat × Nat) := [(0, 9, 12, 13)]
set_option maxRecDepth 10000 in
theorem c_L_work (l : Launch) (h : k_H) {a0 : Int32} {f nn mc ms : Nat} {Rr : Option Value → k_H → Prop} {Rx : String → k_H → Prop} (K : k_CX l yX10_work cX10_work 2 (some .int) f nn mc ms [.ref 0, .int a0] h Rr Rx) (hX : h.1[0]? = some k_s0) (hO : h.1[102]? = some (4, 1, []))
    (hRr : ∀ v h1, Rr v h1 → (∃ y, v = some (.int y)) ∧ h1.1[102]? = some (4, 1, [])) (hRx : ∀ E h1, Rx E h1 → E = k_IAE) :
    k_CH l yL_work cL_work 4 (some .int) hh_work (f + 1) (nn + 60) mc ms [.ref 0, .int a0, .ref 102] h (fun v h' => (∃ (y : Int32) (h1 : k_H), Rr (some (.int y)) h1 ∧ v = some (.int 0) ∧ h' = k_out y.toInt64 h1) ∨ (∃ (E : String) (h1 : k_H), Rx E h1 ∧ v = some (.int 1) ∧ h' = h1)) := by
  refine k_ofWH (by decide) (Nat.le_of_ble_eq_true rfl) ?_
  intro X ad hlX hR0 hr C hx
  subst hlX
  have hR : X.R.frames = f + 1 ∧ X.R.locals = nn + 60 := by rw [hR0]; exact ⟨rfl, rfl⟩
  have hRc : X.R.cells = mc := by rw [hR0]
  have hRs : X.R.slots = ms := by rw [hR0]
  show k_W X 4 0 0 _ ad h 0 [some (.ref 0), some (.int a0), some (.ref 102), none] []
  refine r_aload_n C dL_work_0 (rfl : 0 + 1 = 1) rfl ?_
  refine r_iconst (v := (0 : Int32)) C dL_work_1 (rfl : 1 + 1 = 2) rfl ?_
  refine r_aload_n C dL_work_2 (rfl : 2 + 1 = 3) rfl ?_
  refine r_iload_n C dL_work_3 (rfl : 3 + 1 = 4) rfl ?_
  refine c_VX (As := [.int a0]) (st := [.int (0 : Int32), .ref 102]) C hR ⟨by rw [hRc]; omega, by rw [hRs]; omega⟩ mv_X10_work (k_me (tm4 (List.mem_of_getElem? (i := 179) rfl)) rfl) dL_work_4 (rfl : 4 + 3 = 7) (k_bl (Nat.le_refl _)) (k_bl (by omega)) hX rfl K rfl rfl rfl ⟨k_okv_of hX, True.intro, k_okv_of hO, True.intro⟩ ⟨True.intro, k_okv_of hO, True.intro⟩ ?_ ?_
  · intro E ad1 h1 hRx1 hsm1 C1
    obtain rfl := hRx E h1 hRx1
    refine x_catch C1 [] (⟨0, 9, 12, 13⟩ : ExceptionTableEntry) [] (by rw [hx]; rfl) (fun _ hz => nomatch hz) (by decide) (by decide) (k_me (tm3 (List.mem_of_getElem? (i := 132) rfl)) rfl) (k_SXof C1).2.2.2.1 ?_
    refine x_hand_n C1 dL_work_12 (rfl : 12 + 1 = 13) (by decide) (Nat.le_of_ble_eq_true rfl) rfl rfl rfl ?_
    refine r_iconst (v := (1 : Int32)) C1 dL_work_13 (rfl : 13 + 1 = 14) rfl ?_
    exact x_of_g (g_iret C1 hr (by omega) (by omega) (Or.inr ⟨_, h1, hRx1, rfl, rfl⟩) hsm1 dL_work_14)
  · intro v ad1 h1 hRr1 hsm1 C1
    obtain ⟨⟨y, rfl⟩, hO1⟩ := hRr v h1 hRr1
    change k_W X _ _ _ _ ad1 h1 _ _ [.int y, .int (0 : Int32), .ref 102]
    refine r_i2l C1 dL_work_7 (rfl : 7 + 1 = 8) ?_
    refine r_last (f := h1.2.2.1 102) C1 dL_work_8 (rfl : 8 + 1 = 9) hO1 rfl (show ¬ ((0 : Int32) < 0 ∨ 1 ≤ (0 : Int32).toNatClampNeg) by decide) ?_
    change k_W X _ _ _ _ ad1 (k_out y.toInt64 h1) _ _ []
    refine r_goto (tgt := 15) C1 dL_work_9 (by decide) ?_
    refine r_iconst (v := (0 : Int32)) C1 dL_work_15 (rfl : 15 + 1 = 16) rfl ?_
    exact x_of_g (g_iret C1 hr (by omega) (by omega) (Or.inl ⟨y, h1, hRr1, rfl, rfl⟩) hsm1 dL_work_16)
def hh_book : List (Nat × Nat × Nat × Nat) := [(0, 9, 12, 13)]
set_option maxRecDepth 10000 in
theorem c_L_book (l : Launch) (h : k_H) {a0 : Int32} {f nn mc ms : Nat} {Rr : Option Value → k_H → Prop} {Rx : String → k_H → Prop} (K : k_CX l yX10_book cX10_book 2 (some .int) f nn mc ms [.ref 0, .int a0] h Rr Rx) (hX : h.1[0]? = some k_s0) (hO : h.1[102]? = some (4, 1, []))
    (hRr : ∀ v h1, Rr v h1 → (∃ y, v = some (.int y)) ∧ h1.1[102]? = some (4, 1, [])) (hRx : ∀ E h1, Rx E h1 → E = k_IAE) :
    k_CH l yL_book cL_book 4 (some .int) hh_book (f + 1) (nn + 60) mc ms [.ref 0, .int a0, .ref 102] h (fun v h' => (∃ (y : Int32) (h1 : k_H), Rr (some (.int y)) h1 ∧ v = some (.int 0) ∧ h' = k_out y.toInt64 h1) ∨ (∃ (E : String) (h1 : k_H), Rx E h1 ∧ v = some (.int 1) ∧ h' = h1)) := by
  refine k_ofWH (by decide) (Nat.le_of_ble_eq_true rfl) ?_
  intro X ad hlX hR0 hr C hx
  subst hlX
  have hR : X.R.frames = f + 1 ∧ X.R.locals = nn + 60 := by rw [hR0]; exact ⟨rfl, rfl⟩
  have hRc : X.R.cells = mc := by rw [hR0]
  have hRs : X.R.slots = ms := by rw [hR0]
  show k_W X 4 0 0 _ ad h 0 [some (.ref 0), some (.int a0), some (.ref 102), none] []
  refine r_aload_n C dL_book_0 (rfl : 0 + 1 = 1) rfl ?_
  refine r_iconst (v := (0 : Int32)) C dL_book_1 (rfl : 1 + 1 = 2) rfl ?_
  refine r_aload_n C dL_book_2 (rfl : 2 + 1 = 3) rfl ?_
  refine r_iload_n C dL_book_3 (rfl : 3 + 1 = 4) rfl ?_
  refine c_VX (As := [.int a0]) (st := [.int (0 : Int32), .ref 102]) C hR ⟨by rw [hRc]; omega, by rw [hRs]; omega⟩ mv_X10_book (k_me (tm5 (List.mem_of_getElem? (i := 67) rfl)) rfl) dL_book_4 (rfl : 4 + 3 = 7) (k_bl (Nat.le_refl _)) (k_bl (by omega)) hX rfl K rfl rfl rfl ⟨k_okv_of hX, True.intro, k_okv_of hO, True.intro⟩ ⟨True.intro, k_okv_of hO, True.intro⟩ ?_ ?_
  · intro E ad1 h1 hRx1 hsm1 C1
    obtain rfl := hRx E h1 hRx1
    refine x_catch C1 [] (⟨0, 9, 12, 13⟩ : ExceptionTableEntry) [] (by rw [hx]; rfl) (fun _ hz => nomatch hz) (by decide) (by decide) (k_me (tm3 (List.mem_of_getElem? (i := 132) rfl)) rfl) (k_SXof C1).2.2.2.1 ?_
    refine x_hand_n C1 dL_book_12 (rfl : 12 + 1 = 13) (by decide) (Nat.le_of_ble_eq_true rfl) rfl rfl rfl ?_
    refine r_iconst (v := (1 : Int32)) C1 dL_book_13 (rfl : 13 + 1 = 14) rfl ?_
    exact x_of_g (g_iret C1 hr (by omega) (by omega) (Or.inr ⟨_, h1, hRx1, rfl, rfl⟩) hsm1 dL_book_14)
  · intro v ad1 h1 hRr1 hsm1 C1
    obtain ⟨⟨y, rfl⟩, hO1⟩ := hRr v h1 hRr1
    change k_W X _ _ _ _ ad1 h1 _ _ [.int y, .int (0 : Int32), .ref 102]
    refine r_i2l C1 dL_book_7 (rfl : 7 + 1 = 8) ?_
    refine r_last (f := h1.2.2.1 102) C1 dL_book_8 (rfl : 8 + 1 = 9) hO1 rfl (show ¬ ((0 : Int32) < 0 ∨ 1 ≤ (0 : Int32).toNatClampNeg) by decide) ?_
    change k_W X _ _ _ _ ad1 (k_out y.toInt64 h1) _ _ []
    refine r_goto (tgt := 15) C1 dL_book_9 (by decide) ?_
    refine r_iconst (v := (0 : Int32)) C1 dL_book_15 (rfl : 15 + 1 = 16) rfl ?_
    exact x_of_g (g_iret C1 hr (by omega) (by omega) (Or.inl ⟨y, h1, hRr1, rfl, rfl⟩) hsm1 dL_book_16)
def hh_told : List (Nat × Nat × Nat × Nat) := [(0, 9, 12, 13)]
set_option maxRecDepth 10000 in
theorem c_L_told (l : Launch) (h : k_H) {a0 : Int32} {f nn mc ms : Nat} {Rr : Option Value → k_H → Prop} {Rx : String → k_H → Prop} (K : k_CX l yX10_told cX10_told 2 (some .int) f nn mc ms [.ref 0, .int a0] h Rr Rx) (hX : h.1[0]? = some k_s0) (hO : h.1[102]? = some (4, 1, []))
    (hRr : ∀ v h1, Rr v h1 → (∃ y, v = some (.int y)) ∧ h1.1[102]? = some (4, 1, [])) (hRx : ∀ E h1, Rx E h1 → E = k_IAE) :
    k_CH l yL_told cL_told 4 (some .int) hh_told (f + 1) (nn + 60) mc ms [.ref 0, .int a0, .ref 102] h (fun v h' => (∃ (y : Int32) (h1 : k_H), Rr (some (.int y)) h1 ∧ v = some (.int 0) ∧ h' = k_out y.toInt64 h1) ∨ (∃ (E : String) (h1 : k_H), Rx E h1 ∧ v = some (.int 1) ∧ h' = h1)) := by
  refine k_ofWH (by decide) (Nat.le_of_ble_eq_true rfl) ?_
  intro X ad hlX hR0 hr C hx
  subst hlX
  have hR : X.R.frames = f + 1 ∧ X.R.locals = nn + 60 := by rw [hR0]; exact ⟨rfl, rfl⟩
  have hRc : X.R.cells = mc := by rw [hR0]
  have hRs : X.R.slots = ms := by rw [hR0]
  show k_W X 4 0 0 _ ad h 0 [some (.ref 0), some (.int a0), some (.ref 102), none] []
  refine r_aload_n C dL_told_0 (rfl : 0 + 1 = 1) rfl ?_
  refine r_iconst (v := (0 : Int32)) C dL_told_1 (rfl : 1 + 1 = 2) rfl ?_
  refine r_aload_n C dL_told_2 (rfl : 2 + 1 = 3) rfl ?_
  refine r_iload_n C dL_told_3 (rfl : 3 + 1 = 4) rfl ?_
  refine c_VX (As := [.int a0]) (st := [.int (0 : Int32), .ref 102]) C hR ⟨by rw [hRc]; omega, by rw [hRs]; omega⟩ mv_X10_told (k_me (tm5 (List.mem_of_getElem? (i := 84) rfl)) rfl) dL_told_4 (rfl : 4 + 3 = 7) (k_bl (Nat.le_refl _)) (k_bl (by omega)) hX rfl K rfl rfl rfl ⟨k_okv_of hX, True.intro, k_okv_of hO, True.intro⟩ ⟨True.intro, k_okv_of hO, True.intro⟩ ?_ ?_
  · intro E ad1 h1 hRx1 hsm1 C1
    obtain rfl := hRx E h1 hRx1
    refine x_catch C1 [] (⟨0, 9, 12, 13⟩ : ExceptionTableEntry) [] (by rw [hx]; rfl) (fun _ hz => nomatch hz) (by decide) (by decide) (k_me (tm3 (List.mem_of_getElem? (i := 132) rfl)) rfl) (k_SXof C1).2.2.2.1 ?_
    refine x_hand_n C1 dL_told_12 (rfl : 12 + 1 = 13) (by decide) (Nat.le_of_ble_eq_true rfl) rfl rfl rfl ?_
    refine r_iconst (v := (1 : Int32)) C1 dL_told_13 (rfl : 13 + 1 = 14) rfl ?_
    exact x_of_g (g_iret C1 hr (by omega) (by omega) (Or.inr ⟨_, h1, hRx1, rfl, rfl⟩) hsm1 dL_told_14)
  · intro v ad1 h1 hRr1 hsm1 C1
    obtain ⟨⟨y, rfl⟩, hO1⟩ := hRr v h1 hRr1
    change k_W X _ _ _ _ ad1 h1 _ _ [.int y, .int (0 : Int32), .ref 102]
    refine r_i2l C1 dL_told_7 (rfl : 7 + 1 = 8) ?_
    refine r_last (f := h1.2.2.1 102) C1 dL_told_8 (rfl : 8 + 1 = 9) hO1 rfl (show ¬ ((0 : Int32) < 0 ∨ 1 ≤ (0 : Int32).toNatClampNeg) by decide) ?_
    change k_W X _ _ _ _ ad1 (k_out y.toInt64 h1) _ _ []
    refine r_goto (tgt := 15) C1 dL_told_9 (by decide) ?_
    refine r_iconst (v := (0 : Int32)) C1 dL_told_15 (rfl : 15 + 1 = 16) rfl ?_
    exact x_of_g (g_iret C1 hr (by omega) (by omega) (Or.inl ⟨y, h1, hRr1, rfl, rfl⟩) hsm1 dL_told_16)
def hh_cell : List (Nat × Nat × Nat × Nat) := [(0, 12, 15, 32), (0, 12, 19, 13)]
set_option maxRecDepth 10000 in
theorem c_L_cell (l : Launch) (h : k_H) {a0 a1 a2 : Int32} {f nn mc ms : Nat} {Rr : Option Value → k_H → Prop} {Rx : String → k_H → Prop} (K : k_CX l yX10_cell cX10_cell 5 (some .int) f nn mc ms [.ref 0, .int a0, .int a1, .int a2] h Rr Rx) (hX : h.1[0]? = some k_s0) (hO : h.1[102]? = some (4, 1, []))
    (hRr : ∀ v h1, Rr v h1 → (∃ y, v = some (.int y)) ∧ h1.1[102]? = some (4, 1, [])) (hRx : ∀ E h1, Rx E h1 → E = k_IOO ∨ E = k_IAE) :
    k_CH l yL_cell cL_cell 6 (some .int) hh_cell (f + 1) (nn + 60) mc ms [.ref 0, .int a0, .int a1, .int a2, .ref 102] h (fun v h' => (∃ (y : Int32) (h1 : k_H), Rr (some (.int y)) h1 ∧ v = some (.int 0) ∧ h' = k_out y.toInt64 h1) ∨ (∃ (E : String) (h1 : k_H), Rx E h1 ∧ ((E = k_IOO ∧ v = some (.int 1) ∧ h' = h1) ∨ (E = k_IAE ∧ v = some (.int 2) ∧ h' = h1)))) := by
  refine k_ofWH (by decide) (Nat.le_of_ble_eq_true rfl) ?_
  intro X ad hlX hR0 hr C hx
  subst hlX
  have hR : X.R.frames = f + 1 ∧ X.R.locals = nn + 60 := by rw [hR0]; exact ⟨rfl, rfl⟩
  have hRc : X.R.cells = mc := by rw [hR0]
  have hRs : X.R.slots = ms := by rw [hR0]
  show k_W X 6 0 0 _ ad h 0 [some (.ref 0), some (.int a0), some (.int a1), some (.int a2), some (.ref 102), none] []
  refine r_aload C dL_cell_0 (rfl : 0 + 2 = 2) rfl ?_
  refine r_iconst (v := (0 : Int32)) C dL_cell_2 (rfl : 2 + 1 = 3) rfl ?_
  refine r_aload_n C dL_cell_3 (rfl : 3 + 1 = 4) rfl ?_
  refine r_iload_n C dL_cell_4 (rfl : 4 + 1 = 5) rfl ?_
  refine r_iload_n C dL_cell_5 (rfl : 5 + 1 = 6) rfl ?_
  refine r_iload_n C dL_cell_6 (rfl : 6 + 1 = 7) rfl ?_
  refine c_VX (As := [.int a0, .int a1, .int a2]) (st := [.int (0 : Int32), .ref 102]) C hR ⟨by rw [hRc]; omega, by rw [hRs]; omega⟩ mv_X10_cell (k_me (tm5 (List.mem_of_getElem? (i := 92) rfl)) rfl) dL_cell_7 (rfl : 7 + 3 = 10) (k_bl (Nat.le_refl _)) (k_bl (by omega)) hX rfl K rfl rfl rfl ⟨k_okv_of hX, True.intro, True.intro, True.intro, k_okv_of hO, True.intro⟩ ⟨True.intro, k_okv_of hO, True.intro⟩ ?_ ?_
  · intro E ad1 h1 hRx1 hsm1 C1
    rcases hRx E h1 hRx1 with rfl | rfl
    · refine x_catch C1 [] (⟨0, 12, 15, 32⟩ : ExceptionTableEntry) [(⟨0, 12, 19, 13⟩ : ExceptionTableEntry)] (by rw [hx]; rfl) (fun _ hz => nomatch hz) (by decide) (by decide) (k_me (tm5 (List.mem_of_getElem? (i := 91) rfl)) rfl) (k_SXof C1).2.2.2.2.2.1 ?_
      refine x_hand C1 dL_cell_15 (rfl : 15 + 2 = 17) (by decide) (Nat.le_of_ble_eq_true rfl) rfl rfl rfl ?_
      refine r_iconst (v := (1 : Int32)) C1 dL_cell_17 (rfl : 17 + 1 = 18) rfl ?_
      exact x_of_g (g_iret C1 hr (by omega) (by omega) (Or.inr ⟨_, h1, hRx1, Or.inl ⟨rfl, rfl, rfl⟩⟩) hsm1 dL_cell_18)
    · refine x_catch C1 [(⟨0, 12, 15, 32⟩ : ExceptionTableEntry)] (⟨0, 12, 19, 13⟩ : ExceptionTableEntry) [] (by rw [hx]; rfl) (fun z hz => by rw [List.mem_singleton] at hz; subst hz; exact Or.inr ⟨by decide, _, (k_me (tm5 (List.mem_of_getElem? (i := 91) rfl)) rfl), (k_SXof C1).2.1⟩) (by decide) (by decide) (k_me (tm3 (List.mem_of_getElem? (i := 132) rfl)) rfl) (k_SXof C1).2.2.2.1 ?_
      refine x_hand C1 dL_cell_19 (rfl : 19 + 2 = 21) (by decide) (Nat.le_of_ble_eq_true rfl) rfl rfl rfl ?_
      refine r_iconst (v := (2 : Int32)) C1 dL_cell_21 (rfl : 21 + 1 = 22) rfl ?_
      exact x_of_g (g_iret C1 hr (by omega) (by omega) (Or.inr ⟨_, h1, hRx1, Or.inr ⟨rfl, rfl, rfl⟩⟩) hsm1 dL_cell_22)
  · intro v ad1 h1 hRr1 hsm1 C1
    obtain ⟨⟨y, rfl⟩, hO1⟩ := hRr v h1 hRr1
    change k_W X _ _ _ _ ad1 h1 _ _ [.int y, .int (0 : Int32), .ref 102]
    refine r_i2l C1 dL_cell_10 (rfl : 10 + 1 = 11) ?_
    refine r_last (f := h1.2.2.1 102) C1 dL_cell_11 (rfl : 11 + 1 = 12) hO1 rfl (show ¬ ((0 : Int32) < 0 ∨ 1 ≤ (0 : Int32).toNatClampNeg) by decide) ?_
    change k_W X _ _ _ _ ad1 (k_out y.toInt64 h1) _ _ []
    refine r_goto (tgt := 23) C1 dL_cell_12 (by decide) ?_
    refine r_iconst (v := (0 : Int32)) C1 dL_cell_23 (rfl : 23 + 1 = 24) rfl ?_
    exact x_of_g (g_iret C1 hr (by omega) (by omega) (Or.inl ⟨y, h1, hRr1, rfl, rfl⟩) hsm1 dL_cell_24)
def hh_kind : List (Nat × Nat × Nat × Nat) := [(0, 10, 13, 13)]
set_option maxRecDepth 10000 in
theorem c_L_kind (l : Launch) (h : k_H) {a0 a1 : Int32} {f nn mc ms : Nat} {Rr : Option Value → k_H → Prop} {Rx : String → k_H → Prop} (K : k_CX l yX10_kind cX10_kind 3 (some .int) f nn mc ms [.ref 0, .int a0, .int a1] h Rr Rx) (hX : h.1[0]? = some k_s0) (hO : h.1[102]? = some (4, 1, []))
    (hRr : ∀ v h1, Rr v h1 → (∃ y, v = some (.int y)) ∧ h1.1[102]? = some (4, 1, [])) (hRx : ∀ E h1, Rx E h1 → E = k_IAE) :
    k_CH l yL_kind cL_kind 5 (some .int) hh_kind (f + 1) (nn + 60) mc ms [.ref 0, .int a0, .int a1, .ref 102] h (fun v h' => (∃ (y : Int32) (h1 : k_H), Rr (some (.int y)) h1 ∧ v = some (.int 0) ∧ h' = k_out y.toInt64 h1) ∨ (∃ (E : String) (h1 : k_H), Rx E h1 ∧ v = some (.int 1) ∧ h' = h1)) := by
  refine k_ofWH (by decide) (Nat.le_of_ble_eq_true rfl) ?_
  intro X ad hlX hR0 hr C hx
  subst hlX
  have hR : X.R.frames = f + 1 ∧ X.R.locals = nn + 60 := by rw [hR0]; exact ⟨rfl, rfl⟩
  have hRc : X.R.cells = mc := by rw [hR0]
  have hRs : X.R.slots = ms := by rw [hR0]
  show k_W X 5 0 0 _ ad h 0 [some (.ref 0), some (.int a0), some (.int a1), some (.ref 102), none] []
  refine r_aload_n C dL_kind_0 (rfl : 0 + 1 = 1) rfl ?_
  refine r_iconst (v := (0 : Int32)) C dL_kind_1 (rfl : 1 + 1 = 2) rfl ?_
  refine r_aload_n C dL_kind_2 (rfl : 2 + 1 = 3) rfl ?_
  refine r_iload_n C dL_kind_3 (rfl : 3 + 1 = 4) rfl ?_
  refine r_iload_n C dL_kind_4 (rfl : 4 + 1 = 5) rfl ?_
  refine c_VX (As := [.int a0, .int a1]) (st := [.int (0 : Int32), .ref 102]) C hR ⟨by rw [hRc]; omega, by rw [hRs]; omega⟩ mv_X10_kind (k_me (tm5 (List.mem_of_getElem? (i := 124) rfl)) rfl) dL_kind_5 (rfl : 5 + 3 = 8) (k_bl (Nat.le_refl _)) (k_bl (by omega)) hX rfl K rfl rfl rfl ⟨k_okv_of hX, True.intro, True.intro, k_okv_of hO, True.intro⟩ ⟨True.intro, k_okv_of hO, True.intro⟩ ?_ ?_
  · intro E ad1 h1 hRx1 hsm1 C1
    obtain rfl := hRx E h1 hRx1
    refine x_catch C1 [] (⟨0, 10, 13, 13⟩ : ExceptionTableEntry) [] (by rw [hx]; rfl) (fun _ hz => nomatch hz) (by decide) (by decide) (k_me (tm3 (List.mem_of_getElem? (i := 132) rfl)) rfl) (k_SXof C1).2.2.2.1 ?_
    refine x_hand C1 dL_kind_13 (rfl : 13 + 2 = 15) (by decide) (Nat.le_of_ble_eq_true rfl) rfl rfl rfl ?_
    refine r_iconst (v := (1 : Int32)) C1 dL_kind_15 (rfl : 15 + 1 = 16) rfl ?_
    exact x_of_g (g_iret C1 hr (by omega) (by omega) (Or.inr ⟨_, h1, hRx1, rfl, rfl⟩) hsm1 dL_kind_16)
  · intro v ad1 h1 hRr1 hsm1 C1
    obtain ⟨⟨y, rfl⟩, hO1⟩ := hRr v h1 hRr1
    change k_W X _ _ _ _ ad1 h1 _ _ [.int y, .int (0 : Int32), .ref 102]
    refine r_i2l C1 dL_kind_8 (rfl : 8 + 1 = 9) ?_
    refine r_last (f := h1.2.2.1 102) C1 dL_kind_9 (rfl : 9 + 1 = 10) hO1 rfl (show ¬ ((0 : Int32) < 0 ∨ 1 ≤ (0 : Int32).toNatClampNeg) by decide) ?_
    change k_W X _ _ _ _ ad1 (k_out y.toInt64 h1) _ _ []
    refine r_goto (tgt := 17) C1 dL_kind_10 (by decide) ?_
    refine r_iconst (v := (0 : Int32)) C1 dL_kind_17 (rfl : 17 + 1 = 18) rfl ?_
    exact x_of_g (g_iret C1 hr (by omega) (by omega) (Or.inl ⟨y, h1, hRr1, rfl, rfl⟩) hsm1 dL_kind_18)
def hh_order : List (Nat × Nat × Nat × Nat) := [(0, 10, 13, 40), (0, 10, 17, 13)]
set_option maxRecDepth 10000 in
theorem c_L_order (l : Launch) (h : k_H) {a0 a1 : Int32} {f nn mc ms : Nat} {Rr : Option Value → k_H → Prop} {Rx : String → k_H → Prop} (K : k_CX l yX10_order cX10_order 3 (some .int) f nn mc ms [.ref 0, .int a0, .int a1] h Rr Rx) (hX : h.1[0]? = some k_s0) (hO : h.1[102]? = some (4, 1, []))
    (hRr : ∀ v h1, Rr v h1 → (∃ y, v = some (.int y)) ∧ h1.1[102]? = some (4, 1, [])) (hRx : ∀ E h1, Rx E h1 → E = k_NSE ∨ E = k_IAE) :
    k_CH l yL_order cL_order 5 (some .int) hh_order (f + 1) (nn + 60) mc ms [.ref 0, .int a0, .int a1, .ref 102] h (fun v h' => (∃ (y : Int32) (h1 : k_H), Rr (some (.int y)) h1 ∧ v = some (.int 0) ∧ h' = k_out y.toInt64 h1) ∨ (∃ (E : String) (h1 : k_H), Rx E h1 ∧ ((E = k_NSE ∧ v = some (.int 1) ∧ h' = h1) ∨ (E = k_IAE ∧ v = some (.int 2) ∧ h' = h1)))) := by
  refine k_ofWH (by decide) (Nat.le_of_ble_eq_true rfl) ?_
  intro X ad hlX hR0 hr C hx
  subst hlX
  have hR : X.R.frames = f + 1 ∧ X.R.locals = nn + 60 := by rw [hR0]; exact ⟨rfl, rfl⟩
  have hRc : X.R.cells = mc := by rw [hR0]
  have hRs : X.R.slots = ms := by rw [hR0]
  show k_W X 5 0 0 _ ad h 0 [some (.ref 0), some (.int a0), some (.int a1), some (.ref 102), none] []
  refine r_aload_n C dL_order_0 (rfl : 0 + 1 = 1) rfl ?_
  refine r_iconst (v := (0 : Int32)) C dL_order_1 (rfl : 1 + 1 = 2) rfl ?_
  refine r_aload_n C dL_order_2 (rfl : 2 + 1 = 3) rfl ?_
  refine r_iload_n C dL_order_3 (rfl : 3 + 1 = 4) rfl ?_
  refine r_iload_n C dL_order_4 (rfl : 4 + 1 = 5) rfl ?_
  refine c_VX (As := [.int a0, .int a1]) (st := [.int (0 : Int32), .ref 102]) C hR ⟨by rw [hRc]; omega, by rw [hRs]; omega⟩ mv_X10_order (k_me (tm5 (List.mem_of_getElem? (i := 137) rfl)) rfl) dL_order_5 (rfl : 5 + 3 = 8) (k_bl (Nat.le_refl _)) (k_bl (by omega)) hX rfl K rfl rfl rfl ⟨k_okv_of hX, True.intro, True.intro, k_okv_of hO, True.intro⟩ ⟨True.intro, k_okv_of hO, True.intro⟩ ?_ ?_
  · intro E ad1 h1 hRx1 hsm1 C1
    rcases hRx E h1 hRx1 with rfl | rfl
    · refine x_catch C1 [] (⟨0, 10, 13, 40⟩ : ExceptionTableEntry) [(⟨0, 10, 17, 13⟩ : ExceptionTableEntry)] (by rw [hx]; rfl) (fun _ hz => nomatch hz) (by decide) (by decide) (k_me (tm5 (List.mem_of_getElem? (i := 136) rfl)) rfl) (k_SXof C1).2.2.2.2.1 ?_
      refine x_hand C1 dL_order_13 (rfl : 13 + 2 = 15) (by decide) (Nat.le_of_ble_eq_true rfl) rfl rfl rfl ?_
      refine r_iconst (v := (1 : Int32)) C1 dL_order_15 (rfl : 15 + 1 = 16) rfl ?_
      exact x_of_g (g_iret C1 hr (by omega) (by omega) (Or.inr ⟨_, h1, hRx1, Or.inl ⟨rfl, rfl, rfl⟩⟩) hsm1 dL_order_16)
    · refine x_catch C1 [(⟨0, 10, 13, 40⟩ : ExceptionTableEntry)] (⟨0, 10, 17, 13⟩ : ExceptionTableEntry) [] (by rw [hx]; rfl) (fun z hz => by rw [List.mem_singleton] at hz; subst hz; exact Or.inr ⟨by decide, _, (k_me (tm5 (List.mem_of_getElem? (i := 136) rfl)) rfl), (k_SXof C1).2.2.1⟩) (by decide) (by decide) (k_me (tm3 (List.mem_of_getElem? (i := 132) rfl)) rfl) (k_SXof C1).2.2.2.1 ?_
      refine x_hand C1 dL_order_17 (rfl : 17 + 2 = 19) (by decide) (Nat.le_of_ble_eq_true rfl) rfl rfl rfl ?_
      refine r_iconst (v := (2 : Int32)) C1 dL_order_19 (rfl : 19 + 1 = 20) rfl ?_
      exact x_of_g (g_iret C1 hr (by omega) (by omega) (Or.inr ⟨_, h1, hRx1, Or.inr ⟨rfl, rfl, rfl⟩⟩) hsm1 dL_order_20)
  · intro v ad1 h1 hRr1 hsm1 C1
    obtain ⟨⟨y, rfl⟩, hO1⟩ := hRr v h1 hRr1
    change k_W X _ _ _ _ ad1 h1 _ _ [.int y, .int (0 : Int32), .ref 102]
    refine r_i2l C1 dL_order_8 (rfl : 8 + 1 = 9) ?_
    refine r_last (f := h1.2.2.1 102) C1 dL_order_9 (rfl : 9 + 1 = 10) hO1 rfl (show ¬ ((0 : Int32) < 0 ∨ 1 ≤ (0 : Int32).toNatClampNeg) by decide) ?_
    change k_W X _ _ _ _ ad1 (k_out y.toInt64 h1) _ _ []
    refine r_goto (tgt := 21) C1 dL_order_10 (by decide) ?_
    refine r_iconst (v := (0 : Int32)) C1 dL_order_21 (rfl : 21 + 1 = 22) rfl ?_
    exact x_of_g (g_iret C1 hr (by omega) (by omega) (Or.inl ⟨y, h1, hRr1, rfl, rfl⟩) hsm1 dL_order_22)
def hh_note : List (Nat × Nat × Nat × Nat) := [(0, 10, 13, 40), (0, 10, 17, 13)]
set_option maxRecDepth 10000 in
theorem c_L_note (l : Launch) (h : k_H) {a0 a1 : Int32} {f nn mc ms : Nat} {Rr : Option Value → k_H → Prop} {Rx : String → k_H → Prop} (K : k_CX l yX10_note cX10_note 3 (some .int) f nn mc ms [.ref 0, .int a0, .int a1] h Rr Rx) (hX : h.1[0]? = some k_s0) (hO : h.1[102]? = some (4, 1, []))
    (hRr : ∀ v h1, Rr v h1 → (∃ y, v = some (.int y)) ∧ h1.1[102]? = some (4, 1, [])) (hRx : ∀ E h1, Rx E h1 → E = k_NSE ∨ E = k_IAE) :
    k_CH l yL_note cL_note 5 (some .int) hh_note (f + 1) (nn + 60) mc ms [.ref 0, .int a0, .int a1, .ref 102] h (fun v h' => (∃ (y : Int32) (h1 : k_H), Rr (some (.int y)) h1 ∧ v = some (.int 0) ∧ h' = k_out y.toInt64 h1) ∨ (∃ (E : String) (h1 : k_H), Rx E h1 ∧ ((E = k_NSE ∧ v = some (.int 1) ∧ h' = h1) ∨ (E = k_IAE ∧ v = some (.int 2) ∧ h' = h1)))) := by
  refine k_ofWH (by decide) (Nat.le_of_ble_eq_true rfl) ?_
  intro X ad hlX hR0 hr C hx
  subst hlX
  have hR : X.R.frames = f + 1 ∧ X.R.locals = nn + 60 := by rw [hR0]; exact ⟨rfl, rfl⟩
  have hRc : X.R.cells = mc := by rw [hR0]
  have hRs : X.R.slots = ms := by rw [hR0]
  show k_W X 5 0 0 _ ad h 0 [some (.ref 0), some (.int a0), some (.int a1), some (.ref 102), none] []
  refine r_aload_n C dL_note_0 (rfl : 0 + 1 = 1) rfl ?_
  refine r_iconst (v := (0 : Int32)) C dL_note_1 (rfl : 1 + 1 = 2) rfl ?_
  refine r_aload_n C dL_note_2 (rfl : 2 + 1 = 3) rfl ?_
  refine r_iload_n C dL_note_3 (rfl : 3 + 1 = 4) rfl ?_
  refine r_iload_n C dL_note_4 (rfl : 4 + 1 = 5) rfl ?_
  refine c_VX (As := [.int a0, .int a1]) (st := [.int (0 : Int32), .ref 102]) C hR ⟨by rw [hRc]; omega, by rw [hRs]; omega⟩ mv_X10_note (k_me (tm5 (List.mem_of_getElem? (i := 169) rfl)) rfl) dL_note_5 (rfl : 5 + 3 = 8) (k_bl (Nat.le_refl _)) (k_bl (by omega)) hX rfl K rfl rfl rfl ⟨k_okv_of hX, True.intro, True.intro, k_okv_of hO, True.intro⟩ ⟨True.intro, k_okv_of hO, True.intro⟩ ?_ ?_
  · intro E ad1 h1 hRx1 hsm1 C1
    rcases hRx E h1 hRx1 with rfl | rfl
    · refine x_catch C1 [] (⟨0, 10, 13, 40⟩ : ExceptionTableEntry) [(⟨0, 10, 17, 13⟩ : ExceptionTableEntry)] (by rw [hx]; rfl) (fun _ hz => nomatch hz) (by decide) (by decide) (k_me (tm5 (List.mem_of_getElem? (i := 136) rfl)) rfl) (k_SXof C1).2.2.2.2.1 ?_
      refine x_hand C1 dL_note_13 (rfl : 13 + 2 = 15) (by decide) (Nat.le_of_ble_eq_true rfl) rfl rfl rfl ?_
      refine r_iconst (v := (1 : Int32)) C1 dL_note_15 (rfl : 15 + 1 = 16) rfl ?_
      exact x_of_g (g_iret C1 hr (by omega) (by omega) (Or.inr ⟨_, h1, hRx1, Or.inl ⟨rfl, rfl, rfl⟩⟩) hsm1 dL_note_16)
    · refine x_catch C1 [(⟨0, 10, 13, 40⟩ : ExceptionTableEntry)] (⟨0, 10, 17, 13⟩ : ExceptionTableEntry) [] (by rw [hx]; rfl) (fun z hz => by rw [List.mem_singleton] at hz; subst hz; exact Or.inr ⟨by decide, _, (k_me (tm5 (List.mem_of_getElem? (i := 136) rfl)) rfl), (k_SXof C1).2.2.1⟩) (by decide) (by decide) (k_me (tm3 (List.mem_of_getElem? (i := 132) rfl)) rfl) (k_SXof C1).2.2.2.1 ?_
      refine x_hand C1 dL_note_17 (rfl : 17 + 2 = 19) (by decide) (Nat.le_of_ble_eq_true rfl) rfl rfl rfl ?_
      refine r_iconst (v := (2 : Int32)) C1 dL_note_19 (rfl : 19 + 1 = 20) rfl ?_
      exact x_of_g (g_iret C1 hr (by omega) (by omega) (Or.inr ⟨_, h1, hRx1, Or.inr ⟨rfl, rfl, rfl⟩⟩) hsm1 dL_note_20)
  · intro v ad1 h1 hRr1 hsm1 C1
    obtain ⟨⟨y, rfl⟩, hO1⟩ := hRr v h1 hRr1
    change k_W X _ _ _ _ ad1 h1 _ _ [.int y, .int (0 : Int32), .ref 102]
    refine r_i2l C1 dL_note_8 (rfl : 8 + 1 = 9) ?_
    refine r_last (f := h1.2.2.1 102) C1 dL_note_9 (rfl : 9 + 1 = 10) hO1 rfl (show ¬ ((0 : Int32) < 0 ∨ 1 ≤ (0 : Int32).toNatClampNeg) by decide) ?_
    change k_W X _ _ _ _ ad1 (k_out y.toInt64 h1) _ _ []
    refine r_goto (tgt := 21) C1 dL_note_10 (by decide) ?_
    refine r_iconst (v := (0 : Int32)) C1 dL_note_21 (rfl : 21 + 1 = 22) rfl ?_
    exact x_of_g (g_iret C1 hr (by omega) (by omega) (Or.inl ⟨y, h1, hRr1, rfl, rfl⟩) hsm1 dL_note_22)
def hh_lacks : List (Nat × Nat × Nat × Nat) := [(0, 9, 12, 40)]
set_option maxRecDepth 10000 in
theorem c_L_lacks (l : Launch) (h : k_H) {a0 : Int32} {f nn mc ms : Nat} {Rr : Option Value → k_H → Prop} {Rx : String → k_H → Prop} (K : k_CX l yX10_lacks cX10_lacks 2 (some .int) f nn mc ms [.ref 0, .int a0] h Rr Rx) (hX : h.1[0]? = some k_s0) (hO : h.1[102]? = some (4, 1, []))
    (hRr : ∀ v h1, Rr v h1 → (∃ y, v = some (.int y)) ∧ h1.1[102]? = some (4, 1, [])) (hRx : ∀ E h1, Rx E h1 → E = k_NSE) :
    k_CH l yL_lacks cL_lacks 4 (some .int) hh_lacks (f + 1) (nn + 60) mc ms [.ref 0, .int a0, .ref 102] h (fun v h' => (∃ (y : Int32) (h1 : k_H), Rr (some (.int y)) h1 ∧ v = some (.int 0) ∧ h' = k_out y.toInt64 h1) ∨ (∃ (E : String) (h1 : k_H), Rx E h1 ∧ v = some (.int 1) ∧ h' = h1)) := by
  refine k_ofWH (by decide) (Nat.le_of_ble_eq_true rfl) ?_
  intro X ad hlX hR0 hr C hx
  subst hlX
  have hR : X.R.frames = f + 1 ∧ X.R.locals = nn + 60 := by rw [hR0]; exact ⟨rfl, rfl⟩
  have hRc : X.R.cells = mc := by rw [hR0]
  have hRs : X.R.slots = ms := by rw [hR0]
  show k_W X 4 0 0 _ ad h 0 [some (.ref 0), some (.int a0), some (.ref 102), none] []
  refine r_aload_n C dL_lacks_0 (rfl : 0 + 1 = 1) rfl ?_
  refine r_iconst (v := (0 : Int32)) C dL_lacks_1 (rfl : 1 + 1 = 2) rfl ?_
  refine r_aload_n C dL_lacks_2 (rfl : 2 + 1 = 3) rfl ?_
  refine r_iload_n C dL_lacks_3 (rfl : 3 + 1 = 4) rfl ?_
  refine c_VX (As := [.int a0]) (st := [.int (0 : Int32), .ref 102]) C hR ⟨by rw [hRc]; omega, by rw [hRs]; omega⟩ mv_X10_lacks (k_me (tm5 (List.mem_of_getElem? (i := 176) rfl)) rfl) dL_lacks_4 (rfl : 4 + 3 = 7) (k_bl (Nat.le_refl _)) (k_bl (by omega)) hX rfl K rfl rfl rfl ⟨k_okv_of hX, True.intro, k_okv_of hO, True.intro⟩ ⟨True.intro, k_okv_of hO, True.intro⟩ ?_ ?_
  · intro E ad1 h1 hRx1 hsm1 C1
    obtain rfl := hRx E h1 hRx1
    refine x_catch C1 [] (⟨0, 9, 12, 40⟩ : ExceptionTableEntry) [] (by rw [hx]; rfl) (fun _ hz => nomatch hz) (by decide) (by decide) (k_me (tm5 (List.mem_of_getElem? (i := 136) rfl)) rfl) (k_SXof C1).2.2.2.2.1 ?_
    refine x_hand_n C1 dL_lacks_12 (rfl : 12 + 1 = 13) (by decide) (Nat.le_of_ble_eq_true rfl) rfl rfl rfl ?_
    refine r_iconst (v := (1 : Int32)) C1 dL_lacks_13 (rfl : 13 + 1 = 14) rfl ?_
    exact x_of_g (g_iret C1 hr (by omega) (by omega) (Or.inr ⟨_, h1, hRx1, rfl, rfl⟩) hsm1 dL_lacks_14)
  · intro v ad1 h1 hRr1 hsm1 C1
    obtain ⟨⟨y, rfl⟩, hO1⟩ := hRr v h1 hRr1
    change k_W X _ _ _ _ ad1 h1 _ _ [.int y, .int (0 : Int32), .ref 102]
    refine r_i2l C1 dL_lacks_7 (rfl : 7 + 1 = 8) ?_
    refine r_last (f := h1.2.2.1 102) C1 dL_lacks_8 (rfl : 8 + 1 = 9) hO1 rfl (show ¬ ((0 : Int32) < 0 ∨ 1 ≤ (0 : Int32).toNatClampNeg) by decide) ?_
    change k_W X _ _ _ _ ad1 (k_out y.toInt64 h1) _ _ []
    refine r_goto (tgt := 15) C1 dL_lacks_9 (by decide) ?_
    refine r_iconst (v := (0 : Int32)) C1 dL_lacks_15 (rfl : 15 + 1 = 16) rfl ?_
    exact x_of_g (g_iret C1 hr (by omega) (by omega) (Or.inl ⟨y, h1, hRr1, rfl, rfl⟩) hsm1 dL_lacks_16)
def hh_can : List (Nat × Nat × Nat × Nat) := [(0, 10, 13, 32)]
set_option maxRecDepth 10000 in
theorem c_L_can (l : Launch) (h : k_H) {a0 a1 : Int32} {f nn mc ms : Nat} {Rr : Option Value → k_H → Prop} {Rx : String → k_H → Prop} (K : k_CX l yX10_can cX10_can 3 (some .int) f nn mc ms [.ref 0, .int a0, .int a1] h Rr Rx) (hX : h.1[0]? = some k_s0) (hO : h.1[102]? = some (4, 1, []))
    (hRr : ∀ v h1, Rr v h1 → (∃ y, v = some (.int y)) ∧ h1.1[102]? = some (4, 1, [])) (hRx : ∀ E h1, Rx E h1 → E = k_IOO) :
    k_CH l yL_can cL_can 5 (some .int) hh_can (f + 1) (nn + 60) mc ms [.ref 0, .int a0, .int a1, .ref 102] h (fun v h' => (∃ (y : Int32) (h1 : k_H), Rr (some (.int y)) h1 ∧ v = some (.int 0) ∧ h' = k_out y.toInt64 h1) ∨ (∃ (E : String) (h1 : k_H), Rx E h1 ∧ v = some (.int 1) ∧ h' = h1)) := by
  refine k_ofWH (by decide) (Nat.le_of_ble_eq_true rfl) ?_
  intro X ad hlX hR0 hr C hx
  subst hlX
  have hR : X.R.frames = f + 1 ∧ X.R.locals = nn + 60 := by rw [hR0]; exact ⟨rfl, rfl⟩
  have hRc : X.R.cells = mc := by rw [hR0]
  have hRs : X.R.slots = ms := by rw [hR0]
  show k_W X 5 0 0 _ ad h 0 [some (.ref 0), some (.int a0), some (.int a1), some (.ref 102), none] []
  refine r_aload_n C dL_can_0 (rfl : 0 + 1 = 1) rfl ?_
  refine r_iconst (v := (0 : Int32)) C dL_can_1 (rfl : 1 + 1 = 2) rfl ?_
  refine r_aload_n C dL_can_2 (rfl : 2 + 1 = 3) rfl ?_
  refine r_iload_n C dL_can_3 (rfl : 3 + 1 = 4) rfl ?_
  refine r_iload_n C dL_can_4 (rfl : 4 + 1 = 5) rfl ?_
  refine c_VX (As := [.int a0, .int a1]) (st := [.int (0 : Int32), .ref 102]) C hR ⟨by rw [hRc]; omega, by rw [hRs]; omega⟩ mv_X10_can (k_me (tm5 (List.mem_of_getElem? (i := 184) rfl)) rfl) dL_can_5 (rfl : 5 + 3 = 8) (k_bl (Nat.le_refl _)) (k_bl (by omega)) hX rfl K rfl rfl rfl ⟨k_okv_of hX, True.intro, True.intro, k_okv_of hO, True.intro⟩ ⟨True.intro, k_okv_of hO, True.intro⟩ ?_ ?_
  · intro E ad1 h1 hRx1 hsm1 C1
    obtain rfl := hRx E h1 hRx1
    refine x_catch C1 [] (⟨0, 10, 13, 32⟩ : ExceptionTableEntry) [] (by rw [hx]; rfl) (fun _ hz => nomatch hz) (by decide) (by decide) (k_me (tm5 (List.mem_of_getElem? (i := 91) rfl)) rfl) (k_SXof C1).2.2.2.2.2.1 ?_
    refine x_hand C1 dL_can_13 (rfl : 13 + 2 = 15) (by decide) (Nat.le_of_ble_eq_true rfl) rfl rfl rfl ?_
    refine r_iconst (v := (1 : Int32)) C1 dL_can_15 (rfl : 15 + 1 = 16) rfl ?_
    exact x_of_g (g_iret C1 hr (by omega) (by omega) (Or.inr ⟨_, h1, hRx1, rfl, rfl⟩) hsm1 dL_can_16)
  · intro v ad1 h1 hRr1 hsm1 C1
    obtain ⟨⟨y, rfl⟩, hO1⟩ := hRr v h1 hRr1
    change k_W X _ _ _ _ ad1 h1 _ _ [.int y, .int (0 : Int32), .ref 102]
    refine r_i2l C1 dL_can_8 (rfl : 8 + 1 = 9) ?_
    refine r_last (f := h1.2.2.1 102) C1 dL_can_9 (rfl : 9 + 1 = 10) hO1 rfl (show ¬ ((0 : Int32) < 0 ∨ 1 ≤ (0 : Int32).toNatClampNeg) by decide) ?_
    change k_W X _ _ _ _ ad1 (k_out y.toInt64 h1) _ _ []
    refine r_goto (tgt := 17) C1 dL_can_10 (by decide) ?_
    refine r_iconst (v := (0 : Int32)) C1 dL_can_17 (rfl : 17 + 1 = 18) rfl ?_
    exact x_of_g (g_iret C1 hr (by omega) (by omega) (Or.inl ⟨y, h1, hRr1, rfl, rfl⟩) hsm1 dL_can_18)
def hh_falls : List (Nat × Nat × Nat × Nat) := [(0, 17, 20, 32)]
set_option maxRecDepth 10000 in
theorem c_L_falls (l : Launch) (h : k_H) {a0 a1 : Int32} {f nn mc ms : Nat} {Rr : Option Value → k_H → Prop} {Rx : String → k_H → Prop} (K : k_CX l yX10_falls cX10_falls 3 (some .boolean) f nn mc ms [.ref 0, .int a0, .int a1] h Rr Rx) (hX : h.1[0]? = some k_s0) (hO : h.1[102]? = some (4, 1, []))
    (hRr : ∀ v h1, Rr v h1 → (∃ y, v = some (.int y)) ∧ h1.1[102]? = some (4, 1, [])) (hRx : ∀ E h1, Rx E h1 → E = k_IOO) :
    k_CH l yL_falls cL_falls 5 (some .int) hh_falls (f + 1) (nn + 60) mc ms [.ref 0, .int a0, .int a1, .ref 102] h (fun v h' => (∃ (y : Int32) (h1 : k_H), Rr (some (.int y)) h1 ∧ v = some (.int 0) ∧ h' = k_out (if y = 0 then (0 : Int64) else 1) h1) ∨ (∃ (E : String) (h1 : k_H), Rx E h1 ∧ v = some (.int 1) ∧ h' = h1)) := by
  refine k_ofWH (by decide) (Nat.le_of_ble_eq_true rfl) ?_
  intro X ad hlX hR0 hr C hx
  subst hlX
  have hR : X.R.frames = f + 1 ∧ X.R.locals = nn + 60 := by rw [hR0]; exact ⟨rfl, rfl⟩
  have hRc : X.R.cells = mc := by rw [hR0]
  have hRs : X.R.slots = ms := by rw [hR0]
  show k_W X 5 0 0 _ ad h 0 [some (.ref 0), some (.int a0), some (.int a1), some (.ref 102), none] []
  refine r_aload_n C dL_falls_0 (rfl : 0 + 1 = 1) rfl ?_
  refine r_iconst (v := (0 : Int32)) C dL_falls_1 (rfl : 1 + 1 = 2) rfl ?_
  refine r_aload_n C dL_falls_2 (rfl : 2 + 1 = 3) rfl ?_
  refine r_iload_n C dL_falls_3 (rfl : 3 + 1 = 4) rfl ?_
  refine r_iload_n C dL_falls_4 (rfl : 4 + 1 = 5) rfl ?_
  refine c_VX (As := [.int a0, .int a1]) (st := [.int (0 : Int32), .ref 102]) C hR ⟨by rw [hRc]; omega, by rw [hRs]; omega⟩ mv_X10_falls (k_me (tm5 (List.mem_of_getElem? (i := 192) rfl)) rfl) dL_falls_5 (rfl : 5 + 3 = 8) (k_bl (Nat.le_refl _)) (k_bl (by omega)) hX rfl K rfl rfl rfl ⟨k_okv_of hX, True.intro, True.intro, k_okv_of hO, True.intro⟩ ⟨True.intro, k_okv_of hO, True.intro⟩ ?_ ?_
  · intro E ad1 h1 hRx1 hsm1 C1
    obtain rfl := hRx E h1 hRx1
    refine x_catch C1 [] (⟨0, 17, 20, 32⟩ : ExceptionTableEntry) [] (by rw [hx]; rfl) (fun _ hz => nomatch hz) (by decide) (by decide) (k_me (tm5 (List.mem_of_getElem? (i := 91) rfl)) rfl) (k_SXof C1).2.2.2.2.2.1 ?_
    refine x_hand C1 dL_falls_20 (rfl : 20 + 2 = 22) (by decide) (Nat.le_of_ble_eq_true rfl) rfl rfl rfl ?_
    refine r_iconst (v := (1 : Int32)) C1 dL_falls_22 (rfl : 22 + 1 = 23) rfl ?_
    exact x_of_g (g_iret C1 hr (by omega) (by omega) (Or.inr ⟨_, h1, hRx1, rfl, rfl⟩) hsm1 dL_falls_23)
  · intro v ad1 h1 hRr1 hsm1 C1
    obtain ⟨⟨y, rfl⟩, hO1⟩ := hRr v h1 hRr1
    change k_W X _ _ _ _ ad1 h1 _ _ [.int y, .int (0 : Int32), .ref 102]
    refine r_if_eq (tgt := 15) C1 dL_falls_8 (by decide) (rfl : 8 + 3 = 11) (fun z => ?_) (fun z => ?_)
    · refine r_lconst (v := (0 : Int64)) C1 dL_falls_15 (rfl : 15 + 1 = 16) rfl ?_
      refine r_last (f := h1.2.2.1 102) C1 dL_falls_16 (rfl : 16 + 1 = 17) hO1 rfl (show ¬ ((0 : Int32) < 0 ∨ 1 ≤ (0 : Int32).toNatClampNeg) by decide) ?_
      change k_W X _ _ _ _ ad1 (k_out 0 h1) _ _ []
      refine r_goto (tgt := 24) C1 dL_falls_17 (by decide) ?_
      refine r_iconst (v := (0 : Int32)) C1 dL_falls_24 (rfl : 24 + 1 = 25) rfl ?_
      exact x_of_g (g_iret C1 hr (by omega) (by omega) (Or.inl ⟨y, h1, hRr1, rfl, by rw [if_pos z]⟩) hsm1 dL_falls_25)
    · refine r_lconst (v := (1 : Int64)) C1 dL_falls_11 (rfl : 11 + 1 = 12) rfl ?_
      refine r_goto (tgt := 16) C1 dL_falls_12 (by decide) ?_
      refine r_last (f := h1.2.2.1 102) C1 dL_falls_16 (rfl : 16 + 1 = 17) hO1 rfl (show ¬ ((0 : Int32) < 0 ∨ 1 ≤ (0 : Int32).toNatClampNeg) by decide) ?_
      change k_W X _ _ _ _ ad1 (k_out 1 h1) _ _ []
      refine r_goto (tgt := 24) C1 dL_falls_17 (by decide) ?_
      refine r_iconst (v := (0 : Int32)) C1 dL_falls_24 (rfl : 24 + 1 = 25) rfl ?_
      exact x_of_g (g_iret C1 hr (by omega) (by omega) (Or.inl ⟨y, h1, hRr1, rfl, by rw [if_neg z]⟩) hsm1 dL_falls_25)
def hh_risks : List (Nat × Nat × Nat × Nat) := [(0, 10, 13, 32)]
set_option maxRecDepth 10000 in
theorem c_L_risks (l : Launch) (h : k_H) {a0 a1 : Int32} {f nn mc ms : Nat} {Rr : Option Value → k_H → Prop} {Rx : String → k_H → Prop} (K : k_CX l yX10_risks cX10_risks 5 (some .int) f nn mc ms [.ref 0, .int a0, .int a1] h Rr Rx) (hX : h.1[0]? = some k_s0) (hO : h.1[102]? = some (4, 1, []))
    (hRr : ∀ v h1, Rr v h1 → (∃ y, v = some (.int y)) ∧ h1.1[102]? = some (4, 1, [])) (hRx : ∀ E h1, Rx E h1 → E = k_IOO) :
    k_CH l yL_risks cL_risks 5 (some .int) hh_risks (f + 1) (nn + 60) mc ms [.ref 0, .int a0, .int a1, .ref 102] h (fun v h' => (∃ (y : Int32) (h1 : k_H), Rr (some (.int y)) h1 ∧ v = some (.int 0) ∧ h' = k_out y.toInt64 h1) ∨ (∃ (E : String) (h1 : k_H), Rx E h1 ∧ v = some (.int 1) ∧ h' = h1)) := by
  refine k_ofWH (by decide) (Nat.le_of_ble_eq_true rfl) ?_
  intro X ad hlX hR0 hr C hx
  subst hlX
  have hR : X.R.frames = f + 1 ∧ X.R.locals = nn + 60 := by rw [hR0]; exact ⟨rfl, rfl⟩
  have hRc : X.R.cells = mc := by rw [hR0]
  have hRs : X.R.slots = ms := by rw [hR0]
  show k_W X 5 0 0 _ ad h 0 [some (.ref 0), some (.int a0), some (.int a1), some (.ref 102), none] []
  refine r_aload_n C dL_risks_0 (rfl : 0 + 1 = 1) rfl ?_
  refine r_iconst (v := (0 : Int32)) C dL_risks_1 (rfl : 1 + 1 = 2) rfl ?_
  refine r_aload_n C dL_risks_2 (rfl : 2 + 1 = 3) rfl ?_
  refine r_iload_n C dL_risks_3 (rfl : 3 + 1 = 4) rfl ?_
  refine r_iload_n C dL_risks_4 (rfl : 4 + 1 = 5) rfl ?_
  refine c_VX (As := [.int a0, .int a1]) (st := [.int (0 : Int32), .ref 102]) C hR ⟨by rw [hRc]; omega, by rw [hRs]; omega⟩ mv_X10_risks (k_me (tm5 (List.mem_of_getElem? (i := 203) rfl)) rfl) dL_risks_5 (rfl : 5 + 3 = 8) (k_bl (Nat.le_refl _)) (k_bl (by omega)) hX rfl K rfl rfl rfl ⟨k_okv_of hX, True.intro, True.intro, k_okv_of hO, True.intro⟩ ⟨True.intro, k_okv_of hO, True.intro⟩ ?_ ?_
  · intro E ad1 h1 hRx1 hsm1 C1
    obtain rfl := hRx E h1 hRx1
    refine x_catch C1 [] (⟨0, 10, 13, 32⟩ : ExceptionTableEntry) [] (by rw [hx]; rfl) (fun _ hz => nomatch hz) (by decide) (by decide) (k_me (tm5 (List.mem_of_getElem? (i := 91) rfl)) rfl) (k_SXof C1).2.2.2.2.2.1 ?_
    refine x_hand C1 dL_risks_13 (rfl : 13 + 2 = 15) (by decide) (Nat.le_of_ble_eq_true rfl) rfl rfl rfl ?_
    refine r_iconst (v := (1 : Int32)) C1 dL_risks_15 (rfl : 15 + 1 = 16) rfl ?_
    exact x_of_g (g_iret C1 hr (by omega) (by omega) (Or.inr ⟨_, h1, hRx1, rfl, rfl⟩) hsm1 dL_risks_16)
  · intro v ad1 h1 hRr1 hsm1 C1
    obtain ⟨⟨y, rfl⟩, hO1⟩ := hRr v h1 hRr1
    change k_W X _ _ _ _ ad1 h1 _ _ [.int y, .int (0 : Int32), .ref 102]
    refine r_i2l C1 dL_risks_8 (rfl : 8 + 1 = 9) ?_
    refine r_last (f := h1.2.2.1 102) C1 dL_risks_9 (rfl : 9 + 1 = 10) hO1 rfl (show ¬ ((0 : Int32) < 0 ∨ 1 ≤ (0 : Int32).toNatClampNeg) by decide) ?_
    change k_W X _ _ _ _ ad1 (k_out y.toInt64 h1) _ _ []
    refine r_goto (tgt := 17) C1 dL_risks_10 (by decide) ?_
    refine r_iconst (v := (0 : Int32)) C1 dL_risks_17 (rfl : 17 + 1 = 18) rfl ?_
    exact x_of_g (g_iret C1 hr (by omega) (by omega) (Or.inl ⟨y, h1, hRr1, rfl, rfl⟩) hsm1 dL_risks_18)
def hh_harm : List (Nat × Nat × Nat × Nat) := [(0, 10, 13, 32)]
set_option maxRecDepth 10000 in
theorem c_L_harm (l : Launch) (h : k_H) {a0 a1 : Int32} {f nn mc ms : Nat} {Rr : Option Value → k_H → Prop} {Rx : String → k_H → Prop} (K : k_CX l yX10_harm cX10_harm 3 (some .int) f nn mc ms [.ref 0, .int a0, .int a1] h Rr Rx) (hX : h.1[0]? = some k_s0) (hO : h.1[102]? = some (4, 1, []))
    (hRr : ∀ v h1, Rr v h1 → (∃ y, v = some (.int y)) ∧ h1.1[102]? = some (4, 1, [])) (hRx : ∀ E h1, Rx E h1 → E = k_IOO) :
    k_CH l yL_harm cL_harm 5 (some .int) hh_harm (f + 1) (nn + 60) mc ms [.ref 0, .int a0, .int a1, .ref 102] h (fun v h' => (∃ (y : Int32) (h1 : k_H), Rr (some (.int y)) h1 ∧ v = some (.int 0) ∧ h' = k_out y.toInt64 h1) ∨ (∃ (E : String) (h1 : k_H), Rx E h1 ∧ v = some (.int 1) ∧ h' = h1)) := by
  refine k_ofWH (by decide) (Nat.le_of_ble_eq_true rfl) ?_
  intro X ad hlX hR0 hr C hx
  subst hlX
  have hR : X.R.frames = f + 1 ∧ X.R.locals = nn + 60 := by rw [hR0]; exact ⟨rfl, rfl⟩
  have hRc : X.R.cells = mc := by rw [hR0]
  have hRs : X.R.slots = ms := by rw [hR0]
  show k_W X 5 0 0 _ ad h 0 [some (.ref 0), some (.int a0), some (.int a1), some (.ref 102), none] []
  refine r_aload_n C dL_harm_0 (rfl : 0 + 1 = 1) rfl ?_
  refine r_iconst (v := (0 : Int32)) C dL_harm_1 (rfl : 1 + 1 = 2) rfl ?_
  refine r_aload_n C dL_harm_2 (rfl : 2 + 1 = 3) rfl ?_
  refine r_iload_n C dL_harm_3 (rfl : 3 + 1 = 4) rfl ?_
  refine r_iload_n C dL_harm_4 (rfl : 4 + 1 = 5) rfl ?_
  refine c_VX (As := [.int a0, .int a1]) (st := [.int (0 : Int32), .ref 102]) C hR ⟨by rw [hRc]; omega, by rw [hRs]; omega⟩ mv_X10_harm (k_me (tm5 (List.mem_of_getElem? (i := 217) rfl)) rfl) dL_harm_5 (rfl : 5 + 3 = 8) (k_bl (Nat.le_refl _)) (k_bl (by omega)) hX rfl K rfl rfl rfl ⟨k_okv_of hX, True.intro, True.intro, k_okv_of hO, True.intro⟩ ⟨True.intro, k_okv_of hO, True.intro⟩ ?_ ?_
  · intro E ad1 h1 hRx1 hsm1 C1
    obtain rfl := hRx E h1 hRx1
    refine x_catch C1 [] (⟨0, 10, 13, 32⟩ : ExceptionTableEntry) [] (by rw [hx]; rfl) (fun _ hz => nomatch hz) (by decide) (by decide) (k_me (tm5 (List.mem_of_getElem? (i := 91) rfl)) rfl) (k_SXof C1).2.2.2.2.2.1 ?_
    refine x_hand C1 dL_harm_13 (rfl : 13 + 2 = 15) (by decide) (Nat.le_of_ble_eq_true rfl) rfl rfl rfl ?_
    refine r_iconst (v := (1 : Int32)) C1 dL_harm_15 (rfl : 15 + 1 = 16) rfl ?_
    exact x_of_g (g_iret C1 hr (by omega) (by omega) (Or.inr ⟨_, h1, hRx1, rfl, rfl⟩) hsm1 dL_harm_16)
  · intro v ad1 h1 hRr1 hsm1 C1
    obtain ⟨⟨y, rfl⟩, hO1⟩ := hRr v h1 hRr1
    change k_W X _ _ _ _ ad1 h1 _ _ [.int y, .int (0 : Int32), .ref 102]
    refine r_i2l C1 dL_harm_8 (rfl : 8 + 1 = 9) ?_
    refine r_last (f := h1.2.2.1 102) C1 dL_harm_9 (rfl : 9 + 1 = 10) hO1 rfl (show ¬ ((0 : Int32) < 0 ∨ 1 ≤ (0 : Int32).toNatClampNeg) by decide) ?_
    change k_W X _ _ _ _ ad1 (k_out y.toInt64 h1) _ _ []
    refine r_goto (tgt := 17) C1 dL_harm_10 (by decide) ?_
    refine r_iconst (v := (0 : Int32)) C1 dL_harm_17 (rfl : 17 + 1 = 18) rfl ?_
    exact x_of_g (g_iret C1 hr (by omega) (by omega) (Or.inl ⟨y, h1, hRr1, rfl, rfl⟩) hsm1 dL_harm_18)
def hh_best : List (Nat × Nat × Nat × Nat) := [(0, 9, 12, 13)]
set_option maxRecDepth 10000 in
theorem c_L_best (l : Launch) (h : k_H) {a0 a1 : Int32} {f nn mc ms : Nat} {Rr : Option Value → k_H → Prop} {Rx : String → k_H → Prop} (K : k_CX l yX10_best cX10_best 3 (some .long) f nn mc ms [.ref 0, .int a0, .int a1] h Rr Rx) (hX : h.1[0]? = some k_s0) (hO : h.1[102]? = some (4, 1, []))
    (hRr : ∀ v h1, Rr v h1 → (∃ y, v = some (.long y)) ∧ h1.1[102]? = some (4, 1, [])) (hRx : ∀ E h1, Rx E h1 → E = k_IAE) :
    k_CH l yL_best cL_best 5 (some .int) hh_best (f + 1) (nn + 60) mc ms [.ref 0, .int a0, .int a1, .ref 102] h (fun v h' => (∃ (y : Int64) (h1 : k_H), Rr (some (.long y)) h1 ∧ v = some (.int 0) ∧ h' = k_out y h1) ∨ (∃ (E : String) (h1 : k_H), Rx E h1 ∧ v = some (.int 1) ∧ h' = h1)) := by
  refine k_ofWH (by decide) (Nat.le_of_ble_eq_true rfl) ?_
  intro X ad hlX hR0 hr C hx
  subst hlX
  have hR : X.R.frames = f + 1 ∧ X.R.locals = nn + 60 := by rw [hR0]; exact ⟨rfl, rfl⟩
  have hRc : X.R.cells = mc := by rw [hR0]
  have hRs : X.R.slots = ms := by rw [hR0]
  show k_W X 5 0 0 _ ad h 0 [some (.ref 0), some (.int a0), some (.int a1), some (.ref 102), none] []
  refine r_aload_n C dL_best_0 (rfl : 0 + 1 = 1) rfl ?_
  refine r_iconst (v := (0 : Int32)) C dL_best_1 (rfl : 1 + 1 = 2) rfl ?_
  refine r_aload_n C dL_best_2 (rfl : 2 + 1 = 3) rfl ?_
  refine r_iload_n C dL_best_3 (rfl : 3 + 1 = 4) rfl ?_
  refine r_iload_n C dL_best_4 (rfl : 4 + 1 = 5) rfl ?_
  refine c_VX (As := [.int a0, .int a1]) (st := [.int (0 : Int32), .ref 102]) C hR ⟨by rw [hRc]; omega, by rw [hRs]; omega⟩ mv_X10_best (k_me (tm5 (List.mem_of_getElem? (i := 225) rfl)) rfl) dL_best_5 (rfl : 5 + 3 = 8) (k_bl (Nat.le_refl _)) (k_bl (by omega)) hX rfl K rfl rfl rfl ⟨k_okv_of hX, True.intro, True.intro, k_okv_of hO, True.intro⟩ ⟨True.intro, k_okv_of hO, True.intro⟩ ?_ ?_
  · intro E ad1 h1 hRx1 hsm1 C1
    obtain rfl := hRx E h1 hRx1
    refine x_catch C1 [] (⟨0, 9, 12, 13⟩ : ExceptionTableEntry) [] (by rw [hx]; rfl) (fun _ hz => nomatch hz) (by decide) (by decide) (k_me (tm3 (List.mem_of_getElem? (i := 132) rfl)) rfl) (k_SXof C1).2.2.2.1 ?_
    refine x_hand C1 dL_best_12 (rfl : 12 + 2 = 14) (by decide) (Nat.le_of_ble_eq_true rfl) rfl rfl rfl ?_
    refine r_iconst (v := (1 : Int32)) C1 dL_best_14 (rfl : 14 + 1 = 15) rfl ?_
    exact x_of_g (g_iret C1 hr (by omega) (by omega) (Or.inr ⟨_, h1, hRx1, rfl, rfl⟩) hsm1 dL_best_15)
  · intro v ad1 h1 hRr1 hsm1 C1
    obtain ⟨⟨y, rfl⟩, hO1⟩ := hRr v h1 hRr1
    change k_W X _ _ _ _ ad1 h1 _ _ [.long y, .int (0 : Int32), .ref 102]
    refine r_last (f := h1.2.2.1 102) C1 dL_best_8 (rfl : 8 + 1 = 9) hO1 rfl (show ¬ ((0 : Int32) < 0 ∨ 1 ≤ (0 : Int32).toNatClampNeg) by decide) ?_
    change k_W X _ _ _ _ ad1 (k_out y h1) _ _ []
    refine r_goto (tgt := 16) C1 dL_best_9 (by decide) ?_
    refine r_iconst (v := (0 : Int32)) C1 dL_best_16 (rfl : 16 + 1 = 17) rfl ?_
    exact x_of_g (g_iret C1 hr (by omega) (by omega) (Or.inl ⟨y, h1, hRr1, rfl, rfl⟩) hsm1 dL_best_17)
def hh_way : List (Nat × Nat × Nat × Nat) := [(0, 12, 15, 32), (0, 12, 19, 13)]
set_option maxRecDepth 10000 in
theorem c_L_way (l : Launch) (h : k_H) {a0 a1 a2 : Int32} {f nn mc ms : Nat} {Rr : Option Value → k_H → Prop} {Rx : String → k_H → Prop} (K : k_CX l yX10_way cX10_way 5 (some .int) f nn mc ms [.ref 0, .int a0, .int a1, .int a2] h Rr Rx) (hX : h.1[0]? = some k_s0) (hO : h.1[102]? = some (4, 1, []))
    (hRr : ∀ v h1, Rr v h1 → (∃ y, v = some (.int y)) ∧ h1.1[102]? = some (4, 1, [])) (hRx : ∀ E h1, Rx E h1 → E = k_IOO ∨ E = k_IAE) :
    k_CH l yL_way cL_way 6 (some .int) hh_way (f + 1) (nn + 60) mc ms [.ref 0, .int a0, .int a1, .int a2, .ref 102] h (fun v h' => (∃ (y : Int32) (h1 : k_H), Rr (some (.int y)) h1 ∧ v = some (.int 0) ∧ h' = k_out y.toInt64 h1) ∨ (∃ (E : String) (h1 : k_H), Rx E h1 ∧ ((E = k_IOO ∧ v = some (.int 1) ∧ h' = h1) ∨ (E = k_IAE ∧ v = some (.int 2) ∧ h' = h1)))) := by
  refine k_ofWH (by decide) (Nat.le_of_ble_eq_true rfl) ?_
  intro X ad hlX hR0 hr C hx
  subst hlX
  have hR : X.R.frames = f + 1 ∧ X.R.locals = nn + 60 := by rw [hR0]; exact ⟨rfl, rfl⟩
  have hRc : X.R.cells = mc := by rw [hR0]
  have hRs : X.R.slots = ms := by rw [hR0]
  show k_W X 6 0 0 _ ad h 0 [some (.ref 0), some (.int a0), some (.int a1), some (.int a2), some (.ref 102), none] []
  refine r_aload C dL_way_0 (rfl : 0 + 2 = 2) rfl ?_
  refine r_iconst (v := (0 : Int32)) C dL_way_2 (rfl : 2 + 1 = 3) rfl ?_
  refine r_aload_n C dL_way_3 (rfl : 3 + 1 = 4) rfl ?_
  refine r_iload_n C dL_way_4 (rfl : 4 + 1 = 5) rfl ?_
  refine r_iload_n C dL_way_5 (rfl : 5 + 1 = 6) rfl ?_
  refine r_iload_n C dL_way_6 (rfl : 6 + 1 = 7) rfl ?_
  refine c_VX (As := [.int a0, .int a1, .int a2]) (st := [.int (0 : Int32), .ref 102]) C hR ⟨by rw [hRc]; omega, by rw [hRs]; omega⟩ mv_X10_way (k_me (tm6 (List.mem_of_getElem? (i := 13) rfl)) rfl) dL_way_7 (rfl : 7 + 3 = 10) (k_bl (Nat.le_refl _)) (k_bl (by omega)) hX rfl K rfl rfl rfl ⟨k_okv_of hX, True.intro, True.intro, True.intro, k_okv_of hO, True.intro⟩ ⟨True.intro, k_okv_of hO, True.intro⟩ ?_ ?_
  · intro E ad1 h1 hRx1 hsm1 C1
    rcases hRx E h1 hRx1 with rfl | rfl
    · refine x_catch C1 [] (⟨0, 12, 15, 32⟩ : ExceptionTableEntry) [(⟨0, 12, 19, 13⟩ : ExceptionTableEntry)] (by rw [hx]; rfl) (fun _ hz => nomatch hz) (by decide) (by decide) (k_me (tm5 (List.mem_of_getElem? (i := 91) rfl)) rfl) (k_SXof C1).2.2.2.2.2.1 ?_
      refine x_hand C1 dL_way_15 (rfl : 15 + 2 = 17) (by decide) (Nat.le_of_ble_eq_true rfl) rfl rfl rfl ?_
      refine r_iconst (v := (1 : Int32)) C1 dL_way_17 (rfl : 17 + 1 = 18) rfl ?_
      exact x_of_g (g_iret C1 hr (by omega) (by omega) (Or.inr ⟨_, h1, hRx1, Or.inl ⟨rfl, rfl, rfl⟩⟩) hsm1 dL_way_18)
    · refine x_catch C1 [(⟨0, 12, 15, 32⟩ : ExceptionTableEntry)] (⟨0, 12, 19, 13⟩ : ExceptionTableEntry) [] (by rw [hx]; rfl) (fun z hz => by rw [List.mem_singleton] at hz; subst hz; exact Or.inr ⟨by decide, _, (k_me (tm5 (List.mem_of_getElem? (i := 91) rfl)) rfl), (k_SXof C1).2.1⟩) (by decide) (by decide) (k_me (tm3 (List.mem_of_getElem? (i := 132) rfl)) rfl) (k_SXof C1).2.2.2.1 ?_
      refine x_hand C1 dL_way_19 (rfl : 19 + 2 = 21) (by decide) (Nat.le_of_ble_eq_true rfl) rfl rfl rfl ?_
      refine r_iconst (v := (2 : Int32)) C1 dL_way_21 (rfl : 21 + 1 = 22) rfl ?_
      exact x_of_g (g_iret C1 hr (by omega) (by omega) (Or.inr ⟨_, h1, hRx1, Or.inr ⟨rfl, rfl, rfl⟩⟩) hsm1 dL_way_22)
  · intro v ad1 h1 hRr1 hsm1 C1
    obtain ⟨⟨y, rfl⟩, hO1⟩ := hRr v h1 hRr1
    change k_W X _ _ _ _ ad1 h1 _ _ [.int y, .int (0 : Int32), .ref 102]
    refine r_i2l C1 dL_way_10 (rfl : 10 + 1 = 11) ?_
    refine r_last (f := h1.2.2.1 102) C1 dL_way_11 (rfl : 11 + 1 = 12) hO1 rfl (show ¬ ((0 : Int32) < 0 ∨ 1 ≤ (0 : Int32).toNatClampNeg) by decide) ?_
    change k_W X _ _ _ _ ad1 (k_out y.toInt64 h1) _ _ []
    refine r_goto (tgt := 23) C1 dL_way_12 (by decide) ?_
    refine r_iconst (v := (0 : Int32)) C1 dL_way_23 (rfl : 23 + 1 = 24) rfl ?_
    exact x_of_g (g_iret C1 hr (by omega) (by omega) (Or.inl ⟨y, h1, hRr1, rfl, rfl⟩) hsm1 dL_way_24)
def hh_hold : List (Nat × Nat × Nat × Nat) := [(0, 8, 11, 13)]
set_option maxRecDepth 10000 in
theorem c_L_hold (l : Launch) (h : k_H) {a0 : Int32} {f nn mc ms : Nat} {Rr : Option Value → k_H → Prop} {Rx : String → k_H → Prop} (K : k_CX l yX10_hold cX10_hold 2 (some .long) f nn mc ms [.ref 0, .int a0] h Rr Rx) (hX : h.1[0]? = some k_s0) (hO : h.1[102]? = some (4, 1, []))
    (hRr : ∀ v h1, Rr v h1 → (∃ y, v = some (.long y)) ∧ h1.1[102]? = some (4, 1, [])) (hRx : ∀ E h1, Rx E h1 → E = k_IAE) :
    k_CH l yL_hold cL_hold 4 (some .int) hh_hold (f + 1) (nn + 60) mc ms [.ref 0, .int a0, .ref 102] h (fun v h' => (∃ (y : Int64) (h1 : k_H), Rr (some (.long y)) h1 ∧ v = some (.int 0) ∧ h' = k_out y h1) ∨ (∃ (E : String) (h1 : k_H), Rx E h1 ∧ v = some (.int 1) ∧ h' = h1)) := by
  refine k_ofWH (by decide) (Nat.le_of_ble_eq_true rfl) ?_
  intro X ad hlX hR0 hr C hx
  subst hlX
  have hR : X.R.frames = f + 1 ∧ X.R.locals = nn + 60 := by rw [hR0]; exact ⟨rfl, rfl⟩
  have hRc : X.R.cells = mc := by rw [hR0]
  have hRs : X.R.slots = ms := by rw [hR0]
  show k_W X 4 0 0 _ ad h 0 [some (.ref 0), some (.int a0), some (.ref 102), none] []
  refine r_aload_n C dL_hold_0 (rfl : 0 + 1 = 1) rfl ?_
  refine r_iconst (v := (0 : Int32)) C dL_hold_1 (rfl : 1 + 1 = 2) rfl ?_
  refine r_aload_n C dL_hold_2 (rfl : 2 + 1 = 3) rfl ?_
  refine r_iload_n C dL_hold_3 (rfl : 3 + 1 = 4) rfl ?_
  refine c_VX (As := [.int a0]) (st := [.int (0 : Int32), .ref 102]) C hR ⟨by rw [hRc]; omega, by rw [hRs]; omega⟩ mv_X10_hold (k_me (tm6 (List.mem_of_getElem? (i := 40) rfl)) rfl) dL_hold_4 (rfl : 4 + 3 = 7) (k_bl (Nat.le_refl _)) (k_bl (by omega)) hX rfl K rfl rfl rfl ⟨k_okv_of hX, True.intro, k_okv_of hO, True.intro⟩ ⟨True.intro, k_okv_of hO, True.intro⟩ ?_ ?_
  · intro E ad1 h1 hRx1 hsm1 C1
    obtain rfl := hRx E h1 hRx1
    refine x_catch C1 [] (⟨0, 8, 11, 13⟩ : ExceptionTableEntry) [] (by rw [hx]; rfl) (fun _ hz => nomatch hz) (by decide) (by decide) (k_me (tm3 (List.mem_of_getElem? (i := 132) rfl)) rfl) (k_SXof C1).2.2.2.1 ?_
    refine x_hand_n C1 dL_hold_11 (rfl : 11 + 1 = 12) (by decide) (Nat.le_of_ble_eq_true rfl) rfl rfl rfl ?_
    refine r_iconst (v := (1 : Int32)) C1 dL_hold_12 (rfl : 12 + 1 = 13) rfl ?_
    exact x_of_g (g_iret C1 hr (by omega) (by omega) (Or.inr ⟨_, h1, hRx1, rfl, rfl⟩) hsm1 dL_hold_13)
  · intro v ad1 h1 hRr1 hsm1 C1
    obtain ⟨⟨y, rfl⟩, hO1⟩ := hRr v h1 hRr1
    change k_W X _ _ _ _ ad1 h1 _ _ [.long y, .int (0 : Int32), .ref 102]
    refine r_last (f := h1.2.2.1 102) C1 dL_hold_7 (rfl : 7 + 1 = 8) hO1 rfl (show ¬ ((0 : Int32) < 0 ∨ 1 ≤ (0 : Int32).toNatClampNeg) by decide) ?_
    change k_W X _ _ _ _ ad1 (k_out y h1) _ _ []
    refine r_goto (tgt := 14) C1 dL_hold_8 (by decide) ?_
    refine r_iconst (v := (0 : Int32)) C1 dL_hold_14 (rfl : 14 + 1 = 15) rfl ?_
    exact x_of_g (g_iret C1 hr (by omega) (by omega) (Or.inl ⟨y, h1, hRr1, rfl, rfl⟩) hsm1 dL_hold_15)
def hh_fill : List (Nat × Nat × Nat × Nat) := [(0, 9, 12, 13)]
set_option maxRecDepth 10000 in
theorem c_L_fill (l : Launch) (h : k_H) {a0 : Int32} {f nn mc ms : Nat} {Rr : Option Value → k_H → Prop} {Rx : String → k_H → Prop} (K : k_CX l yX10_fill cX10_fill 2 (some .int) f nn mc ms [.ref 0, .int a0] h Rr Rx) (hX : h.1[0]? = some k_s0) (hO : h.1[102]? = some (4, 1, []))
    (hRr : ∀ v h1, Rr v h1 → (∃ y, v = some (.int y)) ∧ h1.1[102]? = some (4, 1, [])) (hRx : ∀ E h1, Rx E h1 → E = k_IAE) :
    k_CH l yL_fill cL_fill 4 (some .int) hh_fill (f + 1) (nn + 60) mc ms [.ref 0, .int a0, .ref 102] h (fun v h' => (∃ (y : Int32) (h1 : k_H), Rr (some (.int y)) h1 ∧ v = some (.int 0) ∧ h' = k_out y.toInt64 h1) ∨ (∃ (E : String) (h1 : k_H), Rx E h1 ∧ v = some (.int 1) ∧ h' = h1)) := by
  refine k_ofWH (by decide) (Nat.le_of_ble_eq_true rfl) ?_
  intro X ad hlX hR0 hr C hx
  subst hlX
  have hR : X.R.frames = f + 1 ∧ X.R.locals = nn + 60 := by rw [hR0]; exact ⟨rfl, rfl⟩
  have hRc : X.R.cells = mc := by rw [hR0]
  have hRs : X.R.slots = ms := by rw [hR0]
  show k_W X 4 0 0 _ ad h 0 [some (.ref 0), some (.int a0), some (.ref 102), none] []
  refine r_aload_n C dL_fill_0 (rfl : 0 + 1 = 1) rfl ?_
  refine r_iconst (v := (0 : Int32)) C dL_fill_1 (rfl : 1 + 1 = 2) rfl ?_
  refine r_aload_n C dL_fill_2 (rfl : 2 + 1 = 3) rfl ?_
  refine r_iload_n C dL_fill_3 (rfl : 3 + 1 = 4) rfl ?_
  refine c_VX (As := [.int a0]) (st := [.int (0 : Int32), .ref 102]) C hR ⟨by rw [hRc]; omega, by rw [hRs]; omega⟩ mv_X10_fill (k_me (tm6 (List.mem_of_getElem? (i := 70) rfl)) rfl) dL_fill_4 (rfl : 4 + 3 = 7) (k_bl (Nat.le_refl _)) (k_bl (by omega)) hX rfl K rfl rfl rfl ⟨k_okv_of hX, True.intro, k_okv_of hO, True.intro⟩ ⟨True.intro, k_okv_of hO, True.intro⟩ ?_ ?_
  · intro E ad1 h1 hRx1 hsm1 C1
    obtain rfl := hRx E h1 hRx1
    refine x_catch C1 [] (⟨0, 9, 12, 13⟩ : ExceptionTableEntry) [] (by rw [hx]; rfl) (fun _ hz => nomatch hz) (by decide) (by decide) (k_me (tm3 (List.mem_of_getElem? (i := 132) rfl)) rfl) (k_SXof C1).2.2.2.1 ?_
    refine x_hand_n C1 dL_fill_12 (rfl : 12 + 1 = 13) (by decide) (Nat.le_of_ble_eq_true rfl) rfl rfl rfl ?_
    refine r_iconst (v := (1 : Int32)) C1 dL_fill_13 (rfl : 13 + 1 = 14) rfl ?_
    exact x_of_g (g_iret C1 hr (by omega) (by omega) (Or.inr ⟨_, h1, hRx1, rfl, rfl⟩) hsm1 dL_fill_14)
  · intro v ad1 h1 hRr1 hsm1 C1
    obtain ⟨⟨y, rfl⟩, hO1⟩ := hRr v h1 hRr1
    change k_W X _ _ _ _ ad1 h1 _ _ [.int y, .int (0 : Int32), .ref 102]
    refine r_i2l C1 dL_fill_7 (rfl : 7 + 1 = 8) ?_
    refine r_last (f := h1.2.2.1 102) C1 dL_fill_8 (rfl : 8 + 1 = 9) hO1 rfl (show ¬ ((0 : Int32) < 0 ∨ 1 ≤ (0 : Int32).toNatClampNeg) by decide) ?_
    change k_W X _ _ _ _ ad1 (k_out y.toInt64 h1) _ _ []
    refine r_goto (tgt := 15) C1 dL_fill_9 (by decide) ?_
    refine r_iconst (v := (0 : Int32)) C1 dL_fill_15 (rfl : 15 + 1 = 16) rfl ?_
    exact x_of_g (g_iret C1 hr (by omega) (by omega) (Or.inl ⟨y, h1, hRr1, rfl, rfl⟩) hsm1 dL_fill_16)
def hh_tap : List (Nat × Nat × Nat × Nat) := [(0, 9, 12, 13)]
set_option maxRecDepth 10000 in
theorem c_L_tap (l : Launch) (h : k_H) {a0 : Int32} {f nn mc ms : Nat} {Rr : Option Value → k_H → Prop} {Rx : String → k_H → Prop} (K : k_CX l yX10_tap cX10_tap 2 (some .int) f nn mc ms [.ref 0, .int a0] h Rr Rx) (hX : h.1[0]? = some k_s0) (hO : h.1[102]? = some (4, 1, []))
    (hRr : ∀ v h1, Rr v h1 → (∃ y, v = some (.int y)) ∧ h1.1[102]? = some (4, 1, [])) (hRx : ∀ E h1, Rx E h1 → E = k_IAE) :
    k_CH l yL_tap cL_tap 4 (some .int) hh_tap (f + 1) (nn + 60) mc ms [.ref 0, .int a0, .ref 102] h (fun v h' => (∃ (y : Int32) (h1 : k_H), Rr (some (.int y)) h1 ∧ v = some (.int 0) ∧ h' = k_out y.toInt64 h1) ∨ (∃ (E : String) (h1 : k_H), Rx E h1 ∧ v = some (.int 1) ∧ h' = h1)) := by
  refine k_ofWH (by decide) (Nat.le_of_ble_eq_true rfl) ?_
  intro X ad hlX hR0 hr C hx
  subst hlX
  have hR : X.R.frames = f + 1 ∧ X.R.locals = nn + 60 := by rw [hR0]; exact ⟨rfl, rfl⟩
  have hRc : X.R.cells = mc := by rw [hR0]
  have hRs : X.R.slots = ms := by rw [hR0]
  show k_W X 4 0 0 _ ad h 0 [some (.ref 0), some (.int a0), some (.ref 102), none] []
  refine r_aload_n C dL_tap_0 (rfl : 0 + 1 = 1) rfl ?_
  refine r_iconst (v := (0 : Int32)) C dL_tap_1 (rfl : 1 + 1 = 2) rfl ?_
  refine r_aload_n C dL_tap_2 (rfl : 2 + 1 = 3) rfl ?_
  refine r_iload_n C dL_tap_3 (rfl : 3 + 1 = 4) rfl ?_
  refine c_VX (As := [.int a0]) (st := [.int (0 : Int32), .ref 102]) C hR ⟨by rw [hRc]; omega, by rw [hRs]; omega⟩ mv_X10_tap (k_me (tm6 (List.mem_of_getElem? (i := 87) rfl)) rfl) dL_tap_4 (rfl : 4 + 3 = 7) (k_bl (Nat.le_refl _)) (k_bl (by omega)) hX rfl K rfl rfl rfl ⟨k_okv_of hX, True.intro, k_okv_of hO, True.intro⟩ ⟨True.intro, k_okv_of hO, True.intro⟩ ?_ ?_
  · intro E ad1 h1 hRx1 hsm1 C1
    obtain rfl := hRx E h1 hRx1
    refine x_catch C1 [] (⟨0, 9, 12, 13⟩ : ExceptionTableEntry) [] (by rw [hx]; rfl) (fun _ hz => nomatch hz) (by decide) (by decide) (k_me (tm3 (List.mem_of_getElem? (i := 132) rfl)) rfl) (k_SXof C1).2.2.2.1 ?_
    refine x_hand_n C1 dL_tap_12 (rfl : 12 + 1 = 13) (by decide) (Nat.le_of_ble_eq_true rfl) rfl rfl rfl ?_
    refine r_iconst (v := (1 : Int32)) C1 dL_tap_13 (rfl : 13 + 1 = 14) rfl ?_
    exact x_of_g (g_iret C1 hr (by omega) (by omega) (Or.inr ⟨_, h1, hRx1, rfl, rfl⟩) hsm1 dL_tap_14)
  · intro v ad1 h1 hRr1 hsm1 C1
    obtain ⟨⟨y, rfl⟩, hO1⟩ := hRr v h1 hRr1
    change k_W X _ _ _ _ ad1 h1 _ _ [.int y, .int (0 : Int32), .ref 102]
    refine r_i2l C1 dL_tap_7 (rfl : 7 + 1 = 8) ?_
    refine r_last (f := h1.2.2.1 102) C1 dL_tap_8 (rfl : 8 + 1 = 9) hO1 rfl (show ¬ ((0 : Int32) < 0 ∨ 1 ≤ (0 : Int32).toNatClampNeg) by decide) ?_
    change k_W X _ _ _ _ ad1 (k_out y.toInt64 h1) _ _ []
    refine r_goto (tgt := 15) C1 dL_tap_9 (by decide) ?_
    refine r_iconst (v := (0 : Int32)) C1 dL_tap_15 (rfl : 15 + 1 = 16) rfl ?_
    exact x_of_g (g_iret C1 hr (by omega) (by omega) (Or.inl ⟨y, h1, hRr1, rfl, rfl⟩) hsm1 dL_tap_16)
def hh_moved : List (Nat × Nat × Nat × Nat) := [(0, 10, 13, 13)]
set_option maxRecDepth 10000 in
theorem c_L_moved (l : Launch) (h : k_H) {a0 a1 : Int32} {f nn mc ms : Nat} {Rr : Option Value → k_H → Prop} {Rx : String → k_H → Prop} (K : k_CX l yX10_moved cX10_moved 3 (some .int) f nn mc ms [.ref 0, .int a0, .int a1] h Rr Rx) (hX : h.1[0]? = some k_s0) (hO : h.1[102]? = some (4, 1, []))
    (hRr : ∀ v h1, Rr v h1 → (∃ y, v = some (.int y)) ∧ h1.1[102]? = some (4, 1, [])) (hRx : ∀ E h1, Rx E h1 → E = k_IAE) :
    k_CH l yL_moved cL_moved 5 (some .int) hh_moved (f + 1) (nn + 60) mc ms [.ref 0, .int a0, .int a1, .ref 102] h (fun v h' => (∃ (y : Int32) (h1 : k_H), Rr (some (.int y)) h1 ∧ v = some (.int 0) ∧ h' = k_out y.toInt64 h1) ∨ (∃ (E : String) (h1 : k_H), Rx E h1 ∧ v = some (.int 1) ∧ h' = h1)) := by
  refine k_ofWH (by decide) (Nat.le_of_ble_eq_true rfl) ?_
  intro X ad hlX hR0 hr C hx
  subst hlX
  have hR : X.R.frames = f + 1 ∧ X.R.locals = nn + 60 := by rw [hR0]; exact ⟨rfl, rfl⟩
  have hRc : X.R.cells = mc := by rw [hR0]
  have hRs : X.R.slots = ms := by rw [hR0]
  show k_W X 5 0 0 _ ad h 0 [some (.ref 0), some (.int a0), some (.int a1), some (.ref 102), none] []
  refine r_aload_n C dL_moved_0 (rfl : 0 + 1 = 1) rfl ?_
  refine r_iconst (v := (0 : Int32)) C dL_moved_1 (rfl : 1 + 1 = 2) rfl ?_
  refine r_aload_n C dL_moved_2 (rfl : 2 + 1 = 3) rfl ?_
  refine r_iload_n C dL_moved_3 (rfl : 3 + 1 = 4) rfl ?_
  refine r_iload_n C dL_moved_4 (rfl : 4 + 1 = 5) rfl ?_
  refine c_VX (As := [.int a0, .int a1]) (st := [.int (0 : Int32), .ref 102]) C hR ⟨by rw [hRc]; omega, by rw [hRs]; omega⟩ mv_X10_moved (k_me (tm6 (List.mem_of_getElem? (i := 99) rfl)) rfl) dL_moved_5 (rfl : 5 + 3 = 8) (k_bl (Nat.le_refl _)) (k_bl (by omega)) hX rfl K rfl rfl rfl ⟨k_okv_of hX, True.intro, True.intro, k_okv_of hO, True.intro⟩ ⟨True.intro, k_okv_of hO, True.intro⟩ ?_ ?_
  · intro E ad1 h1 hRx1 hsm1 C1
    obtain rfl := hRx E h1 hRx1
    refine x_catch C1 [] (⟨0, 10, 13, 13⟩ : ExceptionTableEntry) [] (by rw [hx]; rfl) (fun _ hz => nomatch hz) (by decide) (by decide) (k_me (tm3 (List.mem_of_getElem? (i := 132) rfl)) rfl) (k_SXof C1).2.2.2.1 ?_
    refine x_hand C1 dL_moved_13 (rfl : 13 + 2 = 15) (by decide) (Nat.le_of_ble_eq_true rfl) rfl rfl rfl ?_
    refine r_iconst (v := (1 : Int32)) C1 dL_moved_15 (rfl : 15 + 1 = 16) rfl ?_
    exact x_of_g (g_iret C1 hr (by omega) (by omega) (Or.inr ⟨_, h1, hRx1, rfl, rfl⟩) hsm1 dL_moved_16)
  · intro v ad1 h1 hRr1 hsm1 C1
    obtain ⟨⟨y, rfl⟩, hO1⟩ := hRr v h1 hRr1
    change k_W X _ _ _ _ ad1 h1 _ _ [.int y, .int (0 : Int32), .ref 102]
    refine r_i2l C1 dL_moved_8 (rfl : 8 + 1 = 9) ?_
    refine r_last (f := h1.2.2.1 102) C1 dL_moved_9 (rfl : 9 + 1 = 10) hO1 rfl (show ¬ ((0 : Int32) < 0 ∨ 1 ≤ (0 : Int32).toNatClampNeg) by decide) ?_
    change k_W X _ _ _ _ ad1 (k_out y.toInt64 h1) _ _ []
    refine r_goto (tgt := 17) C1 dL_moved_10 (by decide) ?_
    refine r_iconst (v := (0 : Int32)) C1 dL_moved_17 (rfl : 17 + 1 = 18) rfl ?_
    exact x_of_g (g_iret C1 hr (by omega) (by omega) (Or.inl ⟨y, h1, hRr1, rfl, rfl⟩) hsm1 dL_moved_18)
def hh_next : List (Nat × Nat × Nat × Nat) := [(0, 9, 12, 13)]
set_option maxRecDepth 10000 in
theorem c_L_next (l : Launch) (h : k_H) {a0 : Int32} {f nn mc ms : Nat} {Rr : Option Value → k_H → Prop} {Rx : String → k_H → Prop} (K : k_CX l yX10_next cX10_next 2 (some .int) f nn mc ms [.ref 0, .int a0] h Rr Rx) (hX : h.1[0]? = some k_s0) (hO : h.1[102]? = some (4, 1, []))
    (hRr : ∀ v h1, Rr v h1 → (∃ y, v = some (.int y)) ∧ h1.1[102]? = some (4, 1, [])) (hRx : ∀ E h1, Rx E h1 → E = k_IAE) :
    k_CH l yL_next cL_next 4 (some .int) hh_next (f + 1) (nn + 60) mc ms [.ref 0, .int a0, .ref 102] h (fun v h' => (∃ (y : Int32) (h1 : k_H), Rr (some (.int y)) h1 ∧ v = some (.int 0) ∧ h' = k_out y.toInt64 h1) ∨ (∃ (E : String) (h1 : k_H), Rx E h1 ∧ v = some (.int 1) ∧ h' = h1)) := by
  refine k_ofWH (by decide) (Nat.le_of_ble_eq_true rfl) ?_
  intro X ad hlX hR0 hr C hx
  subst hlX
  have hR : X.R.frames = f + 1 ∧ X.R.locals = nn + 60 := by rw [hR0]; exact ⟨rfl, rfl⟩
  have hRc : X.R.cells = mc := by rw [hR0]
  have hRs : X.R.slots = ms := by rw [hR0]
  show k_W X 4 0 0 _ ad h 0 [some (.ref 0), some (.int a0), some (.ref 102), none] []
  refine r_aload_n C dL_next_0 (rfl : 0 + 1 = 1) rfl ?_
  refine r_iconst (v := (0 : Int32)) C dL_next_1 (rfl : 1 + 1 = 2) rfl ?_
  refine r_aload_n C dL_next_2 (rfl : 2 + 1 = 3) rfl ?_
  refine r_iload_n C dL_next_3 (rfl : 3 + 1 = 4) rfl ?_
  refine c_VX (As := [.int a0]) (st := [.int (0 : Int32), .ref 102]) C hR ⟨by rw [hRc]; omega, by rw [hRs]; omega⟩ mv_X10_next (k_me (tm6 (List.mem_of_getElem? (i := 106) rfl)) rfl) dL_next_4 (rfl : 4 + 3 = 7) (k_bl (Nat.le_refl _)) (k_bl (by omega)) hX rfl K rfl rfl rfl ⟨k_okv_of hX, True.intro, k_okv_of hO, True.intro⟩ ⟨True.intro, k_okv_of hO, True.intro⟩ ?_ ?_
  · intro E ad1 h1 hRx1 hsm1 C1
    obtain rfl := hRx E h1 hRx1
    refine x_catch C1 [] (⟨0, 9, 12, 13⟩ : ExceptionTableEntry) [] (by rw [hx]; rfl) (fun _ hz => nomatch hz) (by decide) (by decide) (k_me (tm3 (List.mem_of_getElem? (i := 132) rfl)) rfl) (k_SXof C1).2.2.2.1 ?_
    refine x_hand_n C1 dL_next_12 (rfl : 12 + 1 = 13) (by decide) (Nat.le_of_ble_eq_true rfl) rfl rfl rfl ?_
    refine r_iconst (v := (1 : Int32)) C1 dL_next_13 (rfl : 13 + 1 = 14) rfl ?_
    exact x_of_g (g_iret C1 hr (by omega) (by omega) (Or.inr ⟨_, h1, hRx1, rfl, rfl⟩) hsm1 dL_next_14)
  · intro v ad1 h1 hRr1 hsm1 C1
    obtain ⟨⟨y, rfl⟩, hO1⟩ := hRr v h1 hRr1
    change k_W X _ _ _ _ ad1 h1 _ _ [.int y, .int (0 : Int32), .ref 102]
    refine r_i2l C1 dL_next_7 (rfl : 7 + 1 = 8) ?_
    refine r_last (f := h1.2.2.1 102) C1 dL_next_8 (rfl : 8 + 1 = 9) hO1 rfl (show ¬ ((0 : Int32) < 0 ∨ 1 ≤ (0 : Int32).toNatClampNeg) by decide) ?_
    change k_W X _ _ _ _ ad1 (k_out y.toInt64 h1) _ _ []
    refine r_goto (tgt := 15) C1 dL_next_9 (by decide) ?_
    refine r_iconst (v := (0 : Int32)) C1 dL_next_15 (rfl : 15 + 1 = 16) rfl ?_
    exact x_of_g (g_iret C1 hr (by omega) (by omega) (Or.inl ⟨y, h1, hRr1, rfl, rfl⟩) hsm1 dL_next_16)
def hh_canon : List (Nat × Nat × Nat × Nat) := [(0, 12, 15, 13)]
set_option maxRecDepth 10000 in
theorem c_L_canon (l : Launch) (h : k_H) {a0 a1 a2 : Int32} {f nn mc ms : Nat} {Rr : Option Value → k_H → Prop} {Rx : String → k_H → Prop} (K : k_CX l yX10_canon cX10_canon 4 (some .int) f nn mc ms [.ref 0, .int a0, .int a1, .int a2] h Rr Rx) (hX : h.1[0]? = some k_s0) (hO : h.1[102]? = some (4, 1, []))
    (hRr : ∀ v h1, Rr v h1 → (∃ y, v = some (.int y)) ∧ h1.1[102]? = some (4, 1, [])) (hRx : ∀ E h1, Rx E h1 → E = k_IAE) :
    k_CH l yL_canon cL_canon 6 (some .int) hh_canon (f + 1) (nn + 60) mc ms [.ref 0, .int a0, .int a1, .int a2, .ref 102] h (fun v h' => (∃ (y : Int32) (h1 : k_H), Rr (some (.int y)) h1 ∧ v = some (.int 0) ∧ h' = k_out y.toInt64 h1) ∨ (∃ (E : String) (h1 : k_H), Rx E h1 ∧ v = some (.int 1) ∧ h' = h1)) := by
  refine k_ofWH (by decide) (Nat.le_of_ble_eq_true rfl) ?_
  intro X ad hlX hR0 hr C hx
  subst hlX
  have hR : X.R.frames = f + 1 ∧ X.R.locals = nn + 60 := by rw [hR0]; exact ⟨rfl, rfl⟩
  have hRc : X.R.cells = mc := by rw [hR0]
  have hRs : X.R.slots = ms := by rw [hR0]
  show k_W X 6 0 0 _ ad h 0 [some (.ref 0), some (.int a0), some (.int a1), some (.int a2), some (.ref 102), none] []
  refine r_aload C dL_canon_0 (rfl : 0 + 2 = 2) rfl ?_
  refine r_iconst (v := (0 : Int32)) C dL_canon_2 (rfl : 2 + 1 = 3) rfl ?_
  refine r_aload_n C dL_canon_3 (rfl : 3 + 1 = 4) rfl ?_
  refine r_iload_n C dL_canon_4 (rfl : 4 + 1 = 5) rfl ?_
  refine r_iload_n C dL_canon_5 (rfl : 5 + 1 = 6) rfl ?_
  refine r_iload_n C dL_canon_6 (rfl : 6 + 1 = 7) rfl ?_
  refine c_VX (As := [.int a0, .int a1, .int a2]) (st := [.int (0 : Int32), .ref 102]) C hR ⟨by rw [hRc]; omega, by rw [hRs]; omega⟩ mv_X10_canon (k_me (tm6 (List.mem_of_getElem? (i := 123) rfl)) rfl) dL_canon_7 (rfl : 7 + 3 = 10) (k_bl (Nat.le_refl _)) (k_bl (by omega)) hX rfl K rfl rfl rfl ⟨k_okv_of hX, True.intro, True.intro, True.intro, k_okv_of hO, True.intro⟩ ⟨True.intro, k_okv_of hO, True.intro⟩ ?_ ?_
  · intro E ad1 h1 hRx1 hsm1 C1
    obtain rfl := hRx E h1 hRx1
    refine x_catch C1 [] (⟨0, 12, 15, 13⟩ : ExceptionTableEntry) [] (by rw [hx]; rfl) (fun _ hz => nomatch hz) (by decide) (by decide) (k_me (tm3 (List.mem_of_getElem? (i := 132) rfl)) rfl) (k_SXof C1).2.2.2.1 ?_
    refine x_hand C1 dL_canon_15 (rfl : 15 + 2 = 17) (by decide) (Nat.le_of_ble_eq_true rfl) rfl rfl rfl ?_
    refine r_iconst (v := (1 : Int32)) C1 dL_canon_17 (rfl : 17 + 1 = 18) rfl ?_
    exact x_of_g (g_iret C1 hr (by omega) (by omega) (Or.inr ⟨_, h1, hRx1, rfl, rfl⟩) hsm1 dL_canon_18)
  · intro v ad1 h1 hRr1 hsm1 C1
    obtain ⟨⟨y, rfl⟩, hO1⟩ := hRr v h1 hRr1
    change k_W X _ _ _ _ ad1 h1 _ _ [.int y, .int (0 : Int32), .ref 102]
    refine r_i2l C1 dL_canon_10 (rfl : 10 + 1 = 11) ?_
    refine r_last (f := h1.2.2.1 102) C1 dL_canon_11 (rfl : 11 + 1 = 12) hO1 rfl (show ¬ ((0 : Int32) < 0 ∨ 1 ≤ (0 : Int32).toNatClampNeg) by decide) ?_
    change k_W X _ _ _ _ ad1 (k_out y.toInt64 h1) _ _ []
    refine r_goto (tgt := 19) C1 dL_canon_12 (by decide) ?_
    refine r_iconst (v := (0 : Int32)) C1 dL_canon_19 (rfl : 19 + 1 = 20) rfl ?_
    exact x_of_g (g_iret C1 hr (by omega) (by omega) (Or.inl ⟨y, h1, hRr1, rfl, rfl⟩) hsm1 dL_canon_20)
def hh_owners : List (Nat × Nat × Nat × Nat) := [(0, 12, 15, 13)]
set_option maxRecDepth 10000 in
theorem c_L_owners (l : Launch) (h : k_H) {a0 a1 a2 : Int32} {f nn mc ms : Nat} {Rr : Option Value → k_H → Prop} {Rx : String → k_H → Prop} (K : k_CX l yX10_owners cX10_owners 4 (some .int) f nn mc ms [.ref 0, .int a0, .int a1, .int a2] h Rr Rx) (hX : h.1[0]? = some k_s0) (hO : h.1[102]? = some (4, 1, []))
    (hRr : ∀ v h1, Rr v h1 → (∃ y, v = some (.int y)) ∧ h1.1[102]? = some (4, 1, [])) (hRx : ∀ E h1, Rx E h1 → E = k_IAE) :
    k_CH l yL_owners cL_owners 6 (some .int) hh_owners (f + 1) (nn + 60) mc ms [.ref 0, .int a0, .int a1, .int a2, .ref 102] h (fun v h' => (∃ (y : Int32) (h1 : k_H), Rr (some (.int y)) h1 ∧ v = some (.int 0) ∧ h' = k_out y.toInt64 h1) ∨ (∃ (E : String) (h1 : k_H), Rx E h1 ∧ v = some (.int 1) ∧ h' = h1)) := by
  refine k_ofWH (by decide) (Nat.le_of_ble_eq_true rfl) ?_
  intro X ad hlX hR0 hr C hx
  subst hlX
  have hR : X.R.frames = f + 1 ∧ X.R.locals = nn + 60 := by rw [hR0]; exact ⟨rfl, rfl⟩
  have hRc : X.R.cells = mc := by rw [hR0]
  have hRs : X.R.slots = ms := by rw [hR0]
  show k_W X 6 0 0 _ ad h 0 [some (.ref 0), some (.int a0), some (.int a1), some (.int a2), some (.ref 102), none] []
  refine r_aload C dL_owners_0 (rfl : 0 + 2 = 2) rfl ?_
  refine r_iconst (v := (0 : Int32)) C dL_owners_2 (rfl : 2 + 1 = 3) rfl ?_
  refine r_aload_n C dL_owners_3 (rfl : 3 + 1 = 4) rfl ?_
  refine r_iload_n C dL_owners_4 (rfl : 4 + 1 = 5) rfl ?_
  refine r_iload_n C dL_owners_5 (rfl : 5 + 1 = 6) rfl ?_
  refine r_iload_n C dL_owners_6 (rfl : 6 + 1 = 7) rfl ?_
  refine c_VX (As := [.int a0, .int a1, .int a2]) (st := [.int (0 : Int32), .ref 102]) C hR ⟨by rw [hRc]; omega, by rw [hRs]; omega⟩ mv_X10_owners (k_me (tm6 (List.mem_of_getElem? (i := 134) rfl)) rfl) dL_owners_7 (rfl : 7 + 3 = 10) (k_bl (Nat.le_refl _)) (k_bl (by omega)) hX rfl K rfl rfl rfl ⟨k_okv_of hX, True.intro, True.intro, True.intro, k_okv_of hO, True.intro⟩ ⟨True.intro, k_okv_of hO, True.intro⟩ ?_ ?_
  · intro E ad1 h1 hRx1 hsm1 C1
    obtain rfl := hRx E h1 hRx1
    refine x_catch C1 [] (⟨0, 12, 15, 13⟩ : ExceptionTableEntry) [] (by rw [hx]; rfl) (fun _ hz => nomatch hz) (by decide) (by decide) (k_me (tm3 (List.mem_of_getElem? (i := 132) rfl)) rfl) (k_SXof C1).2.2.2.1 ?_
    refine x_hand C1 dL_owners_15 (rfl : 15 + 2 = 17) (by decide) (Nat.le_of_ble_eq_true rfl) rfl rfl rfl ?_
    refine r_iconst (v := (1 : Int32)) C1 dL_owners_17 (rfl : 17 + 1 = 18) rfl ?_
    exact x_of_g (g_iret C1 hr (by omega) (by omega) (Or.inr ⟨_, h1, hRx1, rfl, rfl⟩) hsm1 dL_owners_18)
  · intro v ad1 h1 hRr1 hsm1 C1
    obtain ⟨⟨y, rfl⟩, hO1⟩ := hRr v h1 hRr1
    change k_W X _ _ _ _ ad1 h1 _ _ [.int y, .int (0 : Int32), .ref 102]
    refine r_i2l C1 dL_owners_10 (rfl : 10 + 1 = 11) ?_
    refine r_last (f := h1.2.2.1 102) C1 dL_owners_11 (rfl : 11 + 1 = 12) hO1 rfl (show ¬ ((0 : Int32) < 0 ∨ 1 ≤ (0 : Int32).toNatClampNeg) by decide) ?_
    change k_W X _ _ _ _ ad1 (k_out y.toInt64 h1) _ _ []
    refine r_goto (tgt := 19) C1 dL_owners_12 (by decide) ?_
    refine r_iconst (v := (0 : Int32)) C1 dL_owners_19 (rfl : 19 + 1 = 20) rfl ?_
    exact x_of_g (g_iret C1 hr (by omega) (by omega) (Or.inl ⟨y, h1, hRr1, rfl, rfl⟩) hsm1 dL_owners_20)
def hh_face : List (Nat × Nat × Nat × Nat) := [(0, 10, 13, 13)]
set_option maxRecDepth 10000 in
theorem c_L_face (l : Launch) (h : k_H) {a0 a1 : Int32} {f nn mc ms : Nat} {Rr : Option Value → k_H → Prop} {Rx : String → k_H → Prop} (K : k_CX l yX10_face cX10_face 3 (some .int) f nn mc ms [.ref 0, .int a0, .int a1] h Rr Rx) (hX : h.1[0]? = some k_s0) (hO : h.1[102]? = some (4, 1, []))
    (hRr : ∀ v h1, Rr v h1 → (∃ y, v = some (.int y)) ∧ h1.1[102]? = some (4, 1, [])) (hRx : ∀ E h1, Rx E h1 → E = k_IAE) :
    k_CH l yL_face cL_face 5 (some .int) hh_face (f + 1) (nn + 60) mc ms [.ref 0, .int a0, .int a1, .ref 102] h (fun v h' => (∃ (y : Int32) (h1 : k_H), Rr (some (.int y)) h1 ∧ v = some (.int 0) ∧ h' = k_out y.toInt64 h1) ∨ (∃ (E : String) (h1 : k_H), Rx E h1 ∧ v = some (.int 1) ∧ h' = h1)) := by
  refine k_ofWH (by decide) (Nat.le_of_ble_eq_true rfl) ?_
  intro X ad hlX hR0 hr C hx
  subst hlX
  have hR : X.R.frames = f + 1 ∧ X.R.locals = nn + 60 := by rw [hR0]; exact ⟨rfl, rfl⟩
  have hRc : X.R.cells = mc := by rw [hR0]
  have hRs : X.R.slots = ms := by rw [hR0]
  show k_W X 5 0 0 _ ad h 0 [some (.ref 0), some (.int a0), some (.int a1), some (.ref 102), none] []
  refine r_aload_n C dL_face_0 (rfl : 0 + 1 = 1) rfl ?_
  refine r_iconst (v := (0 : Int32)) C dL_face_1 (rfl : 1 + 1 = 2) rfl ?_
  refine r_aload_n C dL_face_2 (rfl : 2 + 1 = 3) rfl ?_
  refine r_iload_n C dL_face_3 (rfl : 3 + 1 = 4) rfl ?_
  refine r_iload_n C dL_face_4 (rfl : 4 + 1 = 5) rfl ?_
  refine c_VX (As := [.int a0, .int a1]) (st := [.int (0 : Int32), .ref 102]) C hR ⟨by rw [hRc]; omega, by rw [hRs]; omega⟩ mv_X10_face (k_me (tm6 (List.mem_of_getElem? (i := 154) rfl)) rfl) dL_face_5 (rfl : 5 + 3 = 8) (k_bl (Nat.le_refl _)) (k_bl (by omega)) hX rfl K rfl rfl rfl ⟨k_okv_of hX, True.intro, True.intro, k_okv_of hO, True.intro⟩ ⟨True.intro, k_okv_of hO, True.intro⟩ ?_ ?_
  · intro E ad1 h1 hRx1 hsm1 C1
    obtain rfl := hRx E h1 hRx1
    refine x_catch C1 [] (⟨0, 10, 13, 13⟩ : ExceptionTableEntry) [] (by rw [hx]; rfl) (fun _ hz => nomatch hz) (by decide) (by decide) (k_me (tm3 (List.mem_of_getElem? (i := 132) rfl)) rfl) (k_SXof C1).2.2.2.1 ?_
    refine x_hand C1 dL_face_13 (rfl : 13 + 2 = 15) (by decide) (Nat.le_of_ble_eq_true rfl) rfl rfl rfl ?_
    refine r_iconst (v := (1 : Int32)) C1 dL_face_15 (rfl : 15 + 1 = 16) rfl ?_
    exact x_of_g (g_iret C1 hr (by omega) (by omega) (Or.inr ⟨_, h1, hRx1, rfl, rfl⟩) hsm1 dL_face_16)
  · intro v ad1 h1 hRr1 hsm1 C1
    obtain ⟨⟨y, rfl⟩, hO1⟩ := hRr v h1 hRr1
    change k_W X _ _ _ _ ad1 h1 _ _ [.int y, .int (0 : Int32), .ref 102]
    refine r_i2l C1 dL_face_8 (rfl : 8 + 1 = 9) ?_
    refine r_last (f := h1.2.2.1 102) C1 dL_face_9 (rfl : 9 + 1 = 10) hO1 rfl (show ¬ ((0 : Int32) < 0 ∨ 1 ≤ (0 : Int32).toNatClampNeg) by decide) ?_
    change k_W X _ _ _ _ ad1 (k_out y.toInt64 h1) _ _ []
    refine r_goto (tgt := 17) C1 dL_face_10 (by decide) ?_
    refine r_iconst (v := (0 : Int32)) C1 dL_face_17 (rfl : 17 + 1 = 18) rfl ?_
    exact x_of_g (g_iret C1 hr (by omega) (by omega) (Or.inl ⟨y, h1, hRr1, rfl, rfl⟩) hsm1 dL_face_18)
def hh_decade : List (Nat × Nat × Nat × Nat) := [(0, 14, 17, 13)]
set_option maxRecDepth 10000 in
theorem c_L_decade (l : Launch) (h : k_H) {a0 a1 a2 a3 : Int32} {f nn mc ms : Nat} {Rr : Option Value → k_H → Prop} {Rx : String → k_H → Prop} (K : k_CX l yX10_decade cX10_decade 5 (some .int) f nn mc ms [.ref 0, .int a0, .int a1, .int a2, .int a3] h Rr Rx) (hX : h.1[0]? = some k_s0) (hO : h.1[102]? = some (4, 1, []))
    (hRr : ∀ v h1, Rr v h1 → (∃ y, v = some (.int y)) ∧ h1.1[102]? = some (4, 1, [])) (hRx : ∀ E h1, Rx E h1 → E = k_IAE) :
    k_CH l yL_decade cL_decade 7 (some .int) hh_decade (f + 1) (nn + 60) mc ms [.ref 0, .int a0, .int a1, .int a2, .int a3, .ref 102] h (fun v h' => (∃ (y : Int32) (h1 : k_H), Rr (some (.int y)) h1 ∧ v = some (.int 0) ∧ h' = k_out y.toInt64 h1) ∨ (∃ (E : String) (h1 : k_H), Rx E h1 ∧ v = some (.int 1) ∧ h' = h1)) := by
  refine k_ofWH (by decide) (Nat.le_of_ble_eq_true rfl) ?_
  intro X ad hlX hR0 hr C hx
  subst hlX
  have hR : X.R.frames = f + 1 ∧ X.R.locals = nn + 60 := by rw [hR0]; exact ⟨rfl, rfl⟩
  have hRc : X.R.cells = mc := by rw [hR0]
  have hRs : X.R.slots = ms := by rw [hR0]
  show k_W X 7 0 0 _ ad h 0 [some (.ref 0), some (.int a0), some (.int a1), some (.int a2), some (.int a3), some (.ref 102), none] []
  refine r_aload C dL_decade_0 (rfl : 0 + 2 = 2) rfl ?_
  refine r_iconst (v := (0 : Int32)) C dL_decade_2 (rfl : 2 + 1 = 3) rfl ?_
  refine r_aload_n C dL_decade_3 (rfl : 3 + 1 = 4) rfl ?_
  refine r_iload_n C dL_decade_4 (rfl : 4 + 1 = 5) rfl ?_
  refine r_iload_n C dL_decade_5 (rfl : 5 + 1 = 6) rfl ?_
  refine r_iload_n C dL_decade_6 (rfl : 6 + 1 = 7) rfl ?_
  refine r_iload C dL_decade_7 (rfl : 7 + 2 = 9) rfl ?_
  refine c_VX (As := [.int a0, .int a1, .int a2, .int a3]) (st := [.int (0 : Int32), .ref 102]) C hR ⟨by rw [hRc]; omega, by rw [hRs]; omega⟩ mv_X10_decade (k_me (tm6 (List.mem_of_getElem? (i := 165) rfl)) rfl) dL_decade_9 (rfl : 9 + 3 = 12) (k_bl (Nat.le_refl _)) (k_bl (by omega)) hX rfl K rfl rfl rfl ⟨k_okv_of hX, True.intro, True.intro, True.intro, True.intro, k_okv_of hO, True.intro⟩ ⟨True.intro, k_okv_of hO, True.intro⟩ ?_ ?_
  · intro E ad1 h1 hRx1 hsm1 C1
    obtain rfl := hRx E h1 hRx1
    refine x_catch C1 [] (⟨0, 14, 17, 13⟩ : ExceptionTableEntry) [] (by rw [hx]; rfl) (fun _ hz => nomatch hz) (by decide) (by decide) (k_me (tm3 (List.mem_of_getElem? (i := 132) rfl)) rfl) (k_SXof C1).2.2.2.1 ?_
    refine x_hand C1 dL_decade_17 (rfl : 17 + 2 = 19) (by decide) (Nat.le_of_ble_eq_true rfl) rfl rfl rfl ?_
    refine r_iconst (v := (1 : Int32)) C1 dL_decade_19 (rfl : 19 + 1 = 20) rfl ?_
    exact x_of_g (g_iret C1 hr (by omega) (by omega) (Or.inr ⟨_, h1, hRx1, rfl, rfl⟩) hsm1 dL_decade_20)
  · intro v ad1 h1 hRr1 hsm1 C1
    obtain ⟨⟨y, rfl⟩, hO1⟩ := hRr v h1 hRr1
    change k_W X _ _ _ _ ad1 h1 _ _ [.int y, .int (0 : Int32), .ref 102]
    refine r_i2l C1 dL_decade_12 (rfl : 12 + 1 = 13) ?_
    refine r_last (f := h1.2.2.1 102) C1 dL_decade_13 (rfl : 13 + 1 = 14) hO1 rfl (show ¬ ((0 : Int32) < 0 ∨ 1 ≤ (0 : Int32).toNatClampNeg) by decide) ?_
    change k_W X _ _ _ _ ad1 (k_out y.toInt64 h1) _ _ []
    refine r_goto (tgt := 21) C1 dL_decade_14 (by decide) ?_
    refine r_iconst (v := (0 : Int32)) C1 dL_decade_21 (rfl : 21 + 1 = 22) rfl ?_
    exact x_of_g (g_iret C1 hr (by omega) (by omega) (Or.inl ⟨y, h1, hRr1, rfl, rfl⟩) hsm1 dL_decade_22)
def hh_span : List (Nat × Nat × Nat × Nat) := [(0, 16, 19, 13)]
set_option maxRecDepth 10000 in
theorem c_L_span (l : Launch) (h : k_H) {a0 a1 a2 a3 a4 : Int32} {f nn mc ms : Nat} {Rr : Option Value → k_H → Prop} {Rx : String → k_H → Prop} (K : k_CX l yX10_span cX10_span 10 (some .int) f nn mc ms [.ref 0, .int a0, .int a1, .int a2, .int a3, .int a4] h Rr Rx) (hX : h.1[0]? = some k_s0) (hO : h.1[102]? = some (4, 1, []))
    (hRr : ∀ v h1, Rr v h1 → (∃ y, v = some (.int y)) ∧ h1.1[102]? = some (4, 1, [])) (hRx : ∀ E h1, Rx E h1 → E = k_IAE) :
    k_CH l yL_span cL_span 8 (some .int) hh_span (f + 1) (nn + 60) mc ms [.ref 0, .int a0, .int a1, .int a2, .int a3, .int a4, .ref 102] h (fun v h' => (∃ (y : Int32) (h1 : k_H), Rr (some (.int y)) h1 ∧ v = some (.int 0) ∧ h' = k_out y.toInt64 h1) ∨ (∃ (E : String) (h1 : k_H), Rx E h1 ∧ v = some (.int 1) ∧ h' = h1)) := by
  refine k_ofWH (by decide) (Nat.le_of_ble_eq_true rfl) ?_
  intro X ad hlX hR0 hr C hx
  subst hlX
  have hR : X.R.frames = f + 1 ∧ X.R.locals = nn + 60 := by rw [hR0]; exact ⟨rfl, rfl⟩
  have hRc : X.R.cells = mc := by rw [hR0]
  have hRs : X.R.slots = ms := by rw [hR0]
  show k_W X 8 0 0 _ ad h 0 [some (.ref 0), some (.int a0), some (.int a1), some (.int a2), some (.int a3), some (.int a4), some (.ref 102), none] []
  refine r_aload C dL_span_0 (rfl : 0 + 2 = 2) rfl ?_
  refine r_iconst (v := (0 : Int32)) C dL_span_2 (rfl : 2 + 1 = 3) rfl ?_
  refine r_aload_n C dL_span_3 (rfl : 3 + 1 = 4) rfl ?_
  refine r_iload_n C dL_span_4 (rfl : 4 + 1 = 5) rfl ?_
  refine r_iload_n C dL_span_5 (rfl : 5 + 1 = 6) rfl ?_
  refine r_iload_n C dL_span_6 (rfl : 6 + 1 = 7) rfl ?_
  refine r_iload C dL_span_7 (rfl : 7 + 2 = 9) rfl ?_
  refine r_iload C dL_span_9 (rfl : 9 + 2 = 11) rfl ?_
  refine c_VX (As := [.int a0, .int a1, .int a2, .int a3, .int a4]) (st := [.int (0 : Int32), .ref 102]) C hR ⟨by rw [hRc]; omega, by rw [hRs]; omega⟩ mv_X10_span (k_me (tm6 (List.mem_of_getElem? (i := 188) rfl)) rfl) dL_span_11 (rfl : 11 + 3 = 14) (k_bl (Nat.le_refl _)) (k_bl (by omega)) hX rfl K rfl rfl rfl ⟨k_okv_of hX, True.intro, True.intro, True.intro, True.intro, True.intro, k_okv_of hO, True.intro⟩ ⟨True.intro, k_okv_of hO, True.intro⟩ ?_ ?_
  · intro E ad1 h1 hRx1 hsm1 C1
    obtain rfl := hRx E h1 hRx1
    refine x_catch C1 [] (⟨0, 16, 19, 13⟩ : ExceptionTableEntry) [] (by rw [hx]; rfl) (fun _ hz => nomatch hz) (by decide) (by decide) (k_me (tm3 (List.mem_of_getElem? (i := 132) rfl)) rfl) (k_SXof C1).2.2.2.1 ?_
    refine x_hand C1 dL_span_19 (rfl : 19 + 2 = 21) (by decide) (Nat.le_of_ble_eq_true rfl) rfl rfl rfl ?_
    refine r_iconst (v := (1 : Int32)) C1 dL_span_21 (rfl : 21 + 1 = 22) rfl ?_
    exact x_of_g (g_iret C1 hr (by omega) (by omega) (Or.inr ⟨_, h1, hRx1, rfl, rfl⟩) hsm1 dL_span_22)
  · intro v ad1 h1 hRr1 hsm1 C1
    obtain ⟨⟨y, rfl⟩, hO1⟩ := hRr v h1 hRr1
    change k_W X _ _ _ _ ad1 h1 _ _ [.int y, .int (0 : Int32), .ref 102]
    refine r_i2l C1 dL_span_14 (rfl : 14 + 1 = 15) ?_
    refine r_last (f := h1.2.2.1 102) C1 dL_span_15 (rfl : 15 + 1 = 16) hO1 rfl (show ¬ ((0 : Int32) < 0 ∨ 1 ≤ (0 : Int32).toNatClampNeg) by decide) ?_
    change k_W X _ _ _ _ ad1 (k_out y.toInt64 h1) _ _ []
    refine r_goto (tgt := 23) C1 dL_span_16 (by decide) ?_
    refine r_iconst (v := (0 : Int32)) C1 dL_span_23 (rfl : 23 + 1 = 24) rfl ?_
    exact x_of_g (g_iret C1 hr (by omega) (by omega) (Or.inl ⟨y, h1, hRr1, rfl, rfl⟩) hsm1 dL_span_24)
def hh_sums : List (Nat × Nat × Nat × Nat) := [(0, 9, 12, 13)]
set_option maxRecDepth 10000 in
theorem c_L_sums (l : Launch) (h : k_H) {a0 : Int32} {f nn mc ms : Nat} {Rr : Option Value → k_H → Prop} {Rx : String → k_H → Prop} (K : k_CX l yX10_sums cX10_sums 2 (some .int) f nn mc ms [.ref 0, .int a0] h Rr Rx) (hX : h.1[0]? = some k_s0) (hO : h.1[102]? = some (4, 1, []))
    (hRr : ∀ v h1, Rr v h1 → (∃ y, v = some (.int y)) ∧ h1.1[102]? = some (4, 1, [])) (hRx : ∀ E h1, Rx E h1 → E = k_IAE) :
    k_CH l yL_sums cL_sums 4 (some .int) hh_sums (f + 1) (nn + 60) mc ms [.ref 0, .int a0, .ref 102] h (fun v h' => (∃ (y : Int32) (h1 : k_H), Rr (some (.int y)) h1 ∧ v = some (.int 0) ∧ h' = k_out y.toInt64 h1) ∨ (∃ (E : String) (h1 : k_H), Rx E h1 ∧ v = some (.int 1) ∧ h' = h1)) := by
  refine k_ofWH (by decide) (Nat.le_of_ble_eq_true rfl) ?_
  intro X ad hlX hR0 hr C hx
  subst hlX
  have hR : X.R.frames = f + 1 ∧ X.R.locals = nn + 60 := by rw [hR0]; exact ⟨rfl, rfl⟩
  have hRc : X.R.cells = mc := by rw [hR0]
  have hRs : X.R.slots = ms := by rw [hR0]
  show k_W X 4 0 0 _ ad h 0 [some (.ref 0), some (.int a0), some (.ref 102), none] []
  refine r_aload_n C dL_sums_0 (rfl : 0 + 1 = 1) rfl ?_
  refine r_iconst (v := (0 : Int32)) C dL_sums_1 (rfl : 1 + 1 = 2) rfl ?_
  refine r_aload_n C dL_sums_2 (rfl : 2 + 1 = 3) rfl ?_
  refine r_iload_n C dL_sums_3 (rfl : 3 + 1 = 4) rfl ?_
  refine c_VX (As := [.int a0]) (st := [.int (0 : Int32), .ref 102]) C hR ⟨by rw [hRc]; omega, by rw [hRs]; omega⟩ mv_X10_sums (k_me (tm6 (List.mem_of_getElem? (i := 197) rfl)) rfl) dL_sums_4 (rfl : 4 + 3 = 7) (k_bl (Nat.le_refl _)) (k_bl (by omega)) hX rfl K rfl rfl rfl ⟨k_okv_of hX, True.intro, k_okv_of hO, True.intro⟩ ⟨True.intro, k_okv_of hO, True.intro⟩ ?_ ?_
  · intro E ad1 h1 hRx1 hsm1 C1
    obtain rfl := hRx E h1 hRx1
    refine x_catch C1 [] (⟨0, 9, 12, 13⟩ : ExceptionTableEntry) [] (by rw [hx]; rfl) (fun _ hz => nomatch hz) (by decide) (by decide) (k_me (tm3 (List.mem_of_getElem? (i := 132) rfl)) rfl) (k_SXof C1).2.2.2.1 ?_
    refine x_hand_n C1 dL_sums_12 (rfl : 12 + 1 = 13) (by decide) (Nat.le_of_ble_eq_true rfl) rfl rfl rfl ?_
    refine r_iconst (v := (1 : Int32)) C1 dL_sums_13 (rfl : 13 + 1 = 14) rfl ?_
    exact x_of_g (g_iret C1 hr (by omega) (by omega) (Or.inr ⟨_, h1, hRx1, rfl, rfl⟩) hsm1 dL_sums_14)
  · intro v ad1 h1 hRr1 hsm1 C1
    obtain ⟨⟨y, rfl⟩, hO1⟩ := hRr v h1 hRr1
    change k_W X _ _ _ _ ad1 h1 _ _ [.int y, .int (0 : Int32), .ref 102]
    refine r_i2l C1 dL_sums_7 (rfl : 7 + 1 = 8) ?_
    refine r_last (f := h1.2.2.1 102) C1 dL_sums_8 (rfl : 8 + 1 = 9) hO1 rfl (show ¬ ((0 : Int32) < 0 ∨ 1 ≤ (0 : Int32).toNatClampNeg) by decide) ?_
    change k_W X _ _ _ _ ad1 (k_out y.toInt64 h1) _ _ []
    refine r_goto (tgt := 15) C1 dL_sums_9 (by decide) ?_
    refine r_iconst (v := (0 : Int32)) C1 dL_sums_15 (rfl : 15 + 1 = 16) rfl ?_
    exact x_of_g (g_iret C1 hr (by omega) (by omega) (Or.inl ⟨y, h1, hRr1, rfl, rfl⟩) hsm1 dL_sums_16)
def hh_open : List (Nat × Nat × Nat × Nat) := [(0, 9, 12, 13)]
set_option maxRecDepth 10000 in
theorem c_L_open (l : Launch) (h : k_H) {a0 : Int32} {f nn mc ms : Nat} {Rr : Option Value → k_H → Prop} {Rx : String → k_H → Prop} (K : k_CX l yX10_open cX10_open 2 (some .int) f nn mc ms [.ref 0, .int a0] h Rr Rx) (hX : h.1[0]? = some k_s0) (hO : h.1[102]? = some (4, 1, []))
    (hRr : ∀ v h1, Rr v h1 → (∃ y, v = some (.int y)) ∧ h1.1[102]? = some (4, 1, [])) (hRx : ∀ E h1, Rx E h1 → E = k_IAE) :
    k_CH l yL_open cL_open 4 (some .int) hh_open (f + 1) (nn + 60) mc ms [.ref 0, .int a0, .ref 102] h (fun v h' => (∃ (y : Int32) (h1 : k_H), Rr (some (.int y)) h1 ∧ v = some (.int 0) ∧ h' = k_out y.toInt64 h1) ∨ (∃ (E : String) (h1 : k_H), Rx E h1 ∧ v = some (.int 1) ∧ h' = h1)) := by
  refine k_ofWH (by decide) (Nat.le_of_ble_eq_true rfl) ?_
  intro X ad hlX hR0 hr C hx
  subst hlX
  have hR : X.R.frames = f + 1 ∧ X.R.locals = nn + 60 := by rw [hR0]; exact ⟨rfl, rfl⟩
  have hRc : X.R.cells = mc := by rw [hR0]
  have hRs : X.R.slots = ms := by rw [hR0]
  show k_W X 4 0 0 _ ad h 0 [some (.ref 0), some (.int a0), some (.ref 102), none] []
  refine r_aload_n C dL_open_0 (rfl : 0 + 1 = 1) rfl ?_
  refine r_iconst (v := (0 : Int32)) C dL_open_1 (rfl : 1 + 1 = 2) rfl ?_
  refine r_aload_n C dL_open_2 (rfl : 2 + 1 = 3) rfl ?_
  refine r_iload_n C dL_open_3 (rfl : 3 + 1 = 4) rfl ?_
  refine c_VX (As := [.int a0]) (st := [.int (0 : Int32), .ref 102]) C hR ⟨by rw [hRc]; omega, by rw [hRs]; omega⟩ mv_X10_open (k_me (tm6 (List.mem_of_getElem? (i := 208) rfl)) rfl) dL_open_4 (rfl : 4 + 3 = 7) (k_bl (Nat.le_refl _)) (k_bl (by omega)) hX rfl K rfl rfl rfl ⟨k_okv_of hX, True.intro, k_okv_of hO, True.intro⟩ ⟨True.intro, k_okv_of hO, True.intro⟩ ?_ ?_
  · intro E ad1 h1 hRx1 hsm1 C1
    obtain rfl := hRx E h1 hRx1
    refine x_catch C1 [] (⟨0, 9, 12, 13⟩ : ExceptionTableEntry) [] (by rw [hx]; rfl) (fun _ hz => nomatch hz) (by decide) (by decide) (k_me (tm3 (List.mem_of_getElem? (i := 132) rfl)) rfl) (k_SXof C1).2.2.2.1 ?_
    refine x_hand_n C1 dL_open_12 (rfl : 12 + 1 = 13) (by decide) (Nat.le_of_ble_eq_true rfl) rfl rfl rfl ?_
    refine r_iconst (v := (1 : Int32)) C1 dL_open_13 (rfl : 13 + 1 = 14) rfl ?_
    exact x_of_g (g_iret C1 hr (by omega) (by omega) (Or.inr ⟨_, h1, hRx1, rfl, rfl⟩) hsm1 dL_open_14)
  · intro v ad1 h1 hRr1 hsm1 C1
    obtain ⟨⟨y, rfl⟩, hO1⟩ := hRr v h1 hRr1
    change k_W X _ _ _ _ ad1 h1 _ _ [.int y, .int (0 : Int32), .ref 102]
    refine r_i2l C1 dL_open_7 (rfl : 7 + 1 = 8) ?_
    refine r_last (f := h1.2.2.1 102) C1 dL_open_8 (rfl : 8 + 1 = 9) hO1 rfl (show ¬ ((0 : Int32) < 0 ∨ 1 ≤ (0 : Int32).toNatClampNeg) by decide) ?_
    change k_W X _ _ _ _ ad1 (k_out y.toInt64 h1) _ _ []
    refine r_goto (tgt := 15) C1 dL_open_9 (by decide) ?_
    refine r_iconst (v := (0 : Int32)) C1 dL_open_15 (rfl : 15 + 1 = 16) rfl ?_
    exact x_of_g (g_iret C1 hr (by omega) (by omega) (Or.inl ⟨y, h1, hRr1, rfl, rfl⟩) hsm1 dL_open_16)
