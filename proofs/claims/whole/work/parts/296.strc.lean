theorem k_ldcw {p : Program} {l : Launch} {e : Env} {R : Room} {s : State} {m : MethodId} {args : Array Value} {below : List Frame} {meth : Method} {c : Code} {T : State} {locs : List Loc} {cells slots : Nat}
    (X : Stand p l e R s m args below meth c T locs cells slots) (hexec : p.tables.exec = Jvm.exec) {own text : String} {index : Nat} {a : Addr} (hown : s.vm.findClass own = some m.cls)
    (hconst : (Cond.stringRef own index text).before args s = true) (hev : (Term.string own index).eval args s none [] s = some (.ref a)) {g : JFrame} (hg : g.method = m) (hdg : decode c.code g.pc = .ok (.ldc_w index, 3)) :
    ∀ target, Steps p.tables e below (T.setTop { g with pc := g.pc + 3, stack := .ref a :: g.stack }) target → Steps p.tables e below (T.setTop g) target := by
  obtain ⟨k, cf, i, a', hk, hcf, hcp, -, hr, hev'⟩ := Cond.stringRef_spec hown hconst
  cases hev.symm.trans hev'
  obtain ⟨k', hk', he⟩ := X.warmed.alike.2.2 _ _ hk
  have hr' : k'.resolved[index]? = some (some (.string a)) := by
    rcases X.warmed.entry hk hk' index with h | ⟨h, -⟩
    · rw [h]; exact hr
    · rw [hr] at h; cases h
  intro target hrest
  subst hg
  jvm_step X.here [hexec, hdg, ldc_w.wp_string (e := e) (s := T) (f := g) X.here.top hk' (by rw [he]; exact hcf) hcp hr']
  exact hrest
section STRC
variable {X : k_X} {cc : ByteArray} {own : String} {nL cells slots : Nat} {Q : State → Prop} {ad : Nat → Nat} {h h' : k_H} {pc pc' : Nat} {lv : List (Option Value)} {st st' : List Value} {ix i : Nat}
theorem r_ldcwS (C : k_C X cc own nL ad) {tx : String} (hq : k_st[i]? = some (own, ix, tx)) (hd : decode cc pc = .ok (.ldc_w ix, 3)) (hn : pc + 3 = pc') (k : k_W X nL cells slots Q ad h pc' lv (.ref (1000000 + i) :: st)) : k_W X nL cells slots Q ad h pc lv st := by
  subst hn
  intro H locs ls hw hP hD hS hll T hT Z
  have hR := C.2.2.2.2.2.2.2.2.2.1 i _ hq
  obtain ⟨t, a1, b1⟩ := k H locs ls hw hP hD hS hll T hT Z
  refine ⟨t, k_ldcw Z C.1 C.2.2.2.1 (args := X.a) (text := tx) (a := ad (1000000 + i)) ?_ ?_ (g := F0 X.m pc ls (st.map (k_rl ad))) rfl (by rw [C.2.1]; exact hd) t a1, b1⟩
  · exact hR.1
  · exact hR.2
variable {y : MethodName} {c2 : ByteArray} {maxL n f nn F NN : Nat} {rt : Option FieldType} {As stk : List Value} {v : Option Value} {us : List k_U}
theorem d_Vs (C : k_C X cc own nL ad) (hR : X.R.frames = F ∧ X.R.locals = NN) (hcs : cells ≤ X.R.cells ∧ slots ≤ X.R.slots) (M : k_MV y c2 maxL rt n) (hl : k_lk own ix y) (hd : decode cc pc = .ok (.invokevirtual ix, 3)) (hn : pc + 3 = pc') (h1 : Nat.ble (f + 1) F = true) (h2 : Nat.ble (8 + (maxL + 11) + nn) NN = true) (hi : i < 31) (hy : y.cls = "java/lang/String") (K : k_CT X.l y c2 maxL rt f nn (.ref (1000000 + i) :: As) h v us) (hA : As.length = n) (hst : Nat.ble ((st.map fun v => v.category).sum) 8 = true) (hstk : As.reverse ++ .ref (1000000 + i) :: st = stk) (eh : k_ap us h = h') (est : v.toList ++ st = st')
    (k : k_W X nL cells slots Q ad h' pc' lv st') : k_W X nL cells slots Q ad h pc lv stk := by
  subst hn; subst eh; subst est
  intro H locs ls hw hP hD hS hll
  obtain ⟨hin, hse, hini, hcd, hnd⟩ := M
  refine k_backI (a := ((.ref (1000000 + i) :: As).map (k_rl ad)).toArray) hw C.2.2.2.2.2.2.1 hD hS hll ?_ k
  have hstack : stk.map (k_rl ad) = (As.map (k_rl ad)).reverse ++ .ref (ad (1000000 + i)) :: st.map (k_rl ad) := by
    rw [← hstk, List.map_append, List.map_cons, List.map_reverse]; rfl
  have hrec : ∃ cell : Cell, H[ad (1000000 + i)]? = some cell ∧ cell.vm.isStatics = false ∧ X.s.vm.findClass y.cls = some cell.cls := by
    obtain ⟨cell, z1, z2, z3, -⟩ := (C.2.2.2.2.2.2.2.2.1 i _ (k_sb_at hi)).1.kept hS.2.1
    exact ⟨cell, z1, z2, by rw [hy]; exact z3⟩
  rcases hl with hl | ⟨host, hl⟩
  · exact va_runV (As := As.map (k_rl ad)) (b := ad (1000000 + i)) (rest := st.map (k_rl ad)) ⟨C.1, C.2.1, C.2.2.1, C.2.2.2.1, C.2.2.2.2.1⟩ (K X.D X.cA ad H.size) ⟨k_words C hcd hini hnd hR h1 h2 hl, C.2.2.2.2.1 _ hin, C.2.2.2.2.1 _ hse⟩ ⟨k_frameB, hrec, fun U hU hW => k_preI C hw hP hD hS U hU hW⟩ rfl (by rw [List.length_map]; exact hA) hll.1 hstack (k_cat8 hst) hd hcs
  · exact va_runVN (As := As.map (k_rl ad)) (b := ad (1000000 + i)) (rest := st.map (k_rl ad)) ⟨C.1, C.2.1, C.2.2.1, C.2.2.2.1, C.2.2.2.2.1⟩ (K X.D X.cA ad H.size) ⟨k_wordsN C hcd hini hnd hR h1 h2 hl, C.2.2.2.2.1 _ hin, C.2.2.2.2.1 _ hse⟩ ⟨k_frameB, hrec, fun U hU hW => k_preI C hw hP hD hS U hU hW⟩ rfl (by rw [List.length_map]; exact hA) hll.1 hstack (k_cat8 hst) hd hcs
end STRC
section MORE
variable {X : k_X} {cc : ByteArray} {own : String} {nL cells slots : Nat} {Q : State → Prop} {ad : Nat → Nat} {h h' : k_H} {pc pc' : Nat} {lv : List (Option Value)} {st st' : List Value}
theorem k_lit {x x' : Int32} (e : x = x') (k : k_W X nL cells slots Q ad h pc lv (.int x' :: st)) : k_W X nL cells slots Q ad h pc lv (.int x :: st) := by
  subst e; exact k
theorem r_aald (C : k_C X cc own nL ad) {p n j q : Nat} {sl : List Nat} {i : Int32} (hd : decode cc pc = .ok (.aaload, 1)) (hn : pc + 1 = pc') (hs : h.1[p]? = some (5, n, sl)) (hin : vp_in i n) (hj : i.toNatClampNeg = j) (hq : h.2.2.2 p j = some q) (k : k_W X nL cells slots Q ad h pc' lv (.ref q :: st)) : k_W X nL cells slots Q ad h pc lv (.int i :: .ref p :: st) := by
  subst hn; subst hj
  intro H locs ls hw hP hD hS hl
  refine va_aldq C.1 C.2.1 C.2.2.2.2.2.1 hP p 4 (k_w_at ad X.cA h hs) rfl hin hd ?_
  have e : va_rf ((h.2.2.2 p i.toNatClampNeg).map ad) = .ref (ad q) := by rw [hq]; rfl
  show k_Wx X H locs cells slots Q (F0 X.m (pc + 1) ls (va_rf ((h.2.2.2 p i.toNatClampNeg).map ad) :: st.map (k_rl ad)))
  rw [e]
  exact k H locs ls hw hP hD hS hl
end MORE
