theorem k_wf_pl {pi : List Nat} {shl : List k_Sh} {h : k_H} (hck : k_ck pi shl h.1 = true) : k_wf (k_pl pi shl h) := by
  refine ⟨fun p s hs h0 d hd => ?_, fun p j q hq => by cases hq⟩
  obtain ⟨-, -, h3⟩ := k_ck_at hck hs
  have hl := (k_ck_len hck).1
  unfold k_c1 at h3
  simp only [Bool.and_eq_true, bne_iff_ne, ne_eq, Bool.or_eq_true, decide_eq_true_eq] at h3
  rcases h3.2 with z | z
  · exact absurd h0 z
  · have := of_decide_eq_true (List.all_eq_true.mp z d hd)
    show d < shl.length + 3
    omega
section CALLEND
variable {X : k_X} {cc : ByteArray} {own : String} {nL cells slots : Nat} {Q : State → Prop} {ad : Nat → Nat} {h : k_H} {pc pc' : Nat} {lv : List (Option Value)} {st : List Value}
variable {y : MethodName} {c2 : ByteArray} {maxL n ix f nn F NN b ci N bl : Nat} {rt : Option FieldType} {sl : List Nat} {T : u_T} {As Al stk : List Value} {v : Option Value} {us : List k_U} {pi : List Nat} {shl : List k_Sh}
theorem c_V (C : k_C X cc own nL ad) (hR : X.R.frames = F ∧ X.R.locals = NN) (hcs : cells ≤ X.R.cells ∧ slots ≤ X.R.slots) (M : k_MV y c2 maxL rt n) (hl : k_lk own ix y) (hd : decode cc pc = .ok (.invokevirtual ix, 3)) (hn : pc + 3 = pc') (h1 : Nat.ble (f + 1) F = true) (h2 : Nat.ble (8 + (maxL + 11) + nn) NN = true) (hs : h.1[b]? = some (0, ci, sl)) (hc : vwCl[ci]? = some (y.cls, T, N)) (K : k_CT X.l y c2 maxL rt f nn (.ref b :: As) h v us) (hA : As.length = n) (hst : Nat.ble ((st.map fun v => v.category).sum) 8 = true) (hstk : As.reverse ++ .ref b :: st = stk)
    (k : k_W X nL cells slots Q ad (k_ap us h) pc' lv (v.toList ++ st)) : k_W X nL cells slots Q ad h pc lv stk := by
  subst hn
  intro H locs ls hw hP hD hS hll
  obtain ⟨hin, hse, hini, hcd, hnd⟩ := M
  refine k_backI (a := ((.ref b :: As).map (k_rl ad)).toArray) hw C.2.2.2.2.2.2.1 hD hS hll ?_ k
  have hstack : stk.map (k_rl ad) = (As.map (k_rl ad)).reverse ++ .ref (ad b) :: st.map (k_rl ad) := by
    rw [← hstk, List.map_append, List.map_cons, List.map_reverse]; rfl
  rcases hl with hl | ⟨host, hl⟩
  · exact va_runV (As := As.map (k_rl ad)) (b := ad b) (rest := st.map (k_rl ad)) ⟨C.1, C.2.1, C.2.2.1, C.2.2.2.1, C.2.2.2.2.1⟩ (K X.D X.cA ad H.size) ⟨k_words C hcd hini hnd hR h1 h2 hl, C.2.2.2.2.1 _ hin, C.2.2.2.2.1 _ hse⟩ ⟨k_frameB, va_recv C.2.2.2.2.2.1 hP hc (k_w_at ad X.cA h hs), fun U hU hW => k_preI C hw hP hD hS U hU hW⟩ rfl (by rw [List.length_map]; exact hA) hll.1 hstack (k_cat8 hst) hd hcs
  · exact va_runVN (As := As.map (k_rl ad)) (b := ad b) (rest := st.map (k_rl ad)) ⟨C.1, C.2.1, C.2.2.1, C.2.2.2.1, C.2.2.2.2.1⟩ (K X.D X.cA ad H.size) ⟨k_wordsN C hcd hini hnd hR h1 h2 hl, C.2.2.2.2.1 _ hin, C.2.2.2.2.1 _ hse⟩ ⟨k_frameB, va_recv C.2.2.2.2.2.1 hP hc (k_w_at ad X.cA h hs), fun U hU hW => k_preI C hw hP hD hS U hU hW⟩ rfl (by rw [List.length_map]; exact hA) hll.1 hstack (k_cat8 hst) hd hcs
theorem c_S (C : k_C X cc own nL ad) (hR : X.R.frames = F ∧ X.R.locals = NN) (hcs : cells ≤ X.R.cells ∧ slots ≤ X.R.slots) (M : k_MS y c2 maxL rt n) (hl : k_lk own ix y) (hd : decode cc pc = .ok (.invokestatic ix, 3)) (hn : pc + 3 = pc') (h1 : Nat.ble (f + 1) F = true) (h2 : Nat.ble (8 + (maxL + 11) + nn) NN = true) (K : k_CT X.l y c2 maxL rt f nn As h v us) (hA : As.length = n) (hst : Nat.ble ((st.map fun v => v.category).sum) 8 = true) (hstk : As.reverse ++ st = stk)
    (k : k_W X nL cells slots Q ad (k_ap us h) pc' lv (v.toList ++ st)) : k_W X nL cells slots Q ad h pc lv stk := by
  subst hn
  intro H locs ls hw hP hD hS hll
  obtain ⟨hsta, hini, hcd, hnd⟩ := M
  refine k_backI (a := (As.map (k_rl ad)).toArray) hw C.2.2.2.2.2.2.1 hD hS hll ?_ k
  have hstack : stk.map (k_rl ad) = (As.map (k_rl ad)).reverse ++ st.map (k_rl ad) := by
    rw [← hstk, List.map_append, List.map_reverse]
  rcases hl with hl | ⟨host, hl⟩
  · exact va_runS (As := As.map (k_rl ad)) (rest := st.map (k_rl ad)) ⟨C.1, C.2.1, C.2.2.1, C.2.2.2.1, C.2.2.2.2.1⟩ (K X.D X.cA ad H.size) ⟨k_words C hcd hini hnd hR h1 h2 hl, C.2.2.2.2.1 _ hsta⟩ ⟨k_frameB, fun U hU hW => k_preI C hw hP hD hS U hU hW⟩ rfl (by rw [List.length_map]; exact hA) hll.1 hstack (k_cat8 hst) hd hcs
  · exact va_runSN (As := As.map (k_rl ad)) (rest := st.map (k_rl ad)) ⟨C.1, C.2.1, C.2.2.1, C.2.2.2.1, C.2.2.2.2.1⟩ (K X.D X.cA ad H.size) ⟨k_wordsN C hcd hini hnd hR h1 h2 hl, C.2.2.2.2.1 _ hsta, trivial⟩ ⟨k_frameB, fun U hU hW => k_preI C hw hP hD hS U hU hW⟩ rfl (by rw [List.length_map]; exact hA) hll.1 hstack (k_cat8 hst) hd hcs
/-- the same on a part of the picture -/
theorem c_Vp (C : k_C X cc own nL ad) (hR : X.R.frames = F ∧ X.R.locals = NN) (hcs : cells ≤ X.R.cells ∧ slots ≤ X.R.slots) (M : k_MV y c2 maxL rt n) (hl : k_lk own ix y) (hd : decode cc pc = .ok (.invokevirtual ix, 3)) (hn : pc + 3 = pc') (h1 : Nat.ble (f + 1) F = true) (h2 : Nat.ble (8 + (maxL + 11) + nn) NN = true) (hck : k_ck pi shl h.1 = true) (hs : shl[bl]? = some (0, ci, sl)) (hc : vwCl[ci]? = some (y.cls, T, N)) (K : k_CT X.l y c2 maxL rt f nn (.ref bl :: Al) (k_pl pi shl h) v us) (hb : pi.getD bl 0 = b) (hAl : ∀ ad : Nat → Nat, Al.map (k_rl (k_al pi ad)) = As.map (k_rl ad)) (hu : us.all (fun u => decide (u.1 < pi.length)) = true) (hv : ∀ ad : Nat → Nat, v.map (k_rl (k_al pi ad)) = v.map (k_rl ad)) (hA : Al.length = n) (hst : Nat.ble ((st.map fun v => v.category).sum) 8 = true) (hstk : As.reverse ++ .ref b :: st = stk)
    (k : k_W X nL cells slots Q ad (k_ap (us.map (k_ru pi)) h) pc' lv (v.toList ++ st)) : k_W X nL cells slots Q ad h pc lv stk := by
  subst hn
  intro H locs ls hw hP hD hS hll
  obtain ⟨hin, hse, hini, hcd, hnd⟩ := M
  obtain ⟨hbl, hs2, -⟩ := k_ck_at hck hs
  have hb2 : k_al pi ad bl = ad b := by unfold k_al; rw [if_pos hbl, hb]
  refine k_back (a := ((.ref bl :: Al).map (k_rl (k_al pi ad))).toArray) hw C.2.2.2.2.2.2.1 hP hD hS hll hck hu (hv ad) ?_ k
  have hstack := k_al_rev (st := st) hstk (hAl ad) hb2
  obtain ⟨hP1, hD1⟩ := k_part hP hD hck
  have hrec := va_recv C.2.2.2.2.2.1 hP1 hc (k_w_at (k_al pi ad) X.cA (k_pl pi shl h) hs)
  rcases hl with hl | ⟨host, hl⟩
  · exact va_runV (As := Al.map (k_rl (k_al pi ad))) (b := k_al pi ad bl) (rest := st.map (k_rl ad)) ⟨C.1, C.2.1, C.2.2.1, C.2.2.2.1, C.2.2.2.2.1⟩ (K X.D X.cA (k_al pi ad) H.size) ⟨k_words C hcd hini hnd hR h1 h2 hl, C.2.2.2.2.1 _ hin, C.2.2.2.2.1 _ hse⟩ ⟨k_frameB, hrec, fun U hU hW => k_pre (av := .ref bl :: Al) C (k_wf_pl hck) hP hD hS hck U hU hW⟩ rfl (by rw [List.length_map]; exact hA) hll.1 hstack (k_cat8 hst) hd hcs
  · exact va_runVN (As := Al.map (k_rl (k_al pi ad))) (b := k_al pi ad bl) (rest := st.map (k_rl ad)) ⟨C.1, C.2.1, C.2.2.1, C.2.2.2.1, C.2.2.2.2.1⟩ (K X.D X.cA (k_al pi ad) H.size) ⟨k_wordsN C hcd hini hnd hR h1 h2 hl, C.2.2.2.2.1 _ hin, C.2.2.2.2.1 _ hse⟩ ⟨k_frameB, hrec, fun U hU hW => k_pre (av := .ref bl :: Al) C (k_wf_pl hck) hP hD hS hck U hU hW⟩ rfl (by rw [List.length_map]; exact hA) hll.1 hstack (k_cat8 hst) hd hcs
theorem c_Sp (C : k_C X cc own nL ad) (hR : X.R.frames = F ∧ X.R.locals = NN) (hcs : cells ≤ X.R.cells ∧ slots ≤ X.R.slots) (M : k_MS y c2 maxL rt n) (hl : k_lk own ix y) (hd : decode cc pc = .ok (.invokestatic ix, 3)) (hn : pc + 3 = pc') (h1 : Nat.ble (f + 1) F = true) (h2 : Nat.ble (8 + (maxL + 11) + nn) NN = true) (hck : k_ck pi shl h.1 = true) (K : k_CT X.l y c2 maxL rt f nn Al (k_pl pi shl h) v us) (hAl : ∀ ad : Nat → Nat, Al.map (k_rl (k_al pi ad)) = As.map (k_rl ad)) (hu : us.all (fun u => decide (u.1 < pi.length)) = true) (hv : ∀ ad : Nat → Nat, v.map (k_rl (k_al pi ad)) = v.map (k_rl ad)) (hA : Al.length = n) (hst : Nat.ble ((st.map fun v => v.category).sum) 8 = true) (hstk : As.reverse ++ st = stk)
    (k : k_W X nL cells slots Q ad (k_ap (us.map (k_ru pi)) h) pc' lv (v.toList ++ st)) : k_W X nL cells slots Q ad h pc lv stk := by
  subst hn
  intro H locs ls hw hP hD hS hll
  obtain ⟨hsta, hini, hcd, hnd⟩ := M
  refine k_back (a := (Al.map (k_rl (k_al pi ad))).toArray) hw C.2.2.2.2.2.2.1 hP hD hS hll hck hu (hv ad) ?_ k
  have hstack : stk.map (k_rl ad) = (Al.map (k_rl (k_al pi ad))).reverse ++ st.map (k_rl ad) := by
    rw [← hstk, List.map_append, List.map_reverse, hAl]
  rcases hl with hl | ⟨host, hl⟩
  · exact va_runS (As := Al.map (k_rl (k_al pi ad))) (rest := st.map (k_rl ad)) ⟨C.1, C.2.1, C.2.2.1, C.2.2.2.1, C.2.2.2.2.1⟩ (K X.D X.cA (k_al pi ad) H.size) ⟨k_words C hcd hini hnd hR h1 h2 hl, C.2.2.2.2.1 _ hsta⟩ ⟨k_frameB, fun U hU hW => k_pre (av := Al) C (k_wf_pl hck) hP hD hS hck U hU hW⟩ rfl (by rw [List.length_map]; exact hA) hll.1 hstack (k_cat8 hst) hd hcs
  · exact va_runSN (As := Al.map (k_rl (k_al pi ad))) (rest := st.map (k_rl ad)) ⟨C.1, C.2.1, C.2.2.1, C.2.2.2.1, C.2.2.2.2.1⟩ (K X.D X.cA (k_al pi ad) H.size) ⟨k_wordsN C hcd hini hnd hR h1 h2 hl, C.2.2.2.2.1 _ hsta, trivial⟩ ⟨k_frameB, fun U hU hW => k_pre (av := Al) C (k_wf_pl hck) hP hD hS hck U hU hW⟩ rfl (by rw [List.length_map]; exact hA) hll.1 hstack (k_cat8 hst) hd hcs
end CALLEND
