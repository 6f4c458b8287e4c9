/-! THE LAW'S OWN ROWS: its argument, its helpers -/
section ARG
variable {X : k_X} {cc : ByteArray} {own : String} {nL cells slots mc ms : Nat} {Q : State → Prop} {ad : Nat → Nat} {h : k_H} {pc pc' : Nat} {lv : List (Option Value)} {st : List Value} {F NN ix : Nat}
theorem r_argI (C : k_C X cc own nL ad) {p N : Nat} {f : Nat → Int32} (hA : va_T .int (ad p) N (fun j => .int (f j)) X.A X.s X.s.heap) {i : Int32} {j : Nat} (hd : decode cc pc = .ok (.iaload, 1)) (hn : pc + 1 = pc') (hin : vp_in i N) (hj : i.toNatClampNeg = j) (k : k_W X nL cells slots Q ad h pc' lv (.int (f j) :: st)) : k_W X nL cells slots Q ad h pc lv (.int i :: .ref p :: st) := by
  subst hn; subst hj
  exact fun H locs ls hw hP hD hS hll => va_ti C.1 C.2.1 hA hS hin rfl hd (k H locs ls hw hP hD hS hll)
theorem r_argL (C : k_C X cc own nL ad) {p N : Nat} {f : Nat → Int32} (hA : va_T .int (ad p) N (fun j => .int (f j)) X.A X.s X.s.heap) (hd : decode cc pc = .ok (.arraylength, 1)) (hn : pc + 1 = pc') (k : k_W X nL cells slots Q ad h pc' lv (.int (Int32.ofNat N) :: st)) : k_W X nL cells slots Q ad h pc lv (.ref p :: st) := by
  subst hn
  exact fun H locs ls hw hP hD hS hll => va_tlen C.1 C.2.1 hA hS rfl hd (k H locs ls hw hP hD hS hll)
/-- the argument keeps its address while cells are made -/
theorem k_argS {n : Nat} {ad ad' : Nat → Nat} {p N : Nat} {f : Nat → Int32} {A : Nat → Prop} {s : State} {H : Heap} (hsm : k_sm n ad ad') (hp : 1000000 ≤ p) (hA : va_T .int (ad p) N (fun j => .int (f j)) A s H) : va_T .int (ad' p) N (fun j => .int (f j)) A s H := by
  rw [hsm p (Or.inr hp)]
  exact hA
def k_MH (y : MethodName) (cc : ByteArray) (maxL : Nat) (rt : Option FieldType) (hh : List (Nat × Nat × Nat × Nat)) (n : Nat) : Prop := Cond.static y ∈ k_tb ∧ Cond.initialized y.cls ∈ k_tb ∧ Cond.codeWith y cc maxL rt hh ∈ k_tb ∧ k_nd y n
theorem k_goodInH {y : MethodName} {cc : ByteArray} {maxL : Nat} {rt : Option FieldType} {hh : List (Nat × Nat × Nat × Nat)} (hc : Cond.codeWith y cc maxL rt hh ∈ k_tb) : GoodIn k_tb (k_wsH y cc maxL rt hh) := by
  intro w hw
  rcases List.mem_cons.mp hw with h | h
  · subst h; exact ⟨hc, good_of_word (k_good _ hc)⟩
  · exact ⟨h, good_of_word (k_good w h)⟩
/-- a helper with a table of its own: it never throws -/
theorem c_SH {y : MethodName} {c2 : ByteArray} {maxL n f nn : Nat} {rt : Option FieldType} {hh : List (Nat × Nat × Nat × Nat)} {As stk : List Value} {Rr : Option Value → k_H → Prop} (C : k_C X cc own nL ad) (hR : X.R.frames = F ∧ X.R.locals = NN) (hcs : cells + mc ≤ X.R.cells ∧ slots + ms ≤ X.R.slots) (M : k_MH y c2 maxL rt hh n) (hl : Cond.methodLink own ix y ∈ k_tb) (hd : decode cc pc = .ok (.invokestatic ix, 3)) (hn : pc + 3 = pc') (h1 : Nat.ble (f + 1) F = true) (h2 : Nat.ble (8 + (maxL + 11) + nn) NN = true) (K : k_CH X.l y c2 maxL rt hh f nn mc ms As h Rr) (hA : As.length = n) (hst : Nat.ble ((st.map fun v => v.category).sum) 8 = true) (hstk : As.reverse ++ st = stk) (hlo : k_okL h.1.length lv) (hso : k_okS h.1.length st)
    (k : ∀ (v : Option Value) (ad' : Nat → Nat) (h' : k_H), Rr v h' → k_sm h.1.length ad ad' → k_C X cc own nL ad' → k_W X nL (cells + mc) (slots + ms) Q ad' h' pc' lv (v.toList ++ st)) : k_W X nL cells slots Q ad h pc lv stk := by
  subst hn
  intro H locs ls hw hP hD hS hll
  obtain ⟨hsta, hini, hcd, hnd⟩ := M
  refine k_backX (Rx := fun _ _ => False) (a := (As.map (k_rl ad)).toArray) C hD hS hll hlo hso ?_ k (fun _ _ _ z => z.elim)
  have hstack : stk.map (k_rl ad) = (As.map (k_rl ad)).reverse ++ st.map (k_rl ad) := by
    rw [← hstk, List.map_append, List.map_reverse]
  exact vx_runSX (As := As.map (k_rl ad)) (rest := st.map (k_rl ad)) ⟨C.1, C.2.1, C.2.2.1, C.2.2.2.1, C.2.2.2.2.1⟩ (K X.D X.cA ad H.size) ⟨⟨rfl, rfl, by rw [hR.1]; exact Nat.le_of_ble_eq_true h1, by rw [hR.2]; exact Nat.le_of_ble_eq_true h2, pay_in C.2.2.2.2.1 (k_goodInH hcd), List.mem_cons_self⟩, C.2.2.2.2.1 _ hcd, C.2.2.2.2.1 _ hini, ⟨hnd.1, hnd.2.1⟩, fun sig h => by { have h2 := hnd.2.2; rw [h] at h2; exact (Option.some.inj h2).symm }, C.2.2.2.2.1 _ hl, C.2.2.2.2.1 _ hsta⟩ ⟨k_frameB, fun U hU hW => k_preI C hw hP hD hS U hU hW⟩ rfl (by rw [List.length_map]; exact hA) hll.1 hstack (k_cat8 hst) hd hcs
end ARG
