/-! CONSTRUCTORS: fields that get new arrays -/
theorem k_gr_len (s : k_Sh) (h : k_H) : (k_gr s h).1.length = h.1.length + 1 := by show (h.1 ++ [s]).length = _; rw [List.length_append, List.length_singleton]
theorem k_gr_at {s x : k_Sh} {h : k_H} {p : Nat} (hs : h.1[p]? = some x) : (k_gr s h).1[p]? = some x := by
  show (h.1 ++ [s])[p]? = some x
  rw [List.getElem?_append_left (List.getElem?_eq_some_iff.mp hs).1]; exact hs
theorem k_gr_new (s : k_Sh) (h : k_H) : (k_gr s h).1[h.1.length]? = some s := by
  show (h.1 ++ [s])[h.1.length]? = some s
  rw [List.getElem?_append_right (Nat.le_refl _), Nat.sub_self]; rfl
theorem k_st1_len (p : Nat) (s : k_Sh) (h : k_H) : (k_st1 p s h).1.length = h.1.length := by show (h.1.set p s).length = _; rw [List.length_set]
theorem k_st1_at {s x : k_Sh} {h : k_H} {p : Nat} (hs : h.1[p]? = some x) : (k_st1 p s h).1[p]? = some s := by
  show (h.1.set p s)[p]? = some s
  rw [List.getElem?_set_self (List.getElem?_eq_some_iff.mp hs).1]
theorem k_st1_ne {s x : k_Sh} {h : k_H} {p q : Nat} (hne : p ≠ q) (hs : h.1[q]? = some x) : (k_st1 p s h).1[q]? = some x := by
  show (h.1.set p s)[q]? = some x
  rw [List.getElem?_set_ne hne]; exact hs
/-- a new cell s at the end, and the object at p with other references -/
def k_nf (p ci : Nat) (sl : List Nat) (s : k_Sh) (h : k_H) : k_H := k_st1 p (0, ci, sl) (k_gr s h)
theorem k_nf_len (p ci : Nat) (sl : List Nat) (s : k_Sh) (h : k_H) : (k_nf p ci sl s h).1.length = h.1.length + 1 := by unfold k_nf; rw [k_st1_len, k_gr_len]
theorem k_nf_at {p ci : Nat} {sl : List Nat} {s x : k_Sh} {h : k_H} (hs : h.1[p]? = some x) : (k_nf p ci sl s h).1[p]? = some (0, ci, sl) := k_st1_at (k_gr_at hs)
theorem k_nf_ne {p ci q : Nat} {sl : List Nat} {s x : k_Sh} {h : k_H} (hne : p ≠ q) (hs : h.1[q]? = some x) : (k_nf p ci sl s h).1[q]? = some x := k_st1_ne hne (k_gr_at hs)
theorem k_nf_new {p ci n : Nat} {sl : List Nat} {s x : k_Sh} {h : k_H} (hl : h.1.length = n) (hs : h.1[p]? = some x) : (k_nf p ci sl s h).1[n]? = some s := by
  subst hl
  exact k_st1_ne (Nat.ne_of_lt (List.getElem?_eq_some_iff.mp hs).1) (k_gr_new s h)
theorem k_lt_of {h : k_H} {p : Nat} {x : k_Sh} (hs : h.1[p]? = some x) : p < h.1.length := (List.getElem?_eq_some_iff.mp hs).1
theorem k_okv_of {h : k_H} {p : Nat} {x : k_Sh} (hs : h.1[p]? = some x) : k_okv h.1.length (.ref p) := Or.inl (k_lt_of hs)
section NF
variable {X : k_X} {cc : ByteArray} {own : String} {nL cells slots : Nat} {Q : State → Prop} {ad : Nat → Nat} {h : k_H} {pc pc' : Nat} {lv : List (Option Value)} {st : List Value}
theorem g_nfI (C : k_C X cc own nL ad) (hnm : X.meth.name = "<init>") {p ci kk ix N m : Nat} {n : Int32} {sl sl' : List Nat} (F : k_FF own ix ci kk) (hs : h.1[p]? = some (0, ci, sl)) (hm : h.1.length = m) (hsl : sl.set kk (m + 3) = sl') (hk : kk < sl.length) (hd0 : decode cc pc = .ok (.newarray .int, 2)) (hd1 : decode cc (pc + 2) = .ok (.putfield ix, 3)) (hn : pc + 5 = pc') (hn0 : ¬ n < 0) (hN : n.toNatClampNeg = N) (hbytes : N * 4 ≤ 536870912) (hcs : cells + 1 ≤ X.R.cells ∧ slots + N ≤ X.R.slots) (hlen : m < 1000000) (hlo : k_okL h.1.length lv) (hso : k_okS h.1.length st)
    (k : ∀ ad' : Nat → Nat, k_sm h.1.length ad ad' → k_C X cc own nL ad' → k_W X nL (cells + 1) (slots + N) Q ad' (k_nf p ci sl' (1, N, []) h) pc' lv st) : k_W X nL cells slots Q ad h pc lv (.int n :: .ref p :: st) := by
  subst hm; subst hsl
  refine g_newI C hd0 rfl hn0 hN hbytes hcs hlen hlo ⟨k_okv_of hs, hso⟩ (fun ad' hsm C' => ?_)
  exact g_putR C' hnm hd1 hn F (k_gr_at hs) hk (by rw [k_gr_len]; omega) (k ad' hsm C')
theorem g_nfB (C : k_C X cc own nL ad) (hnm : X.meth.name = "<init>") {p ci kk ix N m : Nat} {n : Int32} {sl sl' : List Nat} (F : k_FF own ix ci kk) (hs : h.1[p]? = some (0, ci, sl)) (hm : h.1.length = m) (hsl : sl.set kk (m + 3) = sl') (hk : kk < sl.length) (hd0 : decode cc pc = .ok (.newarray .byte, 2)) (hd1 : decode cc (pc + 2) = .ok (.putfield ix, 3)) (hn : pc + 5 = pc') (hn0 : ¬ n < 0) (hN : n.toNatClampNeg = N) (hbytes : N * 1 ≤ 536870912) (hcs : cells + 1 ≤ X.R.cells ∧ slots + N ≤ X.R.slots) (hlen : m < 1000000) (hlo : k_okL h.1.length lv) (hso : k_okS h.1.length st)
    (k : ∀ ad' : Nat → Nat, k_sm h.1.length ad ad' → k_C X cc own nL ad' → k_W X nL (cells + 1) (slots + N) Q ad' (k_nf p ci sl' (2, N, []) h) pc' lv st) : k_W X nL cells slots Q ad h pc lv (.int n :: .ref p :: st) := by
  subst hm; subst hsl
  refine g_newB C hd0 rfl hn0 hN hbytes hcs hlen hlo ⟨k_okv_of hs, hso⟩ (fun ad' hsm C' => ?_)
  exact g_putR C' hnm hd1 hn F (k_gr_at hs) hk (by rw [k_gr_len]; omega) (k ad' hsm C')
theorem w_aZ : Cond.arrayClass (newarray.typeOf .boolean) ∈ k_tb := by decide +kernel
theorem g_newZ (C : k_C X cc own nL ad) {N : Nat} {n : Int32} (hd : decode cc pc = .ok (.newarray .boolean, 2)) (hn : pc + 2 = pc') (hn0 : ¬ n < 0) (hN : n.toNatClampNeg = N) (hbytes : N * 1 ≤ 536870912) (hcs : cells + 1 ≤ X.R.cells ∧ slots + N ≤ X.R.slots) (hlen : h.1.length < 1000000) (hlo : k_okL h.1.length lv) (hso : k_okS h.1.length st)
    (k : ∀ ad' : Nat → Nat, k_sm h.1.length ad ad' → k_C X cc own nL ad' → k_W X nL (cells + 1) (slots + N) Q ad' (k_gr (3, N, []) h) pc' lv (.ref h.1.length :: st)) : k_W X nL cells slots Q ad h pc lv (.int n :: st) :=
  g_newa (t := 2) (ty := .boolean) C hd hn rfl (by decide) (fun _ => rfl) k_raZ w_aZ (fun _ => rfl) hn0 hN hbytes hcs hlen hlo hso k
theorem g_nfZ (C : k_C X cc own nL ad) (hnm : X.meth.name = "<init>") {p ci kk ix N m : Nat} {n : Int32} {sl sl' : List Nat} (F : k_FF own ix ci kk) (hs : h.1[p]? = some (0, ci, sl)) (hm : h.1.length = m) (hsl : sl.set kk (m + 3) = sl') (hk : kk < sl.length) (hd0 : decode cc pc = .ok (.newarray .boolean, 2)) (hd1 : decode cc (pc + 2) = .ok (.putfield ix, 3)) (hn : pc + 5 = pc') (hn0 : ¬ n < 0) (hN : n.toNatClampNeg = N) (hbytes : N * 1 ≤ 536870912) (hcs : cells + 1 ≤ X.R.cells ∧ slots + N ≤ X.R.slots) (hlen : m < 1000000) (hlo : k_okL h.1.length lv) (hso : k_okS h.1.length st)
    (k : ∀ ad' : Nat → Nat, k_sm h.1.length ad ad' → k_C X cc own nL ad' → k_W X nL (cells + 1) (slots + N) Q ad' (k_nf p ci sl' (3, N, []) h) pc' lv st) : k_W X nL cells slots Q ad h pc lv (.int n :: .ref p :: st) := by
  subst hm; subst hsl
  refine g_newZ C hd0 rfl hn0 hN hbytes hcs hlen hlo ⟨k_okv_of hs, hso⟩ (fun ad' hsm C' => ?_)
  exact g_putR C' hnm hd1 hn F (k_gr_at hs) hk (by rw [k_gr_len]; omega) (k ad' hsm C')
theorem g_nfQ (C : k_C X cc own nL ad) (hnm : X.meth.name = "<init>") {p ci kk ix iy N m : Nat} {n : Int32} {sl sl' : List Nat} (hcl : Cond.classLink own iy "LullabyPit$Mine" ∈ k_tb) (F : k_FF own ix ci kk) (hs : h.1[p]? = some (0, ci, sl)) (hm : h.1.length = m) (hsl : sl.set kk (m + 3) = sl') (hk : kk < sl.length) (hd0 : decode cc pc = .ok (.anewarray iy, 3)) (hd1 : decode cc (pc + 3) = .ok (.putfield ix, 3)) (hn : pc + 6 = pc') (hn0 : ¬ n < 0) (hN : n.toNatClampNeg = N) (hbytes : N * 4 ≤ 536870912) (hcs : cells + 1 ≤ X.R.cells ∧ slots + N ≤ X.R.slots) (hlen : m < 1000000) (hlo : k_okL h.1.length lv) (hso : k_okS h.1.length st)
    (k : ∀ ad' : Nat → Nat, k_sm h.1.length ad ad' → k_C X cc own nL ad' → k_W X nL (cells + 1) (slots + N) Q ad' (k_nf p ci sl' (5, N, []) h) pc' lv st) : k_W X nL cells slots Q ad h pc lv (.int n :: .ref p :: st) := by
  subst hm; subst hsl
  refine g_newq C hd0 rfl hcl hn0 hN hbytes hcs hlen hlo ⟨k_okv_of hs, hso⟩ (fun ad' hsm C' => ?_)
  exact g_putR C' hnm hd1 hn F (k_gr_at hs) hk (by rw [k_gr_len]; omega) (k ad' hsm C')
theorem g_setR (C : k_C X cc own nL ad) (hnm : X.meth.name = "<init>") {ix p ci kk q : Nat} {sl sl' : List Nat} (hd : decode cc pc = .ok (.putfield ix, 3)) (hn : pc + 3 = pc') (F : k_FF own ix ci kk) (hs : h.1[p]? = some (0, ci, sl)) (hk : kk < sl.length) (hq : q < h.1.length) (hsl : sl.set kk (q + 3) = sl')
    (k : k_W X nL cells slots Q ad (k_st1 p (0, ci, sl') h) pc' lv st) : k_W X nL cells slots Q ad h pc lv (.ref q :: .ref p :: st) := by
  subst hsl
  exact g_putR C hnm hd hn F hs hk hq k
theorem g_aret {mc ms n0 p : Nat} {ad0 : Nat → Nat} {Rr : Option Value → k_H → Prop} {C0 : String} (C : k_C X cc own nL ad) (hr : X.meth.sig.returnType = some (.object C0)) (hc : cells ≤ mc) (hs : slots ≤ ms) (hR : Rr (some (.ref p)) h) (hsm : k_sm n0 ad0 ad) (hd : decode cc pc = .ok (.areturn, 1)) : k_W X nL cells slots (k_QG X ad0 n0 Rr mc ms) ad h pc lv [.ref p] :=
  fun _ _ _ hw hP hD hS _ => W.widen hc hs (W.aret C.1 C.2.1 hr (Or.inl ⟨_, rfl⟩) (Or.inr ⟨_, rfl⟩) (fun _ ht _ => ⟨some (.ref p), ad, h, hR, hsm, rfl, hw, by rw [ht]; exact hP, hD, hS.F ht⟩) hS.2.2 hd C.2.2.2.2.2.2.2.1)
end NF
/-- a field of a number set in the object at p -/
def k_sI (p k : Nat) (v : Int32) (h : k_H) : k_H := (h.1, k_u h.2.1 p k v, h.2.2)
theorem k_csl {X : k_X} {a b mc ms : Nat} (h1 : X.R.cells = mc) (h2 : X.R.slots = ms) (h3 : Nat.ble a mc = true) (h4 : Nat.ble b ms = true) : a ≤ X.R.cells ∧ b ≤ X.R.slots := ⟨by rw [h1]; exact Nat.le_of_ble_eq_true h3, by rw [h2]; exact Nat.le_of_ble_eq_true h4⟩
