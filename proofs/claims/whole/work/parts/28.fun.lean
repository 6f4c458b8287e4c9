/-! what the methods' pictures as functions are made of -/
def k_i {R : Type} (n : Nat) (i : Int32) (k : Option R) : Option R := if i < 0 ∨ n ≤ i.toNatClampNeg then none else k
theorem k_i_of {R : Type} {n : Nat} {i : Int32} {k : Option R} {o : R} (h : k_i n i k = some o) : vp_in i n ∧ k = some o := by
  unfold k_i at h
  by_cases c : i < 0 ∨ n ≤ i.toNatClampNeg
  · rw [if_pos c] at h; cases h
  · rw [if_neg c] at h; exact ⟨c, h⟩
def k_d {R : Type} (y : Int32) (k : Option R) : Option R := if y = 0 then none else k
theorem k_d_of {R : Type} {y : Int32} {k : Option R} {o : R} (h : k_d y k = some o) : ¬ y = 0 ∧ k = some o := by
  unfold k_d at h
  by_cases c : y = 0
  · rw [if_pos c] at h; cases h
  · rw [if_neg c] at h; exact ⟨c, h⟩
def k_z {R : Type} (y : Int32) (k : Option R) : Option R := if y = 0 ∨ y = 1 then k else none
theorem k_z_of {R : Type} {y : Int32} {k : Option R} {o : R} (h : k_z y k = some o) : (y = 0 ∨ y = 1) ∧ k = some o := by
  unfold k_z at h
  by_cases c : y = 0 ∨ y = 1
  · rw [if_pos c] at h; exact ⟨c, h⟩
  · rw [if_neg c] at h; cases h
def k_b {P R : Type} (c : Option P) (k : P → Option R) : Option R := match c with
  | none => none
  | some r => k r
theorem k_b_of {P R : Type} {c : Option P} {k : P → Option R} {o : R} (h : k_b c k = some o) : ∃ r, c = some r ∧ k r = some o := by
  cases c with
  | none => cases h
  | some r => exact ⟨r, rfl, h⟩
theorem k_t {R : Type} {c : Prop} [Decidable c] {a b o : Option R} (hc : c) (h : (if c then a else b) = o) : a = o := by rw [if_pos hc] at h; exact h
theorem k_f {R : Type} {c : Prop} [Decidable c] {a b o : Option R} (hc : ¬ c) (h : (if c then a else b) = o) : b = o := by rw [if_neg hc] at h; exact h
/-- a switch's rest -/
theorem k_sw {x : Int32} {lo hi : Int} (vs : List Int32) (hvs : vs.map Int32.toInt = (List.range (hi - lo + 1).toNat).map (fun j : Nat => lo + (j : Int))) (hx : ∀ v ∈ vs, ¬ x = v) : x.toInt < lo ∨ hi < x.toInt := by
  by_cases h1 : x.toInt < lo
  · exact Or.inl h1
  · by_cases h2 : hi < x.toInt
    · exact Or.inr h2
    · exfalso
      have hm : x.toInt ∈ vs.map Int32.toInt := by
        rw [hvs, List.mem_map]
        exact ⟨(x.toInt - lo).toNat, List.mem_range.mpr (by omega), by omega⟩
      obtain ⟨v, hv, e⟩ := List.mem_map.mp hm
      exact hx v hv (Int32.toInt_inj.mp e.symm)
theorem k_start {X : k_X} {nL cells slots : Nat} {Q : State → Prop} {ad : Nat → Nat} {h : k_H} {pc : Nat} {lv : List (Option Value)} {st : List Value} {us : List k_U} (e : k_ap us h = h) (k : k_W X nL cells slots Q ad (k_ap us h) pc lv st) : k_W X nL cells slots Q ad h pc lv st := by
  rw [e] at k; exact k
theorem k_eqh {X : k_X} {nL cells slots : Nat} {Q : State → Prop} {ad : Nat → Nat} {h h' : k_H} {pc : Nat} {lv : List (Option Value)} {st : List Value} (e : h' = h) (k : k_W X nL cells slots Q ad h pc lv st) : k_W X nL cells slots Q ad h' pc lv st := by
  rw [e]; exact k
/-- behind a call: the lists of updates joined -/
theorem k_jn {us vs us' : List k_U} {ks : List (Nat × Nat × Nat)} {h0 : k_H} (hds : k_ds ks = true) (hk : us.map k_ky = ks) (hin : k_in ks (vs.map k_ky) = true) (hmg : k_mg us vs = us') : k_ap vs (k_ap us h0) = k_ap us' h0 := by
  subst hk; subst hmg
  exact k_ap_mg vs us h0 hds (k_in_of hin)
section ARR
variable {X : k_X} {cc : ByteArray} {own : String} {nL cells slots : Nat} {Q : State → Prop} {ad : Nat → Nat} {h h0 : k_H} {us us' : List k_U} {ks : List (Nat × Nat × Nat)} {pc pc' : Nat} {lv : List (Option Value)} {st : List Value} {p n j : Nat} {sl : List Nat} {i x : Int32} {f : Nat → Int32}
theorem a_i (C : k_C X cc own nL ad) (hd : decode cc pc = .ok (.iaload, 1)) (hn : pc + 1 = pc') (hs : h.1[p]? = some (1, n, sl)) (hf : h.2.1 p = f) (hin : vp_in i n) (hj : i.toNatClampNeg = j) (k : k_W X nL cells slots Q ad h pc' lv (.int (f j) :: st)) : k_W X nL cells slots Q ad h pc lv (.int i :: .ref p :: st) := by
  subst hj; exact r_iald C hd hn hs hf hin k
theorem a_b (C : k_C X cc own nL ad) (hd : decode cc pc = .ok (.baload, 1)) (hn : pc + 1 = pc') (hs : h.1[p]? = some (2, n, sl)) (hf : h.2.1 p = f) (hin : vp_in i n) (hj : i.toNatClampNeg = j) (k : k_W X nL cells slots Q ad h pc' lv (.int (f j) :: st)) : k_W X nL cells slots Q ad h pc lv (.int i :: .ref p :: st) := by
  subst hj; exact r_bald C hd hn hs hf hin k
theorem a_z (C : k_C X cc own nL ad) (hd : decode cc pc = .ok (.baload, 1)) (hn : pc + 1 = pc') (hs : h.1[p]? = some (3, n, sl)) (hf : h.2.1 p = f) (hin : vp_in i n) (hj : i.toNatClampNeg = j) (k : k_W X nL cells slots Q ad h pc' lv (.int (f j) :: st)) : k_W X nL cells slots Q ad h pc lv (.int i :: .ref p :: st) := by
  subst hj; exact r_zald C hd hn hs hf hin k
theorem a_l {g : Nat → Int64} (C : k_C X cc own nL ad) (hd : decode cc pc = .ok (.laload, 1)) (hn : pc + 1 = pc') (hs : h.1[p]? = some (4, n, sl)) (hf : h.2.2.1 p = g) (hin : vp_in i n) (hj : i.toNatClampNeg = j) (k : k_W X nL cells slots Q ad h pc' lv (.long (g j) :: st)) : k_W X nL cells slots Q ad h pc lv (.int i :: .ref p :: st) := by
  subst hj; exact r_lald C hd hn hs hf hin k
theorem s_i (C : k_C X cc own nL ad) (hd : decode cc pc = .ok (.iastore, 1)) (hn : pc + 1 = pc') (hs : h0.1[p]? = some (1, n, sl)) (hf : (k_ap us h0).2.1 p = f) (hin : vp_in i n) (hj : i.toNatClampNeg = j) (hds : k_ds ks = true) (hk : us.map k_ky = ks) (hi : ks.contains (p, 2, 0) = true) (hmg : k_rp (p, .inr (.inr (.inl (upd f j x)))) us = us') (k : k_W X nL cells slots Q ad (k_ap us' h0) pc' lv st) : k_W X nL cells slots Q ad (k_ap us h0) pc lv (.int x :: .int i :: .ref p :: st) := by
  subst hj; exact p_i C hd hn hs hf hin hds hk hi hmg k
theorem s_b (C : k_C X cc own nL ad) (hd : decode cc pc = .ok (.bastore, 1)) (hn : pc + 1 = pc') (hs : h0.1[p]? = some (2, n, sl)) (hf : (k_ap us h0).2.1 p = f) (hin : vp_in i n) (hj : i.toNatClampNeg = j) (hds : k_ds ks = true) (hk : us.map k_ky = ks) (hi : ks.contains (p, 2, 0) = true) (hmg : k_rp (p, .inr (.inr (.inl (upd f j (vp_nar .byte x))))) us = us') (k : k_W X nL cells slots Q ad (k_ap us' h0) pc' lv st) : k_W X nL cells slots Q ad (k_ap us h0) pc lv (.int x :: .int i :: .ref p :: st) := by
  subst hj; exact p_b C hd hn hs hf hin hds hk hi hmg k
theorem s_z (C : k_C X cc own nL ad) (hd : decode cc pc = .ok (.bastore, 1)) (hn : pc + 1 = pc') (hs : h0.1[p]? = some (3, n, sl)) (hf : (k_ap us h0).2.1 p = f) (hin : vp_in i n) (hj : i.toNatClampNeg = j) (hds : k_ds ks = true) (hk : us.map k_ky = ks) (hi : ks.contains (p, 2, 0) = true) (hmg : k_rp (p, .inr (.inr (.inl (upd f j (vp_nar .boolean x))))) us = us') (k : k_W X nL cells slots Q ad (k_ap us' h0) pc' lv st) : k_W X nL cells slots Q ad (k_ap us h0) pc lv (.int x :: .int i :: .ref p :: st) := by
  subst hj; exact p_z C hd hn hs hf hin hds hk hi hmg k
end ARR
