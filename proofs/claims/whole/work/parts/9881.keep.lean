/-! WHAT A QUERY LEAVES ALONE -/
def rZ_st (p : Nat) : Bool := Nat.ble p 9 || (p == 17 || (p == 18 || (p == 20 || (p == 21 || (Nat.ble 26 p && Nat.ble p 30 || (Nat.ble 35 p && Nat.ble p 39 || (p == 41 || (p == 58 || (p == 59 || (p == 72 || (Nat.ble 77 p && Nat.ble p 80 || (Nat.ble 83 p && Nat.ble p 85 || (p == 90 || (p == 92 || (p == 96 || (p == 101 || Nat.ble 103 p))))))))))))))))
def rZ_fl : List Nat := [2, 8, 25, 26, 27, 28, 30, 42, 43, 54, 65]
def rZ_eq (h h' : k_H) : Prop := h'.1 = h.1 ∧ h'.2.2.2 = h.2.2.2 ∧ (∀ p, rZ_st p = true → h'.2.1 p = h.2.1 p ∧ h'.2.2.1 p = h.2.2.1 p) ∧ ∀ k, k ∈ rZ_fl → h'.2.1 70 k = h.2.1 70 k
theorem rZ_ge {p : Nat} (h : 103 ≤ p) : rZ_st p = true := by
  unfold rZ_st
  rw [show Nat.ble 103 p = true from Nat.ble_eq_true_of_le h]
  simp only [Bool.or_true]
theorem rZ_103 {h : k_H} (z : rZ_C h) {p j q : Nat} (hp : p = 36 ∨ p = 37 ∨ p = 38) (hq : h.2.2.2 p j = some q) : 103 ≤ q := by
  obtain ⟨⟨rest, e⟩, L, -⟩ := z
  obtain ⟨hm, h70⟩ := L.2.2.1.1 p j q hp hq
  have h1 : h.1[q]? = some (k_mn q) := hm.1
  have h2 : h.1[q + 1]? = some (1, 6, []) := hm.2.1
  by_cases hge : 103 ≤ q
  · exact hge
  · exfalso
    rw [e] at h1
    have hl : rZ_sh.length = 103 := rfl
    rw [List.getElem?_append_left (by rw [hl]; omega)] at h1
    have hx : ∀ q, q < 103 → 70 ≤ q → (rZ_sh[q]?).map (fun s => s.1 == 0 && s.2.1 == 3) = some false := by
      intro q h3 h4
      obtain ⟨i, rfl⟩ : ∃ i, q = 70 + i := ⟨q - 70, by omega⟩
      have h5 : i < 33 := by omega
      have : ((List.range 33).all fun i => (rZ_sh[70 + i]?).map (fun s => s.1 == 0 && s.2.1 == 3) == some false) = true := rfl
      have h6 := List.all_eq_true.mp this i (List.mem_range.mpr h5)
      exact eq_of_beq h6
    have h7 := hx q (by omega) h70
    rw [h1] at h7
    cases h7
theorem rZ_Meq {h h' : k_H} (E : rZ_eq h h') {q : Nat} {m : aM} (hq : 103 ≤ q ∨ q = 26) (z : rZ_M h q m) : rZ_M h' q m := by
  have h0 : ∀ i, i < 5 → rZ_st (q + i) = true := by
    intro i hi
    rcases hq with hq | rfl
    · exact rZ_ge (by omega)
    · match i, hi with
      | 0, _ => rfl
      | 1, _ => rfl
      | 2, _ => rfl
      | 3, _ => rfl
      | 4, _ => rfl
      | i + 5, h => omega
  have e0 := E.2.2.1 q (h0 0 (by omega))
  have e1 := (E.2.2.1 (q + 1) (h0 1 (by omega))).1
  have e2 := (E.2.2.1 (q + 2) (h0 2 (by omega))).1
  have e3 := (E.2.2.1 (q + 3) (h0 3 (by omega))).1
  have e4 := (E.2.2.1 (q + 4) (h0 4 (by omega))).1
  unfold rZ_M
  rw [e0.1, e0.2, e1, e2, e3, e4]
  exact z
theorem rZ_Peq {h h' : k_H} (E : rZ_eq h h') {p : aP} (z : rZ_P p h) : rZ_P p h' := by
  have e3 := E.2.2.1 3 rfl
  have f : ∀ k, k ∈ rZ_fl → h'.2.1 70 k = h.2.1 70 k := E.2.2.2
  unfold rZ_P
  rw [e3.1, e3.2, (E.2.2.1 4 rfl).1, (E.2.2.1 5 rfl).1, (E.2.2.1 6 rfl).1, (E.2.2.1 7 rfl).1, (E.2.2.1 8 rfl).1, (E.2.2.1 9 rfl).1, (E.2.2.1 77 rfl).1, (E.2.2.1 78 rfl).1, (E.2.2.1 79 rfl).1, (E.2.2.1 80 rfl).1, f 25 (by decide), f 26 (by decide), f 27 (by decide), f 28 (by decide), f 30 (by decide)]
  exact z
theorem rZ_Leq {h h' : k_H} (E : rZ_eq h h') {LF LH : (Nat → Int32) → Int32} (z : rZ_L LF LH h) : rZ_L LF LH h' := by
  unfold rZ_L
  rw [(E.2.2.1 17 rfl).1, (E.2.2.1 18 rfl).1, (E.2.2.1 20 rfl).1, (E.2.2.1 21 rfl).1, (E.2.2.1 83 rfl).1, (E.2.2.1 84 rfl).1, (E.2.2.1 85 rfl).1]
  exact z
theorem rZ_Neq {h h' : k_H} (E : rZ_eq h h') {p : aP} {m : aM} (z : rZ_N p m h) : rZ_N p m h' :=
  ⟨z.1, rZ_Meq E (Or.inr rfl) z.2.1, by rw [(E.2.2.1 90 rfl).1]; exact z.2.2⟩
theorem rZ_Beq {h h' : k_H} (E : rZ_eq h h') {L : Nat} {bk : Nat → Nat × Nat} (z : rZ_B L bk h) : rZ_B L bk h' := by
  unfold rZ_B
  rw [(E.2.2.1 58 rfl).1, (E.2.2.1 59 rfl).1, (E.2.2.1 96 rfl).1, E.2.2.2 54 (by decide)]
  exact z
theorem rZ_Teq {h h' : k_H} (E : rZ_eq h h') (z : rZ_T h) : rZ_T h' := by
  unfold rZ_T
  rw [(E.2.2.1 1 rfl).1, (E.2.2.1 2 rfl).1, (E.2.2.1 72 rfl).1, E.2.2.2 2 (by decide)]
  exact z
theorem rZ_Weq {h h' : k_H} (E : rZ_eq h h') (zc : rZ_C h) {p : aP} {W : Nat} {pa : Nat → aM} (z : rZ_W p W pa h) : rZ_W p W pa h' := by
  obtain ⟨h1, h2, h3, h4⟩ := z
  refine ⟨h1, by rw [(E.2.2.1 35 rfl).1]; exact h2, by rw [E.2.2.2 42 (by decide)]; exact h3, fun j hj => ?_⟩
  obtain ⟨q, g1, g2, g3, g4⟩ := h4 j hj
  exact ⟨q, by rw [E.2.1]; exact g1, rZ_Meq E (Or.inl (rZ_103 zc (Or.inl rfl) g1)) g2, by rw [(E.2.2.1 92 rfl).1]; exact g3, g4⟩
theorem rZ_Ieq {h h' : k_H} (E : rZ_eq h h') (zc : rZ_C h) {p : aP} {I : Nat} {iw : Nat → Nat} {im : Nat → aM} {ip : Nat → Nat → aM} (z : rZ_I p I iw im ip h) : rZ_I p I iw im ip h' := by
  obtain ⟨h1, h2, h3, h4⟩ := z
  refine ⟨h1, by rw [(E.2.2.1 35 rfl).1]; exact h2, by rw [E.2.2.2 65 (by decide)]; exact h3, fun i hi => ?_⟩
  obtain ⟨g1, g2, g3, g4, ⟨q, g5, g6, g7⟩, g8⟩ := h4 i hi
  refine ⟨g1, by rw [(E.2.2.1 39 rfl).1]; exact g2, by rw [(E.2.2.1 101 rfl).1]; exact g3, g4, ⟨q, by rw [E.2.1]; exact g5, rZ_Meq E (Or.inl (rZ_103 zc (Or.inr (Or.inl rfl)) g5)) g6, by rw [(E.2.2.1 101 rfl).1]; exact g7⟩, fun j hj => ?_⟩
  obtain ⟨q, k1, k2, k3, k4⟩ := g8 j hj
  exact ⟨q, by rw [E.2.1]; exact k1, rZ_Meq E (Or.inl (rZ_103 zc (Or.inr (Or.inr rfl)) k1)) k2, by rw [(E.2.2.1 101 rfl).1]; exact k3, k4⟩
theorem rZ_Ceq {h h' : k_H} (E : rZ_eq h h') (z : rZ_C h) : rZ_C h' := by
  obtain ⟨h1, h2, h3⟩ := z
  refine ⟨by rw [E.1]; exact h1, ⟨by rw [E.1]; exact h2.1, by rw [E.1]; exact h2.2.1, ?_, by rw [E.1]; exact h2.2.2.2.1, by rw [E.1]; exact h2.2.2.2.2⟩, by rw [E.2.1]; exact h3⟩
  unfold k_PS
  rw [E.1, E.2.1]
  exact h2.2.2.1
theorem Rel_eq {S : aT} {h h' : k_H} (R : Rel S h) (E : rZ_eq h h') (hr : ∀ k, k < 3 → h'.2.1 69 k = h'.2.1 71 k) : Rel S h' := by
  obtain ⟨c, p, l, n, b, t, r, w, i⟩ := R
  exact ⟨rZ_Ceq E c, rZ_Peq E p, rZ_Leq E l, rZ_Neq E n, rZ_Beq E b, rZ_Teq E t, ⟨hr, by rw [(E.2.2.1 1 rfl).1, E.2.2.2 8 (by decide)]; exact r.2.1, by rw [(E.2.2.1 0 rfl).1, E.2.2.2 43 (by decide)]; exact r.2.2⟩, rZ_Weq E c w, rZ_Ieq E c i⟩
/-- updates of the class's scratch, the answer's row, updates of the reference's -/
theorem rZ_ap {us : List k_U} (hu : us.all (fun u => !rZ_st u.1) = true) {p : Nat} (hp : rZ_st p = true) (h : k_H) : (k_ap us h).2.1 p = h.2.1 p ∧ (k_ap us h).2.2.1 p = h.2.2.1 p := by
  have := k_ap_out (p := p) us h (fun u hm e => by
    have := List.all_eq_true.mp hu u hm
    rw [← e, hp] at this
    cases this)
  exact ⟨this.1, this.2.1⟩
theorem rZ_eqA {us vs : List k_U} (hu : us.all (fun u => !rZ_st u.1) = true) (hv : vs.all (fun u => !rZ_st u.1) = true) (y : Int64) {h : k_H} (f : ∀ k, k ∈ rZ_fl → (k_ap vs (k_out y (k_ap us h))).2.1 70 k = h.2.1 70 k) : rZ_eq h (k_ap vs (k_out y (k_ap us h))) := by
  refine ⟨by rw [k_ap_sh]; show (k_ap us h).1 = _; rw [k_ap_sh], by rw [k_ap_rf]; show (k_ap us h).2.2.2 = _; rw [k_ap_rf], fun p hp => ?_, f⟩
  have h1 := rZ_ap hv hp (k_out y (k_ap us h))
  have h2 := rZ_ap hu hp h
  have h3 : ¬ p = 102 := by rintro rfl; cases hp
  refine ⟨h1.1.trans h2.1, h1.2.trans ?_⟩
  show k_ua (k_ap us h).2.2.1 102 _ p = _
  unfold k_ua
  rw [if_neg h3]
  exact h2.2
theorem rZ_eqB {us vs : List k_U} (hu : us.all (fun u => !rZ_st u.1) = true) (hv : vs.all (fun u => !rZ_st u.1) = true) {h : k_H} (f : ∀ k, k ∈ rZ_fl → (k_ap vs (k_ap us h)).2.1 70 k = h.2.1 70 k) : rZ_eq h (k_ap vs (k_ap us h)) := by
  refine ⟨by rw [k_ap_sh, k_ap_sh], by rw [k_ap_rf, k_ap_rf], fun p hp => ?_, f⟩
  have h1 := rZ_ap hv hp (k_ap us h)
  have h2 := rZ_ap hu hp h
  exact ⟨h1.1.trans h2.1, h1.2.trans h2.2⟩
