/-! A TWIN OF A MINE; the pit, the columns -/
/-- a mine's object: its pit at 3, its laws at 17, 20, its rows behind it -/
def k_mn (a : Nat) : k_Sh := (0, 3, [6, 20, 23, 1, 1, 1, a + 1 + 3, a + 2 + 3, a + 3 + 3, a + 4 + 3, 0, 0, 0, 0, 0, 0, 0, 0])
def k_mA (sh : List k_Sh) (a : Nat) : Prop := sh[a]? = some (k_mn a) ∧ sh[a + 1]? = some (1, 6, []) ∧ sh[a + 2]? = some (1, 6, []) ∧ sh[a + 3]? = some (1, 6, []) ∧ sh[a + 4]? = some (1, 6, [])
/-- pits and laws of the class's object -/
def k_base (sh : List k_Sh) : Prop := ∀ (i : Nat) (s : k_Sh), i < 23 → shX[i + 3]? = some s → sh[i + 3]? = some s
theorem k_ck_mk {pi : List Nat} {shl sh : List k_Sh} (h1 : pi.length = shl.length) (h2 : Nat.ble pi.length 1000000 = true) (h3 : va_nd pi = true) (h4 : ∀ (i : Nat) (s : k_Sh), shl[i]? = some s → sh[pi.getD i 0]? = some (k_rs pi s) ∧ k_c1 pi s = true) : k_ck pi shl sh = true := by
  unfold k_ck
  simp only [Bool.and_eq_true, beq_iff_eq]
  refine ⟨⟨⟨h1, h2⟩, h3⟩, List.all_eq_true.mpr (fun q hq => ?_)⟩
  obtain ⟨i, hi⟩ := List.getElem?_of_mem hq
  rw [List.getElem?_zip_eq_some] at hi
  have h5 := h4 i q.2 hi.2
  have e : pi.getD i 0 = q.1 := by rw [List.getD_eq_getElem?_getD, hi.1]; rfl
  rw [e] at h5
  simp only [Bool.and_eq_true, decide_eq_true_eq]
  exact h5
def k_pi2 (b a : Nat) : List Nat := [b, b + 1, b + 2, b + 3, b + 4, 3, 4, 5, 6, 7, 8, 9, 17, 18, 19, 20, 21, 22, a, a + 1, a + 2, a + 3, a + 4]
theorem ck_mine2 {sh : List k_Sh} {b a : Nat} (B : k_base sh) (hb : k_mA sh b) (ha : k_mA sh a) (h1 : 25 < b) (h2 : 25 < a) (h3 : b + 4 < a ∨ a + 4 < b) : k_ck (k_pi2 b a) shMine2 sh = true := by
  refine k_ck_mk rfl rfl ?_ ?_
  · unfold k_pi2
    simp only [va_nd, List.mem_cons, List.not_mem_nil, or_false, not_or, Bool.and_eq_true, decide_eq_true_eq, Bool.and_true, not_false_eq_true, decide_true, and_true]
    omega
  · intro i s hs
    match i, hs with
    | 0, hs => cases hs; exact ⟨hb.1, rfl⟩
    | 1, hs => cases hs; exact ⟨hb.2.1, rfl⟩
    | 2, hs => cases hs; exact ⟨hb.2.2.1, rfl⟩
    | 3, hs => cases hs; exact ⟨hb.2.2.2.1, rfl⟩
    | 4, hs => cases hs; exact ⟨hb.2.2.2.2, rfl⟩
    | 5, hs => cases hs; exact ⟨B 0 _ (by decide) rfl, rfl⟩
    | 6, hs => cases hs; exact ⟨B 1 _ (by decide) rfl, rfl⟩
    | 7, hs => cases hs; exact ⟨B 2 _ (by decide) rfl, rfl⟩
    | 8, hs => cases hs; exact ⟨B 3 _ (by decide) rfl, rfl⟩
    | 9, hs => cases hs; exact ⟨B 4 _ (by decide) rfl, rfl⟩
    | 10, hs => cases hs; exact ⟨B 5 _ (by decide) rfl, rfl⟩
    | 11, hs => cases hs; exact ⟨B 6 _ (by decide) rfl, rfl⟩
    | 12, hs => cases hs; exact ⟨B 14 _ (by decide) rfl, rfl⟩
    | 13, hs => cases hs; exact ⟨B 15 _ (by decide) rfl, rfl⟩
    | 14, hs => cases hs; exact ⟨B 16 _ (by decide) rfl, rfl⟩
    | 15, hs => cases hs; exact ⟨B 17 _ (by decide) rfl, rfl⟩
    | 16, hs => cases hs; exact ⟨B 18 _ (by decide) rfl, rfl⟩
    | 17, hs => cases hs; exact ⟨B 19 _ (by decide) rfl, rfl⟩
    | 18, hs => cases hs; exact ⟨ha.1, rfl⟩
    | 19, hs => cases hs; exact ⟨ha.2.1, rfl⟩
    | 20, hs => cases hs; exact ⟨ha.2.2.1, rfl⟩
    | 21, hs => cases hs; exact ⟨ha.2.2.2.1, rfl⟩
    | 22, hs => cases hs; exact ⟨ha.2.2.2.2, rfl⟩
    | i + 23, hs => exact absurd hs (by simp [shMine2])
/-- the mine at a is copied into that at b -/
def k_cpU (b a : Nat) (h : k_H) : List k_U := [(b, .inl (10, h.2.1 a 10)), (b, .inl (11, h.2.1 a 11)), (b, .inl (12, h.2.1 a 12)), (b, .inl (13, h.2.1 a 13)), (b, .inl (14, h.2.1 a 14)), (b, .inl (15, h.2.1 a 15)), (b, .inl (16, h.2.1 a 16)), (b, .inl (17, h.2.1 a 17)), (b, .inr (.inl (3, h.2.2.1 a 3))), (b, .inr (.inl (4, h.2.2.1 a 4))), (b, .inr (.inl (5, h.2.2.1 a 5))), (b + 1, .inr (.inr (.inl (va_cpy (h.2.1 (a + 1)) (h.2.1 (b + 1)) 0 0 6)))), (b + 2, .inr (.inr (.inl (va_cpy (h.2.1 (a + 2)) (h.2.1 (b + 2)) 0 0 6)))), (b + 3, .inr (.inr (.inl (va_cpy (h.2.1 (a + 3)) (h.2.1 (b + 3)) 0 0 6)))), (b + 4, .inr (.inr (.inl (va_cpy (h.2.1 (a + 4)) (h.2.1 (b + 4)) 0 0 6))))]
def k_cpM (b a : Nat) (h : k_H) : k_H := k_ap (k_cpU b a h) h
section CP
variable {X : k_X} {cc : ByteArray} {own : String} {nL cells slots : Nat} {Q : State → Prop} {ad : Nat → Nat} {h : k_H} {pc pc' : Nat} {lv : List (Option Value)} {st : List Value} {F NN ix : Nat}
set_option maxRecDepth 100000 in
theorem g_copy (C : k_C X cc own nL ad) (hR : X.R.frames = F ∧ X.R.locals = NN) (hcs : cells ≤ X.R.cells ∧ slots ≤ X.R.slots) {b a : Nat} (B : k_base h.1) (hb : k_mA h.1 b) (ha : k_mA h.1 a) (h1 : 25 < b) (h2 : 25 < a) (h3 : b + 4 < a ∨ a + 4 < b) (hl : k_lk own ix yX3_copyFrom) (hd : decode cc pc = .ok (.invokevirtual ix, 3)) (hn : pc + 3 = pc') (hF : Nat.ble 2 F = true) (hN : Nat.ble (8 + (2 + 11) + 40) NN = true) (hst : Nat.ble ((st.map fun v => v.category).sum) 8 = true) (k : k_W X nL cells slots Q ad (k_cpM b a h) pc' lv st) : k_W X nL cells slots Q ad h pc lv (.ref a :: .ref b :: st) := by
  refine c_Vp (pi := k_pi2 b a) (shl := shMine2) (bl := 0) (b := b) (As := [.ref a]) (Al := [.ref 18]) (st := st) (v := none) (us := [(0, .inl (10, h.2.1 a 10)), (0, .inl (11, h.2.1 a 11)), (0, .inl (12, h.2.1 a 12)), (0, .inl (13, h.2.1 a 13)), (0, .inl (14, h.2.1 a 14)), (0, .inl (15, h.2.1 a 15)), (0, .inl (16, h.2.1 a 16)), (0, .inl (17, h.2.1 a 17)), (0, .inr (.inl (3, h.2.2.1 a 3))), (0, .inr (.inl (4, h.2.2.1 a 4))), (0, .inr (.inl (5, h.2.2.1 a 5))), (1, .inr (.inr (.inl (va_cpy (h.2.1 (a + 1)) (h.2.1 (b + 1)) 0 0 6)))), (2, .inr (.inr (.inl (va_cpy (h.2.1 (a + 2)) (h.2.1 (b + 2)) 0 0 6)))), (3, .inr (.inr (.inl (va_cpy (h.2.1 (a + 3)) (h.2.1 (b + 3)) 0 0 6)))), (4, .inr (.inr (.inl (va_cpy (h.2.1 (a + 4)) (h.2.1 (b + 4)) 0 0 6))))]) C hR hcs mv_X3_copyFrom hl hd hn hF hN (ck_mine2 B hb ha h1 h2 h3) rfl rfl (c_X3_copyFrom X.l 0 (k_pl (k_pi2 b a) shMine2 h) rfl (c0_10 := (h.2.1 b 10)) (c0_11 := (h.2.1 b 11)) (c0_12 := (h.2.1 b 12)) (c0_13 := (h.2.1 b 13)) (c0_14 := (h.2.1 b 14)) (c0_15 := (h.2.1 b 15)) (c0_16 := (h.2.1 b 16)) (c0_17 := (h.2.1 b 17)) (c0_3 := (h.2.2.1 b 3)) (c0_4 := (h.2.2.1 b 4)) (c0_5 := (h.2.2.1 b 5)) (a1 := (h.2.1 (b + 1))) (a2 := (h.2.1 (b + 2))) (a3 := (h.2.1 (b + 3))) (a4 := (h.2.1 (b + 4))) (c18_10 := (h.2.1 a 10)) (c18_11 := (h.2.1 a 11)) (c18_12 := (h.2.1 a 12)) (c18_13 := (h.2.1 a 13)) (c18_14 := (h.2.1 a 14)) (c18_15 := (h.2.1 a 15)) (c18_16 := (h.2.1 a 16)) (c18_17 := (h.2.1 a 17)) (c18_3 := (h.2.2.1 a 3)) (c18_4 := (h.2.2.1 a 4)) (c18_5 := (h.2.2.1 a 5)) (a19 := (h.2.1 (a + 1))) (a20 := (h.2.1 (a + 2))) (a21 := (h.2.1 (a + 3))) (a22 := (h.2.1 (a + 4))) (k_plI (p := b) rfl rfl) (k_plI (p := b) rfl rfl) (k_plI (p := b) rfl rfl) (k_plI (p := b) rfl rfl) (k_plI (p := b) rfl rfl) (k_plI (p := b) rfl rfl) (k_plI (p := b) rfl rfl) (k_plI (p := b) rfl rfl) (k_plL (p := b) rfl rfl) (k_plL (p := b) rfl rfl) (k_plL (p := b) rfl rfl) (k_plA (p := b + 1) rfl rfl) (k_plA (p := b + 2) rfl rfl) (k_plA (p := b + 3) rfl rfl) (k_plA (p := b + 4) rfl rfl) (k_plI (p := a) rfl rfl) (k_plI (p := a) rfl rfl) (k_plI (p := a) rfl rfl) (k_plI (p := a) rfl rfl) (k_plI (p := a) rfl rfl) (k_plI (p := a) rfl rfl) (k_plI (p := a) rfl rfl) (k_plI (p := a) rfl rfl) (k_plL (p := a) rfl rfl) (k_plL (p := a) rfl rfl) (k_plL (p := a) rfl rfl) (k_plA (p := a + 1) rfl rfl) (k_plA (p := a + 2) rfl rfl) (k_plA (p := a + 3) rfl rfl) (k_plA (p := a + 4) rfl rfl) (out := (h.2.1 a 10, h.2.1 a 11, h.2.1 a 12, h.2.1 a 13, h.2.1 a 14, h.2.1 a 15, h.2.1 a 16, h.2.1 a 17, h.2.2.1 a 3, h.2.2.1 a 4, h.2.2.1 a 5, va_cpy (h.2.1 (a + 1)) (h.2.1 (b + 1)) 0 0 6, va_cpy (h.2.1 (a + 2)) (h.2.1 (b + 2)) 0 0 6, va_cpy (h.2.1 (a + 3)) (h.2.1 (b + 3)) 0 0 6, va_cpy (h.2.1 (a + 4)) (h.2.1 (b + 4)) 0 0 6)) rfl) rfl (fun _ => rfl) rfl (fun _ => rfl) rfl hst rfl ?_
  exact k
end CP
