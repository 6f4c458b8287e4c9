theorem mv_X3_twin : k_MV yX3_twin cX3_twin 2 (some (.object "LullabyPit$Mine")) 0 := ⟨(k_me (tm2 (List.mem_of_getElem? (i := 103) rfl)) rfl), (k_me (tm2 (List.mem_of_getElem? (i := 104) rfl)) rfl), (k_me (tm1 (List.mem_of_getElem? (i := 6) rfl)) rfl), (k_me (tm2 (List.mem_of_getElem? (i := 105) rfl)) rfl), by decide, by decide, by decide +kernel⟩
theorem lk_X4_43 : k_lk RX4 43 yX3_copyFrom := Or.inl (k_me (tm3 (List.mem_of_getElem? (i := 35) rfl)) rfl)
/-! WORKS TO UNDO, IMAGES -/
section NUL
variable {X : k_X} {cc : ByteArray} {own : String} {nL cells slots : Nat} {Q : State → Prop} {ad : Nat → Nat} {h : k_H} {pc pc' : Nat} {lv : List (Option Value)} {st : List Value}
theorem r_ifnullN (C : k_C X cc own nL ad) {off : Int} {tgt : Nat} (hd : decode cc pc = .ok (.ifnull off, 3)) (ht : (pc : Int) + off = (tgt : Int)) (k : k_W X nL cells slots Q ad h tgt lv st) : k_W X nL cells slots Q ad h pc lv (.null :: st) :=
  fun H locs ls hw hP hD hS hl => lv_ifnullN C.1 C.2.1 hd ht (k H locs ls hw hP hD hS hl)
theorem r_ifnonnullN (C : k_C X cc own nL ad) {off : Int} (hd : decode cc pc = .ok (.ifnonnull off, 3)) (hn : pc + 3 = pc') (k : k_W X nL cells slots Q ad h pc' lv st) : k_W X nL cells slots Q ad h pc lv (.null :: st) := by
  subst hn
  exact fun H locs ls hw hP hD hS hl => lv_ifnonnullN C.1 C.2.1 hd (k H locs ls hw hP hD hS hl)
theorem k_csb {a b mc ms : Nat} (h1 : X.R.cells = mc) (h2 : X.R.slots = ms) (h3 : a ≤ mc) (h4 : b ≤ ms) : a ≤ X.R.cells ∧ b ≤ X.R.slots := ⟨by rw [h1]; exact h3, by rw [h2]; exact h4⟩
end NUL
/-- the mine at a is kept in the row p at j -/
def k_save (p j a : Nat) (h : k_H) : k_H := match h.2.2.2 p j with
  | none => k_uR p j h.1.length (k_tw a h)
  | some q => k_cpM q a h
/-- the mine in the row p at j comes back into that at a -/
def k_load (p j a : Nat) (h : k_H) : k_H := match h.2.2.2 p j with
  | none => h
  | some q => k_cpM a q h
set_option maxRecDepth 100000 in
theorem c_X4_save (l : Launch) (h : k_H) {p N a : Nat} {sl : List Nat} {i : Int32} {j : Nat} (hp : h.1[p]? = some (5, N, sl)) (hi : vp_in i N) (hlt : i < Int32.ofNat N) (hj : i.toNatClampNeg = j) (Bs : k_base h.1) (ha : k_mA h.1 a) (ha2 : 25 < a) (hq : ∀ q, h.2.2.2 p j = some q → k_mA h.1 q ∧ 25 < q ∧ (q + 4 < a ∨ a + 4 < q)) (hlen : h.1.length + 5 ≤ 1000000) : k_CG l yX4_save cX4_save 3 none 4 130 5 42 [.ref p, .int i, .ref a] h (fun v h' => v = none ∧ h' = k_save p j a h) := by
  refine k_ofWG (by decide) (Nat.le_of_ble_eq_true rfl) ?_
  intro X ad hlX hR0 hr C hnm
  have hR : X.R.frames = 4 ∧ X.R.locals = 130 := by rw [hR0]; exact ⟨rfl, rfl⟩
  have hRc : X.R.cells = 5 := by rw [hR0]
  have hRs : X.R.slots = 42 := by rw [hR0]
  show k_W X 3 0 0 _ ad h 0 [some (.ref p), some (.int i), some (.ref a)] []
  refine r_aload_n C dX4_save_0 (rfl : 0 + 1 = 1) rfl ?_
  refine r_ifnull C dX4_save_1 (rfl : 1 + 3 = 4) ?_
  refine r_iload_n C dX4_save_4 (rfl : 4 + 1 = 5) rfl ?_
  refine r_if_lt (tgt := 14) C dX4_save_5 (by decide) (rfl : 5 + 3 = 8) (fun z => absurd (Or.inl z) hi) (fun _ => ?_)
  refine r_iload_n C dX4_save_8 (rfl : 8 + 1 = 9) rfl ?_
  refine r_aload_n C dX4_save_9 (rfl : 9 + 1 = 10) rfl ?_
  refine r_alen (v := Int32.ofNat N) C dX4_save_10 (rfl : 10 + 1 = 11) hp (by decide) rfl ?_
  refine r_icmp_lt (tgt := 15) C dX4_save_11 (by decide) (rfl : 11 + 3 = 14) (fun _ => ?_) (fun z => absurd hlt z)
  refine r_aload_n C dX4_save_15 (rfl : 15 + 1 = 16) rfl ?_
  refine r_iload_n C dX4_save_16 (rfl : 16 + 1 = 17) rfl ?_
  refine r_aaldo (j := j) C dX4_save_17 (rfl : 17 + 1 = 18) hp hi hj ?_
  unfold k_save
  cases hz : h.2.2.2 p j with
  | none =>
    refine r_ifnonnullN C dX4_save_18 (rfl : 18 + 3 = 21) ?_
    refine r_aload_n C dX4_save_21 (rfl : 21 + 1 = 22) rfl ?_
    refine r_iload_n C dX4_save_22 (rfl : 22 + 1 = 23) rfl ?_
    refine r_aload_n C dX4_save_23 (rfl : 23 + 1 = 24) rfl ?_
    refine c_VG (As := []) (st := [.int i, .ref p]) C hR (k_csl hRc hRs rfl rfl) mv_X3_twin (k_me (tm3 (List.mem_of_getElem? (i := 112) rfl)) rfl) dX4_save_24 (rfl : 24 + 3 = 27) rfl rfl ha.1 rfl (c_twin X.l h Bs ha ha2 hlen) rfl rfl rfl ⟨k_okv_of hp, True.intro, k_okv_of ha.1, True.intro⟩ ⟨True.intro, k_okv_of hp, True.intro⟩ ?_
    rintro v ad1 h1 ⟨rfl, rfl⟩ hsm1 C1
    change k_W X _ _ _ _ ad1 _ _ _ [.ref h.1.length, .int i, .ref p]
    refine g_aast (j := j) C1 dX4_save_27 (rfl : 27 + 1 = 28) (k_tw_ne hp) (k_tw_mA a h).1 hi hj ?_
    refine r_goto (tgt := 38) C1 dX4_save_28 (by decide) ?_
    exact g_vret C1 hr (Nat.le_of_ble_eq_true rfl) (Nat.le_of_ble_eq_true rfl) ⟨rfl, rfl⟩ hsm1 dX4_save_38
  | some q =>
    obtain ⟨q1, q2, q3⟩ := hq q hz
    refine r_ifnonnull (tgt := 31) C dX4_save_18 (by decide) ?_
    refine r_aload_n C dX4_save_31 (rfl : 31 + 1 = 32) rfl ?_
    refine r_iload_n C dX4_save_32 (rfl : 32 + 1 = 33) rfl ?_
    refine r_aaldo (j := j) C dX4_save_33 (rfl : 33 + 1 = 34) hp hi hj ?_
    rw [hz]
    refine r_aload_n C dX4_save_34 (rfl : 34 + 1 = 35) rfl ?_
    refine g_copy C hR (k_csl hRc hRs rfl rfl) Bs q1 ha q2 ha2 q3 lk_X4_43 dX4_save_35 (rfl : 35 + 3 = 38) rfl rfl rfl ?_
    exact g_vret C hr (Nat.le_of_ble_eq_true rfl) (Nat.le_of_ble_eq_true rfl) ⟨rfl, rfl⟩ (k_sm_rf _ _) dX4_save_38
set_option maxRecDepth 100000 in
theorem c_X4_load (l : Launch) (h : k_H) {p N a : Nat} {sl : List Nat} {i : Int32} {j : Nat} (hp : h.1[p]? = some (5, N, sl)) (hi : vp_in i N) (hlt : i < Int32.ofNat N) (hj : i.toNatClampNeg = j) (Bs : k_base h.1) (ha : k_mA h.1 a) (ha2 : 25 < a) (hq : ∀ q, h.2.2.2 p j = some q → k_mA h.1 q ∧ 25 < q ∧ (q + 4 < a ∨ a + 4 < q)) : k_CG l yX4_load cX4_load 3 none 2 70 0 0 [.ref p, .int i, .ref a] h (fun v h' => v = none ∧ h' = k_load p j a h) := by
  refine k_ofWG (by decide) (Nat.le_of_ble_eq_true rfl) ?_
  intro X ad hlX hR0 hr C hnm
  have hR : X.R.frames = 2 ∧ X.R.locals = 70 := by rw [hR0]; exact ⟨rfl, rfl⟩
  have hRc : X.R.cells = 0 := by rw [hR0]
  have hRs : X.R.slots = 0 := by rw [hR0]
  show k_W X 3 0 0 _ ad h 0 [some (.ref p), some (.int i), some (.ref a)] []
  refine r_iload_n C dX4_load_0 (rfl : 0 + 1 = 1) rfl ?_
  refine r_if_lt (tgt := 23) C dX4_load_1 (by decide) (rfl : 1 + 3 = 4) (fun z => absurd (Or.inl z) hi) (fun _ => ?_)
  refine r_iload_n C dX4_load_4 (rfl : 4 + 1 = 5) rfl ?_
  refine r_aload_n C dX4_load_5 (rfl : 5 + 1 = 6) rfl ?_
  refine r_alen (v := Int32.ofNat N) C dX4_load_6 (rfl : 6 + 1 = 7) hp (by decide) rfl ?_
  refine r_icmp_ge (tgt := 23) C dX4_load_7 (by decide) (rfl : 7 + 3 = 10) (fun z => absurd hlt (Int32.not_lt.mpr z)) (fun _ => ?_)
  refine r_aload_n C dX4_load_10 (rfl : 10 + 1 = 11) rfl ?_
  refine r_iload_n C dX4_load_11 (rfl : 11 + 1 = 12) rfl ?_
  refine r_aaldo (j := j) C dX4_load_12 (rfl : 12 + 1 = 13) hp hi hj ?_
  unfold k_load
  cases hz : h.2.2.2 p j with
  | none =>
    refine r_ifnullN (tgt := 23) C dX4_load_13 (by decide) ?_
    exact g_vret C hr (Nat.le_of_ble_eq_true rfl) (Nat.le_of_ble_eq_true rfl) ⟨rfl, rfl⟩ (k_sm_rf _ _) dX4_load_23
  | some q =>
    obtain ⟨q1, q2, q3⟩ := hq q hz
    refine r_ifnull C dX4_load_13 (rfl : 13 + 3 = 16) ?_
    refine r_aload_n C dX4_load_16 (rfl : 16 + 1 = 17) rfl ?_
    refine r_aload_n C dX4_load_17 (rfl : 17 + 1 = 18) rfl ?_
    refine r_iload_n C dX4_load_18 (rfl : 18 + 1 = 19) rfl ?_
    refine r_aaldo (j := j) C dX4_load_19 (rfl : 19 + 1 = 20) hp hi hj ?_
    rw [hz]
    refine g_copy C hR (k_csl hRc hRs rfl rfl) Bs ha q1 ha2 q2 q3.symm lk_X4_43 dX4_load_20 (rfl : 20 + 3 = 23) rfl rfl rfl ?_
    exact g_vret C hr (Nat.le_of_ble_eq_true rfl) (Nat.le_of_ble_eq_true rfl) ⟨rfl, rfl⟩ (k_sm_rf _ _) dX4_load_23
/-- the rows of mines kept: each at places of its own -/
def k_PS (h : k_H) : Prop := (∀ p j q : Nat, (p = 36 ∨ p = 37 ∨ p = 38) → h.2.2.2 p j = some q → k_mA h.1 q ∧ 70 ≤ q) ∧ ∀ p j q p' j' q' : Nat, (p = 36 ∨ p = 37 ∨ p = 38) → (p' = 36 ∨ p' = 37 ∨ p' = 38) → h.2.2.2 p j = some q → h.2.2.2 p' j' = some q' → (p ≠ p' ∨ j ≠ j') → q + 4 < q' ∨ q' + 4 < q
theorem k_uR_sh (p j q : Nat) (h : k_H) : (k_uR p j q h).1 = h.1 := rfl
theorem k_cpM_R (b a : Nat) (h : k_H) : (k_cpM b a h).2.2.2 = h.2.2.2 := rfl
theorem k_tw_R {h : k_H} {p j a : Nat} (hp : p < h.1.length) : (k_tw a h).2.2.2 p j = h.2.2.2 p j := by
  have e : ∀ q, h.1.length ≤ q → p ≠ q := fun q hq => by omega
  show k_ua (k_ua (k_ua (k_ua (k_ua h.2.2.2 _ _) _ _) _ _) _ _) _ _ p j = _
  rw [k_ua_ne, k_ua_ne, k_ua_ne, k_ua_ne, k_ua_ne]
  · exact e _ (Nat.le_refl _)
  · exact e _ (by show _ ≤ (k_gr _ h).1.length; rw [k_gr_len]; omega)
  · exact e _ (by show _ ≤ (k_nf _ _ _ _ _).1.length; simp only [i_X3_1, i_X3_2, i_X3_3, k_nf_len, k_gr_len]; omega)
  · exact e _ (by show _ ≤ (k_nf _ _ _ _ _).1.length; simp only [i_X3_1, i_X3_2, i_X3_3, k_nf_len, k_gr_len]; omega)
  · exact e _ (by show _ ≤ (k_nf _ _ _ _ _).1.length; simp only [i_X3_1, i_X3_2, i_X3_3, k_nf_len, k_gr_len]; omega)
theorem k_save_ne {h : k_H} {p j a q : Nat} {x : k_Sh} (hs : h.1[q]? = some x) : (k_save p j a h).1[q]? = some x := by
  unfold k_save
  cases h.2.2.2 p j with
  | none => dsimp only; rw [k_uR_sh]; exact k_tw_ne hs
  | some r => dsimp only; rw [k_cpM_sh]; exact hs
theorem k_save_len (p j a : Nat) (h : k_H) : (k_save p j a h).1.length ≤ h.1.length + 5 ∧ h.1.length ≤ (k_save p j a h).1.length := by
  unfold k_save
  cases h.2.2.2 p j with
  | none => dsimp only; rw [k_uR_sh, k_tw_len]; omega
  | some r => dsimp only; rw [k_cpM_sh]; omega
theorem k_save_R {h : k_H} {p j a p' j' : Nat} (hp : p' < h.1.length) : (k_save p j a h).2.2.2 p' j' = if p' = p ∧ j' = j then (match h.2.2.2 p j with | none => some h.1.length | some q => some q) else h.2.2.2 p' j' := by
  unfold k_save
  by_cases e : p' = p ∧ j' = j
  · obtain ⟨rfl, rfl⟩ := e
    rw [if_pos ⟨rfl, rfl⟩]
    cases hz : h.2.2.2 p' j' with
    | none => show k_u (k_tw a h).2.2.2 p' j' (some h.1.length) p' j' = _; unfold k_u; rw [if_pos rfl, if_pos rfl]
    | some q => show (k_cpM q a h).2.2.2 p' j' = _; rw [k_cpM_R, hz]
  · rw [if_neg e]
    cases hz : h.2.2.2 p j with
    | none =>
      show k_u (k_tw a h).2.2.2 p j (some h.1.length) p' j' = _
      unfold k_u
      by_cases e1 : p' = p
      · rw [if_pos e1]
        by_cases e2 : j' = j
        · exact absurd ⟨e1, e2⟩ e
        · rw [if_neg e2]; exact k_tw_R hp
      · rw [if_neg e1]; exact k_tw_R hp
    | some q => show (k_cpM q a h).2.2.2 p' j' = _; rw [k_cpM_R]
theorem k_PS_save {h : k_H} {p j a : Nat} (S : k_PS h) (h70 : 70 ≤ h.1.length) (hp : p = 36 ∨ p = 37 ∨ p = 38) : k_PS (k_save p j a h) := by
  have lt : ∀ p : Nat, (p = 36 ∨ p = 37 ∨ p = 38) → p < h.1.length := fun p hp => by omega
  have key : ∀ p' j' q', (p' = 36 ∨ p' = 37 ∨ p' = 38) → (k_save p j a h).2.2.2 p' j' = some q' → (h.2.2.2 p' j' = some q') ∨ (p' = p ∧ j' = j ∧ h.2.2.2 p j = none ∧ q' = h.1.length) := by
    intro p' j' q' hp' hq'
    rw [k_save_R (lt p' hp')] at hq'
    by_cases e : p' = p ∧ j' = j
    · rw [if_pos e] at hq'
      cases hz : h.2.2.2 p j with
      | none => rw [hz] at hq'; exact Or.inr ⟨e.1, e.2, rfl, (Option.some.inj hq').symm⟩
      | some q => rw [hz] at hq'; refine Or.inl ?_; rw [e.1, e.2, hz]; exact hq'
    · rw [if_neg e] at hq'; exact Or.inl hq'
  refine ⟨fun p' j' q' hp' hq' => ?_, fun p' j' q' p2 j2 q2 hp' hp2 hq' hq2 hne => ?_⟩
  · rcases key p' j' q' hp' hq' with z | ⟨rfl, rfl, z, rfl⟩
    · obtain ⟨s1, s2⟩ := S.1 p' j' q' hp' z
      exact ⟨k_mA_le s1 (fun q x hx => k_save_ne hx), s2⟩
    · refine ⟨?_, h70⟩
      unfold k_save
      rw [z]
      exact k_tw_mA a h
  · rcases key p' j' q' hp' hq' with z | ⟨rfl, rfl, z, rfl⟩
    · rcases key p2 j2 q2 hp2 hq2 with y | ⟨rfl, rfl, y, rfl⟩
      · exact S.2 p' j' q' p2 j2 q2 hp' hp2 z y hne
      · exact Or.inl (k_mA_lt (S.1 p' j' q' hp' z).1)
    · rcases key p2 j2 q2 hp2 hq2 with y | ⟨rfl, rfl, y, rfl⟩
      · exact Or.inr (k_mA_lt (S.1 p2 j2 q2 hp2 y).1)
      · omega
