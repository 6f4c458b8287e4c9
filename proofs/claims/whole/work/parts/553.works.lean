theorem mv_X4_keep : k_MV yX4_keep cX4_keep 2 none 1 := ⟨(k_me (tm4 (List.mem_of_getElem? (i := 212) rfl)) rfl), (k_me (tm4 (List.mem_of_getElem? (i := 213) rfl)) rfl), (k_me (tm1 (List.mem_of_getElem? (i := 8) rfl)) rfl), (k_me (tm4 (List.mem_of_getElem? (i := 214) rfl)) rfl), by decide, by decide, by decide +kernel⟩
abbrev k_TWA : Type := Int32 × Int32 × Int32 × Int32 × Int32 × Int32 × Int32 × Int32 × Int32 × Int32 × Int32 × Int32 × Int32 × (Nat → Int32) × (Nat → Int32) × (Nat → Int32) × (Nat → Int32)
def k_upA (out : k_TWA) : List k_U := [(1, .inl (1, out.2.2.2.1)), (1, .inl (2, out.2.2.2.2.1)), (1, .inl (3, out.2.2.2.2.2.1)), (1, .inl (4, out.2.2.2.2.2.2.1)), (1, .inl (5, out.2.2.2.2.2.2.2.1)), (1, .inl (6, out.2.2.2.2.2.2.2.2.1)), (31, .inl (3, out.2.2.2.2.2.2.2.2.2.1)), (31, .inl (4, out.2.2.2.2.2.2.2.2.2.2.1)), (31, .inl (5, out.2.2.2.2.2.2.2.2.2.2.2.1)), (31, .inl (6, out.2.2.2.2.2.2.2.2.2.2.2.2.1)), (32, .inr (.inr (.inl out.2.2.2.2.2.2.2.2.2.2.2.2.2.1))), (33, .inr (.inr (.inl out.2.2.2.2.2.2.2.2.2.2.2.2.2.2.1))), (34, .inr (.inr (.inl out.2.2.2.2.2.2.2.2.2.2.2.2.2.2.2.1))), (69, .inr (.inr (.inl out.2.2.2.2.2.2.2.2.2.2.2.2.2.2.2.2)))]
abbrev k_TWB : Type := Int32 × Int32 × Int32 × Int32 × (Nat → Int32) × (Nat → Int32) × Int32 × Int32 × Int32 × Int32 × Int32 × Int32 × Int32 × Int32 × Int64 × Int64 × Int64 × (Nat → Int32) × (Nat → Int32) × (Nat → Int32) × (Nat → Int32) × Int32 × Int32 × Int32
def k_upB (out : k_TWB) : List k_U := ((0, .inl (14, out.2.2.2.1)) :: (19, .inr (.inr (.inl out.2.2.2.2.1))) :: (22, .inr (.inr (.inl out.2.2.2.2.2.1))) :: (26, .inl (10, out.2.2.2.2.2.2.1)) :: (26, .inl (11, out.2.2.2.2.2.2.2.1)) :: (26, .inl (12, out.2.2.2.2.2.2.2.2.1)) :: (26, .inl (13, out.2.2.2.2.2.2.2.2.2.1)) :: (26, .inl (14, out.2.2.2.2.2.2.2.2.2.2.1)) :: (26, .inl (15, out.2.2.2.2.2.2.2.2.2.2.2.1)) :: (26, .inl (16, out.2.2.2.2.2.2.2.2.2.2.2.2.1)) :: (26, .inl (17, out.2.2.2.2.2.2.2.2.2.2.2.2.2.1)) :: (26, .inr (.inl (3, out.2.2.2.2.2.2.2.2.2.2.2.2.2.2.1))) :: (26, .inr (.inl (4, out.2.2.2.2.2.2.2.2.2.2.2.2.2.2.2.1))) :: (26, .inr (.inl (5, out.2.2.2.2.2.2.2.2.2.2.2.2.2.2.2.2.1))) :: (27, .inr (.inr (.inl out.2.2.2.2.2.2.2.2.2.2.2.2.2.2.2.2.2.1))) :: (28, .inr (.inr (.inl out.2.2.2.2.2.2.2.2.2.2.2.2.2.2.2.2.2.2.1))) :: (29, .inr (.inr (.inl out.2.2.2.2.2.2.2.2.2.2.2.2.2.2.2.2.2.2.2.1))) :: (30, .inr (.inr (.inl out.2.2.2.2.2.2.2.2.2.2.2.2.2.2.2.2.2.2.2.2.1))) :: (31, .inl (4, out.2.2.2.2.2.2.2.2.2.2.2.2.2.2.2.2.2.2.2.2.2.1)) :: (31, .inl (5, out.2.2.2.2.2.2.2.2.2.2.2.2.2.2.2.2.2.2.2.2.2.2.1)) :: (31, .inl (6, out.2.2.2.2.2.2.2.2.2.2.2.2.2.2.2.2.2.2.2.2.2.2.2)) :: [])
def k_fwB (u : Nat) (h : k_H) : Option k_TWB := bX10_workB_68 u (h.2.1 3 1) (h.2.1 3 8) (h.2.1 3 10) (h.2.2.1 3 5) (h.2.2.1 3 6) (h.2.1 4) (h.2.1 5) (h.2.1 6) (h.2.1 7) (h.2.1 8) (h.2.1 9) (h.2.1 17 2) (h.2.1 18) (h.2.1 20 2) (h.2.1 21) (h.2.1 31 3) (h.2.1 32) (h.2.1 33) (h.2.1 34) (h.2.1 0 14) (h.2.1 19) (h.2.1 22) (h.2.1 26 10) (h.2.1 26 11) (h.2.1 26 12) (h.2.1 26 13) (h.2.1 26 14) (h.2.1 26 15) (h.2.1 26 16) (h.2.1 26 17) (h.2.2.1 26 3) (h.2.2.1 26 4) (h.2.2.1 26 5) (h.2.1 27) (h.2.1 28) (h.2.1 29) (h.2.1 30) (h.2.1 31 4) (h.2.1 31 5) (h.2.1 31 6)
set_option maxRecDepth 100000 in
theorem k_workB (u : Nat) {X : k_X} {ad0 ad : Nat → Nat} {n0 : Nat} {rest : List k_Sh} {Rr : Option Value → k_H → Prop} {Rx : String → k_H → Prop} (C : k_C X cX10_work RX10 2 ad) (hr : X.meth.sig.returnType = (some .int)) (hR : X.R.frames = 65 ∧ X.R.locals = 1468) (hx : ∀ x ∈ X.c.exceptionTable.toList, False) (hRc : X.R.cells = 6) (hRs : X.R.slots = 48) (hT : X.l.stackTraces = false) (hsm : k_sm n0 ad0 ad) (h : k_H) (hsh : h.1 = shX ++ rest) (hn0 : n0 ≤ h.1.length) {out : k_TWB} (hB : k_fwB u h = some out) (h0 : out.2.1 = 0) (hRr : out.1 = 0 → Rr (some (.int out.2.2.1)) (k_ap (k_upB out) h)) (hRx : ¬ out.1 = 0 → Rx (k_Ex out.1) (k_ap (k_upB out) h)) : k_W X 2 6 48 (k_QX X ad0 n0 Rr Rx 6 48) ad h 68 [some (.ref 0), none] [] := by
  obtain ⟨sh, I, L, Rf⟩ := h
  obtain rfl : sh = shX ++ rest := hsh
  unfold k_fwB at hB
  refine k_start (us := ((0, .inl (14, (I 0 14))) :: (19, .inr (.inr (.inl (I 19)))) :: (22, .inr (.inr (.inl (I 22)))) :: (26, .inl (10, (I 26 10))) :: (26, .inl (11, (I 26 11))) :: (26, .inl (12, (I 26 12))) :: (26, .inl (13, (I 26 13))) :: (26, .inl (14, (I 26 14))) :: (26, .inl (15, (I 26 15))) :: (26, .inl (16, (I 26 16))) :: (26, .inl (17, (I 26 17))) :: (26, .inr (.inl (3, (L 26 3)))) :: (26, .inr (.inl (4, (L 26 4)))) :: (26, .inr (.inl (5, (L 26 5)))) :: (27, .inr (.inr (.inl (I 27)))) :: (28, .inr (.inr (.inl (I 28)))) :: (29, .inr (.inr (.inl (I 29)))) :: (30, .inr (.inr (.inl (I 30)))) :: (31, .inl (4, (I 31 4))) :: (31, .inl (5, (I 31 5))) :: (31, .inl (6, (I 31 6))) :: [])) (k_ao_I rfl (k_ao_A rfl (k_ao_A rfl (k_ao_I rfl (k_ao_I rfl (k_ao_I rfl (k_ao_I rfl (k_ao_I rfl (k_ao_I rfl (k_ao_I rfl (k_ao_I rfl (k_ao_L rfl (k_ao_L rfl (k_ao_L rfl (k_ao_A rfl (k_ao_A rfl (k_ao_A rfl (k_ao_A rfl (k_ao_I rfl (k_ao_I rfl (k_ao_I rfl k_ap_0))))))))))))))))))))) ?_
  exact sX10_workB_68 u C hr hR hx hRc hRs hT hsm rfl rfl rfl rfl rfl rfl rfl rfl rfl rfl rfl rfl rfl rfl rfl rfl rfl rfl rfl (fun e _ => hRr e) hRx (fun ad1 _ _ _ e => absurd (h0.symm.trans e) (by decide)) hn0 _ _ _ _ _ _ _ _ _ _ _ _ _ _ _ _ _ _ _ _ _ hB
theorem k_pfx {α : Type} : ∀ {l m : List α}, (∀ (q : Nat) (x : α), l[q]? = some x → m[q]? = some x) → ∃ r, m = l ++ r
  | [], m, _ => ⟨m, rfl⟩
  | a :: t, [], h => by have := h 0 a rfl; simp at this
  | a :: t, b :: m, h => by
    have h0 : b = a := by have := h 0 a rfl; simpa using this
    obtain ⟨r, hr⟩ := k_pfx (l := t) (m := m) (fun q x hx => by have := h (q + 1) x (by simpa using hx); simpa using this)
    exact ⟨r, by rw [h0, hr]; rfl⟩
theorem k_PS_ap {us : List k_U} {h : k_H} (S : k_PS h) : k_PS (k_ap us h) := by
  unfold k_PS
  rw [k_ap_sh, k_ap_rf]
  exact S
theorem k_LP_ap {us : List k_U} {h : k_H} (L : k_LP h) : k_LP (k_ap us h) := ⟨by rw [k_ap_sh]; exact L.1, by rw [k_ap_sh]; exact L.2.1, k_PS_ap L.2.2.1, by rw [k_ap_sh]; exact L.2.2.2.1, by rw [k_ap_sh]; exact L.2.2.2.2⟩
/-- a read text is kept: the mine of before, the count of works -/
def k_kept (w : Int32) (j : Nat) (h : k_H) : k_H := k_sI 35 1 (w + 1) (k_save 36 j 26 h)
def k_fwA (u : Nat) (h : k_H) (x : Int32) : Option k_TWA := bX10_workA_0 u (h.2.1 2) (h.2.1 3 0) (h.2.1 3 1) (h.2.1 35 1) (h.2.1 1 1) (h.2.1 1 2) (h.2.1 1 3) (h.2.1 1 4) (h.2.1 1 5) (h.2.1 1 6) (h.2.1 31 3) (h.2.1 31 4) (h.2.1 31 5) (h.2.1 31 6) (h.2.1 32) (h.2.1 33) (h.2.1 34) (h.2.1 69) x
set_option maxRecDepth 100000 in
theorem c_X10_work (l : Launch) (u : Nat) (hT : l.stackTraces = false) (h : k_H) {rest : List k_Sh} (hsh : h.1 = shX ++ rest) {x w : Int32} {j : Nat} (LP : k_LP h) (hw : h.2.1 35 1 = w) (hw0 : ¬ w < 0) (hj : w.toNatClampNeg = j) (hlen : h.1.length + 5 ≤ 1000000) {oA : k_TWA} (hA : k_fwA u h x = some oA) {oB : k_TWB} (hB : oA.1 = 0 → oA.2.1 = 1 → (w < 16 ∧ j < 16) ∧ k_fwB u (k_kept w j (k_ap (k_upA oA) h)) = some oB ∧ oB.2.1 = 0) : k_CX l yX10_work cX10_work 2 (some .int) 65 1468 6 48 [.ref 0, .int x] h (fun v h' => (oA.1 = 0 ∧ oA.2.1 = 0 ∧ v = some (.int oA.2.2.1) ∧ h' = k_ap (k_upA oA) h) ∨ (oA.1 = 0 ∧ oA.2.1 = 1 ∧ oB.1 = 0 ∧ v = some (.int oB.2.2.1) ∧ h' = k_ap (k_upB oB) (k_kept w j (k_ap (k_upA oA) h)))) (fun E h' => (¬ oA.1 = 0 ∧ E = k_Ex oA.1 ∧ h' = k_ap (k_upA oA) h) ∨ (oA.1 = 0 ∧ oA.2.1 = 1 ∧ ¬ oB.1 = 0 ∧ E = k_Ex oB.1 ∧ h' = k_ap (k_upB oB) (k_kept w j (k_ap (k_upA oA) h)))) := by
  obtain ⟨sh, I, L, Rf⟩ := h
  obtain rfl : sh = shX ++ rest := hsh
  refine k_ofWX (by decide) (Nat.le_of_ble_eq_true rfl) ?_
  intro X ad hl hR0 hr C hx
  have hR : X.R.frames = 65 ∧ X.R.locals = 1468 := by rw [hR0]; exact ⟨rfl, rfl⟩
  have hRc : X.R.cells = 6 := by rw [hR0]
  have hRs : X.R.slots = 48 := by rw [hR0]
  have hT : X.l.stackTraces = false := by rw [hl]; exact hT
  have hsm := k_sm_rf (shX ++ rest).length ad
  have LP1 : k_LP (k_ap (k_upA oA) ((shX ++ rest, I, L, Rf) : k_H)) := k_LP_ap LP
  have hw1 : (k_ap (k_upA oA) ((shX ++ rest, I, L, Rf) : k_H)).2.1 35 1 = w := k_gOI (ks := [(1, 0, 1), (1, 0, 2), (1, 0, 3), (1, 0, 4), (1, 0, 5), (1, 0, 6), (31, 0, 3), (31, 0, 4), (31, 0, 5), (31, 0, 6), (32, 2, 0), (33, 2, 0), (34, 2, 0), (69, 2, 0)]) rfl (by decide +kernel) hw
  unfold k_fwA at hA
  refine k_start (us := [(1, .inl (1, (I 1 1))), (1, .inl (2, (I 1 2))), (1, .inl (3, (I 1 3))), (1, .inl (4, (I 1 4))), (1, .inl (5, (I 1 5))), (1, .inl (6, (I 1 6))), (31, .inl (3, (I 31 3))), (31, .inl (4, (I 31 4))), (31, .inl (5, (I 31 5))), (31, .inl (6, (I 31 6))), (32, .inr (.inr (.inl (I 32)))), (33, .inr (.inr (.inl (I 33)))), (34, .inr (.inr (.inl (I 34)))), (69, .inr (.inr (.inl (I 69))))]) (k_ao_I rfl (k_ao_I rfl (k_ao_I rfl (k_ao_I rfl (k_ao_I rfl (k_ao_I rfl (k_ao_I rfl (k_ao_I rfl (k_ao_I rfl (k_ao_I rfl (k_ao_A rfl (k_ao_A rfl (k_ao_A rfl (k_ao_A rfl k_ap_0)))))))))))))) ?_
  refine sX10_workA_0 u C hr hR hx hRc hRs hT hsm rfl rfl rfl rfl (fun e1 e2 => Or.inl ⟨e1, e2, rfl, rfl⟩) (fun e1 => Or.inl ⟨e1, rfl, rfl⟩) ?_ (Nat.le_refl _) _ _ _ _ _ _ _ _ _ _ _ _ _ _ x hA
  intro v1 ad1 C1 hsm1 e1 e2
  obtain ⟨⟨hw16, hj16⟩, hB, hB0⟩ := hB e1 e2
  refine r_aload_n C1 dX10_work_57 (rfl : 57 + 1 = 58) rfl ?_
  refine r_getR (q := 35) C1 dX10_work_58 (rfl : 58 + 3 = 61) fl_X10_67 (k_gS rfl) rfl ?_
  refine r_aload_n C1 dX10_work_61 (rfl : 61 + 1 = 62) rfl ?_
  refine r_getR (q := 26) C1 dX10_work_62 (rfl : 62 + 3 = 65) fl_X10_50 (k_gS rfl) rfl ?_
  refine c_VG (As := [.ref 26]) (st := []) (b := 35) C1 hR (k_csl hRc hRs rfl rfl) mv_X4_keep (k_me (tm4 (List.mem_of_getElem? (i := 211) rfl)) rfl) dX10_work_65 (rfl : 65 + 3 = 68) rfl rfl LP1.1.1 rfl (c_X4_keep X.l (k_ap (k_upA oA) ((shX ++ rest, I, L, Rf) : k_H)) LP1.1 LP1.2.1 LP1.2.2.1 LP1.2.2.2.1 hw1 hw0 hw16 hj hj16 (by rw [k_ap_sh]; exact hlen)) rfl rfl rfl ⟨k_okv_of (k_gS (us := k_upA oA) (h0 := ((shX ++ rest, I, L, Rf) : k_H)) (p := 0) (s := k_s0) rfl), True.intro, True.intro⟩ True.intro ?_
  rintro v ad2 h2 ⟨rfl, rfl⟩ hsm2 C2
  refine k_mask [true, false] ?_
  obtain ⟨r, hr2⟩ := k_pfx (l := shX ++ rest) (m := (k_kept w j (k_ap (k_upA oA) ((shX ++ rest, I, L, Rf) : k_H))).1) (fun q x hq => k_save_ne (by rw [k_ap_sh]; exact hq))
  exact k_workB u (rest := rest ++ r) C2 hr hR hx hRc hRs hT (k_sm_tr hsm1 hsm2 (by rw [k_ap_sh]; exact Nat.le_refl _)) (k_kept w j (k_ap (k_upA oA) ((shX ++ rest, I, L, Rf) : k_H))) (hr2.trans (List.append_assoc _ _ _)) (by rw [hr2]; simp only [List.length_append]; omega) hB hB0 (fun e => Or.inr ⟨e1, e2, e, rfl, rfl⟩) (fun e => Or.inr ⟨e1, e2, e, rfl, rfl⟩)
