/-! LullabyPitModel.copies([I[II)V -/
theorem ds_X11_copies_6_10 : k_ds [(10, 2, 0)] = true := by decide
def bX11_copies_6_10_3 (u : Nat) (a6 : (Nat → Int32)) : Nat → (Nat → Int32) → Int32 → Int32 → Option ((Nat → Int32))
  | 0, _, _, _ => none
  | n + 1, a10, v3, v4 => (if v3 ≤ v4 then some a10 else k_i 60 v4 (k_i 60 v4 ((bX11_copies_6_10_3 u a6 n (upd a10 ((v4).toNatClampNeg) (a6 ((v4).toNatClampNeg))) v3 (v4 + (1 : Int32))))))
set_option maxHeartbeats 400000 in
set_option maxRecDepth 100000 in
theorem sX11_copies_6_10_3 (u : Nat) {X : k_X} {ad : Nat → Nat} (C : k_C X cX11_copies RX11 5 ad) (hr : X.meth.sig.returnType = none) (hR : X.R.frames = 0 ∧ X.R.locals = 0) {I : Nat → Nat → Int32} {L : Nat → Nat → Int64} {Rf : Nat → Nat → Option Nat} {a6 : (Nat → Int32)} (ea6 : I 6 = a6) {out : (Nat → Int32)} : ∀ (n : Nat) (a10 : (Nat → Int32)) (v3 : Int32) (v4 : Int32), bX11_copies_6_10_3 u a6 n a10 v3 v4 = some out → k_W X 5 0 0 (k_Q X ad none (k_ap [(10, .inr (.inr (.inl out)))] (shM, I, L, Rf))) ad (k_ap [(10, .inr (.inr (.inl a10)))] (shM, I, L, Rf)) 3 [none, some (.ref 6), some (.ref 10), some (.int v3), some (.int v4)] [] := by
  intro n
  induction n with
  | zero => intro a10 v3 v4 h; cases h
  | succ n ih =>
    intro a10 v3 v4 h
    refine r_iload C dX11_copies_3 (rfl : 3 + 2 = 5) rfl ?_
    refine r_iload_n C dX11_copies_5 (rfl : 5 + 1 = 6) rfl ?_
    refine r_icmp_ge (tgt := 23) C dX11_copies_6 (by decide) (rfl : 6 + 3 = 9) (fun c6 => ?_) (fun c6 => ?_)
    · have h := k_t c6 h
      cases h
      exact r_vret C hr dX11_copies_23
    · have h := k_f c6 h
      refine r_aload_n C dX11_copies_9 (rfl : 9 + 1 = 10) rfl ?_
      refine r_iload C dX11_copies_10 (rfl : 10 + 2 = 12) rfl ?_
      refine r_aload_n C dX11_copies_12 (rfl : 12 + 1 = 13) rfl ?_
      refine r_iload C dX11_copies_13 (rfl : 13 + 2 = 15) rfl ?_
      obtain ⟨hi15, h⟩ := k_i_of h
      refine a_i (j := (v4).toNatClampNeg) (f := a6) C dX11_copies_15 (rfl : 15 + 1 = 16) rfl ea6 hi15 rfl ?_
      obtain ⟨hi16, h⟩ := k_i_of h
      refine s_i (j := (v4).toNatClampNeg) (f := a10) (us' := [(10, .inr (.inr (.inl (upd a10 ((v4).toNatClampNeg) (a6 ((v4).toNatClampNeg))))))]) C dX11_copies_16 (rfl : 16 + 1 = 17) rfl rfl hi16 rfl ds_X11_copies_6_10 rfl rfl rfl ?_
      refine r_iinc (v := (v4 + (1 : Int32))) C dX11_copies_17 (rfl : 17 + 3 = 20) rfl rfl (by decide) ?_
      show k_W _ _ _ _ _ _ _ _ [none, some (.ref 6), some (.ref 10), some (.int v3), some (.int (v4 + (1 : Int32)))] _
      refine r_goto (tgt := 3) C dX11_copies_20 (by decide) ?_
      refine k_mask [false, true, true, true, true] ?_
      exact ih (upd a10 ((v4).toNatClampNeg) (a6 ((v4).toNatClampNeg))) v3 (v4 + (1 : Int32)) h
def f_X11_copies_6_10 (u : Nat) (a6 : (Nat → Int32)) (a10 : (Nat → Int32)) (x2 : Int32) : Option ((Nat → Int32)) := (bX11_copies_6_10_3 u a6 u a10 x2 (0 : Int32))
set_option maxHeartbeats 400000 in
set_option maxRecDepth 100000 in
theorem c_X11_copies_6_10 (l : Launch) (u : Nat) (h : k_H) (hsh : h.1 = shM) {a6 : (Nat → Int32)} (ea6 : h.2.1 6 = a6) {a10 : (Nat → Int32)} (ea10 : h.2.1 10 = a10) {x2 : Int32} {out : (Nat → Int32)} (hf : f_X11_copies_6_10 u a6 a10 x2 = some out) : k_CT l yX11_copies cX11_copies 5 none 0 0 [.ref 0, .ref 6, .ref 10, .int x2] h none [(10, .inr (.inr (.inl out)))] := by
  obtain ⟨sh, I, L, Rf⟩ := h
  obtain rfl : sh = shM := hsh
  obtain rfl := ea10
  refine k_ofW (by decide) (Nat.le_of_ble_eq_true rfl) ?_
  intro X ad hl hR0 hr C
  have hR : X.R.frames = 0 ∧ X.R.locals = 0 := by rw [hR0]; exact ⟨rfl, rfl⟩
  have h := hf
  unfold f_X11_copies_6_10 at h
  refine k_start (us := [(10, .inr (.inr (.inl (I 10))))]) (k_ap_A k_ap_0) ?_
  show k_W X 5 0 0 _ ad (k_ap [(10, .inr (.inr (.inl (I 10))))] (shM, I, L, Rf)) 0 [some (.ref 0), some (.ref 6), some (.ref 10), some (.int x2), none] []
  refine r_iconst (v := (0 : Int32)) C dX11_copies_0 (rfl : 0 + 1 = 1) rfl ?_
  refine r_istore C dX11_copies_1 (rfl : 1 + 2 = 3) (by decide) (Nat.le_of_ble_eq_true rfl) ?_
  show k_W _ _ _ _ _ _ _ _ [some (.ref 0), some (.ref 6), some (.ref 10), some (.int x2), some (.int (0 : Int32))] _
  refine k_mask [false, true, true, true, true] ?_
  exact sX11_copies_6_10_3 u C hr hR ea6 u (I 10) x2 (0 : Int32) h
/-! LullabyPitModel.sets()I -/
theorem ds_X11_sets : k_ds [(0, 0, 25), (0, 0, 26), (0, 0, 27), (0, 0, 28), (0, 0, 29), (0, 0, 30), (0, 0, 42), (0, 0, 43), (0, 0, 54), (0, 0, 65), (7, 2, 0), (8, 2, 0), (9, 2, 0), (10, 2, 0), (15, 2, 0), (20, 2, 0)] = true := by decide
def bX11_sets_192 (u : Nat) (c0_18 : Int32) (c0_19 : Int32) (c0_20 : Int32) (c0_22 : Int32) (c0_23 : Int32) (c0_24 : Int32) (a3 : (Nat → Int32)) (a4 : (Nat → Int32)) (a5 : (Nat → Int32)) (a6 : (Nat → Int32)) : Nat → Int32 → Int32 → Int32 → Int32 → Int32 → Int32 → Int32 → Int32 → Int32 → Int32 → (Nat → Int32) → (Nat → Int32) → (Nat → Int32) → (Nat → Int32) → (Nat → Int32) → (Nat → Int32) → Int32 → Int32 → Option (Int32 × Int32 × Int32 × Int32 × Int32 × Int32 × Int32 × Int32 × Int32 × Int32 × Int32 × (Nat → Int32) × (Nat → Int32) × (Nat → Int32) × (Nat → Int32) × (Nat → Int32) × (Nat → Int32))
  | 0, _, _, _, _, _, _, _, _, _, _, _, _, _, _, _, _, _, _ => none
  | n + 1, c0_25, c0_26, c0_27, c0_28, c0_29, c0_30, c0_42, c0_43, c0_54, c0_65, a7, a8, a9, a10, a15, a20, v1, v2 => (if (48 : Int32) ≤ v2 then some (v1, c0_25, c0_26, c0_27, c0_28, c0_29, c0_30, c0_42, c0_43, c0_54, c0_65, a7, a8, a9, a10, a15, a20) else k_i 48 v2 ((bX11_sets_192 u c0_18 c0_19 c0_20 c0_22 c0_23 c0_24 a3 a4 a5 a6 n c0_25 c0_26 c0_27 c0_28 c0_29 c0_30 c0_42 c0_43 c0_54 c0_65 a7 a8 a9 a10 a15 a20 (v1 + (a8 ((v2).toNatClampNeg))) (v2 + (1 : Int32)))))
set_option maxHeartbeats 400000 in
set_option maxRecDepth 100000 in
theorem sX11_sets_192 (u : Nat) {X : k_X} {ad : Nat → Nat} (C : k_C X cX11_sets RX11 3 ad) (hr : X.meth.sig.returnType = (some .int)) (hR : X.R.frames = 1 ∧ X.R.locals = 24) {I : Nat → Nat → Int32} {L : Nat → Nat → Int64} {Rf : Nat → Nat → Option Nat} {c0_18 : Int32} (ec0_18 : I 0 18 = c0_18) {c0_19 : Int32} (ec0_19 : I 0 19 = c0_19) {c0_20 : Int32} (ec0_20 : I 0 20 = c0_20) {c0_22 : Int32} (ec0_22 : I 0 22 = c0_22) {c0_23 : Int32} (ec0_23 : I 0 23 = c0_23) {c0_24 : Int32} (ec0_24 : I 0 24 = c0_24) {a3 : (Nat → Int32)} (ea3 : I 3 = a3) {a4 : (Nat → Int32)} (ea4 : I 4 = a4) {a5 : (Nat → Int32)} (ea5 : I 5 = a5) {a6 : (Nat → Int32)} (ea6 : I 6 = a6) {out : Int32 × Int32 × Int32 × Int32 × Int32 × Int32 × Int32 × Int32 × Int32 × Int32 × Int32 × (Nat → Int32) × (Nat → Int32) × (Nat → Int32) × (Nat → Int32) × (Nat → Int32) × (Nat → Int32)} : ∀ (n : Nat) (c0_25 : Int32) (c0_26 : Int32) (c0_27 : Int32) (c0_28 : Int32) (c0_29 : Int32) (c0_30 : Int32) (c0_42 : Int32) (c0_43 : Int32) (c0_54 : Int32) (c0_65 : Int32) (a7 : (Nat → Int32)) (a8 : (Nat → Int32)) (a9 : (Nat → Int32)) (a10 : (Nat → Int32)) (a15 : (Nat → Int32)) (a20 : (Nat → Int32)) (v1 : Int32) (v2 : Int32), bX11_sets_192 u c0_18 c0_19 c0_20 c0_22 c0_23 c0_24 a3 a4 a5 a6 n c0_25 c0_26 c0_27 c0_28 c0_29 c0_30 c0_42 c0_43 c0_54 c0_65 a7 a8 a9 a10 a15 a20 v1 v2 = some out → k_W X 3 0 0 (k_Q X ad (some (.int out.1)) (k_ap [(0, .inl (25, out.2.1)), (0, .inl (26, out.2.2.1)), (0, .inl (27, out.2.2.2.1)), (0, .inl (28, out.2.2.2.2.1)), (0, .inl (29, out.2.2.2.2.2.1)), (0, .inl (30, out.2.2.2.2.2.2.1)), (0, .inl (42, out.2.2.2.2.2.2.2.1)), (0, .inl (43, out.2.2.2.2.2.2.2.2.1)), (0, .inl (54, out.2.2.2.2.2.2.2.2.2.1)), (0, .inl (65, out.2.2.2.2.2.2.2.2.2.2.1)), (7, .inr (.inr (.inl out.2.2.2.2.2.2.2.2.2.2.2.1))), (8, .inr (.inr (.inl out.2.2.2.2.2.2.2.2.2.2.2.2.1))), (9, .inr (.inr (.inl out.2.2.2.2.2.2.2.2.2.2.2.2.2.1))), (10, .inr (.inr (.inl out.2.2.2.2.2.2.2.2.2.2.2.2.2.2.1))), (15, .inr (.inr (.inl out.2.2.2.2.2.2.2.2.2.2.2.2.2.2.2.1))), (20, .inr (.inr (.inl out.2.2.2.2.2.2.2.2.2.2.2.2.2.2.2.2)))] (shM, I, L, Rf))) ad (k_ap [(0, .inl (25, c0_25)), (0, .inl (26, c0_26)), (0, .inl (27, c0_27)), (0, .inl (28, c0_28)), (0, .inl (29, c0_29)), (0, .inl (30, c0_30)), (0, .inl (42, c0_42)), (0, .inl (43, c0_43)), (0, .inl (54, c0_54)), (0, .inl (65, c0_65)), (7, .inr (.inr (.inl a7))), (8, .inr (.inr (.inl a8))), (9, .inr (.inr (.inl a9))), (10, .inr (.inr (.inl a10))), (15, .inr (.inr (.inl a15))), (20, .inr (.inr (.inl a20)))] (shM, I, L, Rf)) 192 [some (.ref 0), some (.int v1), some (.int v2)] [] := by
  intro n
  induction n with
  | zero => intro c0_25 c0_26 c0_27 c0_28 c0_29 c0_30 c0_42 c0_43 c0_54 c0_65 a7 a8 a9 a10 a15 a20 v1 v2 h; cases h
  | succ n ih =>
    intro c0_25 c0_26 c0_27 c0_28 c0_29 c0_30 c0_42 c0_43 c0_54 c0_65 a7 a8 a9 a10 a15 a20 v1 v2 h
    refine r_iload_n C dX11_sets_192 (rfl : 192 + 1 = 193) rfl ?_
    refine r_bipush (v := (48 : Int32)) C dX11_sets_193 (rfl : 193 + 2 = 195) rfl ?_
    refine r_icmp_ge (tgt := 213) C dX11_sets_195 (by decide) (rfl : 195 + 3 = 198) (fun c195 => ?_) (fun c195 => ?_)
    · have h := k_t c195 h
      refine r_iload_n C dX11_sets_213 (rfl : 213 + 1 = 214) rfl ?_
      cases h
      exact r_iret C hr dX11_sets_214
    · have h := k_f c195 h
      refine r_iload_n C dX11_sets_198 (rfl : 198 + 1 = 199) rfl ?_
      refine r_aload_n C dX11_sets_199 (rfl : 199 + 1 = 200) rfl ?_
      refine r_getR (q := 8) C dX11_sets_200 (rfl : 200 + 3 = 203) fl_X11_38 rfl rfl ?_
      refine r_iload_n C dX11_sets_203 (rfl : 203 + 1 = 204) rfl ?_
      obtain ⟨hi204, h⟩ := k_i_of h
      refine a_i (j := (v2).toNatClampNeg) (f := a8) C dX11_sets_204 (rfl : 204 + 1 = 205) rfl rfl hi204 rfl ?_
      refine r_iadd C dX11_sets_205 (rfl : 205 + 1 = 206) ?_
      refine r_istore_n C dX11_sets_206 (rfl : 206 + 1 = 207) (by decide) (Nat.le_of_ble_eq_true rfl) ?_
      show k_W _ _ _ _ _ _ _ _ [some (.ref 0), some (.int (v1 + (a8 ((v2).toNatClampNeg)))), some (.int v2)] _
      refine r_iinc (v := (v2 + (1 : Int32))) C dX11_sets_207 (rfl : 207 + 3 = 210) rfl rfl (by decide) ?_
      show k_W _ _ _ _ _ _ _ _ [some (.ref 0), some (.int (v1 + (a8 ((v2).toNatClampNeg)))), some (.int (v2 + (1 : Int32)))] _
      refine r_goto (tgt := 192) C dX11_sets_210 (by decide) ?_
      refine k_mask [true, true, true] ?_
      exact ih c0_25 c0_26 c0_27 c0_28 c0_29 c0_30 c0_42 c0_43 c0_54 c0_65 a7 a8 a9 a10 a15 a20 (v1 + (a8 ((v2).toNatClampNeg))) (v2 + (1 : Int32)) h
def bX11_sets_139 (u : Nat) (c0_18 : Int32) (c0_19 : Int32) (c0_20 : Int32) (c0_22 : Int32) (c0_23 : Int32) (c0_24 : Int32) (a3 : (Nat → Int32)) (a4 : (Nat → Int32)) (a5 : (Nat → Int32)) (a6 : (Nat → Int32)) : Nat → Int32 → Int32 → Int32 → Int32 → Int32 → Int32 → Int32 → Int32 → Int32 → Int32 → (Nat → Int32) → (Nat → Int32) → (Nat → Int32) → (Nat → Int32) → (Nat → Int32) → (Nat → Int32) → Int32 → Option (Int32 × Int32 × Int32 × Int32 × Int32 × Int32 × Int32 × Int32 × Int32 × Int32 × Int32 × (Nat → Int32) × (Nat → Int32) × (Nat → Int32) × (Nat → Int32) × (Nat → Int32) × (Nat → Int32))
  | 0, _, _, _, _, _, _, _, _, _, _, _, _, _, _, _, _, _ => none
  | n + 1, c0_25, c0_26, c0_27, c0_28, c0_29, c0_30, c0_42, c0_43, c0_54, c0_65, a7, a8, a9, a10, a15, a20, v1 => (if (77 : Int32) ≤ v1 then (bX11_sets_192 u c0_18 c0_19 c0_20 c0_22 c0_23 c0_24 a3 a4 a5 a6 u c0_25 c0_26 c0_27 c0_28 c0_29 c0_30 c0_42 c0_43 c0_54 c0_65 a7 a8 a9 a10 a15 (upd (upd (upd a20 69 (1 : Int32)) 71 c0_29) 74 c0_26) (0 : Int32) (0 : Int32)) else k_i 77 v1 ((bX11_sets_139 u c0_18 c0_19 c0_20 c0_22 c0_23 c0_24 a3 a4 a5 a6 n c0_25 c0_26 c0_27 c0_28 c0_29 c0_30 c0_42 c0_43 c0_54 c0_65 a7 a8 a9 a10 a15 (upd a20 ((v1).toNatClampNeg) (0 : Int32)) (v1 + (1 : Int32)))))
set_option maxHeartbeats 400000 in
set_option maxRecDepth 100000 in
theorem sX11_sets_139 (u : Nat) {X : k_X} {ad : Nat → Nat} (C : k_C X cX11_sets RX11 3 ad) (hr : X.meth.sig.returnType = (some .int)) (hR : X.R.frames = 1 ∧ X.R.locals = 24) {I : Nat → Nat → Int32} {L : Nat → Nat → Int64} {Rf : Nat → Nat → Option Nat} {c0_18 : Int32} (ec0_18 : I 0 18 = c0_18) {c0_19 : Int32} (ec0_19 : I 0 19 = c0_19) {c0_20 : Int32} (ec0_20 : I 0 20 = c0_20) {c0_22 : Int32} (ec0_22 : I 0 22 = c0_22) {c0_23 : Int32} (ec0_23 : I 0 23 = c0_23) {c0_24 : Int32} (ec0_24 : I 0 24 = c0_24) {a3 : (Nat → Int32)} (ea3 : I 3 = a3) {a4 : (Nat → Int32)} (ea4 : I 4 = a4) {a5 : (Nat → Int32)} (ea5 : I 5 = a5) {a6 : (Nat → Int32)} (ea6 : I 6 = a6) {out : Int32 × Int32 × Int32 × Int32 × Int32 × Int32 × Int32 × Int32 × Int32 × Int32 × Int32 × (Nat → Int32) × (Nat → Int32) × (Nat → Int32) × (Nat → Int32) × (Nat → Int32) × (Nat → Int32)} : ∀ (n : Nat) (c0_25 : Int32) (c0_26 : Int32) (c0_27 : Int32) (c0_28 : Int32) (c0_29 : Int32) (c0_30 : Int32) (c0_42 : Int32) (c0_43 : Int32) (c0_54 : Int32) (c0_65 : Int32) (a7 : (Nat → Int32)) (a8 : (Nat → Int32)) (a9 : (Nat → Int32)) (a10 : (Nat → Int32)) (a15 : (Nat → Int32)) (a20 : (Nat → Int32)) (v1 : Int32), bX11_sets_139 u c0_18 c0_19 c0_20 c0_22 c0_23 c0_24 a3 a4 a5 a6 n c0_25 c0_26 c0_27 c0_28 c0_29 c0_30 c0_42 c0_43 c0_54 c0_65 a7 a8 a9 a10 a15 a20 v1 = some out → k_W X 3 0 0 (k_Q X ad (some (.int out.1)) (k_ap [(0, .inl (25, out.2.1)), (0, .inl (26, out.2.2.1)), (0, .inl (27, out.2.2.2.1)), (0, .inl (28, out.2.2.2.2.1)), (0, .inl (29, out.2.2.2.2.2.1)), (0, .inl (30, out.2.2.2.2.2.2.1)), (0, .inl (42, out.2.2.2.2.2.2.2.1)), (0, .inl (43, out.2.2.2.2.2.2.2.2.1)), (0, .inl (54, out.2.2.2.2.2.2.2.2.2.1)), (0, .inl (65, out.2.2.2.2.2.2.2.2.2.2.1)), (7, .inr (.inr (.inl out.2.2.2.2.2.2.2.2.2.2.2.1))), (8, .inr (.inr (.inl out.2.2.2.2.2.2.2.2.2.2.2.2.1))), (9, .inr (.inr (.inl out.2.2.2.2.2.2.2.2.2.2.2.2.2.1))), (10, .inr (.inr (.inl out.2.2.2.2.2.2.2.2.2.2.2.2.2.2.1))), (15, .inr (.inr (.inl out.2.2.2.2.2.2.2.2.2.2.2.2.2.2.2.1))), (20, .inr (.inr (.inl out.2.2.2.2.2.2.2.2.2.2.2.2.2.2.2.2)))] (shM, I, L, Rf))) ad (k_ap [(0, .inl (25, c0_25)), (0, .inl (26, c0_26)), (0, .inl (27, c0_27)), (0, .inl (28, c0_28)), (0, .inl (29, c0_29)), (0, .inl (30, c0_30)), (0, .inl (42, c0_42)), (0, .inl (43, c0_43)), (0, .inl (54, c0_54)), (0, .inl (65, c0_65)), (7, .inr (.inr (.inl a7))), (8, .inr (.inr (.inl a8))), (9, .inr (.inr (.inl a9))), (10, .inr (.inr (.inl a10))), (15, .inr (.inr (.inl a15))), (20, .inr (.inr (.inl a20)))] (shM, I, L, Rf)) 139 [some (.ref 0), some (.int v1), none] [] := by
  intro n
  induction n with
  | zero => intro c0_25 c0_26 c0_27 c0_28 c0_29 c0_30 c0_42 c0_43 c0_54 c0_65 a7 a8 a9 a10 a15 a20 v1 h; cases h
  | succ n ih =>
    intro c0_25 c0_26 c0_27 c0_28 c0_29 c0_30 c0_42 c0_43 c0_54 c0_65 a7 a8 a9 a10 a15 a20 v1 h
    refine r_iload_n C dX11_sets_139 (rfl : 139 + 1 = 140) rfl ?_
    refine r_bipush (v := (77 : Int32)) C dX11_sets_140 (rfl : 140 + 2 = 142) rfl ?_
    refine r_icmp_ge (tgt := 158) C dX11_sets_142 (by decide) (rfl : 142 + 3 = 145) (fun c142 => ?_) (fun c142 => ?_)
    · have h := k_t c142 h
      refine r_aload_n C dX11_sets_158 (rfl : 158 + 1 = 159) rfl ?_
      refine r_getR (q := 20) C dX11_sets_159 (rfl : 159 + 3 = 162) fl_X11_74 rfl rfl ?_
      refine r_bipush (v := (69 : Int32)) C dX11_sets_162 (rfl : 162 + 2 = 164) rfl ?_
      refine r_iconst (v := (1 : Int32)) C dX11_sets_164 (rfl : 164 + 1 = 165) rfl ?_
      refine s_i (j := 69) (f := a20) (us' := [(0, .inl (25, c0_25)), (0, .inl (26, c0_26)), (0, .inl (27, c0_27)), (0, .inl (28, c0_28)), (0, .inl (29, c0_29)), (0, .inl (30, c0_30)), (0, .inl (42, c0_42)), (0, .inl (43, c0_43)), (0, .inl (54, c0_54)), (0, .inl (65, c0_65)), (7, .inr (.inr (.inl a7))), (8, .inr (.inr (.inl a8))), (9, .inr (.inr (.inl a9))), (10, .inr (.inr (.inl a10))), (15, .inr (.inr (.inl a15))), (20, .inr (.inr (.inl (upd a20 69 (1 : Int32)))))]) C dX11_sets_165 (rfl : 165 + 1 = 166) rfl rfl (show ¬ ((69 : Int32) < 0 ∨ 77 ≤ ((69 : Int32)).toNatClampNeg) by decide) rfl ds_X11_sets rfl rfl rfl ?_
      refine r_aload_n C dX11_sets_166 (rfl : 166 + 1 = 167) rfl ?_
      refine r_getR (q := 20) C dX11_sets_167 (rfl : 167 + 3 = 170) fl_X11_74 rfl rfl ?_
      refine r_bipush (v := (71 : Int32)) C dX11_sets_170 (rfl : 170 + 2 = 172) rfl ?_
      refine r_aload_n C dX11_sets_172 (rfl : 172 + 1 = 173) rfl ?_
      refine r_getI (v := c0_29) C dX11_sets_173 (rfl : 173 + 3 = 176) fl_X11_196 rfl rfl rfl ?_
      refine s_i (j := 71) (f := (upd a20 69 (1 : Int32))) (us' := [(0, .inl (25, c0_25)), (0, .inl (26, c0_26)), (0, .inl (27, c0_27)), (0, .inl (28, c0_28)), (0, .inl (29, c0_29)), (0, .inl (30, c0_30)), (0, .inl (42, c0_42)), (0, .inl (43, c0_43)), (0, .inl (54, c0_54)), (0, .inl (65, c0_65)), (7, .inr (.inr (.inl a7))), (8, .inr (.inr (.inl a8))), (9, .inr (.inr (.inl a9))), (10, .inr (.inr (.inl a10))), (15, .inr (.inr (.inl a15))), (20, .inr (.inr (.inl (upd (upd a20 69 (1 : Int32)) 71 c0_29))))]) C dX11_sets_176 (rfl : 176 + 1 = 177) rfl rfl (show ¬ ((71 : Int32) < 0 ∨ 77 ≤ ((71 : Int32)).toNatClampNeg) by decide) rfl ds_X11_sets rfl rfl rfl ?_
      refine r_aload_n C dX11_sets_177 (rfl : 177 + 1 = 178) rfl ?_
      refine r_getR (q := 20) C dX11_sets_178 (rfl : 178 + 3 = 181) fl_X11_74 rfl rfl ?_
      refine r_bipush (v := (74 : Int32)) C dX11_sets_181 (rfl : 181 + 2 = 183) rfl ?_
      refine r_aload_n C dX11_sets_183 (rfl : 183 + 1 = 184) rfl ?_
      refine r_getI (v := c0_26) C dX11_sets_184 (rfl : 184 + 3 = 187) fl_X11_187 rfl rfl rfl ?_
      refine s_i (j := 74) (f := (upd (upd a20 69 (1 : Int32)) 71 c0_29)) (us' := [(0, .inl (25, c0_25)), (0, .inl (26, c0_26)), (0, .inl (27, c0_27)), (0, .inl (28, c0_28)), (0, .inl (29, c0_29)), (0, .inl (30, c0_30)), (0, .inl (42, c0_42)), (0, .inl (43, c0_43)), (0, .inl (54, c0_54)), (0, .inl (65, c0_65)), (7, .inr (.inr (.inl a7))), (8, .inr (.inr (.inl a8))), (9, .inr (.inr (.inl a9))), (10, .inr (.inr (.inl a10))), (15, .inr (.inr (.inl a15))), (20, .inr (.inr (.inl (upd (upd (upd a20 69 (1 : Int32)) 71 c0_29) 74 c0_26))))]) C dX11_sets_187 (rfl : 187 + 1 = 188) rfl rfl (show ¬ ((74 : Int32) < 0 ∨ 77 ≤ ((74 : Int32)).toNatClampNeg) by decide) rfl ds_X11_sets rfl rfl rfl ?_
      refine r_iconst (v := (0 : Int32)) C dX11_sets_188 (rfl : 188 + 1 = 189) rfl ?_
      refine r_istore_n C dX11_sets_189 (rfl : 189 + 1 = 190) (by decide) (Nat.le_of_ble_eq_true rfl) ?_
      show k_W _ _ _ _ _ _ _ _ [some (.ref 0), some (.int (0 : Int32)), none] _
      refine r_iconst (v := (0 : Int32)) C dX11_sets_190 (rfl : 190 + 1 = 191) rfl ?_
      refine r_istore_n C dX11_sets_191 (rfl : 191 + 1 = 192) (by decide) (Nat.le_of_ble_eq_true rfl) ?_
      show k_W _ _ _ _ _ _ _ _ [some (.ref 0), some (.int (0 : Int32)), some (.int (0 : Int32))] _
      refine k_mask [true, true, true] ?_
      exact sX11_sets_192 u C hr hR ec0_18 ec0_19 ec0_20 ec0_22 ec0_23 ec0_24 ea3 ea4 ea5 ea6 u c0_25 c0_26 c0_27 c0_28 c0_29 c0_30 c0_42 c0_43 c0_54 c0_65 a7 a8 a9 a10 a15 (upd (upd (upd a20 69 (1 : Int32)) 71 c0_29) 74 c0_26) (0 : Int32) (0 : Int32) h
    · have h := k_f c142 h
      refine r_aload_n C dX11_sets_145 (rfl : 145 + 1 = 146) rfl ?_
      refine r_getR (q := 20) C dX11_sets_146 (rfl : 146 + 3 = 149) fl_X11_74 rfl rfl ?_
      refine r_iload_n C dX11_sets_149 (rfl : 149 + 1 = 150) rfl ?_
      refine r_iconst (v := (0 : Int32)) C dX11_sets_150 (rfl : 150 + 1 = 151) rfl ?_
      obtain ⟨hi151, h⟩ := k_i_of h
      refine s_i (j := (v1).toNatClampNeg) (f := a20) (us' := [(0, .inl (25, c0_25)), (0, .inl (26, c0_26)), (0, .inl (27, c0_27)), (0, .inl (28, c0_28)), (0, .inl (29, c0_29)), (0, .inl (30, c0_30)), (0, .inl (42, c0_42)), (0, .inl (43, c0_43)), (0, .inl (54, c0_54)), (0, .inl (65, c0_65)), (7, .inr (.inr (.inl a7))), (8, .inr (.inr (.inl a8))), (9, .inr (.inr (.inl a9))), (10, .inr (.inr (.inl a10))), (15, .inr (.inr (.inl a15))), (20, .inr (.inr (.inl (upd a20 ((v1).toNatClampNeg) (0 : Int32)))))]) C dX11_sets_151 (rfl : 151 + 1 = 152) rfl rfl hi151 rfl ds_X11_sets rfl rfl rfl ?_
      refine r_iinc (v := (v1 + (1 : Int32))) C dX11_sets_152 (rfl : 152 + 3 = 155) rfl rfl (by decide) ?_
      show k_W _ _ _ _ _ _ _ _ [some (.ref 0), some (.int (v1 + (1 : Int32))), none] _
      refine r_goto (tgt := 139) C dX11_sets_155 (by decide) ?_
      refine k_mask [true, true, false] ?_
      exact ih c0_25 c0_26 c0_27 c0_28 c0_29 c0_30 c0_42 c0_43 c0_54 c0_65 a7 a8 a9 a10 a15 (upd a20 ((v1).toNatClampNeg) (0 : Int32)) (v1 + (1 : Int32)) h
def f_X11_sets (u : Nat) (c0_18 : Int32) (c0_19 : Int32) (c0_20 : Int32) (c0_22 : Int32) (c0_23 : Int32) (c0_24 : Int32) (c0_25 : Int32) (c0_26 : Int32) (c0_27 : Int32) (c0_28 : Int32) (c0_29 : Int32) (c0_30 : Int32) (c0_42 : Int32) (c0_43 : Int32) (c0_54 : Int32) (c0_65 : Int32) (a3 : (Nat → Int32)) (a4 : (Nat → Int32)) (a5 : (Nat → Int32)) (a6 : (Nat → Int32)) (a7 : (Nat → Int32)) (a8 : (Nat → Int32)) (a9 : (Nat → Int32)) (a10 : (Nat → Int32)) (a15 : (Nat → Int32)) (a20 : (Nat → Int32)) : Option (Int32 × Int32 × Int32 × Int32 × Int32 × Int32 × Int32 × Int32 × Int32 × Int32 × Int32 × (Nat → Int32) × (Nat → Int32) × (Nat → Int32) × (Nat → Int32) × (Nat → Int32) × (Nat → Int32)) := k_b (f_X11_copies_3_7 u a3 a7 (48 : Int32)) (fun r59 => k_b (f_X11_copies_4_8 u a4 a8 (48 : Int32)) (fun r73 => k_b (f_X11_copies_5_9 u a5 a9 (5 : Int32)) (fun r86 => k_b (f_X11_copies_6_10 u a6 a10 (60 : Int32)) (fun r100 => (bX11_sets_139 u c0_18 c0_19 c0_20 c0_22 c0_23 c0_24 a3 a4 a5 a6 u c0_18 c0_19 c0_20 c0_22 c0_23 c0_24 (0 : Int32) (0 : Int32) (0 : Int32) (0 : Int32) r59 r73 r86 r100 (upd (upd a15 0 (0 : Int32)) 1 (0 : Int32)) a20 (0 : Int32))))))
set_option maxHeartbeats 400000 in
set_option maxRecDepth 100000 in
theorem c_X11_sets (l : Launch) (u : Nat) (h : k_H) (hsh : h.1 = shM) {c0_18 : Int32} (ec0_18 : h.2.1 0 18 = c0_18) {c0_19 : Int32} (ec0_19 : h.2.1 0 19 = c0_19) {c0_20 : Int32} (ec0_20 : h.2.1 0 20 = c0_20) {c0_22 : Int32} (ec0_22 : h.2.1 0 22 = c0_22) {c0_23 : Int32} (ec0_23 : h.2.1 0 23 = c0_23) {c0_24 : Int32} (ec0_24 : h.2.1 0 24 = c0_24) {c0_25 : Int32} (ec0_25 : h.2.1 0 25 = c0_25) {c0_26 : Int32} (ec0_26 : h.2.1 0 26 = c0_26) {c0_27 : Int32} (ec0_27 : h.2.1 0 27 = c0_27) {c0_28 : Int32} (ec0_28 : h.2.1 0 28 = c0_28) {c0_29 : Int32} (ec0_29 : h.2.1 0 29 = c0_29) {c0_30 : Int32} (ec0_30 : h.2.1 0 30 = c0_30) {c0_42 : Int32} (ec0_42 : h.2.1 0 42 = c0_42) {c0_43 : Int32} (ec0_43 : h.2.1 0 43 = c0_43) {c0_54 : Int32} (ec0_54 : h.2.1 0 54 = c0_54) {c0_65 : Int32} (ec0_65 : h.2.1 0 65 = c0_65) {a3 : (Nat → Int32)} (ea3 : h.2.1 3 = a3) {a4 : (Nat → Int32)} (ea4 : h.2.1 4 = a4) {a5 : (Nat → Int32)} (ea5 : h.2.1 5 = a5) {a6 : (Nat → Int32)} (ea6 : h.2.1 6 = a6) {a7 : (Nat → Int32)} (ea7 : h.2.1 7 = a7) {a8 : (Nat → Int32)} (ea8 : h.2.1 8 = a8) {a9 : (Nat → Int32)} (ea9 : h.2.1 9 = a9) {a10 : (Nat → Int32)} (ea10 : h.2.1 10 = a10) {a15 : (Nat → Int32)} (ea15 : h.2.1 15 = a15) {a20 : (Nat → Int32)} (ea20 : h.2.1 20 = a20) {out : Int32 × Int32 × Int32 × Int32 × Int32 × Int32 × Int32 × Int32 × Int32 × Int32 × Int32 × (Nat → Int32) × (Nat → Int32) × (Nat → Int32) × (Nat → Int32) × (Nat → Int32) × (Nat → Int32)} (hf : f_X11_sets u c0_18 c0_19 c0_20 c0_22 c0_23 c0_24 c0_25 c0_26 c0_27 c0_28 c0_29 c0_30 c0_42 c0_43 c0_54 c0_65 a3 a4 a5 a6 a7 a8 a9 a10 a15 a20 = some out) : k_CT l yX11_sets cX11_sets 3 (some .int) 1 24 [.ref 0] h (some (.int out.1)) [(0, .inl (25, out.2.1)), (0, .inl (26, out.2.2.1)), (0, .inl (27, out.2.2.2.1)), (0, .inl (28, out.2.2.2.2.1)), (0, .inl (29, out.2.2.2.2.2.1)), (0, .inl (30, out.2.2.2.2.2.2.1)), (0, .inl (42, out.2.2.2.2.2.2.2.1)), (0, .inl (43, out.2.2.2.2.2.2.2.2.1)), (0, .inl (54, out.2.2.2.2.2.2.2.2.2.1)), (0, .inl (65, out.2.2.2.2.2.2.2.2.2.2.1)), (7, .inr (.inr (.inl out.2.2.2.2.2.2.2.2.2.2.2.1))), (8, .inr (.inr (.inl out.2.2.2.2.2.2.2.2.2.2.2.2.1))), (9, .inr (.inr (.inl out.2.2.2.2.2.2.2.2.2.2.2.2.2.1))), (10, .inr (.inr (.inl out.2.2.2.2.2.2.2.2.2.2.2.2.2.2.1))), (15, .inr (.inr (.inl out.2.2.2.2.2.2.2.2.2.2.2.2.2.2.2.1))), (20, .inr (.inr (.inl out.2.2.2.2.2.2.2.2.2.2.2.2.2.2.2.2)))] := by
  obtain ⟨sh, I, L, Rf⟩ := h
  obtain rfl : sh = shM := hsh
  obtain rfl := ec0_25
  obtain rfl := ec0_26
  obtain rfl := ec0_27
  obtain rfl := ec0_28
  obtain rfl := ec0_29
  obtain rfl := ec0_30
  obtain rfl := ec0_42
  obtain rfl := ec0_43
  obtain rfl := ec0_54
  obtain rfl := ec0_65
  obtain rfl := ea7
  obtain rfl := ea8
  obtain rfl := ea9
  obtain rfl := ea10
  obtain rfl := ea15
  obtain rfl := ea20
  refine k_ofW (by decide) (Nat.le_of_ble_eq_true rfl) ?_
  intro X ad hl hR0 hr C
  have hR : X.R.frames = 1 ∧ X.R.locals = 24 := by rw [hR0]; exact ⟨rfl, rfl⟩
  have h := hf
  unfold f_X11_sets at h
  refine k_start (us := [(0, .inl (25, I 0 25)), (0, .inl (26, I 0 26)), (0, .inl (27, I 0 27)), (0, .inl (28, I 0 28)), (0, .inl (29, I 0 29)), (0, .inl (30, I 0 30)), (0, .inl (42, I 0 42)), (0, .inl (43, I 0 43)), (0, .inl (54, I 0 54)), (0, .inl (65, I 0 65)), (7, .inr (.inr (.inl (I 7)))), (8, .inr (.inr (.inl (I 8)))), (9, .inr (.inr (.inl (I 9)))), (10, .inr (.inr (.inl (I 10)))), (15, .inr (.inr (.inl (I 15)))), (20, .inr (.inr (.inl (I 20))))]) (k_ap_I (k_ap_I (k_ap_I (k_ap_I (k_ap_I (k_ap_I (k_ap_I (k_ap_I (k_ap_I (k_ap_I (k_ap_A (k_ap_A (k_ap_A (k_ap_A (k_ap_A (k_ap_A k_ap_0)))))))))))))))) ?_
  show k_W X 3 0 0 _ ad (k_ap [(0, .inl (25, I 0 25)), (0, .inl (26, I 0 26)), (0, .inl (27, I 0 27)), (0, .inl (28, I 0 28)), (0, .inl (29, I 0 29)), (0, .inl (30, I 0 30)), (0, .inl (42, I 0 42)), (0, .inl (43, I 0 43)), (0, .inl (54, I 0 54)), (0, .inl (65, I 0 65)), (7, .inr (.inr (.inl (I 7)))), (8, .inr (.inr (.inl (I 8)))), (9, .inr (.inr (.inl (I 9)))), (10, .inr (.inr (.inl (I 10)))), (15, .inr (.inr (.inl (I 15)))), (20, .inr (.inr (.inl (I 20))))] (shM, I, L, Rf)) 0 [some (.ref 0), none, none] []
  refine r_aload_n C dX11_sets_0 (rfl : 0 + 1 = 1) rfl ?_
  refine r_aload_n C dX11_sets_1 (rfl : 1 + 1 = 2) rfl ?_
  refine r_getI (v := c0_18) C dX11_sets_2 (rfl : 2 + 3 = 5) fl_X11_163 rfl rfl ec0_18 ?_
  refine p_I (us' := [(0, .inl (25, c0_18)), (0, .inl (26, (I 0 26))), (0, .inl (27, (I 0 27))), (0, .inl (28, (I 0 28))), (0, .inl (29, (I 0 29))), (0, .inl (30, (I 0 30))), (0, .inl (42, (I 0 42))), (0, .inl (43, (I 0 43))), (0, .inl (54, (I 0 54))), (0, .inl (65, (I 0 65))), (7, .inr (.inr (.inl (I 7)))), (8, .inr (.inr (.inl (I 8)))), (9, .inr (.inr (.inl (I 9)))), (10, .inr (.inr (.inl (I 10)))), (15, .inr (.inr (.inl (I 15)))), (20, .inr (.inr (.inl (I 20))))]) C dX11_sets_5 (rfl : 5 + 3 = 8) fp_X11_184 rfl rfl ds_X11_sets rfl rfl rfl ?_
  refine r_aload_n C dX11_sets_8 (rfl : 8 + 1 = 9) rfl ?_
  refine r_aload_n C dX11_sets_9 (rfl : 9 + 1 = 10) rfl ?_
  refine r_getI (v := c0_19) C dX11_sets_10 (rfl : 10 + 3 = 13) fl_X11_166 rfl rfl ec0_19 ?_
  refine p_I (us' := [(0, .inl (25, c0_18)), (0, .inl (26, c0_19)), (0, .inl (27, (I 0 27))), (0, .inl (28, (I 0 28))), (0, .inl (29, (I 0 29))), (0, .inl (30, (I 0 30))), (0, .inl (42, (I 0 42))), (0, .inl (43, (I 0 43))), (0, .inl (54, (I 0 54))), (0, .inl (65, (I 0 65))), (7, .inr (.inr (.inl (I 7)))), (8, .inr (.inr (.inl (I 8)))), (9, .inr (.inr (.inl (I 9)))), (10, .inr (.inr (.inl (I 10)))), (15, .inr (.inr (.inl (I 15)))), (20, .inr (.inr (.inl (I 20))))]) C dX11_sets_13 (rfl : 13 + 3 = 16) fp_X11_187 rfl rfl ds_X11_sets rfl rfl rfl ?_
  refine r_aload_n C dX11_sets_16 (rfl : 16 + 1 = 17) rfl ?_
  refine r_aload_n C dX11_sets_17 (rfl : 17 + 1 = 18) rfl ?_
  refine r_getI (v := c0_20) C dX11_sets_18 (rfl : 18 + 3 = 21) fl_X11_169 rfl rfl ec0_20 ?_
  refine p_I (us' := [(0, .inl (25, c0_18)), (0, .inl (26, c0_19)), (0, .inl (27, c0_20)), (0, .inl (28, (I 0 28))), (0, .inl (29, (I 0 29))), (0, .inl (30, (I 0 30))), (0, .inl (42, (I 0 42))), (0, .inl (43, (I 0 43))), (0, .inl (54, (I 0 54))), (0, .inl (65, (I 0 65))), (7, .inr (.inr (.inl (I 7)))), (8, .inr (.inr (.inl (I 8)))), (9, .inr (.inr (.inl (I 9)))), (10, .inr (.inr (.inl (I 10)))), (15, .inr (.inr (.inl (I 15)))), (20, .inr (.inr (.inl (I 20))))]) C dX11_sets_21 (rfl : 21 + 3 = 24) fp_X11_190 rfl rfl ds_X11_sets rfl rfl rfl ?_
  refine r_aload_n C dX11_sets_24 (rfl : 24 + 1 = 25) rfl ?_
  refine r_aload_n C dX11_sets_25 (rfl : 25 + 1 = 26) rfl ?_
  refine r_getI (v := c0_22) C dX11_sets_26 (rfl : 26 + 3 = 29) fl_X11_175 rfl rfl ec0_22 ?_
  refine p_I (us' := [(0, .inl (25, c0_18)), (0, .inl (26, c0_19)), (0, .inl (27, c0_20)), (0, .inl (28, c0_22)), (0, .inl (29, (I 0 29))), (0, .inl (30, (I 0 30))), (0, .inl (42, (I 0 42))), (0, .inl (43, (I 0 43))), (0, .inl (54, (I 0 54))), (0, .inl (65, (I 0 65))), (7, .inr (.inr (.inl (I 7)))), (8, .inr (.inr (.inl (I 8)))), (9, .inr (.inr (.inl (I 9)))), (10, .inr (.inr (.inl (I 10)))), (15, .inr (.inr (.inl (I 15)))), (20, .inr (.inr (.inl (I 20))))]) C dX11_sets_29 (rfl : 29 + 3 = 32) fp_X11_193 rfl rfl ds_X11_sets rfl rfl rfl ?_
  refine r_aload_n C dX11_sets_32 (rfl : 32 + 1 = 33) rfl ?_
  refine r_aload_n C dX11_sets_33 (rfl : 33 + 1 = 34) rfl ?_
  refine r_getI (v := c0_23) C dX11_sets_34 (rfl : 34 + 3 = 37) fl_X11_178 rfl rfl ec0_23 ?_
  refine p_I (us' := [(0, .inl (25, c0_18)), (0, .inl (26, c0_19)), (0, .inl (27, c0_20)), (0, .inl (28, c0_22)), (0, .inl (29, c0_23)), (0, .inl (30, (I 0 30))), (0, .inl (42, (I 0 42))), (0, .inl (43, (I 0 43))), (0, .inl (54, (I 0 54))), (0, .inl (65, (I 0 65))), (7, .inr (.inr (.inl (I 7)))), (8, .inr (.inr (.inl (I 8)))), (9, .inr (.inr (.inl (I 9)))), (10, .inr (.inr (.inl (I 10)))), (15, .inr (.inr (.inl (I 15)))), (20, .inr (.inr (.inl (I 20))))]) C dX11_sets_37 (rfl : 37 + 3 = 40) fp_X11_196 rfl rfl ds_X11_sets rfl rfl rfl ?_
  refine r_aload_n C dX11_sets_40 (rfl : 40 + 1 = 41) rfl ?_
  refine r_aload_n C dX11_sets_41 (rfl : 41 + 1 = 42) rfl ?_
  refine r_getI (v := c0_24) C dX11_sets_42 (rfl : 42 + 3 = 45) fl_X11_181 rfl rfl ec0_24 ?_
  refine p_I (us' := [(0, .inl (25, c0_18)), (0, .inl (26, c0_19)), (0, .inl (27, c0_20)), (0, .inl (28, c0_22)), (0, .inl (29, c0_23)), (0, .inl (30, c0_24)), (0, .inl (42, (I 0 42))), (0, .inl (43, (I 0 43))), (0, .inl (54, (I 0 54))), (0, .inl (65, (I 0 65))), (7, .inr (.inr (.inl (I 7)))), (8, .inr (.inr (.inl (I 8)))), (9, .inr (.inr (.inl (I 9)))), (10, .inr (.inr (.inl (I 10)))), (15, .inr (.inr (.inl (I 15)))), (20, .inr (.inr (.inl (I 20))))]) C dX11_sets_45 (rfl : 45 + 3 = 48) fp_X11_199 rfl rfl ds_X11_sets rfl rfl rfl ?_
  refine r_aload_n C dX11_sets_48 (rfl : 48 + 1 = 49) rfl ?_
  refine r_aload_n C dX11_sets_49 (rfl : 49 + 1 = 50) rfl ?_
  refine r_getR (q := 3) C dX11_sets_50 (rfl : 50 + 3 = 53) fl_X11_23 rfl rfl ?_
  refine r_aload_n C dX11_sets_53 (rfl : 53 + 1 = 54) rfl ?_
  refine r_getR (q := 7) C dX11_sets_54 (rfl : 54 + 3 = 57) fl_X11_35 rfl rfl ?_
  refine r_bipush (v := (48 : Int32)) C dX11_sets_57 (rfl : 57 + 2 = 59) rfl ?_
  obtain ⟨r59, q59, h⟩ := k_b_of h
  refine d_V (As := [.ref 3, .ref 7, .int (48 : Int32)]) (st := []) (st' := []) (h' := k_ap [(0, .inl (25, c0_18)), (0, .inl (26, c0_19)), (0, .inl (27, c0_20)), (0, .inl (28, c0_22)), (0, .inl (29, c0_23)), (0, .inl (30, c0_24)), (0, .inl (42, (I 0 42))), (0, .inl (43, (I 0 43))), (0, .inl (54, (I 0 54))), (0, .inl (65, (I 0 65))), (7, .inr (.inr (.inl r59))), (8, .inr (.inr (.inl (I 8)))), (9, .inr (.inr (.inl (I 9)))), (10, .inr (.inr (.inl (I 10)))), (15, .inr (.inr (.inl (I 15)))), (20, .inr (.inr (.inl (I 20))))] (shM, I, L, Rf)) C hR ⟨Nat.zero_le _, Nat.zero_le _⟩ mv_X11_copies lk_X11_202 dX11_sets_59 (rfl : 59 + 3 = 62) rfl rfl rfl rfl (c_X11_copies_3_7 X.l u (k_ap [(0, .inl (25, c0_18)), (0, .inl (26, c0_19)), (0, .inl (27, c0_20)), (0, .inl (28, c0_22)), (0, .inl (29, c0_23)), (0, .inl (30, c0_24)), (0, .inl (42, (I 0 42))), (0, .inl (43, (I 0 43))), (0, .inl (54, (I 0 54))), (0, .inl (65, (I 0 65))), (7, .inr (.inr (.inl (I 7)))), (8, .inr (.inr (.inl (I 8)))), (9, .inr (.inr (.inl (I 9)))), (10, .inr (.inr (.inl (I 10)))), (15, .inr (.inr (.inl (I 15)))), (20, .inr (.inr (.inl (I 20))))] (shM, I, L, Rf)) rfl ea3 rfl q59) rfl rfl rfl (k_jn (us' := [(0, .inl (25, c0_18)), (0, .inl (26, c0_19)), (0, .inl (27, c0_20)), (0, .inl (28, c0_22)), (0, .inl (29, c0_23)), (0, .inl (30, c0_24)), (0, .inl (42, (I 0 42))), (0, .inl (43, (I 0 43))), (0, .inl (54, (I 0 54))), (0, .inl (65, (I 0 65))), (7, .inr (.inr (.inl r59))), (8, .inr (.inr (.inl (I 8)))), (9, .inr (.inr (.inl (I 9)))), (10, .inr (.inr (.inl (I 10)))), (15, .inr (.inr (.inl (I 15)))), (20, .inr (.inr (.inl (I 20))))]) ds_X11_sets rfl rfl rfl) rfl ?_
  refine r_aload_n C dX11_sets_62 (rfl : 62 + 1 = 63) rfl ?_
  refine r_aload_n C dX11_sets_63 (rfl : 63 + 1 = 64) rfl ?_
  refine r_getR (q := 4) C dX11_sets_64 (rfl : 64 + 3 = 67) fl_X11_26 rfl rfl ?_
  refine r_aload_n C dX11_sets_67 (rfl : 67 + 1 = 68) rfl ?_
  refine r_getR (q := 8) C dX11_sets_68 (rfl : 68 + 3 = 71) fl_X11_38 rfl rfl ?_
  refine r_bipush (v := (48 : Int32)) C dX11_sets_71 (rfl : 71 + 2 = 73) rfl ?_
  obtain ⟨r73, q73, h⟩ := k_b_of h
  refine d_V (As := [.ref 4, .ref 8, .int (48 : Int32)]) (st := []) (st' := []) (h' := k_ap [(0, .inl (25, c0_18)), (0, .inl (26, c0_19)), (0, .inl (27, c0_20)), (0, .inl (28, c0_22)), (0, .inl (29, c0_23)), (0, .inl (30, c0_24)), (0, .inl (42, (I 0 42))), (0, .inl (43, (I 0 43))), (0, .inl (54, (I 0 54))), (0, .inl (65, (I 0 65))), (7, .inr (.inr (.inl r59))), (8, .inr (.inr (.inl r73))), (9, .inr (.inr (.inl (I 9)))), (10, .inr (.inr (.inl (I 10)))), (15, .inr (.inr (.inl (I 15)))), (20, .inr (.inr (.inl (I 20))))] (shM, I, L, Rf)) C hR ⟨Nat.zero_le _, Nat.zero_le _⟩ mv_X11_copies lk_X11_202 dX11_sets_73 (rfl : 73 + 3 = 76) rfl rfl rfl rfl (c_X11_copies_4_8 X.l u (k_ap [(0, .inl (25, c0_18)), (0, .inl (26, c0_19)), (0, .inl (27, c0_20)), (0, .inl (28, c0_22)), (0, .inl (29, c0_23)), (0, .inl (30, c0_24)), (0, .inl (42, (I 0 42))), (0, .inl (43, (I 0 43))), (0, .inl (54, (I 0 54))), (0, .inl (65, (I 0 65))), (7, .inr (.inr (.inl r59))), (8, .inr (.inr (.inl (I 8)))), (9, .inr (.inr (.inl (I 9)))), (10, .inr (.inr (.inl (I 10)))), (15, .inr (.inr (.inl (I 15)))), (20, .inr (.inr (.inl (I 20))))] (shM, I, L, Rf)) rfl ea4 rfl q73) rfl rfl rfl (k_jn (us' := [(0, .inl (25, c0_18)), (0, .inl (26, c0_19)), (0, .inl (27, c0_20)), (0, .inl (28, c0_22)), (0, .inl (29, c0_23)), (0, .inl (30, c0_24)), (0, .inl (42, (I 0 42))), (0, .inl (43, (I 0 43))), (0, .inl (54, (I 0 54))), (0, .inl (65, (I 0 65))), (7, .inr (.inr (.inl r59))), (8, .inr (.inr (.inl r73))), (9, .inr (.inr (.inl (I 9)))), (10, .inr (.inr (.inl (I 10)))), (15, .inr (.inr (.inl (I 15)))), (20, .inr (.inr (.inl (I 20))))]) ds_X11_sets rfl rfl rfl) rfl ?_
  refine r_aload_n C dX11_sets_76 (rfl : 76 + 1 = 77) rfl ?_
  refine r_aload_n C dX11_sets_77 (rfl : 77 + 1 = 78) rfl ?_
  refine r_getR (q := 5) C dX11_sets_78 (rfl : 78 + 3 = 81) fl_X11_29 rfl rfl ?_
  refine r_aload_n C dX11_sets_81 (rfl : 81 + 1 = 82) rfl ?_
  refine r_getR (q := 9) C dX11_sets_82 (rfl : 82 + 3 = 85) fl_X11_41 rfl rfl ?_
  refine r_iconst (v := (5 : Int32)) C dX11_sets_85 (rfl : 85 + 1 = 86) rfl ?_
  obtain ⟨r86, q86, h⟩ := k_b_of h
  refine d_V (As := [.ref 5, .ref 9, .int (5 : Int32)]) (st := []) (st' := []) (h' := k_ap [(0, .inl (25, c0_18)), (0, .inl (26, c0_19)), (0, .inl (27, c0_20)), (0, .inl (28, c0_22)), (0, .inl (29, c0_23)), (0, .inl (30, c0_24)), (0, .inl (42, (I 0 42))), (0, .inl (43, (I 0 43))), (0, .inl (54, (I 0 54))), (0, .inl (65, (I 0 65))), (7, .inr (.inr (.inl r59))), (8, .inr (.inr (.inl r73))), (9, .inr (.inr (.inl r86))), (10, .inr (.inr (.inl (I 10)))), (15, .inr (.inr (.inl (I 15)))), (20, .inr (.inr (.inl (I 20))))] (shM, I, L, Rf)) C hR ⟨Nat.zero_le _, Nat.zero_le _⟩ mv_X11_copies lk_X11_202 dX11_sets_86 (rfl : 86 + 3 = 89) rfl rfl rfl rfl (c_X11_copies_5_9 X.l u (k_ap [(0, .inl (25, c0_18)), (0, .inl (26, c0_19)), (0, .inl (27, c0_20)), (0, .inl (28, c0_22)), (0, .inl (29, c0_23)), (0, .inl (30, c0_24)), (0, .inl (42, (I 0 42))), (0, .inl (43, (I 0 43))), (0, .inl (54, (I 0 54))), (0, .inl (65, (I 0 65))), (7, .inr (.inr (.inl r59))), (8, .inr (.inr (.inl r73))), (9, .inr (.inr (.inl (I 9)))), (10, .inr (.inr (.inl (I 10)))), (15, .inr (.inr (.inl (I 15)))), (20, .inr (.inr (.inl (I 20))))] (shM, I, L, Rf)) rfl ea5 rfl q86) rfl rfl rfl (k_jn (us' := [(0, .inl (25, c0_18)), (0, .inl (26, c0_19)), (0, .inl (27, c0_20)), (0, .inl (28, c0_22)), (0, .inl (29, c0_23)), (0, .inl (30, c0_24)), (0, .inl (42, (I 0 42))), (0, .inl (43, (I 0 43))), (0, .inl (54, (I 0 54))), (0, .inl (65, (I 0 65))), (7, .inr (.inr (.inl r59))), (8, .inr (.inr (.inl r73))), (9, .inr (.inr (.inl r86))), (10, .inr (.inr (.inl (I 10)))), (15, .inr (.inr (.inl (I 15)))), (20, .inr (.inr (.inl (I 20))))]) ds_X11_sets rfl rfl rfl) rfl ?_
  refine r_aload_n C dX11_sets_89 (rfl : 89 + 1 = 90) rfl ?_
  refine r_aload_n C dX11_sets_90 (rfl : 90 + 1 = 91) rfl ?_
  refine r_getR (q := 6) C dX11_sets_91 (rfl : 91 + 3 = 94) fl_X11_32 rfl rfl ?_
  refine r_aload_n C dX11_sets_94 (rfl : 94 + 1 = 95) rfl ?_
  refine r_getR (q := 10) C dX11_sets_95 (rfl : 95 + 3 = 98) fl_X11_44 rfl rfl ?_
  refine r_bipush (v := (60 : Int32)) C dX11_sets_98 (rfl : 98 + 2 = 100) rfl ?_
  obtain ⟨r100, q100, h⟩ := k_b_of h
  refine d_V (As := [.ref 6, .ref 10, .int (60 : Int32)]) (st := []) (st' := []) (h' := k_ap [(0, .inl (25, c0_18)), (0, .inl (26, c0_19)), (0, .inl (27, c0_20)), (0, .inl (28, c0_22)), (0, .inl (29, c0_23)), (0, .inl (30, c0_24)), (0, .inl (42, (I 0 42))), (0, .inl (43, (I 0 43))), (0, .inl (54, (I 0 54))), (0, .inl (65, (I 0 65))), (7, .inr (.inr (.inl r59))), (8, .inr (.inr (.inl r73))), (9, .inr (.inr (.inl r86))), (10, .inr (.inr (.inl r100))), (15, .inr (.inr (.inl (I 15)))), (20, .inr (.inr (.inl (I 20))))] (shM, I, L, Rf)) C hR ⟨Nat.zero_le _, Nat.zero_le _⟩ mv_X11_copies lk_X11_202 dX11_sets_100 (rfl : 100 + 3 = 103) rfl rfl rfl rfl (c_X11_copies_6_10 X.l u (k_ap [(0, .inl (25, c0_18)), (0, .inl (26, c0_19)), (0, .inl (27, c0_20)), (0, .inl (28, c0_22)), (0, .inl (29, c0_23)), (0, .inl (30, c0_24)), (0, .inl (42, (I 0 42))), (0, .inl (43, (I 0 43))), (0, .inl (54, (I 0 54))), (0, .inl (65, (I 0 65))), (7, .inr (.inr (.inl r59))), (8, .inr (.inr (.inl r73))), (9, .inr (.inr (.inl r86))), (10, .inr (.inr (.inl (I 10)))), (15, .inr (.inr (.inl (I 15)))), (20, .inr (.inr (.inl (I 20))))] (shM, I, L, Rf)) rfl ea6 rfl q100) rfl rfl rfl (k_jn (us' := [(0, .inl (25, c0_18)), (0, .inl (26, c0_19)), (0, .inl (27, c0_20)), (0, .inl (28, c0_22)), (0, .inl (29, c0_23)), (0, .inl (30, c0_24)), (0, .inl (42, (I 0 42))), (0, .inl (43, (I 0 43))), (0, .inl (54, (I 0 54))), (0, .inl (65, (I 0 65))), (7, .inr (.inr (.inl r59))), (8, .inr (.inr (.inl r73))), (9, .inr (.inr (.inl r86))), (10, .inr (.inr (.inl r100))), (15, .inr (.inr (.inl (I 15)))), (20, .inr (.inr (.inl (I 20))))]) ds_X11_sets rfl rfl rfl) rfl ?_
  refine r_aload_n C dX11_sets_103 (rfl : 103 + 1 = 104) rfl ?_
  refine r_getR (q := 15) C dX11_sets_104 (rfl : 104 + 3 = 107) fl_X11_59 rfl rfl ?_
  refine r_iconst (v := (0 : Int32)) C dX11_sets_107 (rfl : 107 + 1 = 108) rfl ?_
  refine r_iconst (v := (0 : Int32)) C dX11_sets_108 (rfl : 108 + 1 = 109) rfl ?_
  refine s_i (j := 0) (f := (I 15)) (us' := [(0, .inl (25, c0_18)), (0, .inl (26, c0_19)), (0, .inl (27, c0_20)), (0, .inl (28, c0_22)), (0, .inl (29, c0_23)), (0, .inl (30, c0_24)), (0, .inl (42, (I 0 42))), (0, .inl (43, (I 0 43))), (0, .inl (54, (I 0 54))), (0, .inl (65, (I 0 65))), (7, .inr (.inr (.inl r59))), (8, .inr (.inr (.inl r73))), (9, .inr (.inr (.inl r86))), (10, .inr (.inr (.inl r100))), (15, .inr (.inr (.inl (upd (I 15) 0 (0 : Int32))))), (20, .inr (.inr (.inl (I 20))))]) C dX11_sets_109 (rfl : 109 + 1 = 110) rfl rfl (show ¬ ((0 : Int32) < 0 ∨ 2 ≤ ((0 : Int32)).toNatClampNeg) by decide) rfl ds_X11_sets rfl rfl rfl ?_
  refine r_aload_n C dX11_sets_110 (rfl : 110 + 1 = 111) rfl ?_
  refine r_getR (q := 15) C dX11_sets_111 (rfl : 111 + 3 = 114) fl_X11_59 rfl rfl ?_
  refine r_iconst (v := (1 : Int32)) C dX11_sets_114 (rfl : 114 + 1 = 115) rfl ?_
  refine r_iconst (v := (0 : Int32)) C dX11_sets_115 (rfl : 115 + 1 = 116) rfl ?_
  refine s_i (j := 1) (f := (upd (I 15) 0 (0 : Int32))) (us' := [(0, .inl (25, c0_18)), (0, .inl (26, c0_19)), (0, .inl (27, c0_20)), (0, .inl (28, c0_22)), (0, .inl (29, c0_23)), (0, .inl (30, c0_24)), (0, .inl (42, (I 0 42))), (0, .inl (43, (I 0 43))), (0, .inl (54, (I 0 54))), (0, .inl (65, (I 0 65))), (7, .inr (.inr (.inl r59))), (8, .inr (.inr (.inl r73))), (9, .inr (.inr (.inl r86))), (10, .inr (.inr (.inl r100))), (15, .inr (.inr (.inl (upd (upd (I 15) 0 (0 : Int32)) 1 (0 : Int32))))), (20, .inr (.inr (.inl (I 20))))]) C dX11_sets_116 (rfl : 116 + 1 = 117) rfl rfl (show ¬ ((1 : Int32) < 0 ∨ 2 ≤ ((1 : Int32)).toNatClampNeg) by decide) rfl ds_X11_sets rfl rfl rfl ?_
  refine r_aload_n C dX11_sets_117 (rfl : 117 + 1 = 118) rfl ?_
  refine r_iconst (v := (0 : Int32)) C dX11_sets_118 (rfl : 118 + 1 = 119) rfl ?_
  refine p_I (us' := [(0, .inl (25, c0_18)), (0, .inl (26, c0_19)), (0, .inl (27, c0_20)), (0, .inl (28, c0_22)), (0, .inl (29, c0_23)), (0, .inl (30, c0_24)), (0, .inl (42, (I 0 42))), (0, .inl (43, (I 0 43))), (0, .inl (54, (0 : Int32))), (0, .inl (65, (I 0 65))), (7, .inr (.inr (.inl r59))), (8, .inr (.inr (.inl r73))), (9, .inr (.inr (.inl r86))), (10, .inr (.inr (.inl r100))), (15, .inr (.inr (.inl (upd (upd (I 15) 0 (0 : Int32)) 1 (0 : Int32))))), (20, .inr (.inr (.inl (I 20))))]) C dX11_sets_119 (rfl : 119 + 3 = 122) fp_X11_206 rfl rfl ds_X11_sets rfl rfl rfl ?_
  refine r_aload_n C dX11_sets_122 (rfl : 122 + 1 = 123) rfl ?_
  refine r_iconst (v := (0 : Int32)) C dX11_sets_123 (rfl : 123 + 1 = 124) rfl ?_
  refine p_I (us' := [(0, .inl (25, c0_18)), (0, .inl (26, c0_19)), (0, .inl (27, c0_20)), (0, .inl (28, c0_22)), (0, .inl (29, c0_23)), (0, .inl (30, c0_24)), (0, .inl (42, (0 : Int32))), (0, .inl (43, (I 0 43))), (0, .inl (54, (0 : Int32))), (0, .inl (65, (I 0 65))), (7, .inr (.inr (.inl r59))), (8, .inr (.inr (.inl r73))), (9, .inr (.inr (.inl r86))), (10, .inr (.inr (.inl r100))), (15, .inr (.inr (.inl (upd (upd (I 15) 0 (0 : Int32)) 1 (0 : Int32))))), (20, .inr (.inr (.inl (I 20))))]) C dX11_sets_124 (rfl : 124 + 3 = 127) fp_X11_209 rfl rfl ds_X11_sets rfl rfl rfl ?_
  refine r_aload_n C dX11_sets_127 (rfl : 127 + 1 = 128) rfl ?_
  refine r_iconst (v := (0 : Int32)) C dX11_sets_128 (rfl : 128 + 1 = 129) rfl ?_
  refine p_I (us' := [(0, .inl (25, c0_18)), (0, .inl (26, c0_19)), (0, .inl (27, c0_20)), (0, .inl (28, c0_22)), (0, .inl (29, c0_23)), (0, .inl (30, c0_24)), (0, .inl (42, (0 : Int32))), (0, .inl (43, (I 0 43))), (0, .inl (54, (0 : Int32))), (0, .inl (65, (0 : Int32))), (7, .inr (.inr (.inl r59))), (8, .inr (.inr (.inl r73))), (9, .inr (.inr (.inl r86))), (10, .inr (.inr (.inl r100))), (15, .inr (.inr (.inl (upd (upd (I 15) 0 (0 : Int32)) 1 (0 : Int32))))), (20, .inr (.inr (.inl (I 20))))]) C dX11_sets_129 (rfl : 129 + 3 = 132) fp_X11_212 rfl rfl ds_X11_sets rfl rfl rfl ?_
  refine r_aload_n C dX11_sets_132 (rfl : 132 + 1 = 133) rfl ?_
  refine r_iconst (v := (0 : Int32)) C dX11_sets_133 (rfl : 133 + 1 = 134) rfl ?_
  refine p_I (us' := [(0, .inl (25, c0_18)), (0, .inl (26, c0_19)), (0, .inl (27, c0_20)), (0, .inl (28, c0_22)), (0, .inl (29, c0_23)), (0, .inl (30, c0_24)), (0, .inl (42, (0 : Int32))), (0, .inl (43, (0 : Int32))), (0, .inl (54, (0 : Int32))), (0, .inl (65, (0 : Int32))), (7, .inr (.inr (.inl r59))), (8, .inr (.inr (.inl r73))), (9, .inr (.inr (.inl r86))), (10, .inr (.inr (.inl r100))), (15, .inr (.inr (.inl (upd (upd (I 15) 0 (0 : Int32)) 1 (0 : Int32))))), (20, .inr (.inr (.inl (I 20))))]) C dX11_sets_134 (rfl : 134 + 3 = 137) fp_X11_215 rfl rfl ds_X11_sets rfl rfl rfl ?_
  refine r_iconst (v := (0 : Int32)) C dX11_sets_137 (rfl : 137 + 1 = 138) rfl ?_
  refine r_istore_n C dX11_sets_138 (rfl : 138 + 1 = 139) (by decide) (Nat.le_of_ble_eq_true rfl) ?_
  show k_W _ _ _ _ _ _ _ _ [some (.ref 0), some (.int (0 : Int32)), none] _
  refine k_mask [true, true, false] ?_
  exact sX11_sets_139 u C hr hR ec0_18 ec0_19 ec0_20 ec0_22 ec0_23 ec0_24 ea3 ea4 ea5 ea6 u c0_18 c0_19 c0_20 c0_22 c0_23 c0_24 (0 : Int32) (0 : Int32) (0 : Int32) (0 : Int32) r59 r73 r86 r100 (upd (upd (I 15) 0 (0 : Int32)) 1 (0 : Int32)) (I 20) (0 : Int32) h
/-! LullabyPitModel.readSeam()V -/
theorem ds_X11_readSeam : k_ds [(0, 0, 4), (0, 0, 5), (0, 0, 6), (3, 2, 0), (4, 2, 0)] = true := by decide
def bX11_readSeam_89 (u : Nat) (c0_3 : Int32) (c0_18 : Int32) (c0_19 : Int32) (a2 : (Nat → Int32)) (k77 : Int32 → Int32 → Int32 → (Nat → Int32) → (Nat → Int32) → Int32 → Int32 → Int32 → Int32 → Int32 → Int32 → Int32 → Option (Int32 × Int32 × Int32 × (Nat → Int32) × (Nat → Int32))) : Nat → Int32 → Int32 → Int32 → (Nat → Int32) → (Nat → Int32) → Int32 → Int32 → Int32 → Int32 → Int32 → Int32 → Int32 → Int32 → Option (Int32 × Int32 × Int32 × (Nat → Int32) × (Nat → Int32))
  | 0, _, _, _, _, _, _, _, _, _, _, _, _, _ => none
  | n + 1, c0_4, c0_5, c0_6, a3, a4, v1, v2, v3, v4, v5, v6, v7, v8 => (if (v1 + v3) ≤ v8 then (k77 c0_4 c0_5 c0_6 a3 a4 v1 v2 v3 v4 v5 v6 (v7 + (1 : Int32))) else k_i 48 (((8 : Int32) * v7) + v8) (k_i 48 (((8 : Int32) * v7) + v8) ((bX11_readSeam_89 u c0_3 c0_18 c0_19 a2 k77 n c0_4 c0_5 c0_6 (upd a3 (((((8 : Int32) * v7) + v8)).toNatClampNeg) v5) (upd a4 (((((8 : Int32) * v7) + v8)).toNatClampNeg) v6) v1 v2 v3 v4 v5 v6 v7 (v8 + (1 : Int32))))))
set_option maxHeartbeats 400000 in
set_option maxRecDepth 100000 in
theorem sX11_readSeam_89 (u : Nat) {X : k_X} {ad : Nat → Nat} (C : k_C X cX11_readSeam RX11 9 ad) (hr : X.meth.sig.returnType = none) (hR : X.R.frames = 2 ∧ X.R.locals = 47) {I : Nat → Nat → Int32} {L : Nat → Nat → Int64} {Rf : Nat → Nat → Option Nat} {c0_3 : Int32} (ec0_3 : I 0 3 = c0_3) {c0_18 : Int32} (ec0_18 : I 0 18 = c0_18) {c0_19 : Int32} (ec0_19 : I 0 19 = c0_19) {a2 : (Nat → Int32)} (ea2 : I 2 = a2) {out : Int32 × Int32 × Int32 × (Nat → Int32) × (Nat → Int32)} {k77 : Int32 → Int32 → Int32 → (Nat → Int32) → (Nat → Int32) → Int32 → Int32 → Int32 → Int32 → Int32 → Int32 → Int32 → Option (Int32 × Int32 × Int32 × (Nat → Int32) × (Nat → Int32))} (hk77 : ∀ (c0_4 : Int32) (c0_5 : Int32) (c0_6 : Int32) (a3 : (Nat → Int32)) (a4 : (Nat → Int32)) (v1 : Int32) (v2 : Int32) (v3 : Int32) (v4 : Int32) (v5 : Int32) (v6 : Int32) (v7 : Int32), k77 c0_4 c0_5 c0_6 a3 a4 v1 v2 v3 v4 v5 v6 v7 = some out → k_W X 9 0 0 (k_Q X ad none (k_ap [(0, .inl (4, out.1)), (0, .inl (5, out.2.1)), (0, .inl (6, out.2.2.1)), (3, .inr (.inr (.inl out.2.2.2.1))), (4, .inr (.inr (.inl out.2.2.2.2)))] (shM, I, L, Rf))) ad (k_ap [(0, .inl (4, c0_4)), (0, .inl (5, c0_5)), (0, .inl (6, c0_6)), (3, .inr (.inr (.inl a3))), (4, .inr (.inr (.inl a4)))] (shM, I, L, Rf)) 77 [some (.ref 0), some (.int v1), some (.int v2), some (.int v3), some (.int v4), some (.int v5), some (.int v6), some (.int v7), none] []) : ∀ (n : Nat) (c0_4 : Int32) (c0_5 : Int32) (c0_6 : Int32) (a3 : (Nat → Int32)) (a4 : (Nat → Int32)) (v1 : Int32) (v2 : Int32) (v3 : Int32) (v4 : Int32) (v5 : Int32) (v6 : Int32) (v7 : Int32) (v8 : Int32), bX11_readSeam_89 u c0_3 c0_18 c0_19 a2 k77 n c0_4 c0_5 c0_6 a3 a4 v1 v2 v3 v4 v5 v6 v7 v8 = some out → k_W X 9 0 0 (k_Q X ad none (k_ap [(0, .inl (4, out.1)), (0, .inl (5, out.2.1)), (0, .inl (6, out.2.2.1)), (3, .inr (.inr (.inl out.2.2.2.1))), (4, .inr (.inr (.inl out.2.2.2.2)))] (shM, I, L, Rf))) ad (k_ap [(0, .inl (4, c0_4)), (0, .inl (5, c0_5)), (0, .inl (6, c0_6)), (3, .inr (.inr (.inl a3))), (4, .inr (.inr (.inl a4)))] (shM, I, L, Rf)) 89 [some (.ref 0), some (.int v1), some (.int v2), some (.int v3), some (.int v4), some (.int v5), some (.int v6), some (.int v7), some (.int v8)] [] := by
  intro n
  induction n with
  | zero => intro c0_4 c0_5 c0_6 a3 a4 v1 v2 v3 v4 v5 v6 v7 v8 h; cases h
  | succ n ih =>
    intro c0_4 c0_5 c0_6 a3 a4 v1 v2 v3 v4 v5 v6 v7 v8 h
    refine r_iload C dX11_readSeam_89 (rfl : 89 + 2 = 91) rfl ?_
    refine r_iload_n C dX11_readSeam_91 (rfl : 91 + 1 = 92) rfl ?_
    refine r_iload_n C dX11_readSeam_92 (rfl : 92 + 1 = 93) rfl ?_
    refine r_iadd C dX11_readSeam_93 (rfl : 93 + 1 = 94) ?_
    refine r_icmp_ge (tgt := 133) C dX11_readSeam_94 (by decide) (rfl : 94 + 3 = 97) (fun c94 => ?_) (fun c94 => ?_)
    · have h := k_t c94 h
      refine r_iinc (v := (v7 + (1 : Int32))) C dX11_readSeam_133 (rfl : 133 + 3 = 136) rfl rfl (by decide) ?_
      show k_W _ _ _ _ _ _ _ _ [some (.ref 0), some (.int v1), some (.int v2), some (.int v3), some (.int v4), some (.int v5), some (.int v6), some (.int (v7 + (1 : Int32))), some (.int v8)] _
      refine r_goto (tgt := 77) C dX11_readSeam_136 (by decide) ?_
      refine k_mask [true, true, true, true, true, true, true, true, false] ?_
      exact hk77 c0_4 c0_5 c0_6 a3 a4 v1 v2 v3 v4 v5 v6 (v7 + (1 : Int32)) h
    · have h := k_f c94 h
      refine r_aload_n C dX11_readSeam_97 (rfl : 97 + 1 = 98) rfl ?_
      refine r_getR (q := 3) C dX11_readSeam_98 (rfl : 98 + 3 = 101) fl_X11_23 rfl rfl ?_
      refine r_bipush (v := (8 : Int32)) C dX11_readSeam_101 (rfl : 101 + 2 = 103) rfl ?_
      refine r_iload C dX11_readSeam_103 (rfl : 103 + 2 = 105) rfl ?_
      refine r_imul C dX11_readSeam_105 (rfl : 105 + 1 = 106) ?_
      refine r_iload C dX11_readSeam_106 (rfl : 106 + 2 = 108) rfl ?_
      refine r_iadd C dX11_readSeam_108 (rfl : 108 + 1 = 109) ?_
      refine r_iload C dX11_readSeam_109 (rfl : 109 + 2 = 111) rfl ?_
      obtain ⟨hi111, h⟩ := k_i_of h
      refine s_i (j := ((((8 : Int32) * v7) + v8)).toNatClampNeg) (f := a3) (us' := [(0, .inl (4, c0_4)), (0, .inl (5, c0_5)), (0, .inl (6, c0_6)), (3, .inr (.inr (.inl (upd a3 (((((8 : Int32) * v7) + v8)).toNatClampNeg) v5)))), (4, .inr (.inr (.inl a4)))]) C dX11_readSeam_111 (rfl : 111 + 1 = 112) rfl rfl hi111 rfl ds_X11_readSeam rfl rfl rfl ?_
      refine r_aload_n C dX11_readSeam_112 (rfl : 112 + 1 = 113) rfl ?_
      refine r_getR (q := 4) C dX11_readSeam_113 (rfl : 113 + 3 = 116) fl_X11_26 rfl rfl ?_
      refine r_bipush (v := (8 : Int32)) C dX11_readSeam_116 (rfl : 116 + 2 = 118) rfl ?_
      refine r_iload C dX11_readSeam_118 (rfl : 118 + 2 = 120) rfl ?_
      refine r_imul C dX11_readSeam_120 (rfl : 120 + 1 = 121) ?_
      refine r_iload C dX11_readSeam_121 (rfl : 121 + 2 = 123) rfl ?_
      refine r_iadd C dX11_readSeam_123 (rfl : 123 + 1 = 124) ?_
      refine r_iload C dX11_readSeam_124 (rfl : 124 + 2 = 126) rfl ?_
      obtain ⟨hi126, h⟩ := k_i_of h
      refine s_i (j := ((((8 : Int32) * v7) + v8)).toNatClampNeg) (f := a4) (us' := [(0, .inl (4, c0_4)), (0, .inl (5, c0_5)), (0, .inl (6, c0_6)), (3, .inr (.inr (.inl (upd a3 (((((8 : Int32) * v7) + v8)).toNatClampNeg) v5)))), (4, .inr (.inr (.inl (upd a4 (((((8 : Int32) * v7) + v8)).toNatClampNeg) v6))))]) C dX11_readSeam_126 (rfl : 126 + 1 = 127) rfl rfl hi126 rfl ds_X11_readSeam rfl rfl rfl ?_
      refine r_iinc (v := (v8 + (1 : Int32))) C dX11_readSeam_127 (rfl : 127 + 3 = 130) rfl rfl (by decide) ?_
      show k_W _ _ _ _ _ _ _ _ [some (.ref 0), some (.int v1), some (.int v2), some (.int v3), some (.int v4), some (.int v5), some (.int v6), some (.int v7), some (.int (v8 + (1 : Int32)))] _
      refine r_goto (tgt := 89) C dX11_readSeam_130 (by decide) ?_
      refine k_mask [true, true, true, true, true, true, true, true, true] ?_
      exact ih c0_4 c0_5 c0_6 (upd a3 (((((8 : Int32) * v7) + v8)).toNatClampNeg) v5) (upd a4 (((((8 : Int32) * v7) + v8)).toNatClampNeg) v6) v1 v2 v3 v4 v5 v6 v7 (v8 + (1 : Int32)) h
def bX11_readSeam_77 (u : Nat) (c0_3 : Int32) (c0_18 : Int32) (c0_19 : Int32) (a2 : (Nat → Int32)) : Nat → Int32 → Int32 → Int32 → (Nat → Int32) → (Nat → Int32) → Int32 → Int32 → Int32 → Int32 → Int32 → Int32 → Int32 → Option (Int32 × Int32 × Int32 × (Nat → Int32) × (Nat → Int32))
  | 0, _, _, _, _, _, _, _, _, _, _, _, _ => none
  | n + 1, c0_4, c0_5, c0_6, a3, a4, v1, v2, v3, v4, v5, v6, v7 => (if (v2 + v4) ≤ v7 then some (c0_4, c0_5, c0_6, a3, a4) else (bX11_readSeam_89 u c0_3 c0_18 c0_19 a2 (bX11_readSeam_77 u c0_3 c0_18 c0_19 a2 n) u c0_4 c0_5 c0_6 a3 a4 v1 v2 v3 v4 v5 v6 v7 v1))
set_option maxHeartbeats 400000 in
set_option maxRecDepth 100000 in
theorem sX11_readSeam_77 (u : Nat) {X : k_X} {ad : Nat → Nat} (C : k_C X cX11_readSeam RX11 9 ad) (hr : X.meth.sig.returnType = none) (hR : X.R.frames = 2 ∧ X.R.locals = 47) {I : Nat → Nat → Int32} {L : Nat → Nat → Int64} {Rf : Nat → Nat → Option Nat} {c0_3 : Int32} (ec0_3 : I 0 3 = c0_3) {c0_18 : Int32} (ec0_18 : I 0 18 = c0_18) {c0_19 : Int32} (ec0_19 : I 0 19 = c0_19) {a2 : (Nat → Int32)} (ea2 : I 2 = a2) {out : Int32 × Int32 × Int32 × (Nat → Int32) × (Nat → Int32)} : ∀ (n : Nat) (c0_4 : Int32) (c0_5 : Int32) (c0_6 : Int32) (a3 : (Nat → Int32)) (a4 : (Nat → Int32)) (v1 : Int32) (v2 : Int32) (v3 : Int32) (v4 : Int32) (v5 : Int32) (v6 : Int32) (v7 : Int32), bX11_readSeam_77 u c0_3 c0_18 c0_19 a2 n c0_4 c0_5 c0_6 a3 a4 v1 v2 v3 v4 v5 v6 v7 = some out → k_W X 9 0 0 (k_Q X ad none (k_ap [(0, .inl (4, out.1)), (0, .inl (5, out.2.1)), (0, .inl (6, out.2.2.1)), (3, .inr (.inr (.inl out.2.2.2.1))), (4, .inr (.inr (.inl out.2.2.2.2)))] (shM, I, L, Rf))) ad (k_ap [(0, .inl (4, c0_4)), (0, .inl (5, c0_5)), (0, .inl (6, c0_6)), (3, .inr (.inr (.inl a3))), (4, .inr (.inr (.inl a4)))] (shM, I, L, Rf)) 77 [some (.ref 0), some (.int v1), some (.int v2), some (.int v3), some (.int v4), some (.int v5), some (.int v6), some (.int v7), none] [] := by
  intro n
  induction n with
  | zero => intro c0_4 c0_5 c0_6 a3 a4 v1 v2 v3 v4 v5 v6 v7 h; cases h
  | succ n ih =>
    intro c0_4 c0_5 c0_6 a3 a4 v1 v2 v3 v4 v5 v6 v7 h
    refine r_iload C dX11_readSeam_77 (rfl : 77 + 2 = 79) rfl ?_
    refine r_iload_n C dX11_readSeam_79 (rfl : 79 + 1 = 80) rfl ?_
    refine r_iload C dX11_readSeam_80 (rfl : 80 + 2 = 82) rfl ?_
    refine r_iadd C dX11_readSeam_82 (rfl : 82 + 1 = 83) ?_
    refine r_icmp_ge (tgt := 139) C dX11_readSeam_83 (by decide) (rfl : 83 + 3 = 86) (fun c83 => ?_) (fun c83 => ?_)
    · have h := k_t c83 h
      cases h
      exact r_vret C hr dX11_readSeam_139
    · have h := k_f c83 h
      refine r_iload_n C dX11_readSeam_86 (rfl : 86 + 1 = 87) rfl ?_
      refine r_istore C dX11_readSeam_87 (rfl : 87 + 2 = 89) (by decide) (Nat.le_of_ble_eq_true rfl) ?_
      show k_W _ _ _ _ _ _ _ _ [some (.ref 0), some (.int v1), some (.int v2), some (.int v3), some (.int v4), some (.int v5), some (.int v6), some (.int v7), some (.int v1)] _
      refine k_mask [true, true, true, true, true, true, true, true, true] ?_
      exact sX11_readSeam_89 u C hr hR ec0_3 ec0_18 ec0_19 ea2 ih u c0_4 c0_5 c0_6 a3 a4 v1 v2 v3 v4 v5 v6 v7 v1 h
def f_X11_readSeam (u : Nat) (c0_3 : Int32) (c0_4 : Int32) (c0_5 : Int32) (c0_6 : Int32) (c0_18 : Int32) (c0_19 : Int32) (a2 : (Nat → Int32)) (a3 : (Nat → Int32)) (a4 : (Nat → Int32)) : Option (Int32 × Int32 × Int32 × (Nat → Int32) × (Nat → Int32)) := k_b (f_X11_readNumber u c0_3 c0_4 c0_5 c0_6 a2 (0 : Int32) (c0_18 - (1 : Int32))) (fun r8 => k_b (f_X11_readNumber u c0_3 r8.2.1 r8.2.2.1 r8.2.2.2 a2 (0 : Int32) (c0_19 - (1 : Int32))) (fun r20 => k_b (f_X11_readNumber u c0_3 r20.2.1 r20.2.2.1 r20.2.2.2 a2 (1 : Int32) (c0_18 - r8.1)) (fun r32 => k_b (f_X11_readNumber u c0_3 r32.2.1 r32.2.2.1 r32.2.2.2 a2 (1 : Int32) (c0_19 - r20.1)) (fun r44 => k_b (f_X11_readNumber u c0_3 r44.2.1 r44.2.2.1 r44.2.2.2 a2 (1 : Int32) (4 : Int32)) (fun r52 => k_b (f_X11_readNumber u c0_3 r52.2.1 r52.2.2.1 r52.2.2.2 a2 (1 : Int32) (9 : Int32)) (fun r61 => k_b (f_X11_fine u r61.2.2.1) (fun r67 => (if r67 = (0 : Int32) then some (r61.2.1, r61.2.2.1, r61.2.2.2, a3, a4) else (bX11_readSeam_77 u c0_3 c0_18 c0_19 a2 u r61.2.1 r61.2.2.1 r61.2.2.2 a3 a4 r8.1 r20.1 r32.1 r44.1 r52.1 r61.1 r20.1)))))))))
set_option maxHeartbeats 400000 in
set_option maxRecDepth 100000 in
theorem c_X11_readSeam (l : Launch) (u : Nat) (h : k_H) (hsh : h.1 = shM) {c0_3 : Int32} (ec0_3 : h.2.1 0 3 = c0_3) {c0_4 : Int32} (ec0_4 : h.2.1 0 4 = c0_4) {c0_5 : Int32} (ec0_5 : h.2.1 0 5 = c0_5) {c0_6 : Int32} (ec0_6 : h.2.1 0 6 = c0_6) {c0_18 : Int32} (ec0_18 : h.2.1 0 18 = c0_18) {c0_19 : Int32} (ec0_19 : h.2.1 0 19 = c0_19) {a2 : (Nat → Int32)} (ea2 : h.2.1 2 = a2) {a3 : (Nat → Int32)} (ea3 : h.2.1 3 = a3) {a4 : (Nat → Int32)} (ea4 : h.2.1 4 = a4) {out : Int32 × Int32 × Int32 × (Nat → Int32) × (Nat → Int32)} (hf : f_X11_readSeam u c0_3 c0_4 c0_5 c0_6 c0_18 c0_19 a2 a3 a4 = some out) : k_CT l yX11_readSeam cX11_readSeam 9 none 2 47 [.ref 0] h none [(0, .inl (4, out.1)), (0, .inl (5, out.2.1)), (0, .inl (6, out.2.2.1)), (3, .inr (.inr (.inl out.2.2.2.1))), (4, .inr (.inr (.inl out.2.2.2.2)))] := by
  obtain ⟨sh, I, L, Rf⟩ := h
  obtain rfl : sh = shM := hsh
  obtain rfl := ec0_4
  obtain rfl := ec0_5
  obtain rfl := ec0_6
  obtain rfl := ea3
  obtain rfl := ea4
  refine k_ofW (by decide) (Nat.le_of_ble_eq_true rfl) ?_
  intro X ad hl hR0 hr C
  have hR : X.R.frames = 2 ∧ X.R.locals = 47 := by rw [hR0]; exact ⟨rfl, rfl⟩
  have h := hf
  unfold f_X11_readSeam at h
  refine k_start (us := [(0, .inl (4, I 0 4)), (0, .inl (5, I 0 5)), (0, .inl (6, I 0 6)), (3, .inr (.inr (.inl (I 3)))), (4, .inr (.inr (.inl (I 4))))]) (k_ap_I (k_ap_I (k_ap_I (k_ap_A (k_ap_A k_ap_0))))) ?_
  show k_W X 9 0 0 _ ad (k_ap [(0, .inl (4, I 0 4)), (0, .inl (5, I 0 5)), (0, .inl (6, I 0 6)), (3, .inr (.inr (.inl (I 3)))), (4, .inr (.inr (.inl (I 4))))] (shM, I, L, Rf)) 0 [some (.ref 0), none, none, none, none, none, none, none, none] []
  refine r_aload_n C dX11_readSeam_0 (rfl : 0 + 1 = 1) rfl ?_
  refine r_iconst (v := (0 : Int32)) C dX11_readSeam_1 (rfl : 1 + 1 = 2) rfl ?_
  refine r_aload_n C dX11_readSeam_2 (rfl : 2 + 1 = 3) rfl ?_
  refine r_getI (v := c0_18) C dX11_readSeam_3 (rfl : 3 + 3 = 6) fl_X11_163 rfl rfl ec0_18 ?_
  refine r_iconst (v := (1 : Int32)) C dX11_readSeam_6 (rfl : 6 + 1 = 7) rfl ?_
  refine r_isub C dX11_readSeam_7 (rfl : 7 + 1 = 8) ?_
  obtain ⟨r8, q8, h⟩ := k_b_of h
  refine d_V (As := [.int (0 : Int32), .int (c0_18 - (1 : Int32))]) (st := []) (st' := [.int r8.1]) (h' := k_ap [(0, .inl (4, r8.2.1)), (0, .inl (5, r8.2.2.1)), (0, .inl (6, r8.2.2.2)), (3, .inr (.inr (.inl (I 3)))), (4, .inr (.inr (.inl (I 4))))] (shM, I, L, Rf)) C hR ⟨Nat.zero_le _, Nat.zero_le _⟩ mv_X11_readNumber lk_X11_218 dX11_readSeam_8 (rfl : 8 + 3 = 11) rfl rfl rfl rfl (c_X11_readNumber X.l u (k_ap [(0, .inl (4, (I 0 4))), (0, .inl (5, (I 0 5))), (0, .inl (6, (I 0 6))), (3, .inr (.inr (.inl (I 3)))), (4, .inr (.inr (.inl (I 4))))] (shM, I, L, Rf)) rfl ec0_3 rfl rfl rfl ea2 q8) rfl rfl rfl (k_jn (us' := [(0, .inl (4, r8.2.1)), (0, .inl (5, r8.2.2.1)), (0, .inl (6, r8.2.2.2)), (3, .inr (.inr (.inl (I 3)))), (4, .inr (.inr (.inl (I 4))))]) ds_X11_readSeam rfl rfl rfl) rfl ?_
  refine r_istore_n C dX11_readSeam_11 (rfl : 11 + 1 = 12) (by decide) (Nat.le_of_ble_eq_true rfl) ?_
  show k_W _ _ _ _ _ _ _ _ [some (.ref 0), some (.int r8.1), none, none, none, none, none, none, none] _
  refine r_aload_n C dX11_readSeam_12 (rfl : 12 + 1 = 13) rfl ?_
  refine r_iconst (v := (0 : Int32)) C dX11_readSeam_13 (rfl : 13 + 1 = 14) rfl ?_
  refine r_aload_n C dX11_readSeam_14 (rfl : 14 + 1 = 15) rfl ?_
  refine r_getI (v := c0_19) C dX11_readSeam_15 (rfl : 15 + 3 = 18) fl_X11_166 rfl rfl ec0_19 ?_
  refine r_iconst (v := (1 : Int32)) C dX11_readSeam_18 (rfl : 18 + 1 = 19) rfl ?_
  refine r_isub C dX11_readSeam_19 (rfl : 19 + 1 = 20) ?_
  obtain ⟨r20, q20, h⟩ := k_b_of h
  refine d_V (As := [.int (0 : Int32), .int (c0_19 - (1 : Int32))]) (st := []) (st' := [.int r20.1]) (h' := k_ap [(0, .inl (4, r20.2.1)), (0, .inl (5, r20.2.2.1)), (0, .inl (6, r20.2.2.2)), (3, .inr (.inr (.inl (I 3)))), (4, .inr (.inr (.inl (I 4))))] (shM, I, L, Rf)) C hR ⟨Nat.zero_le _, Nat.zero_le _⟩ mv_X11_readNumber lk_X11_218 dX11_readSeam_20 (rfl : 20 + 3 = 23) rfl rfl rfl rfl (c_X11_readNumber X.l u (k_ap [(0, .inl (4, r8.2.1)), (0, .inl (5, r8.2.2.1)), (0, .inl (6, r8.2.2.2)), (3, .inr (.inr (.inl (I 3)))), (4, .inr (.inr (.inl (I 4))))] (shM, I, L, Rf)) rfl ec0_3 rfl rfl rfl ea2 q20) rfl rfl rfl (k_jn (us' := [(0, .inl (4, r20.2.1)), (0, .inl (5, r20.2.2.1)), (0, .inl (6, r20.2.2.2)), (3, .inr (.inr (.inl (I 3)))), (4, .inr (.inr (.inl (I 4))))]) ds_X11_readSeam rfl rfl rfl) rfl ?_
  refine r_istore_n C dX11_readSeam_23 (rfl : 23 + 1 = 24) (by decide) (Nat.le_of_ble_eq_true rfl) ?_
  show k_W _ _ _ _ _ _ _ _ [some (.ref 0), some (.int r8.1), some (.int r20.1), none, none, none, none, none, none] _
  refine r_aload_n C dX11_readSeam_24 (rfl : 24 + 1 = 25) rfl ?_
  refine r_iconst (v := (1 : Int32)) C dX11_readSeam_25 (rfl : 25 + 1 = 26) rfl ?_
  refine r_aload_n C dX11_readSeam_26 (rfl : 26 + 1 = 27) rfl ?_
  refine r_getI (v := c0_18) C dX11_readSeam_27 (rfl : 27 + 3 = 30) fl_X11_163 rfl rfl ec0_18 ?_
  refine r_iload_n C dX11_readSeam_30 (rfl : 30 + 1 = 31) rfl ?_
  refine r_isub C dX11_readSeam_31 (rfl : 31 + 1 = 32) ?_
  obtain ⟨r32, q32, h⟩ := k_b_of h
  refine d_V (As := [.int (1 : Int32), .int (c0_18 - r8.1)]) (st := []) (st' := [.int r32.1]) (h' := k_ap [(0, .inl (4, r32.2.1)), (0, .inl (5, r32.2.2.1)), (0, .inl (6, r32.2.2.2)), (3, .inr (.inr (.inl (I 3)))), (4, .inr (.inr (.inl (I 4))))] (shM, I, L, Rf)) C hR ⟨Nat.zero_le _, Nat.zero_le _⟩ mv_X11_readNumber lk_X11_218 dX11_readSeam_32 (rfl : 32 + 3 = 35) rfl rfl rfl rfl (c_X11_readNumber X.l u (k_ap [(0, .inl (4, r20.2.1)), (0, .inl (5, r20.2.2.1)), (0, .inl (6, r20.2.2.2)), (3, .inr (.inr (.inl (I 3)))), (4, .inr (.inr (.inl (I 4))))] (shM, I, L, Rf)) rfl ec0_3 rfl rfl rfl ea2 q32) rfl rfl rfl (k_jn (us' := [(0, .inl (4, r32.2.1)), (0, .inl (5, r32.2.2.1)), (0, .inl (6, r32.2.2.2)), (3, .inr (.inr (.inl (I 3)))), (4, .inr (.inr (.inl (I 4))))]) ds_X11_readSeam rfl rfl rfl) rfl ?_
  refine r_istore_n C dX11_readSeam_35 (rfl : 35 + 1 = 36) (by decide) (Nat.le_of_ble_eq_true rfl) ?_
  show k_W _ _ _ _ _ _ _ _ [some (.ref 0), some (.int r8.1), some (.int r20.1), some (.int r32.1), none, none, none, none, none] _
  refine r_aload_n C dX11_readSeam_36 (rfl : 36 + 1 = 37) rfl ?_
  refine r_iconst (v := (1 : Int32)) C dX11_readSeam_37 (rfl : 37 + 1 = 38) rfl ?_
  refine r_aload_n C dX11_readSeam_38 (rfl : 38 + 1 = 39) rfl ?_
  refine r_getI (v := c0_19) C dX11_readSeam_39 (rfl : 39 + 3 = 42) fl_X11_166 rfl rfl ec0_19 ?_
  refine r_iload_n C dX11_readSeam_42 (rfl : 42 + 1 = 43) rfl ?_
  refine r_isub C dX11_readSeam_43 (rfl : 43 + 1 = 44) ?_
  obtain ⟨r44, q44, h⟩ := k_b_of h
  refine d_V (As := [.int (1 : Int32), .int (c0_19 - r20.1)]) (st := []) (st' := [.int r44.1]) (h' := k_ap [(0, .inl (4, r44.2.1)), (0, .inl (5, r44.2.2.1)), (0, .inl (6, r44.2.2.2)), (3, .inr (.inr (.inl (I 3)))), (4, .inr (.inr (.inl (I 4))))] (shM, I, L, Rf)) C hR ⟨Nat.zero_le _, Nat.zero_le _⟩ mv_X11_readNumber lk_X11_218 dX11_readSeam_44 (rfl : 44 + 3 = 47) rfl rfl rfl rfl (c_X11_readNumber X.l u (k_ap [(0, .inl (4, r32.2.1)), (0, .inl (5, r32.2.2.1)), (0, .inl (6, r32.2.2.2)), (3, .inr (.inr (.inl (I 3)))), (4, .inr (.inr (.inl (I 4))))] (shM, I, L, Rf)) rfl ec0_3 rfl rfl rfl ea2 q44) rfl rfl rfl (k_jn (us' := [(0, .inl (4, r44.2.1)), (0, .inl (5, r44.2.2.1)), (0, .inl (6, r44.2.2.2)), (3, .inr (.inr (.inl (I 3)))), (4, .inr (.inr (.inl (I 4))))]) ds_X11_readSeam rfl rfl rfl) rfl ?_
  refine r_istore C dX11_readSeam_47 (rfl : 47 + 2 = 49) (by decide) (Nat.le_of_ble_eq_true rfl) ?_
  show k_W _ _ _ _ _ _ _ _ [some (.ref 0), some (.int r8.1), some (.int r20.1), some (.int r32.1), some (.int r44.1), none, none, none, none] _
  refine r_aload_n C dX11_readSeam_49 (rfl : 49 + 1 = 50) rfl ?_
  refine r_iconst (v := (1 : Int32)) C dX11_readSeam_50 (rfl : 50 + 1 = 51) rfl ?_
  refine r_iconst (v := (4 : Int32)) C dX11_readSeam_51 (rfl : 51 + 1 = 52) rfl ?_
  obtain ⟨r52, q52, h⟩ := k_b_of h
  refine d_V (As := [.int (1 : Int32), .int (4 : Int32)]) (st := []) (st' := [.int r52.1]) (h' := k_ap [(0, .inl (4, r52.2.1)), (0, .inl (5, r52.2.2.1)), (0, .inl (6, r52.2.2.2)), (3, .inr (.inr (.inl (I 3)))), (4, .inr (.inr (.inl (I 4))))] (shM, I, L, Rf)) C hR ⟨Nat.zero_le _, Nat.zero_le _⟩ mv_X11_readNumber lk_X11_218 dX11_readSeam_52 (rfl : 52 + 3 = 55) rfl rfl rfl rfl (c_X11_readNumber X.l u (k_ap [(0, .inl (4, r44.2.1)), (0, .inl (5, r44.2.2.1)), (0, .inl (6, r44.2.2.2)), (3, .inr (.inr (.inl (I 3)))), (4, .inr (.inr (.inl (I 4))))] (shM, I, L, Rf)) rfl ec0_3 rfl rfl rfl ea2 q52) rfl rfl rfl (k_jn (us' := [(0, .inl (4, r52.2.1)), (0, .inl (5, r52.2.2.1)), (0, .inl (6, r52.2.2.2)), (3, .inr (.inr (.inl (I 3)))), (4, .inr (.inr (.inl (I 4))))]) ds_X11_readSeam rfl rfl rfl) rfl ?_
  refine r_istore C dX11_readSeam_55 (rfl : 55 + 2 = 57) (by decide) (Nat.le_of_ble_eq_true rfl) ?_
  show k_W _ _ _ _ _ _ _ _ [some (.ref 0), some (.int r8.1), some (.int r20.1), some (.int r32.1), some (.int r44.1), some (.int r52.1), none, none, none] _
  refine r_aload_n C dX11_readSeam_57 (rfl : 57 + 1 = 58) rfl ?_
  refine r_iconst (v := (1 : Int32)) C dX11_readSeam_58 (rfl : 58 + 1 = 59) rfl ?_
  refine r_bipush (v := (9 : Int32)) C dX11_readSeam_59 (rfl : 59 + 2 = 61) rfl ?_
  obtain ⟨r61, q61, h⟩ := k_b_of h
  refine d_V (As := [.int (1 : Int32), .int (9 : Int32)]) (st := []) (st' := [.int r61.1]) (h' := k_ap [(0, .inl (4, r61.2.1)), (0, .inl (5, r61.2.2.1)), (0, .inl (6, r61.2.2.2)), (3, .inr (.inr (.inl (I 3)))), (4, .inr (.inr (.inl (I 4))))] (shM, I, L, Rf)) C hR ⟨Nat.zero_le _, Nat.zero_le _⟩ mv_X11_readNumber lk_X11_218 dX11_readSeam_61 (rfl : 61 + 3 = 64) rfl rfl rfl rfl (c_X11_readNumber X.l u (k_ap [(0, .inl (4, r52.2.1)), (0, .inl (5, r52.2.2.1)), (0, .inl (6, r52.2.2.2)), (3, .inr (.inr (.inl (I 3)))), (4, .inr (.inr (.inl (I 4))))] (shM, I, L, Rf)) rfl ec0_3 rfl rfl rfl ea2 q61) rfl rfl rfl (k_jn (us' := [(0, .inl (4, r61.2.1)), (0, .inl (5, r61.2.2.1)), (0, .inl (6, r61.2.2.2)), (3, .inr (.inr (.inl (I 3)))), (4, .inr (.inr (.inl (I 4))))]) ds_X11_readSeam rfl rfl rfl) rfl ?_
  refine r_istore C dX11_readSeam_64 (rfl : 64 + 2 = 66) (by decide) (Nat.le_of_ble_eq_true rfl) ?_
  show k_W _ _ _ _ _ _ _ _ [some (.ref 0), some (.int r8.1), some (.int r20.1), some (.int r32.1), some (.int r44.1), some (.int r52.1), some (.int r61.1), none, none] _
  refine r_aload_n C dX11_readSeam_66 (rfl : 66 + 1 = 67) rfl ?_
  obtain ⟨r67, q67, h⟩ := k_b_of h
  refine d_V (As := []) (st := []) (st' := [.int r67]) (h' := k_ap [(0, .inl (4, r61.2.1)), (0, .inl (5, r61.2.2.1)), (0, .inl (6, r61.2.2.2)), (3, .inr (.inr (.inl (I 3)))), (4, .inr (.inr (.inl (I 4))))] (shM, I, L, Rf)) C hR ⟨Nat.zero_le _, Nat.zero_le _⟩ mv_X11_fine lk_X11_149 dX11_readSeam_67 (rfl : 67 + 3 = 70) rfl rfl rfl rfl (c_X11_fine X.l u (k_ap [(0, .inl (4, r61.2.1)), (0, .inl (5, r61.2.2.1)), (0, .inl (6, r61.2.2.2)), (3, .inr (.inr (.inl (I 3)))), (4, .inr (.inr (.inl (I 4))))] (shM, I, L, Rf)) rfl rfl q67) rfl rfl rfl rfl rfl ?_
  refine r_if_ne (tgt := 74) C dX11_readSeam_70 (by decide) (rfl : 70 + 3 = 73) (fun c70 => ?_) (fun c70 => ?_)
  · have h := k_f c70 h
    refine r_iload_n C dX11_readSeam_74 (rfl : 74 + 1 = 75) rfl ?_
    refine r_istore C dX11_readSeam_75 (rfl : 75 + 2 = 77) (by decide) (Nat.le_of_ble_eq_true rfl) ?_
    show k_W _ _ _ _ _ _ _ _ [some (.ref 0), some (.int r8.1), some (.int r20.1), some (.int r32.1), some (.int r44.1), some (.int r52.1), some (.int r61.1), some (.int r20.1), none] _
    refine k_mask [true, true, true, true, true, true, true, true, false] ?_
    exact sX11_readSeam_77 u C hr hR ec0_3 ec0_18 ec0_19 ea2 u r61.2.1 r61.2.2.1 r61.2.2.2 (I 3) (I 4) r8.1 r20.1 r32.1 r44.1 r52.1 r61.1 r20.1 h
  · have h := k_t c70 h
    cases h
    exact r_vret C hr dX11_readSeam_73
