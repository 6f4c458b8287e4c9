/-! LullabyPit$Taps.mostLeft(II)I -/
theorem ds_X9_mostLeft : k_ds [] = true := by decide +kernel
set_option maxHeartbeats 400000 in
set_option maxRecDepth 100000 in
theorem sX9_mostLeft_58 (u : Nat) {X : k_X} {ad : Nat → Nat} (C : k_C X cX9_mostLeft RX9 7 ad) (hr : X.meth.sig.returnType = (some .int)) (hR : X.R.frames = 2 ∧ X.R.locals = 44) {I : Nat → Nat → Int32} {L : Nat → Nat → Int64} {Rf : Nat → Nat → Option Nat} {c3_0 : Int32} (ec3_0 : I 3 0 = c3_0) {c3_1 : Int32} (ec3_1 : I 3 1 = c3_1) {a4 : (Nat → Int32)} (ea4 : I 4 = a4) {out : Int32} {k5 : Int32 → Int32 → Int32 → Int32 → Option (Int32)} (hk5 : ∀ (v1 : Int32) (v2 : Int32) (v3 : Int32) (v4 : Int32), k5 v1 v2 v3 v4 = some out → k_W X 7 0 0 (k_Q X ad (some (.int out)) (k_ap [] (shTaps, I, L, Rf))) ad (k_ap [] (shTaps, I, L, Rf)) 5 [some (.ref 0), some (.int v1), some (.int v2), some (.int v3), some (.int v4), none, none] []) {k24 : Int32 → Int32 → Int32 → Int32 → Int32 → Int32 → Option (Int32)} (hk24 : ∀ (v1 : Int32) (v2 : Int32) (v3 : Int32) (v4 : Int32) (v5 : Int32) (v6 : Int32), k24 v1 v2 v3 v4 v5 v6 = some out → k_W X 7 0 0 (k_Q X ad (some (.int out)) (k_ap [] (shTaps, I, L, Rf))) ad (k_ap [] (shTaps, I, L, Rf)) 24 [some (.ref 0), some (.int v1), some (.int v2), some (.int v3), some (.int v4), some (.int v5), some (.int v6)] []) : ∀ (v1 : Int32) (v2 : Int32) (v3 : Int32) (v4 : Int32) (v5 : Int32) (v6 : Int32), bX9_mostLeft_58 u c3_0 c3_1 a4 k5 k24 v1 v2 v3 v4 v5 v6 = some out → k_W X 7 0 0 (k_Q X ad (some (.int out)) (k_ap [] (shTaps, I, L, Rf))) ad (k_ap [] (shTaps, I, L, Rf)) 58 [some (.ref 0), some (.int v1), some (.int v2), some (.int v3), some (.int v4), some (.int v5), some (.int v6)] [] := by
  intro v1 v2 v3 v4 v5 v6 h
  unfold bX9_mostLeft_58 at h
  refine r_iinc (v := (v6 + (1 : Int32))) C dX9_mostLeft_58 (rfl : 58 + 3 = 61) rfl rfl (by decide) ?_
  show k_W _ _ _ _ _ _ _ _ [some (.ref 0), some (.int v1), some (.int v2), some (.int v3), some (.int v4), some (.int v5), some (.int (v6 + (1 : Int32)))] _
  refine r_goto (tgt := 24) C dX9_mostLeft_61 (by decide) ?_
  refine k_mask [true, true, true, true, true, true, true] ?_
  exact hk24 v1 v2 v3 v4 v5 (v6 + (1 : Int32)) h
set_option maxHeartbeats 400000 in
set_option maxRecDepth 100000 in
theorem sX9_mostLeft_24 (u : Nat) {X : k_X} {ad : Nat → Nat} (C : k_C X cX9_mostLeft RX9 7 ad) (hr : X.meth.sig.returnType = (some .int)) (hR : X.R.frames = 2 ∧ X.R.locals = 44) {I : Nat → Nat → Int32} {L : Nat → Nat → Int64} {Rf : Nat → Nat → Option Nat} {c3_0 : Int32} (ec3_0 : I 3 0 = c3_0) {c3_1 : Int32} (ec3_1 : I 3 1 = c3_1) {a4 : (Nat → Int32)} (ea4 : I 4 = a4) {out : Int32} {k5 : Int32 → Int32 → Int32 → Int32 → Option (Int32)} (hk5 : ∀ (v1 : Int32) (v2 : Int32) (v3 : Int32) (v4 : Int32), k5 v1 v2 v3 v4 = some out → k_W X 7 0 0 (k_Q X ad (some (.int out)) (k_ap [] (shTaps, I, L, Rf))) ad (k_ap [] (shTaps, I, L, Rf)) 5 [some (.ref 0), some (.int v1), some (.int v2), some (.int v3), some (.int v4), none, none] []) : ∀ (n : Nat) (v1 : Int32) (v2 : Int32) (v3 : Int32) (v4 : Int32) (v5 : Int32) (v6 : Int32), bX9_mostLeft_24 u c3_0 c3_1 a4 k5 n v1 v2 v3 v4 v5 v6 = some out → k_W X 7 0 0 (k_Q X ad (some (.int out)) (k_ap [] (shTaps, I, L, Rf))) ad (k_ap [] (shTaps, I, L, Rf)) 24 [some (.ref 0), some (.int v1), some (.int v2), some (.int v3), some (.int v4), some (.int v5), some (.int v6)] [] := by
  intro n
  induction n with
  | zero => intro v1 v2 v3 v4 v5 v6 h; cases h
  | succ n ih =>
    intro v1 v2 v3 v4 v5 v6 h
    refine r_iload C dX9_mostLeft_24 (rfl : 24 + 2 = 26) rfl ?_
    refine r_bipush (v := (7 : Int32)) C dX9_mostLeft_26 (rfl : 26 + 2 = 28) rfl ?_
    refine r_icmp_gt (tgt := 64) C dX9_mostLeft_28 (by decide) (rfl : 28 + 3 = 31) (fun c28 => ?_) (fun c28 => ?_)
    · have h := k_t c28 h
      refine r_iload_n C dX9_mostLeft_64 (rfl : 64 + 1 = 65) rfl ?_
      refine r_iload C dX9_mostLeft_65 (rfl : 65 + 2 = 67) rfl ?_
      refine r_max C hR dX9_mostLeft_67 (rfl : 67 + 3 = 70) lm_X9_90 rfl rfl rfl ?_
      refine r_istore_n C dX9_mostLeft_70 (rfl : 70 + 1 = 71) (by decide) (Nat.le_of_ble_eq_true rfl) ?_
      show k_W _ _ _ _ _ _ _ _ [some (.ref 0), some (.int v1), some (.int v2), some (.int (if v3 < v5 then v5 else v3)), some (.int v4), some (.int v5), some (.int v6)] _
      refine r_iinc (v := (v4 + (1 : Int32))) C dX9_mostLeft_71 (rfl : 71 + 3 = 74) rfl rfl (by decide) ?_
      show k_W _ _ _ _ _ _ _ _ [some (.ref 0), some (.int v1), some (.int v2), some (.int (if v3 < v5 then v5 else v3)), some (.int (v4 + (1 : Int32))), some (.int v5), some (.int v6)] _
      refine r_goto (tgt := 5) C dX9_mostLeft_74 (by decide) ?_
      refine k_mask [true, true, true, true, true, false, false] ?_
      exact hk5 v1 v2 (if v3 < v5 then v5 else v3) (v4 + (1 : Int32)) h
    · have h := k_f c28 h
      refine r_iload_n C dX9_mostLeft_31 (rfl : 31 + 1 = 32) rfl ?_
      refine r_iload C dX9_mostLeft_32 (rfl : 32 + 2 = 34) rfl ?_
      refine r_bipush (v := (7 : Int32)) C dX9_mostLeft_34 (rfl : 34 + 2 = 36) rfl ?_
      refine r_iadd C dX9_mostLeft_36 (rfl : 36 + 1 = 37) ?_
      refine r_iushr C dX9_mostLeft_37 (rfl : 37 + 1 = 38) ?_
      refine r_iconst (v := (1 : Int32)) C dX9_mostLeft_38 (rfl : 38 + 1 = 39) rfl ?_
      refine r_iand C dX9_mostLeft_39 (rfl : 39 + 1 = 40) ?_
      refine r_if_eq (tgt := 58) C dX9_mostLeft_40 (by decide) (rfl : 40 + 3 = 43) (fun c40 => ?_) (fun c40 => ?_)
      · have h := k_t c40 h
        refine k_mask [true, true, true, true, true, true, true] ?_
        exact sX9_mostLeft_58 u C hr hR ec3_0 ec3_1 ea4 hk5 ih v1 v2 v3 v4 v5 v6 h
      · have h := k_f c40 h
        refine r_aload_n C dX9_mostLeft_43 (rfl : 43 + 1 = 44) rfl ?_
        refine r_iload_n C dX9_mostLeft_44 (rfl : 44 + 1 = 45) rfl ?_
        refine r_iload C dX9_mostLeft_45 (rfl : 45 + 2 = 47) rfl ?_
        obtain ⟨r47, q47, h⟩ := k_b_of h
        refine d_V (As := [.int v2, .int v6]) (st := []) (st' := [.int r47]) (h' := k_ap [] (shTaps, I, L, Rf)) C hR ⟨Nat.zero_le _, Nat.zero_le _⟩ mv_X9_heard lk_X9_80 dX9_mostLeft_47 (rfl : 47 + 3 = 50) rfl rfl rfl rfl (c_X9_heard X.l u (k_ap [] (shTaps, I, L, Rf)) rfl ec3_0 ec3_1 ea4 q47) rfl rfl rfl rfl rfl ?_
        refine r_iload C dX9_mostLeft_50 (rfl : 50 + 2 = 52) rfl ?_
        refine r_icmp_ne (tgt := 58) C dX9_mostLeft_52 (by decide) (rfl : 52 + 3 = 55) (fun c52 => ?_) (fun c52 => ?_)
        · have h := k_f c52 h
          refine k_mask [true, true, true, true, true, true, true] ?_
          exact sX9_mostLeft_58 u C hr hR ec3_0 ec3_1 ea4 hk5 ih v1 v2 v3 v4 v5 v6 h
        · have h := k_t c52 h
          refine r_iinc (v := (v5 + (1 : Int32))) C dX9_mostLeft_55 (rfl : 55 + 3 = 58) rfl rfl (by decide) ?_
          show k_W _ _ _ _ _ _ _ _ [some (.ref 0), some (.int v1), some (.int v2), some (.int v3), some (.int v4), some (.int (v5 + (1 : Int32))), some (.int v6)] _
          refine k_mask [true, true, true, true, true, true, true] ?_
          exact sX9_mostLeft_58 u C hr hR ec3_0 ec3_1 ea4 hk5 ih v1 v2 v3 v4 (v5 + (1 : Int32)) v6 h
set_option maxHeartbeats 400000 in
set_option maxRecDepth 100000 in
theorem sX9_mostLeft_5 (u : Nat) {X : k_X} {ad : Nat → Nat} (C : k_C X cX9_mostLeft RX9 7 ad) (hr : X.meth.sig.returnType = (some .int)) (hR : X.R.frames = 2 ∧ X.R.locals = 44) {I : Nat → Nat → Int32} {L : Nat → Nat → Int64} {Rf : Nat → Nat → Option Nat} {c3_0 : Int32} (ec3_0 : I 3 0 = c3_0) {c3_1 : Int32} (ec3_1 : I 3 1 = c3_1) {a4 : (Nat → Int32)} (ea4 : I 4 = a4) {out : Int32} : ∀ (n : Nat) (v1 : Int32) (v2 : Int32) (v3 : Int32) (v4 : Int32), bX9_mostLeft_5 u c3_0 c3_1 a4 n v1 v2 v3 v4 = some out → k_W X 7 0 0 (k_Q X ad (some (.int out)) (k_ap [] (shTaps, I, L, Rf))) ad (k_ap [] (shTaps, I, L, Rf)) 5 [some (.ref 0), some (.int v1), some (.int v2), some (.int v3), some (.int v4), none, none] [] := by
  intro n
  induction n with
  | zero => intro v1 v2 v3 v4 h; cases h
  | succ n ih =>
    intro v1 v2 v3 v4 h
    refine r_iload C dX9_mostLeft_5 (rfl : 5 + 2 = 7) rfl ?_
    refine r_aload_n C dX9_mostLeft_7 (rfl : 7 + 1 = 8) rfl ?_
    refine r_getR (q := 3) C dX9_mostLeft_8 (rfl : 8 + 3 = 11) fl_X9_18 rfl rfl ?_
    refine r_getI (v := c3_1) C dX9_mostLeft_11 (rfl : 11 + 3 = 14) fl_X9_67 rfl rfl ec3_1 ?_
    refine r_icmp_gt (tgt := 77) C dX9_mostLeft_14 (by decide) (rfl : 14 + 3 = 17) (fun c14 => ?_) (fun c14 => ?_)
    · have h := k_t c14 h
      refine r_iload_n C dX9_mostLeft_77 (rfl : 77 + 1 = 78) rfl ?_
      cases h
      exact r_iret C hr dX9_mostLeft_78
    · have h := k_f c14 h
      refine r_iconst (v := (0 : Int32)) C dX9_mostLeft_17 (rfl : 17 + 1 = 18) rfl ?_
      refine r_istore C dX9_mostLeft_18 (rfl : 18 + 2 = 20) (by decide) (Nat.le_of_ble_eq_true rfl) ?_
      show k_W _ _ _ _ _ _ _ _ [some (.ref 0), some (.int v1), some (.int v2), some (.int v3), some (.int v4), some (.int (0 : Int32)), none] _
      refine r_bipush (v := (-7 : Int32)) C dX9_mostLeft_20 (rfl : 20 + 2 = 22) rfl ?_
      refine r_istore C dX9_mostLeft_22 (rfl : 22 + 2 = 24) (by decide) (Nat.le_of_ble_eq_true rfl) ?_
      show k_W _ _ _ _ _ _ _ _ [some (.ref 0), some (.int v1), some (.int v2), some (.int v3), some (.int v4), some (.int (0 : Int32)), some (.int (-7 : Int32))] _
      refine k_mask [true, true, true, true, true, true, true] ?_
      exact sX9_mostLeft_24 u C hr hR ec3_0 ec3_1 ea4 ih u v1 v2 v3 v4 (0 : Int32) (-7 : Int32) h
set_option maxHeartbeats 400000 in
set_option maxRecDepth 100000 in
theorem sX9_mostLeft_0 (u : Nat) {X : k_X} {ad : Nat → Nat} (C : k_C X cX9_mostLeft RX9 7 ad) (hr : X.meth.sig.returnType = (some .int)) (hR : X.R.frames = 2 ∧ X.R.locals = 44) {I : Nat → Nat → Int32} {L : Nat → Nat → Int64} {Rf : Nat → Nat → Option Nat} {c3_0 : Int32} (ec3_0 : I 3 0 = c3_0) {c3_1 : Int32} (ec3_1 : I 3 1 = c3_1) {a4 : (Nat → Int32)} (ea4 : I 4 = a4) {out : Int32} : ∀ (v1 : Int32) (v2 : Int32), bX9_mostLeft_0 u c3_0 c3_1 a4 v1 v2 = some out → k_W X 7 0 0 (k_Q X ad (some (.int out)) (k_ap [] (shTaps, I, L, Rf))) ad (k_ap [] (shTaps, I, L, Rf)) 0 [some (.ref 0), some (.int v1), some (.int v2), none, none, none, none] [] := by
  intro v1 v2 h
  unfold bX9_mostLeft_0 at h
  refine r_iconst (v := (0 : Int32)) C dX9_mostLeft_0 (rfl : 0 + 1 = 1) rfl ?_
  refine r_istore_n C dX9_mostLeft_1 (rfl : 1 + 1 = 2) (by decide) (Nat.le_of_ble_eq_true rfl) ?_
  show k_W _ _ _ _ _ _ _ _ [some (.ref 0), some (.int v1), some (.int v2), some (.int (0 : Int32)), none, none, none] _
  refine r_iconst (v := (0 : Int32)) C dX9_mostLeft_2 (rfl : 2 + 1 = 3) rfl ?_
  refine r_istore C dX9_mostLeft_3 (rfl : 3 + 2 = 5) (by decide) (Nat.le_of_ble_eq_true rfl) ?_
  show k_W _ _ _ _ _ _ _ _ [some (.ref 0), some (.int v1), some (.int v2), some (.int (0 : Int32)), some (.int (0 : Int32)), none, none] _
  refine k_mask [true, true, true, true, true, false, false] ?_
  exact sX9_mostLeft_5 u C hr hR ec3_0 ec3_1 ea4 u v1 v2 (0 : Int32) (0 : Int32) h
set_option maxHeartbeats 400000 in
set_option maxRecDepth 100000 in
theorem c_X9_mostLeft (l : Launch) (u : Nat) (h : k_H) (hsh : h.1 = shTaps) {c3_0 : Int32} (ec3_0 : h.2.1 3 0 = c3_0) {c3_1 : Int32} (ec3_1 : h.2.1 3 1 = c3_1) {a4 : (Nat → Int32)} (ea4 : h.2.1 4 = a4) {x0 : Int32} {x1 : Int32} {out : Int32} (hf : f_X9_mostLeft u c3_0 c3_1 a4 x0 x1 = some out) : k_CT l yX9_mostLeft cX9_mostLeft 7 (some .int) 2 44 [.ref 0, .int x0, .int x1] h (some (.int out)) [] := by
  obtain ⟨sh, I, L, Rf⟩ := h
  try dsimp only
  obtain rfl : sh = shTaps := hsh
  refine k_ofW (by decide) (Nat.le_of_ble_eq_true rfl) ?_
  intro X ad hl hR0 hr C
  have hR : X.R.frames = 2 ∧ X.R.locals = 44 := by rw [hR0]; exact ⟨rfl, rfl⟩
  have h := hf
  unfold f_X9_mostLeft at h
  refine k_start (us := []) k_ap_0 ?_
  show k_W X 7 0 0 _ ad (k_ap [] (shTaps, I, L, Rf)) 0 [some (.ref 0), some (.int x0), some (.int x1), none, none, none, none] []
  refine k_mask [true, true, true, false, false, false, false] ?_
  exact sX9_mostLeft_0 u C hr hR ec3_0 ec3_1 ea4 x0 x1 h
/-! LullabyPit$Taps.nextTap(Z)I -/
theorem ds_X9_nextTap : k_ds [] = true := by decide +kernel
set_option maxHeartbeats 400000 in
set_option maxRecDepth 100000 in
theorem sX9_nextTap_64 (u : Nat) {X : k_X} {ad : Nat → Nat} (C : k_C X cX9_nextTap RX9 7 ad) (hr : X.meth.sig.returnType = (some .int)) (hR : X.R.frames = 4 ∧ X.R.locals = 88) {I : Nat → Nat → Int32} {L : Nat → Nat → Int64} {Rf : Nat → Nat → Option Nat} {a1 : (Nat → Int32)} (ea1 : I 1 = a1) {c3_0 : Int32} (ec3_0 : I 3 0 = c3_0) {c3_1 : Int32} (ec3_1 : I 3 1 = c3_1) {a4 : (Nat → Int32)} (ea4 : I 4 = a4) {out : Int32} {k13 : Int32 → Int32 → Int32 → Int32 → Int32 → Option (Int32)} (hk13 : ∀ (v1 : Int32) (v2 : Int32) (v3 : Int32) (v4 : Int32) (v5 : Int32), k13 v1 v2 v3 v4 v5 = some out → k_W X 7 0 0 (k_Q X ad (some (.int out)) (k_ap [] (shTaps, I, L, Rf))) ad (k_ap [] (shTaps, I, L, Rf)) 13 [some (.ref 0), some (.int v1), some (.int v2), some (.int v3), some (.int v4), some (.int v5), none] []) : ∀ (v1 : Int32) (v2 : Int32) (v3 : Int32) (v4 : Int32) (v5 : Int32), bX9_nextTap_64 u a1 c3_0 c3_1 a4 k13 v1 v2 v3 v4 v5 = some out → k_W X 7 0 0 (k_Q X ad (some (.int out)) (k_ap [] (shTaps, I, L, Rf))) ad (k_ap [] (shTaps, I, L, Rf)) 64 [some (.ref 0), some (.int v1), some (.int v2), some (.int v3), some (.int v4), some (.int v5), none] [] := by
  intro v1 v2 v3 v4 v5 h
  unfold bX9_nextTap_64 at h
  refine r_iinc (v := (v5 + (1 : Int32))) C dX9_nextTap_64 (rfl : 64 + 3 = 67) rfl rfl (by decide) ?_
  show k_W _ _ _ _ _ _ _ _ [some (.ref 0), some (.int v1), some (.int v2), some (.int v3), some (.int v4), some (.int (v5 + (1 : Int32))), none] _
  refine r_goto (tgt := 13) C dX9_nextTap_67 (by decide) ?_
  refine k_mask [true, true, true, true, true, true, false] ?_
  exact hk13 v1 v2 v3 v4 (v5 + (1 : Int32)) h
set_option maxHeartbeats 400000 in
set_option maxRecDepth 100000 in
theorem sX9_nextTap_57 (u : Nat) {X : k_X} {ad : Nat → Nat} (C : k_C X cX9_nextTap RX9 7 ad) (hr : X.meth.sig.returnType = (some .int)) (hR : X.R.frames = 4 ∧ X.R.locals = 88) {I : Nat → Nat → Int32} {L : Nat → Nat → Int64} {Rf : Nat → Nat → Option Nat} {a1 : (Nat → Int32)} (ea1 : I 1 = a1) {c3_0 : Int32} (ec3_0 : I 3 0 = c3_0) {c3_1 : Int32} (ec3_1 : I 3 1 = c3_1) {a4 : (Nat → Int32)} (ea4 : I 4 = a4) {out : Int32} {k13 : Int32 → Int32 → Int32 → Int32 → Int32 → Option (Int32)} (hk13 : ∀ (v1 : Int32) (v2 : Int32) (v3 : Int32) (v4 : Int32) (v5 : Int32), k13 v1 v2 v3 v4 v5 = some out → k_W X 7 0 0 (k_Q X ad (some (.int out)) (k_ap [] (shTaps, I, L, Rf))) ad (k_ap [] (shTaps, I, L, Rf)) 13 [some (.ref 0), some (.int v1), some (.int v2), some (.int v3), some (.int v4), some (.int v5), none] []) : ∀ (v1 : Int32) (v2 : Int32) (v5 : Int32) (v6 : Int32), bX9_nextTap_57 u a1 c3_0 c3_1 a4 k13 v1 v2 v5 v6 = some out → k_W X 7 0 0 (k_Q X ad (some (.int out)) (k_ap [] (shTaps, I, L, Rf))) ad (k_ap [] (shTaps, I, L, Rf)) 57 [some (.ref 0), some (.int v1), some (.int v2), none, none, some (.int v5), some (.int v6)] [] := by
  intro v1 v2 v5 v6 h
  unfold bX9_nextTap_57 at h
  refine r_iload C dX9_nextTap_57 (rfl : 57 + 2 = 59) rfl ?_
  refine r_istore_n C dX9_nextTap_59 (rfl : 59 + 1 = 60) (by decide) (Nat.le_of_ble_eq_true rfl) ?_
  show k_W _ _ _ _ _ _ _ _ [some (.ref 0), some (.int v1), some (.int v2), some (.int v5), none, some (.int v5), some (.int v6)] _
  refine r_iload C dX9_nextTap_60 (rfl : 60 + 2 = 62) rfl ?_
  refine r_istore C dX9_nextTap_62 (rfl : 62 + 2 = 64) (by decide) (Nat.le_of_ble_eq_true rfl) ?_
  show k_W _ _ _ _ _ _ _ _ [some (.ref 0), some (.int v1), some (.int v2), some (.int v5), some (.int v6), some (.int v5), some (.int v6)] _
  refine k_mask [true, true, true, true, true, true, false] ?_
  exact sX9_nextTap_64 u C hr hR ea1 ec3_0 ec3_1 ea4 hk13 v1 v2 v5 v6 v5 h
set_option maxHeartbeats 400000 in
set_option maxRecDepth 100000 in
theorem sX9_nextTap_13 (u : Nat) {X : k_X} {ad : Nat → Nat} (C : k_C X cX9_nextTap RX9 7 ad) (hr : X.meth.sig.returnType = (some .int)) (hR : X.R.frames = 4 ∧ X.R.locals = 88) {I : Nat → Nat → Int32} {L : Nat → Nat → Int64} {Rf : Nat → Nat → Option Nat} {a1 : (Nat → Int32)} (ea1 : I 1 = a1) {c3_0 : Int32} (ec3_0 : I 3 0 = c3_0) {c3_1 : Int32} (ec3_1 : I 3 1 = c3_1) {a4 : (Nat → Int32)} (ea4 : I 4 = a4) {out : Int32} : ∀ (n : Nat) (v1 : Int32) (v2 : Int32) (v3 : Int32) (v4 : Int32) (v5 : Int32), bX9_nextTap_13 u a1 c3_0 c3_1 a4 n v1 v2 v3 v4 v5 = some out → k_W X 7 0 0 (k_Q X ad (some (.int out)) (k_ap [] (shTaps, I, L, Rf))) ad (k_ap [] (shTaps, I, L, Rf)) 13 [some (.ref 0), some (.int v1), some (.int v2), some (.int v3), some (.int v4), some (.int v5), none] [] := by
  intro n
  induction n with
  | zero => intro v1 v2 v3 v4 v5 h; cases h
  | succ n ih =>
    intro v1 v2 v3 v4 v5 h
    refine r_iload C dX9_nextTap_13 (rfl : 13 + 2 = 15) rfl ?_
    refine r_aload_n C dX9_nextTap_15 (rfl : 15 + 1 = 16) rfl ?_
    refine r_getR (q := 3) C dX9_nextTap_16 (rfl : 16 + 3 = 19) fl_X9_18 rfl rfl ?_
    refine r_getI (v := c3_0) C dX9_nextTap_19 (rfl : 19 + 3 = 22) fl_X9_62 rfl rfl ec3_0 ?_
    refine r_icmp_ge (tgt := 70) C dX9_nextTap_22 (by decide) (rfl : 22 + 3 = 25) (fun c22 => ?_) (fun c22 => ?_)
    · have h := k_t c22 h
      refine r_iload_n C dX9_nextTap_70 (rfl : 70 + 1 = 71) rfl ?_
      refine r_if_eq (tgt := 79) C dX9_nextTap_71 (by decide) (rfl : 71 + 3 = 74) (fun c71 => ?_) (fun c71 => ?_)
      · have h := k_t c71 h
        refine r_iload_n C dX9_nextTap_79 (rfl : 79 + 1 = 80) rfl ?_
        cases h
        exact r_iret C hr dX9_nextTap_80
      · have h := k_f c71 h
        refine r_iload C dX9_nextTap_74 (rfl : 74 + 2 = 76) rfl ?_
        refine r_goto (tgt := 80) C dX9_nextTap_76 (by decide) ?_
        cases h
        exact r_iret C hr dX9_nextTap_80
    · have h := k_f c22 h
      refine r_aload_n C dX9_nextTap_25 (rfl : 25 + 1 = 26) rfl ?_
      refine r_getR (q := 1) C dX9_nextTap_26 (rfl : 26 + 3 = 29) fl_X9_9 rfl rfl ?_
      refine r_iload C dX9_nextTap_29 (rfl : 29 + 2 = 31) rfl ?_
      obtain ⟨hi31, h⟩ := k_i_of h
      refine a_i (j := (v5).toNatClampNeg) (f := a1) C dX9_nextTap_31 (rfl : 31 + 1 = 32) rfl ea1 hi31 rfl ?_
      refine r_iconst (v := (-1 : Int32)) C dX9_nextTap_32 (rfl : 32 + 1 = 33) rfl ?_
      refine r_icmp_ne (tgt := 64) C dX9_nextTap_33 (by decide) (rfl : 33 + 3 = 36) (fun c33 => ?_) (fun c33 => ?_)
      · have h := k_f c33 h
        refine k_mask [true, true, true, true, true, true, false] ?_
        exact sX9_nextTap_64 u C hr hR ea1 ec3_0 ec3_1 ea4 ih v1 v2 v3 v4 v5 h
      · have h := k_t c33 h
        refine r_aload_n C dX9_nextTap_36 (rfl : 36 + 1 = 37) rfl ?_
        refine r_iload_n C dX9_nextTap_37 (rfl : 37 + 1 = 38) rfl ?_
        refine r_iload C dX9_nextTap_38 (rfl : 38 + 2 = 40) rfl ?_
        obtain ⟨r40, q40, h⟩ := k_b_of h
        refine d_V (As := [.int v2, .int v5]) (st := []) (st' := [.int r40]) (h' := k_ap [] (shTaps, I, L, Rf)) C hR ⟨Nat.zero_le _, Nat.zero_le _⟩ mv_X9_mostLeft lk_X9_87 dX9_nextTap_40 (rfl : 40 + 3 = 43) rfl rfl rfl rfl (c_X9_mostLeft X.l u (k_ap [] (shTaps, I, L, Rf)) rfl ec3_0 ec3_1 ea4 q40) rfl rfl rfl rfl rfl ?_
        refine r_istore C dX9_nextTap_43 (rfl : 43 + 2 = 45) (by decide) (Nat.le_of_ble_eq_true rfl) ?_
        show k_W _ _ _ _ _ _ _ _ [some (.ref 0), some (.int v1), some (.int v2), some (.int v3), some (.int v4), some (.int v5), some (.int r40)] _
        refine r_iload_n C dX9_nextTap_45 (rfl : 45 + 1 = 46) rfl ?_
        refine r_iconst (v := (-1 : Int32)) C dX9_nextTap_46 (rfl : 46 + 1 = 47) rfl ?_
        refine r_icmp_eq (tgt := 57) C dX9_nextTap_47 (by decide) (rfl : 47 + 3 = 50) (fun c47 => ?_) (fun c47 => ?_)
        · have h := k_t c47 h
          refine k_mask [true, true, true, false, false, true, true] ?_
          exact sX9_nextTap_57 u C hr hR ea1 ec3_0 ec3_1 ea4 ih v1 v2 v5 r40 h
        · have h := k_f c47 h
          refine r_iload C dX9_nextTap_50 (rfl : 50 + 2 = 52) rfl ?_
          refine r_iload C dX9_nextTap_52 (rfl : 52 + 2 = 54) rfl ?_
          refine r_icmp_ge (tgt := 64) C dX9_nextTap_54 (by decide) (rfl : 54 + 3 = 57) (fun c54 => ?_) (fun c54 => ?_)
          · have h := k_t c54 h
            refine k_mask [true, true, true, true, true, true, false] ?_
            exact sX9_nextTap_64 u C hr hR ea1 ec3_0 ec3_1 ea4 ih v1 v2 v3 v4 v5 h
          · have h := k_f c54 h
            refine k_mask [true, true, true, false, false, true, true] ?_
            exact sX9_nextTap_57 u C hr hR ea1 ec3_0 ec3_1 ea4 ih v1 v2 v5 r40 h
set_option maxHeartbeats 400000 in
set_option maxRecDepth 100000 in
theorem sX9_nextTap_0 (u : Nat) {X : k_X} {ad : Nat → Nat} (C : k_C X cX9_nextTap RX9 7 ad) (hr : X.meth.sig.returnType = (some .int)) (hR : X.R.frames = 4 ∧ X.R.locals = 88) {I : Nat → Nat → Int32} {L : Nat → Nat → Int64} {Rf : Nat → Nat → Option Nat} {a1 : (Nat → Int32)} (ea1 : I 1 = a1) {c3_0 : Int32} (ec3_0 : I 3 0 = c3_0) {c3_1 : Int32} (ec3_1 : I 3 1 = c3_1) {a4 : (Nat → Int32)} (ea4 : I 4 = a4) {out : Int32} : ∀ (v1 : Int32), bX9_nextTap_0 u a1 c3_0 c3_1 a4 v1 = some out → k_W X 7 0 0 (k_Q X ad (some (.int out)) (k_ap [] (shTaps, I, L, Rf))) ad (k_ap [] (shTaps, I, L, Rf)) 0 [some (.ref 0), some (.int v1), none, none, none, none, none] [] := by
  intro v1 h
  unfold bX9_nextTap_0 at h
  refine r_aload_n C dX9_nextTap_0 (rfl : 0 + 1 = 1) rfl ?_
  obtain ⟨r1, q1, h⟩ := k_b_of h
  refine d_V (As := []) (st := []) (st' := [.int r1]) (h' := k_ap [] (shTaps, I, L, Rf)) C hR ⟨Nat.zero_le _, Nat.zero_le _⟩ mv_X9_fitting lk_X9_83 dX9_nextTap_1 (rfl : 1 + 3 = 4) rfl rfl rfl rfl (c_X9_fitting X.l u (k_ap [] (shTaps, I, L, Rf)) rfl ea1 ec3_0 ec3_1 ea4 q1) rfl rfl rfl rfl rfl ?_
  refine r_istore_n C dX9_nextTap_4 (rfl : 4 + 1 = 5) (by decide) (Nat.le_of_ble_eq_true rfl) ?_
  show k_W _ _ _ _ _ _ _ _ [some (.ref 0), some (.int v1), some (.int r1), none, none, none, none] _
  refine r_iconst (v := (-1 : Int32)) C dX9_nextTap_5 (rfl : 5 + 1 = 6) rfl ?_
  refine r_istore_n C dX9_nextTap_6 (rfl : 6 + 1 = 7) (by decide) (Nat.le_of_ble_eq_true rfl) ?_
  show k_W _ _ _ _ _ _ _ _ [some (.ref 0), some (.int v1), some (.int r1), some (.int (-1 : Int32)), none, none, none] _
  refine r_iconst (v := (-1 : Int32)) C dX9_nextTap_7 (rfl : 7 + 1 = 8) rfl ?_
  refine r_istore C dX9_nextTap_8 (rfl : 8 + 2 = 10) (by decide) (Nat.le_of_ble_eq_true rfl) ?_
  show k_W _ _ _ _ _ _ _ _ [some (.ref 0), some (.int v1), some (.int r1), some (.int (-1 : Int32)), some (.int (-1 : Int32)), none, none] _
  refine r_iconst (v := (0 : Int32)) C dX9_nextTap_10 (rfl : 10 + 1 = 11) rfl ?_
  refine r_istore C dX9_nextTap_11 (rfl : 11 + 2 = 13) (by decide) (Nat.le_of_ble_eq_true rfl) ?_
  show k_W _ _ _ _ _ _ _ _ [some (.ref 0), some (.int v1), some (.int r1), some (.int (-1 : Int32)), some (.int (-1 : Int32)), some (.int (0 : Int32)), none] _
  refine k_mask [true, true, true, true, true, true, false] ?_
  exact sX9_nextTap_13 u C hr hR ea1 ec3_0 ec3_1 ea4 u v1 r1 (-1 : Int32) (-1 : Int32) (0 : Int32) h
set_option maxHeartbeats 400000 in
set_option maxRecDepth 100000 in
theorem c_X9_nextTap (l : Launch) (u : Nat) (h : k_H) (hsh : h.1 = shTaps) {a1 : (Nat → Int32)} (ea1 : h.2.1 1 = a1) {c3_0 : Int32} (ec3_0 : h.2.1 3 0 = c3_0) {c3_1 : Int32} (ec3_1 : h.2.1 3 1 = c3_1) {a4 : (Nat → Int32)} (ea4 : h.2.1 4 = a4) {x0 : Int32} {out : Int32} (hf : f_X9_nextTap u a1 c3_0 c3_1 a4 x0 = some out) : k_CT l yX9_nextTap cX9_nextTap 7 (some .int) 4 88 [.ref 0, .int x0] h (some (.int out)) [] := by
  obtain ⟨sh, I, L, Rf⟩ := h
  try dsimp only
  obtain rfl : sh = shTaps := hsh
  refine k_ofW (by decide) (Nat.le_of_ble_eq_true rfl) ?_
  intro X ad hl hR0 hr C
  have hR : X.R.frames = 4 ∧ X.R.locals = 88 := by rw [hR0]; exact ⟨rfl, rfl⟩
  have h := hf
  unfold f_X9_nextTap at h
  refine k_start (us := []) k_ap_0 ?_
  show k_W X 7 0 0 _ ad (k_ap [] (shTaps, I, L, Rf)) 0 [some (.ref 0), some (.int x0), none, none, none, none, none] []
  refine k_mask [true, true, false, false, false, false, false] ?_
  exact sX9_nextTap_0 u C hr hR ea1 ec3_0 ec3_1 ea4 x0 h
/-! LullabyPit$Taps.canonOf(IIZ)I -/
theorem ds_X9_canonOf : k_ds [] = true := by decide +kernel
set_option maxHeartbeats 400000 in
set_option maxRecDepth 100000 in
theorem sX9_canonOf_93 (u : Nat) {X : k_X} {ad : Nat → Nat} (C : k_C X cX9_canonOf RX9 10 ad) (hr : X.meth.sig.returnType = (some .int)) (hR : X.R.frames = 1 ∧ X.R.locals = 20) {I : Nat → Nat → Int32} {L : Nat → Nat → Int64} {Rf : Nat → Nat → Option Nat} {c3_1 : Int32} (ec3_1 : I 3 1 = c3_1) {a4 : (Nat → Int32)} (ea4 : I 4 = a4) {out : Int32} {k9 : Int32 → Int32 → Int32 → Int32 → Int32 → Int32 → Option (Int32)} (hk9 : ∀ (v1 : Int32) (v2 : Int32) (v3 : Int32) (v4 : Int32) (v5 : Int32) (v6 : Int32), k9 v1 v2 v3 v4 v5 v6 = some out → k_W X 10 0 0 (k_Q X ad (some (.int out)) (k_ap [] (shTaps, I, L, Rf))) ad (k_ap [] (shTaps, I, L, Rf)) 9 [some (.ref 0), some (.int v1), some (.int v2), some (.int v3), some (.int v4), some (.int v5), some (.int v6), none, none, none] []) {k27 : Int32 → Int32 → Int32 → Int32 → Int32 → Int32 → Int32 → Int32 → Option (Int32)} (hk27 : ∀ (v1 : Int32) (v2 : Int32) (v3 : Int32) (v4 : Int32) (v5 : Int32) (v6 : Int32) (v7 : Int32) (v8 : Int32), k27 v1 v2 v3 v4 v5 v6 v7 v8 = some out → k_W X 10 0 0 (k_Q X ad (some (.int out)) (k_ap [] (shTaps, I, L, Rf))) ad (k_ap [] (shTaps, I, L, Rf)) 27 [some (.ref 0), some (.int v1), some (.int v2), some (.int v3), some (.int v4), some (.int v5), some (.int v6), some (.int v7), some (.int v8), none] []) : ∀ (v1 : Int32) (v2 : Int32) (v3 : Int32) (v4 : Int32) (v5 : Int32) (v6 : Int32) (v7 : Int32) (v8 : Int32), bX9_canonOf_93 u c3_1 a4 k9 k27 v1 v2 v3 v4 v5 v6 v7 v8 = some out → k_W X 10 0 0 (k_Q X ad (some (.int out)) (k_ap [] (shTaps, I, L, Rf))) ad (k_ap [] (shTaps, I, L, Rf)) 93 [some (.ref 0), some (.int v1), some (.int v2), some (.int v3), some (.int v4), some (.int v5), some (.int v6), some (.int v7), some (.int v8), none] [] := by
  intro v1 v2 v3 v4 v5 v6 v7 v8 h
  unfold bX9_canonOf_93 at h
  refine r_iinc (v := (v8 + (1 : Int32))) C dX9_canonOf_93 (rfl : 93 + 3 = 96) rfl rfl (by decide) ?_
  show k_W _ _ _ _ _ _ _ _ [some (.ref 0), some (.int v1), some (.int v2), some (.int v3), some (.int v4), some (.int v5), some (.int v6), some (.int v7), some (.int (v8 + (1 : Int32))), none] _
  refine r_goto (tgt := 27) C dX9_canonOf_96 (by decide) ?_
  refine k_mask [true, true, true, true, true, true, true, true, true, false] ?_
  exact hk27 v1 v2 v3 v4 v5 v6 v7 (v8 + (1 : Int32)) h
set_option maxHeartbeats 400000 in
set_option maxRecDepth 100000 in
theorem sX9_canonOf_114 (u : Nat) {X : k_X} {ad : Nat → Nat} (C : k_C X cX9_canonOf RX9 10 ad) (hr : X.meth.sig.returnType = (some .int)) (hR : X.R.frames = 1 ∧ X.R.locals = 20) {I : Nat → Nat → Int32} {L : Nat → Nat → Int64} {Rf : Nat → Nat → Option Nat} {c3_1 : Int32} (ec3_1 : I 3 1 = c3_1) {a4 : (Nat → Int32)} (ea4 : I 4 = a4) {out : Int32} {k9 : Int32 → Int32 → Int32 → Int32 → Int32 → Int32 → Option (Int32)} (hk9 : ∀ (v1 : Int32) (v2 : Int32) (v3 : Int32) (v4 : Int32) (v5 : Int32) (v6 : Int32), k9 v1 v2 v3 v4 v5 v6 = some out → k_W X 10 0 0 (k_Q X ad (some (.int out)) (k_ap [] (shTaps, I, L, Rf))) ad (k_ap [] (shTaps, I, L, Rf)) 9 [some (.ref 0), some (.int v1), some (.int v2), some (.int v3), some (.int v4), some (.int v5), some (.int v6), none, none, none] []) : ∀ (v1 : Int32) (v2 : Int32) (v3 : Int32) (v4 : Int32) (v5 : Int32) (v6 : Int32), bX9_canonOf_114 u c3_1 a4 k9 v1 v2 v3 v4 v5 v6 = some out → k_W X 10 0 0 (k_Q X ad (some (.int out)) (k_ap [] (shTaps, I, L, Rf))) ad (k_ap [] (shTaps, I, L, Rf)) 114 [some (.ref 0), some (.int v1), some (.int v2), some (.int v3), some (.int v4), some (.int v5), some (.int v6), none, none, none] [] := by
  intro v1 v2 v3 v4 v5 v6 h
  unfold bX9_canonOf_114 at h
  refine r_iinc (v := (v6 + (1 : Int32))) C dX9_canonOf_114 (rfl : 114 + 3 = 117) rfl rfl (by decide) ?_
  show k_W _ _ _ _ _ _ _ _ [some (.ref 0), some (.int v1), some (.int v2), some (.int v3), some (.int v4), some (.int v5), some (.int (v6 + (1 : Int32))), none, none, none] _
  refine r_goto (tgt := 9) C dX9_canonOf_117 (by decide) ?_
  refine k_mask [true, true, true, true, true, true, true, false, false, false] ?_
  exact hk9 v1 v2 v3 v4 v5 (v6 + (1 : Int32)) h
set_option maxHeartbeats 400000 in
set_option maxRecDepth 100000 in
theorem sX9_canonOf_27 (u : Nat) {X : k_X} {ad : Nat → Nat} (C : k_C X cX9_canonOf RX9 10 ad) (hr : X.meth.sig.returnType = (some .int)) (hR : X.R.frames = 1 ∧ X.R.locals = 20) {I : Nat → Nat → Int32} {L : Nat → Nat → Int64} {Rf : Nat → Nat → Option Nat} {c3_1 : Int32} (ec3_1 : I 3 1 = c3_1) {a4 : (Nat → Int32)} (ea4 : I 4 = a4) {out : Int32} {k9 : Int32 → Int32 → Int32 → Int32 → Int32 → Int32 → Option (Int32)} (hk9 : ∀ (v1 : Int32) (v2 : Int32) (v3 : Int32) (v4 : Int32) (v5 : Int32) (v6 : Int32), k9 v1 v2 v3 v4 v5 v6 = some out → k_W X 10 0 0 (k_Q X ad (some (.int out)) (k_ap [] (shTaps, I, L, Rf))) ad (k_ap [] (shTaps, I, L, Rf)) 9 [some (.ref 0), some (.int v1), some (.int v2), some (.int v3), some (.int v4), some (.int v5), some (.int v6), none, none, none] []) : ∀ (n : Nat) (v1 : Int32) (v2 : Int32) (v3 : Int32) (v4 : Int32) (v5 : Int32) (v6 : Int32) (v7 : Int32) (v8 : Int32), bX9_canonOf_27 u c3_1 a4 k9 n v1 v2 v3 v4 v5 v6 v7 v8 = some out → k_W X 10 0 0 (k_Q X ad (some (.int out)) (k_ap [] (shTaps, I, L, Rf))) ad (k_ap [] (shTaps, I, L, Rf)) 27 [some (.ref 0), some (.int v1), some (.int v2), some (.int v3), some (.int v4), some (.int v5), some (.int v6), some (.int v7), some (.int v8), none] [] := by
  intro n
  induction n with
  | zero => intro v1 v2 v3 v4 v5 v6 v7 v8 h; cases h
  | succ n ih =>
    intro v1 v2 v3 v4 v5 v6 v7 v8 h
    refine r_iload C dX9_canonOf_27 (rfl : 27 + 2 = 29) rfl ?_
    refine r_iload C dX9_canonOf_29 (rfl : 29 + 2 = 31) rfl ?_
    refine r_iadd C dX9_canonOf_31 (rfl : 31 + 1 = 32) ?_
    refine r_aload_n C dX9_canonOf_32 (rfl : 32 + 1 = 33) rfl ?_
    refine r_getR (q := 3) C dX9_canonOf_33 (rfl : 33 + 3 = 36) fl_X9_18 rfl rfl ?_
    refine r_getI (v := c3_1) C dX9_canonOf_36 (rfl : 36 + 3 = 39) fl_X9_67 rfl rfl ec3_1 ?_
    refine r_icmp_ge (tgt := 99) C dX9_canonOf_39 (by decide) (rfl : 39 + 3 = 42) (fun c39 => ?_) (fun c39 => ?_)
    · have h := k_t c39 h
      refine r_iload C dX9_canonOf_99 (rfl : 99 + 2 = 101) rfl ?_
      refine r_iload C dX9_canonOf_101 (rfl : 101 + 2 = 103) rfl ?_
      refine r_icmp_le (tgt := 114) C dX9_canonOf_103 (by decide) (rfl : 103 + 3 = 106) (fun c103 => ?_) (fun c103 => ?_)
      · have h := k_t c103 h
        refine k_mask [true, true, true, true, true, true, true, false, false, false] ?_
        exact sX9_canonOf_114 u C hr hR ec3_1 ea4 hk9 v1 v2 v3 v4 v5 v6 h
      · have h := k_f c103 h
        refine r_iload C dX9_canonOf_106 (rfl : 106 + 2 = 108) rfl ?_
        refine r_istore C dX9_canonOf_108 (rfl : 108 + 2 = 110) (by decide) (Nat.le_of_ble_eq_true rfl) ?_
        show k_W _ _ _ _ _ _ _ _ [some (.ref 0), some (.int v1), some (.int v2), some (.int v3), some (.int v4), some (.int v7), some (.int v6), some (.int v7), some (.int v8), none] _
        refine r_iload C dX9_canonOf_110 (rfl : 110 + 2 = 112) rfl ?_
        refine r_istore C dX9_canonOf_112 (rfl : 112 + 2 = 114) (by decide) (Nat.le_of_ble_eq_true rfl) ?_
        show k_W _ _ _ _ _ _ _ _ [some (.ref 0), some (.int v1), some (.int v2), some (.int v3), some (.int v6), some (.int v7), some (.int v6), some (.int v7), some (.int v8), none] _
        refine k_mask [true, true, true, true, true, true, true, false, false, false] ?_
        exact sX9_canonOf_114 u C hr hR ec3_1 ea4 hk9 v1 v2 v3 v6 v7 v6 h
    · have h := k_f c39 h
      refine r_aload_n C dX9_canonOf_42 (rfl : 42 + 1 = 43) rfl ?_
      refine r_getR (q := 3) C dX9_canonOf_43 (rfl : 43 + 3 = 46) fl_X9_18 rfl rfl ?_
      refine r_getR (q := 4) C dX9_canonOf_46 (rfl : 46 + 3 = 49) fl_X9_70 rfl rfl ?_
      refine r_bipush (v := (8 : Int32)) C dX9_canonOf_49 (rfl : 49 + 2 = 51) rfl ?_
      refine r_iload C dX9_canonOf_51 (rfl : 51 + 2 = 53) rfl ?_
      refine r_imul C dX9_canonOf_53 (rfl : 53 + 1 = 54) ?_
      refine r_iload_n C dX9_canonOf_54 (rfl : 54 + 1 = 55) rfl ?_
      refine r_iadd C dX9_canonOf_55 (rfl : 55 + 1 = 56) ?_
      obtain ⟨hi56, h⟩ := k_i_of h
      refine a_i (j := ((((8 : Int32) * v8) + v2)).toNatClampNeg) (f := a4) C dX9_canonOf_56 (rfl : 56 + 1 = 57) rfl ea4 hi56 rfl ?_
      refine r_istore C dX9_canonOf_57 (rfl : 57 + 2 = 59) (by decide) (Nat.le_of_ble_eq_true rfl) ?_
      show k_W _ _ _ _ _ _ _ _ [some (.ref 0), some (.int v1), some (.int v2), some (.int v3), some (.int v4), some (.int v5), some (.int v6), some (.int v7), some (.int v8), some (.int (a4 (((((8 : Int32) * v8) + v2)).toNatClampNeg)))] _
      refine r_iload C dX9_canonOf_59 (rfl : 59 + 2 = 61) rfl ?_
      obtain ⟨r61, q61, h⟩ := k_b_of h
      refine d_S (As := [.int (a4 (((((8 : Int32) * v8) + v2)).toNatClampNeg))]) (st := []) (st' := [.int r61]) (h' := k_ap [] (shTaps, I, L, Rf)) C hR ⟨Nat.zero_le _, Nat.zero_le _⟩ ms_X10_isMusic lk_X9_73 dX9_canonOf_61 (rfl : 61 + 3 = 64) rfl rfl (c_X10_isMusic X.l u (k_ap [] (shTaps, I, L, Rf))  q61) rfl rfl rfl rfl rfl ?_
      refine r_if_eq (tgt := 93) C dX9_canonOf_64 (by decide) (rfl : 64 + 3 = 67) (fun c64 => ?_) (fun c64 => ?_)
      · have h := k_t c64 h
        refine k_mask [true, true, true, true, true, true, true, true, true, false] ?_
        exact sX9_canonOf_93 u C hr hR ec3_1 ea4 hk9 ih v1 v2 v3 v4 v5 v6 v7 v8 h
      · have h := k_f c64 h
        refine r_iload C dX9_canonOf_67 (rfl : 67 + 2 = 69) rfl ?_
        refine r_aload_n C dX9_canonOf_69 (rfl : 69 + 1 = 70) rfl ?_
        refine r_getR (q := 3) C dX9_canonOf_70 (rfl : 70 + 3 = 73) fl_X9_18 rfl rfl ?_
        refine r_getR (q := 4) C dX9_canonOf_73 (rfl : 73 + 3 = 76) fl_X9_70 rfl rfl ?_
        refine r_bipush (v := (8 : Int32)) C dX9_canonOf_76 (rfl : 76 + 2 = 78) rfl ?_
        refine r_iload C dX9_canonOf_78 (rfl : 78 + 2 = 80) rfl ?_
        refine r_iload C dX9_canonOf_80 (rfl : 80 + 2 = 82) rfl ?_
        refine r_iadd C dX9_canonOf_82 (rfl : 82 + 1 = 83) ?_
        refine r_imul C dX9_canonOf_83 (rfl : 83 + 1 = 84) ?_
        refine r_iload_n C dX9_canonOf_84 (rfl : 84 + 1 = 85) rfl ?_
        refine r_iadd C dX9_canonOf_85 (rfl : 85 + 1 = 86) ?_
        obtain ⟨hi86, h⟩ := k_i_of h
        refine a_i (j := ((((8 : Int32) * (v8 + v6)) + v1)).toNatClampNeg) (f := a4) C dX9_canonOf_86 (rfl : 86 + 1 = 87) rfl ea4 hi86 rfl ?_
        refine r_icmp_ne (tgt := 93) C dX9_canonOf_87 (by decide) (rfl : 87 + 3 = 90) (fun c87 => ?_) (fun c87 => ?_)
        · have h := k_f c87 h
          refine k_mask [true, true, true, true, true, true, true, true, true, false] ?_
          exact sX9_canonOf_93 u C hr hR ec3_1 ea4 hk9 ih v1 v2 v3 v4 v5 v6 v7 v8 h
        · have h := k_t c87 h
          refine r_iinc (v := (v7 + (1 : Int32))) C dX9_canonOf_90 (rfl : 90 + 3 = 93) rfl rfl (by decide) ?_
          show k_W _ _ _ _ _ _ _ _ [some (.ref 0), some (.int v1), some (.int v2), some (.int v3), some (.int v4), some (.int v5), some (.int v6), some (.int (v7 + (1 : Int32))), some (.int v8), some (.int (a4 (((((8 : Int32) * v8) + v2)).toNatClampNeg)))] _
          refine k_mask [true, true, true, true, true, true, true, true, true, false] ?_
          exact sX9_canonOf_93 u C hr hR ec3_1 ea4 hk9 ih v1 v2 v3 v4 v5 v6 (v7 + (1 : Int32)) v8 h
set_option maxHeartbeats 400000 in
set_option maxRecDepth 100000 in
theorem sX9_canonOf_9 (u : Nat) {X : k_X} {ad : Nat → Nat} (C : k_C X cX9_canonOf RX9 10 ad) (hr : X.meth.sig.returnType = (some .int)) (hR : X.R.frames = 1 ∧ X.R.locals = 20) {I : Nat → Nat → Int32} {L : Nat → Nat → Int64} {Rf : Nat → Nat → Option Nat} {c3_1 : Int32} (ec3_1 : I 3 1 = c3_1) {a4 : (Nat → Int32)} (ea4 : I 4 = a4) {out : Int32} : ∀ (n : Nat) (v1 : Int32) (v2 : Int32) (v3 : Int32) (v4 : Int32) (v5 : Int32) (v6 : Int32), bX9_canonOf_9 u c3_1 a4 n v1 v2 v3 v4 v5 v6 = some out → k_W X 10 0 0 (k_Q X ad (some (.int out)) (k_ap [] (shTaps, I, L, Rf))) ad (k_ap [] (shTaps, I, L, Rf)) 9 [some (.ref 0), some (.int v1), some (.int v2), some (.int v3), some (.int v4), some (.int v5), some (.int v6), none, none, none] [] := by
  intro n
  induction n with
  | zero => intro v1 v2 v3 v4 v5 v6 h; cases h
  | succ n ih =>
    intro v1 v2 v3 v4 v5 v6 h
    refine r_iload C dX9_canonOf_9 (rfl : 9 + 2 = 11) rfl ?_
    refine r_aload_n C dX9_canonOf_11 (rfl : 11 + 1 = 12) rfl ?_
    refine r_getR (q := 3) C dX9_canonOf_12 (rfl : 12 + 3 = 15) fl_X9_18 rfl rfl ?_
    refine r_getI (v := c3_1) C dX9_canonOf_15 (rfl : 15 + 3 = 18) fl_X9_67 rfl rfl ec3_1 ?_
    refine r_icmp_ge (tgt := 120) C dX9_canonOf_18 (by decide) (rfl : 18 + 3 = 21) (fun c18 => ?_) (fun c18 => ?_)
    · have h := k_t c18 h
      refine r_iload_n C dX9_canonOf_120 (rfl : 120 + 1 = 121) rfl ?_
      refine r_if_eq (tgt := 129) C dX9_canonOf_121 (by decide) (rfl : 121 + 3 = 124) (fun c121 => ?_) (fun c121 => ?_)
      · have h := k_t c121 h
        refine r_iload C dX9_canonOf_129 (rfl : 129 + 2 = 131) rfl ?_
        cases h
        exact r_iret C hr dX9_canonOf_131
      · have h := k_f c121 h
        refine r_iload C dX9_canonOf_124 (rfl : 124 + 2 = 126) rfl ?_
        refine r_goto (tgt := 131) C dX9_canonOf_126 (by decide) ?_
        cases h
        exact r_iret C hr dX9_canonOf_131
    · have h := k_f c18 h
      refine r_iconst (v := (0 : Int32)) C dX9_canonOf_21 (rfl : 21 + 1 = 22) rfl ?_
      refine r_istore C dX9_canonOf_22 (rfl : 22 + 2 = 24) (by decide) (Nat.le_of_ble_eq_true rfl) ?_
      show k_W _ _ _ _ _ _ _ _ [some (.ref 0), some (.int v1), some (.int v2), some (.int v3), some (.int v4), some (.int v5), some (.int v6), some (.int (0 : Int32)), none, none] _
      refine r_iconst (v := (0 : Int32)) C dX9_canonOf_24 (rfl : 24 + 1 = 25) rfl ?_
      refine r_istore C dX9_canonOf_25 (rfl : 25 + 2 = 27) (by decide) (Nat.le_of_ble_eq_true rfl) ?_
      show k_W _ _ _ _ _ _ _ _ [some (.ref 0), some (.int v1), some (.int v2), some (.int v3), some (.int v4), some (.int v5), some (.int v6), some (.int (0 : Int32)), some (.int (0 : Int32)), none] _
      refine k_mask [true, true, true, true, true, true, true, true, true, false] ?_
      exact sX9_canonOf_27 u C hr hR ec3_1 ea4 ih u v1 v2 v3 v4 v5 v6 (0 : Int32) (0 : Int32) h
set_option maxHeartbeats 400000 in
set_option maxRecDepth 100000 in
theorem sX9_canonOf_0 (u : Nat) {X : k_X} {ad : Nat → Nat} (C : k_C X cX9_canonOf RX9 10 ad) (hr : X.meth.sig.returnType = (some .int)) (hR : X.R.frames = 1 ∧ X.R.locals = 20) {I : Nat → Nat → Int32} {L : Nat → Nat → Int64} {Rf : Nat → Nat → Option Nat} {c3_1 : Int32} (ec3_1 : I 3 1 = c3_1) {a4 : (Nat → Int32)} (ea4 : I 4 = a4) {out : Int32} : ∀ (v1 : Int32) (v2 : Int32) (v3 : Int32), bX9_canonOf_0 u c3_1 a4 v1 v2 v3 = some out → k_W X 10 0 0 (k_Q X ad (some (.int out)) (k_ap [] (shTaps, I, L, Rf))) ad (k_ap [] (shTaps, I, L, Rf)) 0 [some (.ref 0), some (.int v1), some (.int v2), some (.int v3), none, none, none, none, none, none] [] := by
  intro v1 v2 v3 h
  unfold bX9_canonOf_0 at h
  refine r_iconst (v := (0 : Int32)) C dX9_canonOf_0 (rfl : 0 + 1 = 1) rfl ?_
  refine r_istore C dX9_canonOf_1 (rfl : 1 + 2 = 3) (by decide) (Nat.le_of_ble_eq_true rfl) ?_
  show k_W _ _ _ _ _ _ _ _ [some (.ref 0), some (.int v1), some (.int v2), some (.int v3), some (.int (0 : Int32)), none, none, none, none, none] _
  refine r_iconst (v := (0 : Int32)) C dX9_canonOf_3 (rfl : 3 + 1 = 4) rfl ?_
  refine r_istore C dX9_canonOf_4 (rfl : 4 + 2 = 6) (by decide) (Nat.le_of_ble_eq_true rfl) ?_
  show k_W _ _ _ _ _ _ _ _ [some (.ref 0), some (.int v1), some (.int v2), some (.int v3), some (.int (0 : Int32)), some (.int (0 : Int32)), none, none, none, none] _
  refine r_iconst (v := (0 : Int32)) C dX9_canonOf_6 (rfl : 6 + 1 = 7) rfl ?_
  refine r_istore C dX9_canonOf_7 (rfl : 7 + 2 = 9) (by decide) (Nat.le_of_ble_eq_true rfl) ?_
  show k_W _ _ _ _ _ _ _ _ [some (.ref 0), some (.int v1), some (.int v2), some (.int v3), some (.int (0 : Int32)), some (.int (0 : Int32)), some (.int (0 : Int32)), none, none, none] _
  refine k_mask [true, true, true, true, true, true, true, false, false, false] ?_
  exact sX9_canonOf_9 u C hr hR ec3_1 ea4 u v1 v2 v3 (0 : Int32) (0 : Int32) (0 : Int32) h
set_option maxHeartbeats 400000 in
set_option maxRecDepth 100000 in
theorem c_X9_canonOf (l : Launch) (u : Nat) (h : k_H) (hsh : h.1 = shTaps) {c3_1 : Int32} (ec3_1 : h.2.1 3 1 = c3_1) {a4 : (Nat → Int32)} (ea4 : h.2.1 4 = a4) {x0 : Int32} {x1 : Int32} {x2 : Int32} {out : Int32} (hf : f_X9_canonOf u c3_1 a4 x0 x1 x2 = some out) : k_CT l yX9_canonOf cX9_canonOf 10 (some .int) 1 20 [.ref 0, .int x0, .int x1, .int x2] h (some (.int out)) [] := by
  obtain ⟨sh, I, L, Rf⟩ := h
  try dsimp only
  obtain rfl : sh = shTaps := hsh
  refine k_ofW (by decide) (Nat.le_of_ble_eq_true rfl) ?_
  intro X ad hl hR0 hr C
  have hR : X.R.frames = 1 ∧ X.R.locals = 20 := by rw [hR0]; exact ⟨rfl, rfl⟩
  have h := hf
  unfold f_X9_canonOf at h
  refine k_start (us := []) k_ap_0 ?_
  show k_W X 10 0 0 _ ad (k_ap [] (shTaps, I, L, Rf)) 0 [some (.ref 0), some (.int x0), some (.int x1), some (.int x2), none, none, none, none, none, none] []
  refine k_mask [true, true, true, true, false, false, false, false, false, false] ?_
  exact sX9_canonOf_0 u C hr hR ec3_1 ea4 x0 x1 x2 h
