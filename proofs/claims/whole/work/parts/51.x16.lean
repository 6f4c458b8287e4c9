/-! LullabyPit$Taps.nextTap(Z)I -/
theorem ds_X9_nextTap : k_ds [] = true := by decide +kernel
set_option maxHeartbeats 400000 in
set_option maxRecDepth 100000 in
theorem sX9_nextTap_64 (u : Nat) {X : k_X} {ad : Nat → Nat} (C : k_C X cX9_nextTap RX9 7 ad) (hr : X.meth.sig.returnType = (some .int)) (hR : X.R.frames = 4 ∧ X.R.locals = 88) {I : Nat → Nat → Int32} {L : Nat → Nat → Int64} {Rf : Nat → Nat → Option Nat} {a1 : (Nat → Int32)} (ea1 : I 1 = a1) {c3_0 : Int32} (ec3_0 : I 3 0 = c3_0) {c3_1 : Int32} (ec3_1 : I 3 1 = c3_1) {a4 : (Nat → Int32)} (ea4 : I 4 = a4) {out : Int32} {k13 : Int32 → Int32 → Int32 → Int32 → Int32 → Option (Int32)} (hk13 : ∀ (v1 : Int32) (v2 : Int32) (v3 : Int32) (v4 : Int32) (v5 : Int32), k13 v1 v2 v3 v4 v5 = some out → k_W X 7 0 0 (k_Q X ad (some (.int out)) (k_ap [] (shTaps, I, L, Rf))) ad (k_ap [] (shTaps, I, L, Rf)) 13 [some (.ref 0), some (.int v1), some (.int v2), some (.int v3), some (.int v4), some (.int v5), none] []) : ∀ (v1 : Int32) (v2 : Int32) (v3 : Int32) (v4 : Int32) (v5 : Int32), bX9_nextTap_64 u a1 c3_0 c3_1 a4 k13 v1 v2 v3 v4 v5 = some out → k_W X 7 0 0 (k_Q X ad (some (.int out)) (k_ap [] (shTaps, I, L, Rf))) ad (k_ap [] (shTaps, I, L, Rf)) 64 [some (.ref 0), some (.int v1), some (.int v2), some (.int v3), some (.int v4), some (.int v5), none] [] := by
  intro v1 v2 v3 v4 v5 h
  unfold bX9_nextTap_64 at h
  refine r_iinc (v := (v5 + (1 : Int32))) C dX9_nextTap_64 (rfl : 64 + 3 = 67) rfl rfl (by decide) ?_
  show k_W _ _ _ _ _ _ _ _ [some (.ref 0), some (.int v1), some (.int v2), some (.int v3), some (.int v4), some (.int (v5 + (1 : Int32))), none] _
  refine r_goto (tgt := 13) C dX9_nextTap_67 (by decide) ?_
  refine k_mask [true, true, true, true, true, true, false] ?_
  exact hk13 v1 v2 v3 v4 (v5 + (1 : Int32)) h
set_option maxHeartbeats 400000 in
set_option maxRecDepth 100000 in
theorem sX9_nextTap_57 (u : Nat) {X : k_X} {ad : Nat → Nat} (C : k_C X cX9_nextTap RX9 7 ad) (hr : X.meth.sig.returnType = (some .int)) (hR : X.R.frames = 4 ∧ X.R.locals = 88) {I : Nat → Nat → Int32} {L : Nat → Nat → Int64} {Rf : Nat → Nat → Option Nat} {a1 : (Nat → Int32)} (ea1 : I 1 = a1) {c3_0 : Int32} (ec3_0 : I 3 0 = c3_0) {c3_1 : Int32} (ec3_1 : I 3 1 = c3_1) {a4 : (Nat → Int32)} (ea4 : I 4 = a4) {out : Int32} {k13 : Int32 → Int32 → Int32 → Int32 → Int32 → Option (Int32)} (hk13 : ∀ (v1 : Int32) (v2 : Int32) (v3 : Int32) (v4 : Int32) (v5 : Int32), k13 v1 v2 v3 v4 v5 = some out → k_W X 7 0 0 (k_Q X ad (some (.int out)) (k_ap [] (shTaps, I, L, Rf))) ad (k_ap [] (shTaps, I, L, Rf)) 13 [some (.ref 0), some (.int v1), some (.int v2), some (.int v3), some (.int v4), some (.int v5), none] []) : ∀ (v1 : Int32) (v2 : Int32) (v5 : Int32) (v6 : Int32), bX9_nextTap_57 u a1 c3_0 c3_1 a4 k13 v1 v2 v5 v6 = some out → k_W X 7 0 0 (k_Q X ad (some (.int out)) (k_ap [] (shTaps, I, L, Rf))) ad (k_ap [] (shTaps, I, L, Rf)) 57 [some (.ref 0), some (.int v1), some (.int v2), none, none, some (.int v5), some (.int v6)] [] := by
  intro v1 v2 v5 v6 h
  unfold bX9_nextTap_57 at h
  refine r_iload C dX9_nextTap_57 (rfl : 57 + 2 = 59) rfl ?_
  refine r_istore_n C dX9_nextTap_59 (rfl : 59 + 1 = 60) (by decide) (Nat.le_of_ble_eq_true rfl) ?_
  show k_W _ _ _ _ _ _ _ _ [some (.ref 0), some (.int v1), some (.int v2), some (.int v5), none, some (.int v5), some (.int v6)] _
  refine r_iload C dX9_nextTap_60 (rfl : 60 + 2 = 62) rfl ?_
  refine r_istore C dX9_nextTap_62 (rfl : 62 + 2 = 64) (by decide) (Nat.le_of_ble_eq_true rfl) ?_
  show k_W _ _ _ _ _ _ _ _ [some (.ref 0), some (.int v1), some (.int v2), some (.int v5), some (.int v6), some (.int v5), some (.int v6)] _
  refine k_mask [true, true, true, true, true, true, false] ?_
  exact sX9_nextTap_64 u C hr hR ea1 ec3_0 ec3_1 ea4 hk13 v1 v2 v5 v6 v5 h
set_option maxHeartbeats 400000 in
set_option maxRecDepth 100000 in
theorem sX9_nextTap_13 (u : Nat) {X : k_X} {ad : Nat → Nat} (C : k_C X cX9_nextTap RX9 7 ad) (hr : X.meth.sig.returnType = (some .int)) (hR : X.R.frames = 4 ∧ X.R.locals = 88) {I : Nat → Nat → Int32} {L : Nat → Nat → Int64} {Rf : Nat → Nat → Option Nat} {a1 : (Nat → Int32)} (ea1 : I 1 = a1) {c3_0 : Int32} (ec3_0 : I 3 0 = c3_0) {c3_1 : Int32} (ec3_1 : I 3 1 = c3_1) {a4 : (Nat → Int32)} (ea4 : I 4 = a4) {out : Int32} : ∀ (n : Nat) (v1 : Int32) (v2 : Int32) (v3 : Int32) (v4 : Int32) (v5 : Int32), bX9_nextTap_13 u a1 c3_0 c3_1 a4 n v1 v2 v3 v4 v5 = some out → k_W X 7 0 0 (k_Q X ad (some (.int out)) (k_ap [] (shTaps, I, L, Rf))) ad (k_ap [] (shTaps, I, L, Rf)) 13 [some (.ref 0), some (.int v1), some (.int v2), some (.int v3), some (.int v4), some (.int v5), none] [] := by
  intro n
  induction n with
  | zero => intro v1 v2 v3 v4 v5 h; cases h
  | succ n ih =>
    intro v1 v2 v3 v4 v5 h
    refine r_iload C dX9_nextTap_13 (rfl : 13 + 2 = 15) rfl ?_
    refine r_aload_n C dX9_nextTap_15 (rfl : 15 + 1 = 16) rfl ?_
    refine r_getR (q := 3) C dX9_nextTap_16 (rfl : 16 + 3 = 19) fl_X9_18 rfl rfl ?_
    refine r_getI (v := c3_0) C dX9_nextTap_19 (rfl : 19 + 3 = 22) fl_X9_62 rfl rfl ec3_0 ?_
    refine r_icmp_ge (tgt := 70) C dX9_nextTap_22 (by decide) (rfl : 22 + 3 = 25) (fun c22 => ?_) (fun c22 => ?_)
    · have h := k_t c22 h
      refine r_iload_n C dX9_nextTap_70 (rfl : 70 + 1 = 71) rfl ?_
      refine r_if_eq (tgt := 79) C dX9_nextTap_71 (by decide) (rfl : 71 + 3 = 74) (fun c71 => ?_) (fun c71 => ?_)
      · have h := k_t c71 h
        refine r_iload_n C dX9_nextTap_79 (rfl : 79 + 1 = 80) rfl ?_
        cases h
        exact r_iret C hr dX9_nextTap_80
      · have h := k_f c71 h
        refine r_iload C dX9_nextTap_74 (rfl : 74 + 2 = 76) rfl ?_
        refine r_goto (tgt := 80) C dX9_nextTap_76 (by decide) ?_
        cases h
        exact r_iret C hr dX9_nextTap_80
    · have h := k_f c22 h
      refine r_aload_n C dX9_nextTap_25 (rfl : 25 + 1 = 26) rfl ?_
      refine r_getR (q := 1) C dX9_nextTap_26 (rfl : 26 + 3 = 29) fl_X9_9 rfl rfl ?_
      refine r_iload C dX9_nextTap_29 (rfl : 29 + 2 = 31) rfl ?_
      obtain ⟨hi31, h⟩ := k_i_of h
      refine a_i (j := (v5).toNatClampNeg) (f := a1) C dX9_nextTap_31 (rfl : 31 + 1 = 32) rfl ea1 hi31 rfl ?_
      refine r_iconst (v := (-1 : Int32)) C dX9_nextTap_32 (rfl : 32 + 1 = 33) rfl ?_
      refine r_icmp_ne (tgt := 64) C dX9_nextTap_33 (by decide) (rfl : 33 + 3 = 36) (fun c33 => ?_) (fun c33 => ?_)
      · have h := k_f c33 h
        refine k_mask [true, true, true, true, true, true, false] ?_
        exact sX9_nextTap_64 u C hr hR ea1 ec3_0 ec3_1 ea4 ih v1 v2 v3 v4 v5 h
      · have h := k_t c33 h
        refine r_aload_n C dX9_nextTap_36 (rfl : 36 + 1 = 37) rfl ?_
        refine r_iload_n C dX9_nextTap_37 (rfl : 37 + 1 = 38) rfl ?_
        refine r_iload C dX9_nextTap_38 (rfl : 38 + 2 = 40) rfl ?_
        obtain ⟨r40, q40, h⟩ := k_b_of h
        refine d_V (As := [.int v2, .int v5]) (st := []) (st' := [.int r40]) (h' := k_ap [] (shTaps, I, L, Rf)) C hR ⟨Nat.zero_le _, Nat.zero_le _⟩ mv_X9_mostLeft lk_X9_87 dX9_nextTap_40 (rfl : 40 + 3 = 43) rfl rfl rfl rfl (c_X9_mostLeft X.l u (k_ap [] (shTaps, I, L, Rf)) rfl ec3_0 ec3_1 ea4 q40) rfl rfl rfl rfl rfl ?_
        refine r_istore C dX9_nextTap_43 (rfl : 43 + 2 = 45) (by decide) (Nat.le_of_ble_eq_true rfl) ?_
        show k_W _ _ _ _ _ _ _ _ [some (.ref 0), some (.int v1), some (.int v2), some (.int v3), some (.int v4), some (.int v5), some (.int r40)] _
        refine r_iload_n C dX9_nextTap_45 (rfl : 45 + 1 = 46) rfl ?_
        refine r_iconst (v := (-1 : Int32)) C dX9_nextTap_46 (rfl : 46 + 1 = 47) rfl ?_
        refine r_icmp_eq (tgt := 57) C dX9_nextTap_47 (by decide) (rfl : 47 + 3 = 50) (fun c47 => ?_) (fun c47 => ?_)
        · have h := k_t c47 h
          refine k_mask [true, true, true, false, false, true, true] ?_
          exact sX9_nextTap_57 u C hr hR ea1 ec3_0 ec3_1 ea4 ih v1 v2 v5 r40 h
        · have h := k_f c47 h
          refine r_iload C dX9_nextTap_50 (rfl : 50 + 2 = 52) rfl ?_
          refine r_iload C dX9_nextTap_52 (rfl : 52 + 2 = 54) rfl ?_
          refine r_icmp_ge (tgt := 64) C dX9_nextTap_54 (by decide) (rfl : 54 + 3 = 57) (fun c54 => ?_) (fun c54 => ?_)
          · have h := k_t c54 h
            refine k_mask [true, true, true, true, true, true, false] ?_
            exact sX9_nextTap_64 u C hr hR ea1 ec3_0 ec3_1 ea4 ih v1 v2 v3 v4 v5 h
          · have h := k_f c54 h
            refine k_mask [true, true, true, false, false, true, true] ?_
            exact sX9_nextTap_57 u C hr hR ea1 ec3_0 ec3_1 ea4 ih v1 v2 v5 r40 h
set_option maxHeartbeats 400000 in
set_option maxRecDepth 100000 in
theorem sX9_nextTap_0 (u : Nat) {X : k_X} {ad : Nat → Nat} (C : k_C X cX9_nextTap RX9 7 ad) (hr : X.meth.sig.returnType = (some .int)) (hR : X.R.frames = 4 ∧ X.R.locals = 88) {I : Nat → Nat → Int32} {L : Nat → Nat → Int64} {Rf : Nat → Nat → Option Nat} {a1 : (Nat → Int32)} (ea1 : I 1 = a1) {c3_0 : Int32} (ec3_0 : I 3 0 = c3_0) {c3_1 : Int32} (ec3_1 : I 3 1 = c3_1) {a4 : (Nat → Int32)} (ea4 : I 4 = a4) {out : Int32} : ∀ (v1 : Int32), bX9_nextTap_0 u a1 c3_0 c3_1 a4 v1 = some out → k_W X 7 0 0 (k_Q X ad (some (.int out)) (k_ap [] (shTaps, I, L, Rf))) ad (k_ap [] (shTaps, I, L, Rf)) 0 [some (.ref 0), some (.int v1), none, none, none, none, none] [] := by
  intro v1 h
  unfold bX9_nextTap_0 at h
  refine r_aload_n C dX9_nextTap_0 (rfl : 0 + 1 = 1) rfl ?_
  obtain ⟨r1, q1, h⟩ := k_b_of h
  refine d_V (As := []) (st := []) (st' := [.int r1]) (h' := k_ap [] (shTaps, I, L, Rf)) C hR ⟨Nat.zero_le _, Nat.zero_le _⟩ mv_X9_fitting lk_X9_83 dX9_nextTap_1 (rfl : 1 + 3 = 4) rfl rfl rfl rfl (c_X9_fitting X.l u (k_ap [] (shTaps, I, L, Rf)) rfl ea1 ec3_0 ec3_1 ea4 q1) rfl rfl rfl rfl rfl ?_
  refine r_istore_n C dX9_nextTap_4 (rfl : 4 + 1 = 5) (by decide) (Nat.le_of_ble_eq_true rfl) ?_
  show k_W _ _ _ _ _ _ _ _ [some (.ref 0), some (.int v1), some (.int r1), none, none, none, none] _
  refine r_iconst (v := (-1 : Int32)) C dX9_nextTap_5 (rfl : 5 + 1 = 6) rfl ?_
  refine r_istore_n C dX9_nextTap_6 (rfl : 6 + 1 = 7) (by decide) (Nat.le_of_ble_eq_true rfl) ?_
  show k_W _ _ _ _ _ _ _ _ [some (.ref 0), some (.int v1), some (.int r1), some (.int (-1 : Int32)), none, none, none] _
  refine r_iconst (v := (-1 : Int32)) C dX9_nextTap_7 (rfl : 7 + 1 = 8) rfl ?_
  refine r_istore C dX9_nextTap_8 (rfl : 8 + 2 = 10) (by decide) (Nat.le_of_ble_eq_true rfl) ?_
  show k_W _ _ _ _ _ _ _ _ [some (.ref 0), some (.int v1), some (.int r1), some (.int (-1 : Int32)), some (.int (-1 : Int32)), none, none] _
  refine r_iconst (v := (0 : Int32)) C dX9_nextTap_10 (rfl : 10 + 1 = 11) rfl ?_
  refine r_istore C dX9_nextTap_11 (rfl : 11 + 2 = 13) (by decide) (Nat.le_of_ble_eq_true rfl) ?_
  show k_W _ _ _ _ _ _ _ _ [some (.ref 0), some (.int v1), some (.int r1), some (.int (-1 : Int32)), some (.int (-1 : Int32)), some (.int (0 : Int32)), none] _
  refine k_mask [true, true, true, true, true, true, false] ?_
  exact sX9_nextTap_13 u C hr hR ea1 ec3_0 ec3_1 ea4 u v1 r1 (-1 : Int32) (-1 : Int32) (0 : Int32) h
set_option maxHeartbeats 400000 in
set_option maxRecDepth 100000 in
theorem c_X9_nextTap (l : Launch) (u : Nat) (h : k_H) (hsh : h.1 = shTaps) {a1 : (Nat → Int32)} (ea1 : h.2.1 1 = a1) {c3_0 : Int32} (ec3_0 : h.2.1 3 0 = c3_0) {c3_1 : Int32} (ec3_1 : h.2.1 3 1 = c3_1) {a4 : (Nat → Int32)} (ea4 : h.2.1 4 = a4) {x0 : Int32} {out : Int32} (hf : f_X9_nextTap u a1 c3_0 c3_1 a4 x0 = some out) : k_CT l yX9_nextTap cX9_nextTap 7 (some .int) 4 88 [.ref 0, .int x0] h (some (.int out)) [] := by
  obtain ⟨sh, I, L, Rf⟩ := h
  try dsimp only
  obtain rfl : sh = shTaps := hsh
  refine k_ofW (by decide) (Nat.le_of_ble_eq_true rfl) ?_
  intro X ad hl hR0 hr C
  have hR : X.R.frames = 4 ∧ X.R.locals = 88 := by rw [hR0]; exact ⟨rfl, rfl⟩
  have h := hf
  unfold f_X9_nextTap at h
  refine k_start (us := []) k_ap_0 ?_
  show k_W X 7 0 0 _ ad (k_ap [] (shTaps, I, L, Rf)) 0 [some (.ref 0), some (.int x0), none, none, none, none, none] []
  refine k_mask [true, true, false, false, false, false, false] ?_
  exact sX9_nextTap_0 u C hr hR ea1 ec3_0 ec3_1 ea4 x0 h
/-! LullabyPit$Taps.canonOf(IIZ)I -/
theorem ds_X9_canonOf : k_ds [] = true := by decide +kernel
set_option maxHeartbeats 400000 in
set_option maxRecDepth 100000 in
theorem sX9_canonOf_93 (u : Nat) {X : k_X} {ad : Nat → Nat} (C : k_C X cX9_canonOf RX9 10 ad) (hr : X.meth.sig.returnType = (some .int)) (hR : X.R.frames = 1 ∧ X.R.locals = 20) {I : Nat → Nat → Int32} {L : Nat → Nat → Int64} {Rf : Nat → Nat → Option Nat} {c3_1 : Int32} (ec3_1 : I 3 1 = c3_1) {a4 : (Nat → Int32)} (ea4 : I 4 = a4) {out : Int32} {k9 : Int32 → Int32 → Int32 → Int32 → Int32 → Int32 → Option (Int32)} (hk9 : ∀ (v1 : Int32) (v2 : Int32) (v3 : Int32) (v4 : Int32) (v5 : Int32) (v6 : Int32), k9 v1 v2 v3 v4 v5 v6 = some out → k_W X 10 0 0 (k_Q X ad (some (.int out)) (k_ap [] (shTaps, I, L, Rf))) ad (k_ap [] (shTaps, I, L, Rf)) 9 [some (.ref 0), some (.int v1), some (.int v2), some (.int v3), some (.int v4), some (.int v5), some (.int v6), none, none, none] []) {k27 : Int32 → Int32 → Int32 → Int32 → Int32 → Int32 → Int32 → Int32 → Option (Int32)} (hk27 : ∀ (v1 : Int32) (v2 : Int32) (v3 : Int32) (v4 : Int32) (v5 : Int32) (v6 : Int32) (v7 : Int32) (v8 : Int32), k27 v1 v2 v3 v4 v5 v6 v7 v8 = some out → k_W X 10 0 0 (k_Q X ad (some (.int out)) (k_ap [] (shTaps, I, L, Rf))) ad (k_ap [] (shTaps, I, L, Rf)) 27 [some (.ref 0), some (.int v1), some (.int v2), some (.int v3), some (.int v4), some (.int v5), some (.int v6), some (.int v7), some (.int v8), none] []) : ∀ (v1 : Int32) (v2 : Int32) (v3 : Int32) (v4 : Int32) (v5 : Int32) (v6 : Int32) (v7 : Int32) (v8 : Int32), bX9_canonOf_93 u c3_1 a4 k9 k27 v1 v2 v3 v4 v5 v6 v7 v8 = some out → k_W X 10 0 0 (k_Q X ad (some (.int out)) (k_ap [] (shTaps, I, L, Rf))) ad (k_ap [] (shTaps, I, L, Rf)) 93 [some (.ref 0), some (.int v1), some (.int v2), some (.int v3), some (.int v4), some (.int v5), some (.int v6), some (.int v7), some (.int v8), none] [] := by
  intro v1 v2 v3 v4 v5 v6 v7 v8 h
  unfold bX9_canonOf_93 at h
  refine r_iinc (v := (v8 + (1 : Int32))) C dX9_canonOf_93 (rfl : 93 + 3 = 96) rfl rfl (by decide) ?_
  show k_W _ _ _ _ _ _ _ _ [some (.ref 0), some (.int v1), some (.int v2), some (.int v3), some (.int v4), some (.int v5), some (.int v6), some (.int v7), some (.int (v8 + (1 : Int32))), none] _
  refine r_goto (tgt := 27) C dX9_canonOf_96 (by decide) ?_
  refine k_mask [true, true, true, true, true, true, true, true, true, false] ?_
  exact hk27 v1 v2 v3 v4 v5 v6 v7 (v8 + (1 : Int32)) h
set_option maxHeartbeats 400000 in
set_option maxRecDepth 100000 in
theorem sX9_canonOf_114 (u : Nat) {X : k_X} {ad : Nat → Nat} (C : k_C X cX9_canonOf RX9 10 ad) (hr : X.meth.sig.returnType = (some .int)) (hR : X.R.frames = 1 ∧ X.R.locals = 20) {I : Nat → Nat → Int32} {L : Nat → Nat → Int64} {Rf : Nat → Nat → Option Nat} {c3_1 : Int32} (ec3_1 : I 3 1 = c3_1) {a4 : (Nat → Int32)} (ea4 : I 4 = a4) {out : Int32} {k9 : Int32 → Int32 → Int32 → Int32 → Int32 → Int32 → Option (Int32)} (hk9 : ∀ (v1 : Int32) (v2 : Int32) (v3 : Int32) (v4 : Int32) (v5 : Int32) (v6 : Int32), k9 v1 v2 v3 v4 v5 v6 = some out → k_W X 10 0 0 (k_Q X ad (some (.int out)) (k_ap [] (shTaps, I, L, Rf))) ad (k_ap [] (shTaps, I, L, Rf)) 9 [some (.ref 0), some (.int v1), some (.int v2), some (.int v3), some (.int v4), some (.int v5), some (.int v6), none, none, none] []) : ∀ (v1 : Int32) (v2 : Int32) (v3 : Int32) (v4 : Int32) (v5 : Int32) (v6 : Int32), bX9_canonOf_114 u c3_1 a4 k9 v1 v2 v3 v4 v5 v6 = some out → k_W X 10 0 0 (k_Q X ad (some (.int out)) (k_ap [] (shTaps, I, L, Rf))) ad (k_ap [] (shTaps, I, L, Rf)) 114 [some (.ref 0), some (.int v1), some (.int v2), some (.int v3), some (.int v4), some (.int v5), some (.int v6), none, none, none] [] := by
  intro v1 v2 v3 v4 v5 v6 h
  unfold bX9_canonOf_114 at h
  refine r_iinc (v := (v6 + (1 : Int32))) C dX9_canonOf_114 (rfl : 114 + 3 = 117) rfl rfl (by decide) ?_
  show k_W _ _ _ _ _ _ _ _ [some (.ref 0), some (.int v1), some (.int v2), some (.int v3), some (.int v4), some (.int v5), some (.int (v6 + (1 : Int32))), none, none, none] _
  refine r_goto (tgt := 9) C dX9_canonOf_117 (by decide) ?_
  refine k_mask [true, true, true, true, true, true, true, false, false, false] ?_
  exact hk9 v1 v2 v3 v4 v5 (v6 + (1 : Int32)) h
set_option maxHeartbeats 400000 in
set_option maxRecDepth 100000 in
theorem sX9_canonOf_27 (u : Nat) {X : k_X} {ad : Nat → Nat} (C : k_C X cX9_canonOf RX9 10 ad) (hr : X.meth.sig.returnType = (some .int)) (hR : X.R.frames = 1 ∧ X.R.locals = 20) {I : Nat → Nat → Int32} {L : Nat → Nat → Int64} {Rf : Nat → Nat → Option Nat} {c3_1 : Int32} (ec3_1 : I 3 1 = c3_1) {a4 : (Nat → Int32)} (ea4 : I 4 = a4) {out : Int32} {k9 : Int32 → Int32 → Int32 → Int32 → Int32 → Int32 → Option (Int32)} (hk9 : ∀ (v1 : Int32) (v2 : Int32) (v3 : Int32) (v4 : Int32) (v5 : Int32) (v6 : Int32), k9 v1 v2 v3 v4 v5 v6 = some out → k_W X 10 0 0 (k_Q X ad (some (.int out)) (k_ap [] (shTaps, I, L, Rf))) ad (k_ap [] (shTaps, I, L, Rf)) 9 [some (.ref 0), some (.int v1), some (.int v2), some (.int v3), some (.int v4), some (.int v5), some (.int v6), none, none, none] []) : ∀ (n : Nat) (v1 : Int32) (v2 : Int32) (v3 : Int32) (v4 : Int32) (v5 : Int32) (v6 : Int32) (v7 : Int32) (v8 : Int32), bX9_canonOf_27 u c3_1 a4 k9 n v1 v2 v3 v4 v5 v6 v7 v8 = some out → k_W X 10 0 0 (k_Q X ad (some (.int out)) (k_ap [] (shTaps, I, L, Rf))) ad (k_ap [] (shTaps, I, L, Rf)) 27 [some (.ref 0), some (.int v1), some (.int v2), some (.int v3), some (.int v4), some (.int v5), some (.int v6), some (.int v7), some (.int v8), none] [] := by
  intro n
  induction n with
  | zero => intro v1 v2 v3 v4 v5 v6 v7 v8 h; cases h
  | succ n ih =>
    intro v1 v2 v3 v4 v5 v6 v7 v8 h
    refine r_iload C dX9_canonOf_27 (rfl : 27 + 2 = 29) rfl ?_
    refine r_iload C dX9_canonOf_29 (rfl : 29 + 2 = 31) rfl ?_
    refine r_iadd C dX9_canonOf_31 (rfl : 31 + 1 = 32) ?_
    refine r_aload_n C dX9_canonOf_32 (rfl : 32 + 1 = 33) rfl ?_
    refine r_getR (q := 3) C dX9_canonOf_33 (rfl : 33 + 3 = 36) fl_X9_18 rfl rfl ?_
    refine r_getI (v := c3_1) C dX9_canonOf_36 (rfl : 36 + 3 = 39) fl_X9_67 rfl rfl ec3_1 ?_
    refine r_icmp_ge (tgt := 99) C dX9_canonOf_39 (by decide) (rfl : 39 + 3 = 42) (fun c39 => ?_) (fun c39 => ?_)
    · have h := k_t c39 h
      refine r_iload C dX9_canonOf_99 (rfl : 99 + 2 = 101) rfl ?_
      refine r_iload C dX9_canonOf_101 (rfl : 101 + 2 = 103) rfl ?_
      refine r_icmp_le (tgt := 114) C dX9_canonOf_103 (by decide) (rfl : 103 + 3 = 106) (fun c103 => ?_) (fun c103 => ?_)
      · have h := k_t c103 h
        refine k_mask [true, true, true, true, true, true, true, false, false, false] ?_
        exact sX9_canonOf_114 u C hr hR ec3_1 ea4 hk9 v1 v2 v3 v4 v5 v6 h
      · have h := k_f c103 h
        refine r_iload C dX9_canonOf_106 (rfl : 106 + 2 = 108) rfl ?_
        refine r_istore C dX9_canonOf_108 (rfl : 108 + 2 = 110) (by decide) (Nat.le_of_ble_eq_true rfl) ?_
        show k_W _ _ _ _ _ _ _ _ [some (.ref 0), some (.int v1), some (.int v2), some (.int v3), some (.int v4), some (.int v7), some (.int v6), some (.int v7), some (.int v8), none] _
        refine r_iload C dX9_canonOf_110 (rfl : 110 + 2 = 112) rfl ?_
        refine r_istore C dX9_canonOf_112 (rfl : 112 + 2 = 114) (by decide) (Nat.le_of_ble_eq_true rfl) ?_
        show k_W _ _ _ _ _ _ _ _ [some (.ref 0), some (.int v1), some (.int v2), some (.int v3), some (.int v6), some (.int v7), some (.int v6), some (.int v7), some (.int v8), none] _
        refine k_mask [true, true, true, true, true, true, true, false, false, false] ?_
        exact sX9_canonOf_114 u C hr hR ec3_1 ea4 hk9 v1 v2 v3 v6 v7 v6 h
    · have h := k_f c39 h
      refine r_aload_n C dX9_canonOf_42 (rfl : 42 + 1 = 43) rfl ?_
      refine r_getR (q := 3) C dX9_canonOf_43 (rfl : 43 + 3 = 46) fl_X9_18 rfl rfl ?_
      refine r_getR (q := 4) C dX9_canonOf_46 (rfl : 46 + 3 = 49) fl_X9_70 rfl rfl ?_
      refine r_bipush (v := (8 : Int32)) C dX9_canonOf_49 (rfl : 49 + 2 = 51) rfl ?_
      refine r_iload C dX9_canonOf_51 (rfl : 51 + 2 = 53) rfl ?_
      refine r_imul C dX9_canonOf_53 (rfl : 53 + 1 = 54) ?_
      refine r_iload_n C dX9_canonOf_54 (rfl : 54 + 1 = 55) rfl ?_
      refine r_iadd C dX9_canonOf_55 (rfl : 55 + 1 = 56) ?_
      obtain ⟨hi56, h⟩ := k_i_of h
      refine a_i (j := ((((8 : Int32) * v8) + v2)).toNatClampNeg) (f := a4) C dX9_canonOf_56 (rfl : 56 + 1 = 57) rfl ea4 hi56 rfl ?_
      refine r_istore C dX9_canonOf_57 (rfl : 57 + 2 = 59) (by decide) (Nat.le_of_ble_eq_true rfl) ?_
      show k_W _ _ _ _ _ _ _ _ [some (.ref 0), some (.int v1), some (.int v2), some (.int v3), some (.int v4), some (.int v5), some (.int v6), some (.int v7), some (.int v8), some (.int (a4 (((((8 : Int32) * v8) + v2)).toNatClampNeg)))] _
      refine r_iload C dX9_canonOf_59 (rfl : 59 + 2 = 61) rfl ?_
      obtain ⟨r61, q61, h⟩ := k_b_of h
      refine d_S (As := [.int (a4 (((((8 : Int32) * v8) + v2)).toNatClampNeg))]) (st := []) (st' := [.int r61]) (h' := k_ap [] (shTaps, I, L, Rf)) C hR ⟨Nat.zero_le _, Nat.zero_le _⟩ ms_X10_isMusic lk_X9_73 dX9_canonOf_61 (rfl : 61 + 3 = 64) rfl rfl (c_X10_isMusic X.l u (k_ap [] (shTaps, I, L, Rf))  q61) rfl rfl rfl rfl rfl ?_
      refine r_if_eq (tgt := 93) C dX9_canonOf_64 (by decide) (rfl : 64 + 3 = 67) (fun c64 => ?_) (fun c64 => ?_)
      · have h := k_t c64 h
        refine k_mask [true, true, true, true, true, true, true, true, true, false] ?_
        exact sX9_canonOf_93 u C hr hR ec3_1 ea4 hk9 ih v1 v2 v3 v4 v5 v6 v7 v8 h
      · have h := k_f c64 h
        refine r_iload C dX9_canonOf_67 (rfl : 67 + 2 = 69) rfl ?_
        refine r_aload_n C dX9_canonOf_69 (rfl : 69 + 1 = 70) rfl ?_
        refine r_getR (q := 3) C dX9_canonOf_70 (rfl : 70 + 3 = 73) fl_X9_18 rfl rfl ?_
        refine r_getR (q := 4) C dX9_canonOf_73 (rfl : 73 + 3 = 76) fl_X9_70 rfl rfl ?_
        refine r_bipush (v := (8 : Int32)) C dX9_canonOf_76 (rfl : 76 + 2 = 78) rfl ?_
        refine r_iload C dX9_canonOf_78 (rfl : 78 + 2 = 80) rfl ?_
        refine r_iload C dX9_canonOf_80 (rfl : 80 + 2 = 82) rfl ?_
        refine r_iadd C dX9_canonOf_82 (rfl : 82 + 1 = 83) ?_
        refine r_imul C dX9_canonOf_83 (rfl : 83 + 1 = 84) ?_
        refine r_iload_n C dX9_canonOf_84 (rfl : 84 + 1 = 85) rfl ?_
        refine r_iadd C dX9_canonOf_85 (rfl : 85 + 1 = 86) ?_
        obtain ⟨hi86, h⟩ := k_i_of h
        refine a_i (j := ((((8 : Int32) * (v8 + v6)) + v1)).toNatClampNeg) (f := a4) C dX9_canonOf_86 (rfl : 86 + 1 = 87) rfl ea4 hi86 rfl ?_
        refine r_icmp_ne (tgt := 93) C dX9_canonOf_87 (by decide) (rfl : 87 + 3 = 90) (fun c87 => ?_) (fun c87 => ?_)
        · have h := k_f c87 h
          refine k_mask [true, true, true, true, true, true, true, true, true, false] ?_
          exact sX9_canonOf_93 u C hr hR ec3_1 ea4 hk9 ih v1 v2 v3 v4 v5 v6 v7 v8 h
        · have h := k_t c87 h
          refine r_iinc (v := (v7 + (1 : Int32))) C dX9_canonOf_90 (rfl : 90 + 3 = 93) rfl rfl (by decide) ?_
          show k_W _ _ _ _ _ _ _ _ [some (.ref 0), some (.int v1), some (.int v2), some (.int v3), some (.int v4), some (.int v5), some (.int v6), some (.int (v7 + (1 : Int32))), some (.int v8), some (.int (a4 (((((8 : Int32) * v8) + v2)).toNatClampNeg)))] _
          refine k_mask [true, true, true, true, true, true, true, true, true, false] ?_
          exact sX9_canonOf_93 u C hr hR ec3_1 ea4 hk9 ih v1 v2 v3 v4 v5 v6 (v7 + (1 : Int32)) v8 h
set_option maxHeartbeats 400000 in
set_option maxRecDepth 100000 in
theorem sX9_canonOf_9 (u : Nat) {X : k_X} {ad : Nat → Nat} (C : k_C X cX9_canonOf RX9 10 ad) (hr : X.meth.sig.returnType = (some .int)) (hR : X.R.frames = 1 ∧ X.R.locals = 20) {I : Nat → Nat → Int32} {L : Nat → Nat → Int64} {Rf : Nat → Nat → Option Nat} {c3_1 : Int32} (ec3_1 : I 3 1 = c3_1) {a4 : (Nat → Int32)} (ea4 : I 4 = a4) {out : Int32} : ∀ (n : Nat) (v1 : Int32) (v2 : Int32) (v3 : Int32) (v4 : Int32) (v5 : Int32) (v6 : Int32), bX9_canonOf_9 u c3_1 a4 n v1 v2 v3 v4 v5 v6 = some out → k_W X 10 0 0 (k_Q X ad (some (.int out)) (k_ap [] (shTaps, I, L, Rf))) ad (k_ap [] (shTaps, I, L, Rf)) 9 [some (.ref 0), some (.int v1), some (.int v2), some (.int v3), some (.int v4), some (.int v5), some (.int v6), none, none, none] [] := by
  intro n
  induction n with
  | zero => intro v1 v2 v3 v4 v5 v6 h; cases h
  | succ n ih =>
    intro v1 v2 v3 v4 v5 v6 h
    refine r_iload C dX9_canonOf_9 (rfl : 9 + 2 = 11) rfl ?_
    refine r_aload_n C dX9_canonOf_11 (rfl : 11 + 1 = 12) rfl ?_
    refine r_getR (q := 3) C dX9_canonOf_12 (rfl : 12 + 3 = 15) fl_X9_18 rfl rfl ?_
    refine r_getI (v := c3_1) C dX9_canonOf_15 (rfl : 15 + 3 = 18) fl_X9_67 rfl rfl ec3_1 ?_
    refine r_icmp_ge (tgt := 120) C dX9_canonOf_18 (by decide) (rfl : 18 + 3 = 21) (fun c18 => ?_) (fun c18 => ?_)
    · have h := k_t c18 h
      refine r_iload_n C dX9_canonOf_120 (rfl : 120 + 1 = 121) rfl ?_
      refine r_if_eq (tgt := 129) C dX9_canonOf_121 (by decide) (rfl : 121 + 3 = 124) (fun c121 => ?_) (fun c121 => ?_)
      · have h := k_t c121 h
        refine r_iload C dX9_canonOf_129 (rfl : 129 + 2 = 131) rfl ?_
        cases h
        exact r_iret C hr dX9_canonOf_131
      · have h := k_f c121 h
        refine r_iload C dX9_canonOf_124 (rfl : 124 + 2 = 126) rfl ?_
        refine r_goto (tgt := 131) C dX9_canonOf_126 (by decide) ?_
        cases h
        exact r_iret C hr dX9_canonOf_131
    · have h := k_f c18 h
      refine r_iconst (v := (0 : Int32)) C dX9_canonOf_21 (rfl : 21 + 1 = 22) rfl ?_
      refine r_istore C dX9_canonOf_22 (rfl : 22 + 2 = 24) (by decide) (Nat.le_of_ble_eq_true rfl) ?_
      show k_W _ _ _ _ _ _ _ _ [some (.ref 0), some (.int v1), some (.int v2), some (.int v3), some (.int v4), some (.int v5), some (.int v6), some (.int (0 : Int32)), none, none] _
      refine r_iconst (v := (0 : Int32)) C dX9_canonOf_24 (rfl : 24 + 1 = 25) rfl ?_
      refine r_istore C dX9_canonOf_25 (rfl : 25 + 2 = 27) (by decide) (Nat.le_of_ble_eq_true rfl) ?_
      show k_W _ _ _ _ _ _ _ _ [some (.ref 0), some (.int v1), some (.int v2), some (.int v3), some (.int v4), some (.int v5), some (.int v6), some (.int (0 : Int32)), some (.int (0 : Int32)), none] _
      refine k_mask [true, true, true, true, true, true, true, true, true, false] ?_
      exact sX9_canonOf_27 u C hr hR ec3_1 ea4 ih u v1 v2 v3 v4 v5 v6 (0 : Int32) (0 : Int32) h
set_option maxHeartbeats 400000 in
set_option maxRecDepth 100000 in
theorem sX9_canonOf_0 (u : Nat) {X : k_X} {ad : Nat → Nat} (C : k_C X cX9_canonOf RX9 10 ad) (hr : X.meth.sig.returnType = (some .int)) (hR : X.R.frames = 1 ∧ X.R.locals = 20) {I : Nat → Nat → Int32} {L : Nat → Nat → Int64} {Rf : Nat → Nat → Option Nat} {c3_1 : Int32} (ec3_1 : I 3 1 = c3_1) {a4 : (Nat → Int32)} (ea4 : I 4 = a4) {out : Int32} : ∀ (v1 : Int32) (v2 : Int32) (v3 : Int32), bX9_canonOf_0 u c3_1 a4 v1 v2 v3 = some out → k_W X 10 0 0 (k_Q X ad (some (.int out)) (k_ap [] (shTaps, I, L, Rf))) ad (k_ap [] (shTaps, I, L, Rf)) 0 [some (.ref 0), some (.int v1), some (.int v2), some (.int v3), none, none, none, none, none, none] [] := by
  intro v1 v2 v3 h
  unfold bX9_canonOf_0 at h
  refine r_iconst (v := (0 : Int32)) C dX9_canonOf_0 (rfl : 0 + 1 = 1) rfl ?_
  refine r_istore C dX9_canonOf_1 (rfl : 1 + 2 = 3) (by decide) (Nat.le_of_ble_eq_true rfl) ?_
  show k_W _ _ _ _ _ _ _ _ [some (.ref 0), some (.int v1), some (.int v2), some (.int v3), some (.int (0 : Int32)), none, none, none, none, none] _
  refine r_iconst (v := (0 : Int32)) C dX9_canonOf_3 (rfl : 3 + 1 = 4) rfl ?_
  refine r_istore C dX9_canonOf_4 (rfl : 4 + 2 = 6) (by decide) (Nat.le_of_ble_eq_true rfl) ?_
  show k_W _ _ _ _ _ _ _ _ [some (.ref 0), some (.int v1), some (.int v2), some (.int v3), some (.int (0 : Int32)), some (.int (0 : Int32)), none, none, none, none] _
  refine r_iconst (v := (0 : Int32)) C dX9_canonOf_6 (rfl : 6 + 1 = 7) rfl ?_
  refine r_istore C dX9_canonOf_7 (rfl : 7 + 2 = 9) (by decide) (Nat.le_of_ble_eq_true rfl) ?_
  show k_W _ _ _ _ _ _ _ _ [some (.ref 0), some (.int v1), some (.int v2), some (.int v3), some (.int (0 : Int32)), some (.int (0 : Int32)), some (.int (0 : Int32)), none, none, none] _
  refine k_mask [true, true, true, true, true, true, true, false, false, false] ?_
  exact sX9_canonOf_9 u C hr hR ec3_1 ea4 u v1 v2 v3 (0 : Int32) (0 : Int32) (0 : Int32) h
set_option maxHeartbeats 400000 in
set_option maxRecDepth 100000 in
theorem c_X9_canonOf (l : Launch) (u : Nat) (h : k_H) (hsh : h.1 = shTaps) {c3_1 : Int32} (ec3_1 : h.2.1 3 1 = c3_1) {a4 : (Nat → Int32)} (ea4 : h.2.1 4 = a4) {x0 : Int32} {x1 : Int32} {x2 : Int32} {out : Int32} (hf : f_X9_canonOf u c3_1 a4 x0 x1 x2 = some out) : k_CT l yX9_canonOf cX9_canonOf 10 (some .int) 1 20 [.ref 0, .int x0, .int x1, .int x2] h (some (.int out)) [] := by
  obtain ⟨sh, I, L, Rf⟩ := h
  try dsimp only
  obtain rfl : sh = shTaps := hsh
  refine k_ofW (by decide) (Nat.le_of_ble_eq_true rfl) ?_
  intro X ad hl hR0 hr C
  have hR : X.R.frames = 1 ∧ X.R.locals = 20 := by rw [hR0]; exact ⟨rfl, rfl⟩
  have h := hf
  unfold f_X9_canonOf at h
  refine k_start (us := []) k_ap_0 ?_
  show k_W X 10 0 0 _ ad (k_ap [] (shTaps, I, L, Rf)) 0 [some (.ref 0), some (.int x0), some (.int x1), some (.int x2), none, none, none, none, none, none] []
  refine k_mask [true, true, true, true, false, false, false, false, false, false] ?_
  exact sX9_canonOf_0 u C hr hR ec3_1 ea4 x0 x1 x2 h
/-! LullabyPit$Taps.read(LLullabyPit$Tape;)V -/
theorem ds_X9_read : k_ds [(0, 0, 3), (1, 2, 0), (2, 2, 0), (10, 0, 3), (10, 0, 4), (10, 0, 5), (10, 0, 6)] = true := by decide +kernel
set_option maxHeartbeats 400000 in
set_option maxRecDepth 100000 in
theorem sX9_read_54 (u : Nat) {X : k_X} {ad : Nat → Nat} (C : k_C X cX9_read RX9 5 ad) (hr : X.meth.sig.returnType = none) (hR : X.R.frames = 2 ∧ X.R.locals = 45) {I : Nat → Nat → Int32} {L : Nat → Nat → Int64} {Rf : Nat → Nat → Option Nat} {c10_2 : Int32} (ec10_2 : I 10 2 = c10_2) {a11 : (Nat → Int32)} (ea11 : I 11 = a11) {out : Int32 × (Nat → Int32) × (Nat → Int32) × Int32 × Int32 × Int32 × Int32} {k12 : Int32 → (Nat → Int32) → (Nat → Int32) → Int32 → Int32 → Int32 → Int32 → Int32 → Int32 → Option (Int32 × (Nat → Int32) × (Nat → Int32) × Int32 × Int32 × Int32 × Int32)} (hk12 : ∀ (c0_3 : Int32) (a1 : (Nat → Int32)) (a2 : (Nat → Int32)) (c10_3 : Int32) (c10_4 : Int32) (c10_5 : Int32) (c10_6 : Int32) (v2 : Int32) (v3 : Int32), k12 c0_3 a1 a2 c10_3 c10_4 c10_5 c10_6 v2 v3 = some out → k_W X 5 0 0 (k_Q X ad none (k_ap [(0, .inl (3, out.1)), (1, .inr (.inr (.inl out.2.1))), (2, .inr (.inr (.inl out.2.2.1))), (10, .inl (3, out.2.2.2.1)), (10, .inl (4, out.2.2.2.2.1)), (10, .inl (5, out.2.2.2.2.2.1)), (10, .inl (6, out.2.2.2.2.2.2))] (shTapsTape, I, L, Rf))) ad (k_ap [(0, .inl (3, c0_3)), (1, .inr (.inr (.inl a1))), (2, .inr (.inr (.inl a2))), (10, .inl (3, c10_3)), (10, .inl (4, c10_4)), (10, .inl (5, c10_5)), (10, .inl (6, c10_6))] (shTapsTape, I, L, Rf)) 12 [some (.ref 0), some (.ref 10), some (.int v2), some (.int v3), none] []) : ∀ (c0_3 : Int32) (a1 : (Nat → Int32)) (a2 : (Nat → Int32)) (c10_3 : Int32) (c10_4 : Int32) (c10_5 : Int32) (c10_6 : Int32) (v2 : Int32) (v3 : Int32) (v4 : Int32), bX9_read_54 u c10_2 a11 k12 c0_3 a1 a2 c10_3 c10_4 c10_5 c10_6 v2 v3 v4 = some out → k_W X 5 0 0 (k_Q X ad none (k_ap [(0, .inl (3, out.1)), (1, .inr (.inr (.inl out.2.1))), (2, .inr (.inr (.inl out.2.2.1))), (10, .inl (3, out.2.2.2.1)), (10, .inl (4, out.2.2.2.2.1)), (10, .inl (5, out.2.2.2.2.2.1)), (10, .inl (6, out.2.2.2.2.2.2))] (shTapsTape, I, L, Rf))) ad (k_ap [(0, .inl (3, c0_3)), (1, .inr (.inr (.inl a1))), (2, .inr (.inr (.inl a2))), (10, .inl (3, c10_3)), (10, .inl (4, c10_4)), (10, .inl (5, c10_5)), (10, .inl (6, c10_6))] (shTapsTape, I, L, Rf)) 54 [some (.ref 0), some (.ref 10), some (.int v2), some (.int v3), some (.int v4)] [] := by
  intro c0_3 a1 a2 c10_3 c10_4 c10_5 c10_6 v2 v3 v4 h
  unfold bX9_read_54 at h
  refine r_aload_n C dX9_read_54 (rfl : 54 + 1 = 55) rfl ?_
  refine r_getR (q := 2) C dX9_read_55 (rfl : 55 + 3 = 58) fl_X9_15 rfl rfl ?_
  refine r_iload C dX9_read_58 (rfl : 58 + 2 = 60) rfl ?_
  refine r_aload_n C dX9_read_60 (rfl : 60 + 1 = 61) rfl ?_
  refine r_iconst (v := (0 : Int32)) C dX9_read_61 (rfl : 61 + 1 = 62) rfl ?_
  refine r_bipush (v := (6 : Int32)) C dX9_read_62 (rfl : 62 + 2 = 64) rfl ?_
  obtain ⟨r64, q64, h⟩ := k_b_of h
  refine d_Vp (pi := [10, 11]) (shl := shTape) (bl := 0) (As := [.int (0 : Int32), .int (6 : Int32)]) (Al := [.int (0 : Int32), .int (6 : Int32)]) (st := [.int v4, .ref 2]) (st' := [.int r64.1, .int v4, .ref 2]) (h' := k_ap [(0, .inl (3, c0_3)), (1, .inr (.inr (.inl a1))), (2, .inr (.inr (.inl a2))), (10, .inl (3, r64.2.1)), (10, .inl (4, r64.2.2.1)), (10, .inl (5, r64.2.2.2.1)), (10, .inl (6, r64.2.2.2.2))] (shTapsTape, I, L, Rf)) C hR ⟨Nat.zero_le _, Nat.zero_le _⟩ mv_X8_number lk_X9_38 dX9_read_64 (rfl : 64 + 3 = 67) rfl rfl ck_shTapsTape_shTape_10 rfl rfl (c_X8_number X.l u (k_pl [10, 11] shTape (k_ap [(0, .inl (3, c0_3)), (1, .inr (.inr (.inl a1))), (2, .inr (.inr (.inl a2))), (10, .inl (3, c10_3)), (10, .inl (4, c10_4)), (10, .inl (5, c10_5)), (10, .inl (6, c10_6))] (shTapsTape, I, L, Rf))) rfl ec10_2 rfl rfl rfl rfl ea11 q64) rfl (fun _ => rfl) rfl (fun _ => rfl) rfl rfl rfl (k_jn (us' := [(0, .inl (3, c0_3)), (1, .inr (.inr (.inl a1))), (2, .inr (.inr (.inl a2))), (10, .inl (3, r64.2.1)), (10, .inl (4, r64.2.2.1)), (10, .inl (5, r64.2.2.2.1)), (10, .inl (6, r64.2.2.2.2))]) ds_X9_read rfl rfl rfl) rfl ?_
  obtain ⟨hi67, h⟩ := k_i_of h
  refine s_i (j := (v4).toNatClampNeg) (f := a2) (us' := [(0, .inl (3, c0_3)), (1, .inr (.inr (.inl a1))), (2, .inr (.inr (.inl (upd a2 ((v4).toNatClampNeg) r64.1)))), (10, .inl (3, r64.2.1)), (10, .inl (4, r64.2.2.1)), (10, .inl (5, r64.2.2.2.1)), (10, .inl (6, r64.2.2.2.2))]) C dX9_read_67 (rfl : 67 + 1 = 68) rfl rfl hi67 rfl ds_X9_read rfl rfl rfl ?_
  refine r_aload_n C dX9_read_68 (rfl : 68 + 1 = 69) rfl ?_
  refine r_bipush (v := (59 : Int32)) C dX9_read_69 (rfl : 69 + 2 = 71) rfl ?_
  obtain ⟨r71, q71, h⟩ := k_b_of h
  refine d_Vp (pi := [10, 11]) (shl := shTape) (bl := 0) (As := [.int (59 : Int32)]) (Al := [.int (59 : Int32)]) (st := []) (st' := []) (h' := k_ap [(0, .inl (3, c0_3)), (1, .inr (.inr (.inl a1))), (2, .inr (.inr (.inl (upd a2 ((v4).toNatClampNeg) r64.1)))), (10, .inl (3, r71.1)), (10, .inl (4, r64.2.2.1)), (10, .inl (5, r71.2.1)), (10, .inl (6, r71.2.2))] (shTapsTape, I, L, Rf)) C hR ⟨Nat.zero_le _, Nat.zero_le _⟩ mv_X8_sign lk_X9_49 dX9_read_71 (rfl : 71 + 3 = 74) rfl rfl ck_shTapsTape_shTape_10 rfl rfl (c_X8_sign X.l u (k_pl [10, 11] shTape (k_ap [(0, .inl (3, c0_3)), (1, .inr (.inr (.inl a1))), (2, .inr (.inr (.inl (upd a2 ((v4).toNatClampNeg) r64.1)))), (10, .inl (3, r64.2.1)), (10, .inl (4, r64.2.2.1)), (10, .inl (5, r64.2.2.2.1)), (10, .inl (6, r64.2.2.2.2))] (shTapsTape, I, L, Rf))) rfl ec10_2 rfl rfl rfl ea11 q71) rfl (fun _ => rfl) rfl (fun _ => rfl) rfl rfl rfl (k_jn (us' := [(0, .inl (3, c0_3)), (1, .inr (.inr (.inl a1))), (2, .inr (.inr (.inl (upd a2 ((v4).toNatClampNeg) r64.1)))), (10, .inl (3, r71.1)), (10, .inl (4, r64.2.2.1)), (10, .inl (5, r71.2.1)), (10, .inl (6, r71.2.2))]) ds_X9_read rfl rfl rfl) rfl ?_
  refine r_iinc (v := (v2 + (1 : Int32))) C dX9_read_74 (rfl : 74 + 3 = 77) rfl rfl (by decide) ?_
  show k_W _ _ _ _ _ _ _ _ [some (.ref 0), some (.ref 10), some (.int (v2 + (1 : Int32))), some (.int v3), some (.int v4)] _
  refine r_iinc (v := (v3 + (1 : Int32))) C dX9_read_77 (rfl : 77 + 3 = 80) rfl rfl (by decide) ?_
  show k_W _ _ _ _ _ _ _ _ [some (.ref 0), some (.ref 10), some (.int (v2 + (1 : Int32))), some (.int (v3 + (1 : Int32))), some (.int v4)] _
  refine r_goto (tgt := 12) C dX9_read_80 (by decide) ?_
  refine k_mask [true, true, true, true, false] ?_
  exact hk12 c0_3 a1 (upd a2 ((v4).toNatClampNeg) r64.1) r71.1 r64.2.2.1 r71.2.1 r71.2.2 (v2 + (1 : Int32)) (v3 + (1 : Int32)) h
set_option maxHeartbeats 400000 in
set_option maxRecDepth 100000 in
theorem sX9_read_83 (u : Nat) {X : k_X} {ad : Nat → Nat} (C : k_C X cX9_read RX9 5 ad) (hr : X.meth.sig.returnType = none) (hR : X.R.frames = 2 ∧ X.R.locals = 45) {I : Nat → Nat → Int32} {L : Nat → Nat → Int64} {Rf : Nat → Nat → Option Nat} {c10_2 : Int32} (ec10_2 : I 10 2 = c10_2) {a11 : (Nat → Int32)} (ea11 : I 11 = a11) {out : Int32 × (Nat → Int32) × (Nat → Int32) × Int32 × Int32 × Int32 × Int32} : ∀ (c0_3 : Int32) (a1 : (Nat → Int32)) (a2 : (Nat → Int32)) (c10_3 : Int32) (c10_4 : Int32) (c10_5 : Int32) (c10_6 : Int32) (v2 : Int32), bX9_read_83 u c10_2 a11 c0_3 a1 a2 c10_3 c10_4 c10_5 c10_6 v2 = some out → k_W X 5 0 0 (k_Q X ad none (k_ap [(0, .inl (3, out.1)), (1, .inr (.inr (.inl out.2.1))), (2, .inr (.inr (.inl out.2.2.1))), (10, .inl (3, out.2.2.2.1)), (10, .inl (4, out.2.2.2.2.1)), (10, .inl (5, out.2.2.2.2.2.1)), (10, .inl (6, out.2.2.2.2.2.2))] (shTapsTape, I, L, Rf))) ad (k_ap [(0, .inl (3, c0_3)), (1, .inr (.inr (.inl a1))), (2, .inr (.inr (.inl a2))), (10, .inl (3, c10_3)), (10, .inl (4, c10_4)), (10, .inl (5, c10_5)), (10, .inl (6, c10_6))] (shTapsTape, I, L, Rf)) 83 [some (.ref 0), some (.ref 10), some (.int v2), none, none] [] := by
  intro c0_3 a1 a2 c10_3 c10_4 c10_5 c10_6 v2 h
  unfold bX9_read_83 at h
  refine r_aload_n C dX9_read_83 (rfl : 83 + 1 = 84) rfl ?_
  obtain ⟨r84, q84, h⟩ := k_b_of h
  refine d_Vp (pi := [10, 11]) (shl := shTape) (bl := 0) (As := []) (Al := []) (st := []) (st' := [.int r84]) (h' := k_ap [(0, .inl (3, c0_3)), (1, .inr (.inr (.inl a1))), (2, .inr (.inr (.inl a2))), (10, .inl (3, c10_3)), (10, .inl (4, c10_4)), (10, .inl (5, c10_5)), (10, .inl (6, c10_6))] (shTapsTape, I, L, Rf)) C hR ⟨Nat.zero_le _, Nat.zero_le _⟩ mv_X8_good lk_X9_53 dX9_read_84 (rfl : 84 + 3 = 87) rfl rfl ck_shTapsTape_shTape_10 rfl rfl (c_X8_good X.l u (k_pl [10, 11] shTape (k_ap [(0, .inl (3, c0_3)), (1, .inr (.inr (.inl a1))), (2, .inr (.inr (.inl a2))), (10, .inl (3, c10_3)), (10, .inl (4, c10_4)), (10, .inl (5, c10_5)), (10, .inl (6, c10_6))] (shTapsTape, I, L, Rf))) rfl rfl q84) rfl (fun _ => rfl) rfl (fun _ => rfl) rfl rfl rfl rfl rfl ?_
  refine r_if_eq (tgt := 110) C dX9_read_87 (by decide) (rfl : 87 + 3 = 90) (fun c87 => ?_) (fun c87 => ?_)
  · have h := k_t c87 h
    cases h
    exact r_vret C hr dX9_read_110
  · have h := k_f c87 h
    refine r_aload_n C dX9_read_90 (rfl : 90 + 1 = 91) rfl ?_
    refine r_getR (q := 2) C dX9_read_91 (rfl : 91 + 3 = 94) fl_X9_15 rfl rfl ?_
    refine r_iconst (v := (0 : Int32)) C dX9_read_94 (rfl : 94 + 1 = 95) rfl ?_
    refine r_aload_n C dX9_read_95 (rfl : 95 + 1 = 96) rfl ?_
    refine r_getR (q := 1) C dX9_read_96 (rfl : 96 + 3 = 99) fl_X9_9 rfl rfl ?_
    refine r_iconst (v := (0 : Int32)) C dX9_read_99 (rfl : 99 + 1 = 100) rfl ?_
    refine r_bipush (v := (8 : Int32)) C dX9_read_100 (rfl : 100 + 2 = 102) rfl ?_
    refine r_acopy (f := a2) (g := a1) (us' := [(0, .inl (3, c0_3)), (1, .inr (.inr (.inl (va_cpy a2 a1 0 0 8)))), (2, .inr (.inr (.inl a2))), (10, .inl (3, c10_3)), (10, .inl (4, c10_4)), (10, .inl (5, c10_5)), (10, .inl (6, c10_6))]) C hR dX9_read_102 (rfl : 102 + 3 = 105) lm_X9_56 rfl rfl rfl rfl (by decide) (by decide) (by decide) (by decide) (by decide) ds_X9_read rfl rfl rfl rfl rfl ?_
    refine r_aload_n C dX9_read_105 (rfl : 105 + 1 = 106) rfl ?_
    refine r_iload_n C dX9_read_106 (rfl : 106 + 1 = 107) rfl ?_
    refine p_I (us' := [(0, .inl (3, v2)), (1, .inr (.inr (.inl (va_cpy a2 a1 0 0 8)))), (2, .inr (.inr (.inl a2))), (10, .inl (3, c10_3)), (10, .inl (4, c10_4)), (10, .inl (5, c10_5)), (10, .inl (6, c10_6))]) C dX9_read_107 (rfl : 107 + 3 = 110) fp_X9_28 rfl rfl ds_X9_read rfl rfl rfl ?_
    cases h
    exact r_vret C hr dX9_read_110
set_option maxHeartbeats 400000 in
set_option maxRecDepth 100000 in
theorem sX9_read_12 (u : Nat) {X : k_X} {ad : Nat → Nat} (C : k_C X cX9_read RX9 5 ad) (hr : X.meth.sig.returnType = none) (hR : X.R.frames = 2 ∧ X.R.locals = 45) {I : Nat → Nat → Int32} {L : Nat → Nat → Int64} {Rf : Nat → Nat → Option Nat} {c10_2 : Int32} (ec10_2 : I 10 2 = c10_2) {a11 : (Nat → Int32)} (ea11 : I 11 = a11) {out : Int32 × (Nat → Int32) × (Nat → Int32) × Int32 × Int32 × Int32 × Int32} : ∀ (n : Nat) (c0_3 : Int32) (a1 : (Nat → Int32)) (a2 : (Nat → Int32)) (c10_3 : Int32) (c10_4 : Int32) (c10_5 : Int32) (c10_6 : Int32) (v2 : Int32) (v3 : Int32), bX9_read_12 u c10_2 a11 n c0_3 a1 a2 c10_3 c10_4 c10_5 c10_6 v2 v3 = some out → k_W X 5 0 0 (k_Q X ad none (k_ap [(0, .inl (3, out.1)), (1, .inr (.inr (.inl out.2.1))), (2, .inr (.inr (.inl out.2.2.1))), (10, .inl (3, out.2.2.2.1)), (10, .inl (4, out.2.2.2.2.1)), (10, .inl (5, out.2.2.2.2.2.1)), (10, .inl (6, out.2.2.2.2.2.2))] (shTapsTape, I, L, Rf))) ad (k_ap [(0, .inl (3, c0_3)), (1, .inr (.inr (.inl a1))), (2, .inr (.inr (.inl a2))), (10, .inl (3, c10_3)), (10, .inl (4, c10_4)), (10, .inl (5, c10_5)), (10, .inl (6, c10_6))] (shTapsTape, I, L, Rf)) 12 [some (.ref 0), some (.ref 10), some (.int v2), some (.int v3), none] [] := by
  intro n
  induction n with
  | zero => intro c0_3 a1 a2 c10_3 c10_4 c10_5 c10_6 v2 v3 h; cases h
  | succ n ih =>
    intro c0_3 a1 a2 c10_3 c10_4 c10_5 c10_6 v2 v3 h
    refine r_iload_n C dX9_read_12 (rfl : 12 + 1 = 13) rfl ?_
    refine r_bipush (v := (100 : Int32)) C dX9_read_13 (rfl : 13 + 2 = 15) rfl ?_
    refine r_icmp_ge (tgt := 83) C dX9_read_15 (by decide) (rfl : 15 + 3 = 18) (fun c15 => ?_) (fun c15 => ?_)
    · have h := k_t c15 h
      refine k_mask [true, true, true, false, false] ?_
      exact sX9_read_83 u C hr hR ec10_2 ea11 c0_3 a1 a2 c10_3 c10_4 c10_5 c10_6 v2 h
    · have h := k_f c15 h
      refine r_aload_n C dX9_read_18 (rfl : 18 + 1 = 19) rfl ?_
      obtain ⟨r19, q19, h⟩ := k_b_of h
      refine d_Vp (pi := [10, 11]) (shl := shTape) (bl := 0) (As := []) (Al := []) (st := []) (st' := [.int r19.1]) (h' := k_ap [(0, .inl (3, c0_3)), (1, .inr (.inr (.inl a1))), (2, .inr (.inr (.inl a2))), (10, .inl (3, r19.2)), (10, .inl (4, c10_4)), (10, .inl (5, c10_5)), (10, .inl (6, c10_6))] (shTapsTape, I, L, Rf)) C hR ⟨Nat.zero_le _, Nat.zero_le _⟩ mv_X8_more lk_X9_32 dX9_read_19 (rfl : 19 + 3 = 22) rfl rfl ck_shTapsTape_shTape_10 rfl rfl (c_X8_more X.l u (k_pl [10, 11] shTape (k_ap [(0, .inl (3, c0_3)), (1, .inr (.inr (.inl a1))), (2, .inr (.inr (.inl a2))), (10, .inl (3, c10_3)), (10, .inl (4, c10_4)), (10, .inl (5, c10_5)), (10, .inl (6, c10_6))] (shTapsTape, I, L, Rf))) rfl ec10_2 rfl rfl ea11 q19) rfl (fun _ => rfl) rfl (fun _ => rfl) rfl rfl rfl (k_jn (us' := [(0, .inl (3, c0_3)), (1, .inr (.inr (.inl a1))), (2, .inr (.inr (.inl a2))), (10, .inl (3, r19.2)), (10, .inl (4, c10_4)), (10, .inl (5, c10_5)), (10, .inl (6, c10_6))]) ds_X9_read rfl rfl rfl) rfl ?_
      refine r_if_eq (tgt := 83) C dX9_read_22 (by decide) (rfl : 22 + 3 = 25) (fun c22 => ?_) (fun c22 => ?_)
      · have h := k_t c22 h
        refine k_mask [true, true, true, false, false] ?_
        exact sX9_read_83 u C hr hR ec10_2 ea11 c0_3 a1 a2 r19.2 c10_4 c10_5 c10_6 v2 h
      · have h := k_f c22 h
        refine r_aload_n C dX9_read_25 (rfl : 25 + 1 = 26) rfl ?_
        refine r_iconst (v := (0 : Int32)) C dX9_read_26 (rfl : 26 + 1 = 27) rfl ?_
        refine r_bipush (v := (7 : Int32)) C dX9_read_27 (rfl : 27 + 2 = 29) rfl ?_
        obtain ⟨r29, q29, h⟩ := k_b_of h
        refine d_Vp (pi := [10, 11]) (shl := shTape) (bl := 0) (As := [.int (0 : Int32), .int (7 : Int32)]) (Al := [.int (0 : Int32), .int (7 : Int32)]) (st := []) (st' := [.int r29.1]) (h' := k_ap [(0, .inl (3, c0_3)), (1, .inr (.inr (.inl a1))), (2, .inr (.inr (.inl a2))), (10, .inl (3, r29.2.1)), (10, .inl (4, r29.2.2.1)), (10, .inl (5, r29.2.2.2.1)), (10, .inl (6, r29.2.2.2.2))] (shTapsTape, I, L, Rf)) C hR ⟨Nat.zero_le _, Nat.zero_le _⟩ mv_X8_number lk_X9_38 dX9_read_29 (rfl : 29 + 3 = 32) rfl rfl ck_shTapsTape_shTape_10 rfl rfl (c_X8_number X.l u (k_pl [10, 11] shTape (k_ap [(0, .inl (3, c0_3)), (1, .inr (.inr (.inl a1))), (2, .inr (.inr (.inl a2))), (10, .inl (3, r19.2)), (10, .inl (4, c10_4)), (10, .inl (5, c10_5)), (10, .inl (6, c10_6))] (shTapsTape, I, L, Rf))) rfl ec10_2 rfl rfl rfl rfl ea11 q29) rfl (fun _ => rfl) rfl (fun _ => rfl) rfl rfl rfl (k_jn (us' := [(0, .inl (3, c0_3)), (1, .inr (.inr (.inl a1))), (2, .inr (.inr (.inl a2))), (10, .inl (3, r29.2.1)), (10, .inl (4, r29.2.2.1)), (10, .inl (5, r29.2.2.2.1)), (10, .inl (6, r29.2.2.2.2))]) ds_X9_read rfl rfl rfl) rfl ?_
        refine r_istore C dX9_read_32 (rfl : 32 + 2 = 34) (by decide) (Nat.le_of_ble_eq_true rfl) ?_
        show k_W _ _ _ _ _ _ _ _ [some (.ref 0), some (.ref 10), some (.int v2), some (.int v3), some (.int r29.1)] _
        refine r_aload_n C dX9_read_34 (rfl : 34 + 1 = 35) rfl ?_
        refine r_getR (q := 2) C dX9_read_35 (rfl : 35 + 3 = 38) fl_X9_15 rfl rfl ?_
        refine r_iload C dX9_read_38 (rfl : 38 + 2 = 40) rfl ?_
        obtain ⟨hi40, h⟩ := k_i_of h
        refine a_i (j := (r29.1).toNatClampNeg) (f := a2) C dX9_read_40 (rfl : 40 + 1 = 41) rfl rfl hi40 rfl ?_
        refine r_iconst (v := (-1 : Int32)) C dX9_read_41 (rfl : 41 + 1 = 42) rfl ?_
        refine r_icmp_eq (tgt := 54) C dX9_read_42 (by decide) (rfl : 42 + 3 = 45) (fun c42 => ?_) (fun c42 => ?_)
        · have h := k_t c42 h
          refine k_mask [true, true, true, true, true] ?_
          exact sX9_read_54 u C hr hR ec10_2 ea11 ih c0_3 a1 a2 r29.2.1 r29.2.2.1 r29.2.2.2.1 r29.2.2.2.2 v2 v3 r29.1 h
        · have h := k_f c42 h
          refine r_aload_n C dX9_read_45 (rfl : 45 + 1 = 46) rfl ?_
          refine r_iconst (v := (2 : Int32)) C dX9_read_46 (rfl : 46 + 1 = 47) rfl ?_
          refine r_aload_n C dX9_read_47 (rfl : 47 + 1 = 48) rfl ?_
          refine r_getI (v := r29.2.2.1) C dX9_read_48 (rfl : 48 + 3 = 51) fl_X9_42 rfl rfl rfl ?_
          obtain ⟨r51, q51, h⟩ := k_b_of h
          refine d_Vp (pi := [10, 11]) (shl := shTape) (bl := 0) (As := [.int (2 : Int32), .int r29.2.2.1]) (Al := [.int (2 : Int32), .int r29.2.2.1]) (st := []) (st' := []) (h' := k_ap [(0, .inl (3, c0_3)), (1, .inr (.inr (.inl a1))), (2, .inr (.inr (.inl a2))), (10, .inl (3, r29.2.1)), (10, .inl (4, r29.2.2.1)), (10, .inl (5, r51.1)), (10, .inl (6, r51.2))] (shTapsTape, I, L, Rf)) C hR ⟨Nat.zero_le _, Nat.zero_le _⟩ mv_X8_fail lk_X9_45 dX9_read_51 (rfl : 51 + 3 = 54) rfl rfl ck_shTapsTape_shTape_10 rfl rfl (c_X8_fail X.l u (k_pl [10, 11] shTape (k_ap [(0, .inl (3, c0_3)), (1, .inr (.inr (.inl a1))), (2, .inr (.inr (.inl a2))), (10, .inl (3, r29.2.1)), (10, .inl (4, r29.2.2.1)), (10, .inl (5, r29.2.2.2.1)), (10, .inl (6, r29.2.2.2.2))] (shTapsTape, I, L, Rf))) rfl rfl rfl q51) rfl (fun _ => rfl) rfl (fun _ => rfl) rfl rfl rfl (k_jn (us' := [(0, .inl (3, c0_3)), (1, .inr (.inr (.inl a1))), (2, .inr (.inr (.inl a2))), (10, .inl (3, r29.2.1)), (10, .inl (4, r29.2.2.1)), (10, .inl (5, r51.1)), (10, .inl (6, r51.2))]) ds_X9_read rfl rfl rfl) rfl ?_
          refine k_mask [true, true, true, true, true] ?_
          exact sX9_read_54 u C hr hR ec10_2 ea11 ih c0_3 a1 a2 r29.2.1 r29.2.2.1 r51.1 r51.2 v2 v3 r29.1 h
set_option maxHeartbeats 400000 in
set_option maxRecDepth 100000 in
theorem sX9_read_0 (u : Nat) {X : k_X} {ad : Nat → Nat} (C : k_C X cX9_read RX9 5 ad) (hr : X.meth.sig.returnType = none) (hR : X.R.frames = 2 ∧ X.R.locals = 45) {I : Nat → Nat → Int32} {L : Nat → Nat → Int64} {Rf : Nat → Nat → Option Nat} {c10_2 : Int32} (ec10_2 : I 10 2 = c10_2) {a11 : (Nat → Int32)} (ea11 : I 11 = a11) {out : Int32 × (Nat → Int32) × (Nat → Int32) × Int32 × Int32 × Int32 × Int32} : ∀ (c0_3 : Int32) (a1 : (Nat → Int32)) (a2 : (Nat → Int32)) (c10_3 : Int32) (c10_4 : Int32) (c10_5 : Int32) (c10_6 : Int32), bX9_read_0 u c10_2 a11 c0_3 a1 a2 c10_3 c10_4 c10_5 c10_6 = some out → k_W X 5 0 0 (k_Q X ad none (k_ap [(0, .inl (3, out.1)), (1, .inr (.inr (.inl out.2.1))), (2, .inr (.inr (.inl out.2.2.1))), (10, .inl (3, out.2.2.2.1)), (10, .inl (4, out.2.2.2.2.1)), (10, .inl (5, out.2.2.2.2.2.1)), (10, .inl (6, out.2.2.2.2.2.2))] (shTapsTape, I, L, Rf))) ad (k_ap [(0, .inl (3, c0_3)), (1, .inr (.inr (.inl a1))), (2, .inr (.inr (.inl a2))), (10, .inl (3, c10_3)), (10, .inl (4, c10_4)), (10, .inl (5, c10_5)), (10, .inl (6, c10_6))] (shTapsTape, I, L, Rf)) 0 [some (.ref 0), some (.ref 10), none, none, none] [] := by
  intro c0_3 a1 a2 c10_3 c10_4 c10_5 c10_6 h
  unfold bX9_read_0 at h
  refine r_aload_n C dX9_read_0 (rfl : 0 + 1 = 1) rfl ?_
  refine r_getR (q := 2) C dX9_read_1 (rfl : 1 + 3 = 4) fl_X9_15 rfl rfl ?_
  refine r_iconst (v := (-1 : Int32)) C dX9_read_4 (rfl : 4 + 1 = 5) rfl ?_
  obtain ⟨r5, q5, h⟩ := k_b_of h
  refine d_Sp (pi := [2]) (shl := (shArr 8)) (As := [.ref 2, .int (-1 : Int32)]) (Al := [.ref 0, .int (-1 : Int32)]) (st := []) (st' := []) (h' := k_ap [(0, .inl (3, c0_3)), (1, .inr (.inr (.inl a1))), (2, .inr (.inr (.inl r5))), (10, .inl (3, c10_3)), (10, .inl (4, c10_4)), (10, .inl (5, c10_5)), (10, .inl (6, c10_6))] (shTapsTape, I, L, Rf)) C hR ⟨Nat.zero_le _, Nat.zero_le _⟩ ms_J7_fill_53178 lk_X9_22 dX9_read_5 (rfl : 5 + 3 = 8) rfl rfl ck_shTapsTape_shArr_2_8 (c_J7_fill_53178 X.l u 8 (k_pl [2] (shArr 8) (k_ap [(0, .inl (3, c0_3)), (1, .inr (.inr (.inl a1))), (2, .inr (.inr (.inl a2))), (10, .inl (3, c10_3)), (10, .inl (4, c10_4)), (10, .inl (5, c10_5)), (10, .inl (6, c10_6))] (shTapsTape, I, L, Rf))) rfl rfl q5) (fun _ => rfl) rfl (fun _ => rfl) rfl rfl rfl (k_jn (us' := [(0, .inl (3, c0_3)), (1, .inr (.inr (.inl a1))), (2, .inr (.inr (.inl r5))), (10, .inl (3, c10_3)), (10, .inl (4, c10_4)), (10, .inl (5, c10_5)), (10, .inl (6, c10_6))]) ds_X9_read rfl rfl rfl) rfl ?_
  refine r_iconst (v := (0 : Int32)) C dX9_read_8 (rfl : 8 + 1 = 9) rfl ?_
  refine r_istore_n C dX9_read_9 (rfl : 9 + 1 = 10) (by decide) (Nat.le_of_ble_eq_true rfl) ?_
  show k_W _ _ _ _ _ _ _ _ [some (.ref 0), some (.ref 10), some (.int (0 : Int32)), none, none] _
  refine r_iconst (v := (0 : Int32)) C dX9_read_10 (rfl : 10 + 1 = 11) rfl ?_
  refine r_istore_n C dX9_read_11 (rfl : 11 + 1 = 12) (by decide) (Nat.le_of_ble_eq_true rfl) ?_
  show k_W _ _ _ _ _ _ _ _ [some (.ref 0), some (.ref 10), some (.int (0 : Int32)), some (.int (0 : Int32)), none] _
  refine k_mask [true, true, true, true, false] ?_
  exact sX9_read_12 u C hr hR ec10_2 ea11 u c0_3 a1 r5 c10_3 c10_4 c10_5 c10_6 (0 : Int32) (0 : Int32) h
set_option maxHeartbeats 400000 in
set_option maxRecDepth 100000 in
theorem c_X9_read (l : Launch) (u : Nat) (h : k_H) (hsh : h.1 = shTapsTape) {c0_3 : Int32} (ec0_3 : h.2.1 0 3 = c0_3) {a1 : (Nat → Int32)} (ea1 : h.2.1 1 = a1) {a2 : (Nat → Int32)} (ea2 : h.2.1 2 = a2) {c10_2 : Int32} (ec10_2 : h.2.1 10 2 = c10_2) {c10_3 : Int32} (ec10_3 : h.2.1 10 3 = c10_3) {c10_4 : Int32} (ec10_4 : h.2.1 10 4 = c10_4) {c10_5 : Int32} (ec10_5 : h.2.1 10 5 = c10_5) {c10_6 : Int32} (ec10_6 : h.2.1 10 6 = c10_6) {a11 : (Nat → Int32)} (ea11 : h.2.1 11 = a11) {out : Int32 × (Nat → Int32) × (Nat → Int32) × Int32 × Int32 × Int32 × Int32} (hf : f_X9_read u c0_3 a1 a2 c10_2 c10_3 c10_4 c10_5 c10_6 a11 = some out) : k_CT l yX9_read cX9_read 5 none 2 45 [.ref 0, .ref 10] h none [(0, .inl (3, out.1)), (1, .inr (.inr (.inl out.2.1))), (2, .inr (.inr (.inl out.2.2.1))), (10, .inl (3, out.2.2.2.1)), (10, .inl (4, out.2.2.2.2.1)), (10, .inl (5, out.2.2.2.2.2.1)), (10, .inl (6, out.2.2.2.2.2.2))] := by
  obtain ⟨sh, I, L, Rf⟩ := h
  try dsimp only
  obtain rfl : sh = shTapsTape := hsh
  refine k_ofW (by decide) (Nat.le_of_ble_eq_true rfl) ?_
  intro X ad hl hR0 hr C
  have hR : X.R.frames = 2 ∧ X.R.locals = 45 := by rw [hR0]; exact ⟨rfl, rfl⟩
  have h := hf
  unfold f_X9_read at h
  refine k_start (us := [(0, .inl (3, c0_3)), (1, .inr (.inr (.inl a1))), (2, .inr (.inr (.inl a2))), (10, .inl (3, c10_3)), (10, .inl (4, c10_4)), (10, .inl (5, c10_5)), (10, .inl (6, c10_6))]) (k_ao_I ec0_3 (k_ao_A ea1 (k_ao_A ea2 (k_ao_I ec10_3 (k_ao_I ec10_4 (k_ao_I ec10_5 (k_ao_I ec10_6 k_ap_0))))))) ?_
  show k_W X 5 0 0 _ ad (k_ap [(0, .inl (3, c0_3)), (1, .inr (.inr (.inl a1))), (2, .inr (.inr (.inl a2))), (10, .inl (3, c10_3)), (10, .inl (4, c10_4)), (10, .inl (5, c10_5)), (10, .inl (6, c10_6))] (shTapsTape, I, L, Rf)) 0 [some (.ref 0), some (.ref 10), none, none, none] []
  refine k_mask [true, true, false, false, false] ?_
  exact sX9_read_0 u C hr hR ec10_2 ea11 c0_3 a1 a2 c10_3 c10_4 c10_5 c10_6 h
