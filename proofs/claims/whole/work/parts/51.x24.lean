/-! LullabyPit$Survey.dryCells()J -/
theorem ds_X7_dryCells : k_ds [] = true := by decide +kernel
set_option maxHeartbeats 400000 in
set_option maxRecDepth 100000 in
theorem sX7_dryCells_31 (u : Nat) {X : k_X} {ad : Nat → Nat} {rest : List k_Sh} (C : k_C X cX7_dryCells RX7 4 ad) (hr : X.meth.sig.returnType = (some .long)) (hR : X.R.frames = 0 ∧ X.R.locals = 0) {I : Nat → Nat → Int32} {L : Nat → Nat → Int64} {Rf : Nat → Nat → Option Nat} {c3_5 : Int64} (ec3_5 : L 3 5 = c3_5) {a4 : (Nat → Int32)} (ea4 : I 4 = a4) {out : Int64} {k4 : Int64 → Int32 → Option (Int64)} (hk4 : ∀ (v1 : Int64) (v3 : Int32), k4 v1 v3 = some out → k_W X 4 0 0 (k_Q X ad (some (.long out)) (k_ap [] ((shX ++ rest), I, L, Rf))) ad (k_ap [] ((shX ++ rest), I, L, Rf)) 4 [some (.ref 40), some (.long v1), none, some (.int v3)] []) : ∀ (v3 : Int32) (w0 : Int64) (w1 : Int64), bX7_dryCells_31 u c3_5 a4 k4 v3 w0 w1 = some out → k_W X 4 0 0 (k_Q X ad (some (.long out)) (k_ap [] ((shX ++ rest), I, L, Rf))) ad (k_ap [] ((shX ++ rest), I, L, Rf)) 31 [some (.ref 40), none, none, some (.int v3)] [.long w0, .long w1] := by
  intro v3 w0 w1 h
  unfold bX7_dryCells_31 at h
  refine r_lor C dX7_dryCells_31 (rfl : 31 + 1 = 32) ?_
  refine r_lstore_n C dX7_dryCells_32 (rfl : 32 + 1 = 33) (by decide) (Nat.le_of_ble_eq_true rfl) ?_
  show k_W _ _ _ _ _ _ _ _ [some (.ref 40), some (.long (w1 ||| w0)), none, some (.int v3)] _
  refine r_iinc (v := (v3 + (1 : Int32))) C dX7_dryCells_33 (rfl : 33 + 3 = 36) rfl rfl (by decide) ?_
  show k_W _ _ _ _ _ _ _ _ [some (.ref 40), some (.long (w1 ||| w0)), none, some (.int (v3 + (1 : Int32)))] _
  refine r_goto (tgt := 4) C dX7_dryCells_36 (by decide) ?_
  refine k_mask [true, true, false, true] ?_
  exact hk4 (w1 ||| w0) (v3 + (1 : Int32)) h
set_option maxHeartbeats 400000 in
set_option maxRecDepth 100000 in
theorem sX7_dryCells_4 (u : Nat) {X : k_X} {ad : Nat → Nat} {rest : List k_Sh} (C : k_C X cX7_dryCells RX7 4 ad) (hr : X.meth.sig.returnType = (some .long)) (hR : X.R.frames = 0 ∧ X.R.locals = 0) {I : Nat → Nat → Int32} {L : Nat → Nat → Int64} {Rf : Nat → Nat → Option Nat} {c3_5 : Int64} (ec3_5 : L 3 5 = c3_5) {a4 : (Nat → Int32)} (ea4 : I 4 = a4) {out : Int64} : ∀ (n : Nat) (v1 : Int64) (v3 : Int32), bX7_dryCells_4 u c3_5 a4 n v1 v3 = some out → k_W X 4 0 0 (k_Q X ad (some (.long out)) (k_ap [] ((shX ++ rest), I, L, Rf))) ad (k_ap [] ((shX ++ rest), I, L, Rf)) 4 [some (.ref 40), some (.long v1), none, some (.int v3)] [] := by
  intro n
  induction n with
  | zero => intro v1 v3 h; cases h
  | succ n ih =>
    intro v1 v3 h
    refine r_iload_n C dX7_dryCells_4 (rfl : 4 + 1 = 5) rfl ?_
    refine r_bipush (v := (48 : Int32)) C dX7_dryCells_5 (rfl : 5 + 2 = 7) rfl ?_
    refine r_icmp_ge (tgt := 39) C dX7_dryCells_7 (by decide) (rfl : 7 + 3 = 10) (fun c7 => ?_) (fun c7 => ?_)
    · have h := k_t c7 h
      refine r_lload_n C dX7_dryCells_39 (rfl : 39 + 1 = 40) rfl ?_
      refine r_aload_n C dX7_dryCells_40 (rfl : 40 + 1 = 41) rfl ?_
      refine r_getR (q := 3) C dX7_dryCells_41 (rfl : 41 + 3 = 44) fl_X7_21 rfl rfl ?_
      refine r_getL (v := c3_5) C dX7_dryCells_44 (rfl : 44 + 3 = 47) fl_X7_102 rfl rfl ec3_5 ?_
      refine r_land C dX7_dryCells_47 (rfl : 47 + 1 = 48) ?_
      cases h
      exact r_lret C hr dX7_dryCells_48
    · have h := k_f c7 h
      refine r_lload_n C dX7_dryCells_10 (rfl : 10 + 1 = 11) rfl ?_
      refine r_aload_n C dX7_dryCells_11 (rfl : 11 + 1 = 12) rfl ?_
      refine r_getR (q := 3) C dX7_dryCells_12 (rfl : 12 + 3 = 15) fl_X7_21 rfl rfl ?_
      refine r_getR (q := 4) C dX7_dryCells_15 (rfl : 15 + 3 = 18) fl_X7_97 rfl rfl ?_
      refine r_iload_n C dX7_dryCells_18 (rfl : 18 + 1 = 19) rfl ?_
      obtain ⟨hi19, h⟩ := k_i_of h
      refine a_i (j := (v3).toNatClampNeg) (f := a4) C dX7_dryCells_19 (rfl : 19 + 1 = 20) rfl ea4 hi19 rfl ?_
      refine r_iconst (v := (5 : Int32)) C dX7_dryCells_20 (rfl : 20 + 1 = 21) rfl ?_
      refine r_icmp_ne (tgt := 28) C dX7_dryCells_21 (by decide) (rfl : 21 + 3 = 24) (fun c21 => ?_) (fun c21 => ?_)
      · have h := k_f c21 h
        refine r_lconst (v := (1 : Int64)) C dX7_dryCells_28 (rfl : 28 + 1 = 29) rfl ?_
        refine r_iload_n C dX7_dryCells_29 (rfl : 29 + 1 = 30) rfl ?_
        refine r_lshl C dX7_dryCells_30 (rfl : 30 + 1 = 31) ?_
        refine k_mask [true, false, false, true] ?_
        exact sX7_dryCells_31 u C hr hR ec3_5 ea4 ih v3 ((1 : Int64) <<< ((v3).toInt64 &&& 63)) v1 h
      · have h := k_t c21 h
        refine r_lconst (v := (0 : Int64)) C dX7_dryCells_24 (rfl : 24 + 1 = 25) rfl ?_
        refine r_goto (tgt := 31) C dX7_dryCells_25 (by decide) ?_
        refine k_mask [true, false, false, true] ?_
        exact sX7_dryCells_31 u C hr hR ec3_5 ea4 ih v3 (0 : Int64) v1 h
set_option maxHeartbeats 400000 in
set_option maxRecDepth 100000 in
theorem sX7_dryCells_0 (u : Nat) {X : k_X} {ad : Nat → Nat} {rest : List k_Sh} (C : k_C X cX7_dryCells RX7 4 ad) (hr : X.meth.sig.returnType = (some .long)) (hR : X.R.frames = 0 ∧ X.R.locals = 0) {I : Nat → Nat → Int32} {L : Nat → Nat → Int64} {Rf : Nat → Nat → Option Nat} {c3_5 : Int64} (ec3_5 : L 3 5 = c3_5) {a4 : (Nat → Int32)} (ea4 : I 4 = a4) {out : Int64} : bX7_dryCells_0 u c3_5 a4 = some out → k_W X 4 0 0 (k_Q X ad (some (.long out)) (k_ap [] ((shX ++ rest), I, L, Rf))) ad (k_ap [] ((shX ++ rest), I, L, Rf)) 0 [some (.ref 40), none, none, none] [] := by
  intro h
  unfold bX7_dryCells_0 at h
  refine r_lconst (v := (0 : Int64)) C dX7_dryCells_0 (rfl : 0 + 1 = 1) rfl ?_
  refine r_lstore_n C dX7_dryCells_1 (rfl : 1 + 1 = 2) (by decide) (Nat.le_of_ble_eq_true rfl) ?_
  show k_W _ _ _ _ _ _ _ _ [some (.ref 40), some (.long (0 : Int64)), none, none] _
  refine r_iconst (v := (0 : Int32)) C dX7_dryCells_2 (rfl : 2 + 1 = 3) rfl ?_
  refine r_istore_n C dX7_dryCells_3 (rfl : 3 + 1 = 4) (by decide) (Nat.le_of_ble_eq_true rfl) ?_
  show k_W _ _ _ _ _ _ _ _ [some (.ref 40), some (.long (0 : Int64)), none, some (.int (0 : Int32))] _
  refine k_mask [true, true, false, true] ?_
  exact sX7_dryCells_4 u C hr hR ec3_5 ea4 u (0 : Int64) (0 : Int32) h
set_option maxHeartbeats 400000 in
set_option maxRecDepth 100000 in
theorem c_X7_dryCells (l : Launch) (u : Nat) (h : k_H) {rest : List k_Sh} (hsh : h.1 = (shX ++ rest)) {c3_5 : Int64} (ec3_5 : h.2.2.1 3 5 = c3_5) {a4 : (Nat → Int32)} (ea4 : h.2.1 4 = a4) {out : Int64} (hf : f_X7_dryCells u c3_5 a4 = some out) : k_CT l yX7_dryCells cX7_dryCells 4 (some .long) 0 0 [.ref 40] h (some (.long out)) [] := by
  obtain ⟨sh, I, L, Rf⟩ := h
  try dsimp only
  obtain rfl : sh = (shX ++ rest) := hsh
  refine k_ofW (by decide) (Nat.le_of_ble_eq_true rfl) ?_
  intro X ad hl hR0 hr C
  have hR : X.R.frames = 0 ∧ X.R.locals = 0 := by rw [hR0]; exact ⟨rfl, rfl⟩
  have h := hf
  unfold f_X7_dryCells at h
  refine k_start (us := []) k_ap_0 ?_
  show k_W X 4 0 0 _ ad (k_ap [] ((shX ++ rest), I, L, Rf)) 0 [some (.ref 40), none, none, none] []
  refine k_mask [true, false, false, false] ?_
  exact sX7_dryCells_0 u C hr hR ec3_5 ea4 h
/-! LullabyPit$Survey.countBars(LLullabyPit$Mine;JJ)V -/
theorem ds_X7_countBars : k_ds [(42, 2, 0)] = true := by decide +kernel
set_option maxHeartbeats 400000 in
set_option maxRecDepth 100000 in
theorem sX7_countBars_100 (u : Nat) {X : k_X} {ad : Nat → Nat} {rest : List k_Sh} (C : k_C X cX7_countBars RX7 12 ad) (hr : X.meth.sig.returnType = none) (hR : X.R.frames = 2 ∧ X.R.locals = 42) {I : Nat → Nat → Int32} {L : Nat → Nat → Int64} {Rf : Nat → Nat → Option Nat} {a5 : (Nat → Int32)} (ea5 : I 5 = a5) {c26_3 : Int64} (ec26_3 : L 26 3 = c26_3) {c26_4 : Int64} (ec26_4 : L 26 4 = c26_4) {c26_5 : Int64} (ec26_5 : L 26 5 = c26_5) {out : (Nat → Int32)} {k3 : (Nat → Int32) → Int64 → Int64 → Int32 → Option ((Nat → Int32))} (hk3 : ∀ (a42 : (Nat → Int32)) (v2 : Int64) (v4 : Int64) (v6 : Int32), k3 a42 v2 v4 v6 = some out → k_W X 12 0 0 (k_Q X ad none (k_ap [(42, .inr (.inr (.inl out)))] ((shX ++ rest), I, L, Rf))) ad (k_ap [(42, .inr (.inr (.inl a42)))] ((shX ++ rest), I, L, Rf)) 3 [some (.ref 40), some (.ref 26), some (.long v2), none, some (.long v4), none, some (.int v6), none, none, none, none, none] []) {k42 : (Nat → Int32) → Int64 → Int64 → Int32 → Int64 → Int32 → Int32 → Option ((Nat → Int32))} (hk42 : ∀ (a42 : (Nat → Int32)) (v2 : Int64) (v4 : Int64) (v6 : Int32) (v7 : Int64) (v9 : Int32) (v10 : Int32), k42 a42 v2 v4 v6 v7 v9 v10 = some out → k_W X 12 0 0 (k_Q X ad none (k_ap [(42, .inr (.inr (.inl out)))] ((shX ++ rest), I, L, Rf))) ad (k_ap [(42, .inr (.inr (.inl a42)))] ((shX ++ rest), I, L, Rf)) 42 [some (.ref 40), some (.ref 26), some (.long v2), none, some (.long v4), none, some (.int v6), some (.long v7), none, some (.int v9), some (.int v10), none] []) : ∀ (a42 : (Nat → Int32)) (v2 : Int64) (v4 : Int64) (v6 : Int32) (v7 : Int64) (v9 : Int32) (v10 : Int32), bX7_countBars_100 u a5 c26_3 c26_4 c26_5 k3 k42 a42 v2 v4 v6 v7 v9 v10 = some out → k_W X 12 0 0 (k_Q X ad none (k_ap [(42, .inr (.inr (.inl out)))] ((shX ++ rest), I, L, Rf))) ad (k_ap [(42, .inr (.inr (.inl a42)))] ((shX ++ rest), I, L, Rf)) 100 [some (.ref 40), some (.ref 26), some (.long v2), none, some (.long v4), none, some (.int v6), some (.long v7), none, some (.int v9), some (.int v10), none] [] := by
  intro a42 v2 v4 v6 v7 v9 v10 h
  unfold bX7_countBars_100 at h
  refine r_iinc (v := (v10 + (1 : Int32))) C dX7_countBars_100 (rfl : 100 + 3 = 103) rfl rfl (by decide) ?_
  show k_W _ _ _ _ _ _ _ _ [some (.ref 40), some (.ref 26), some (.long v2), none, some (.long v4), none, some (.int v6), some (.long v7), none, some (.int v9), some (.int (v10 + (1 : Int32))), none] _
  refine r_goto (tgt := 42) C dX7_countBars_103 (by decide) ?_
  refine k_mask [true, true, true, false, true, false, true, true, false, true, true, false] ?_
  exact hk42 a42 v2 v4 v6 v7 v9 (v10 + (1 : Int32)) h
set_option maxHeartbeats 400000 in
set_option maxRecDepth 100000 in
theorem sX7_countBars_122 (u : Nat) {X : k_X} {ad : Nat → Nat} {rest : List k_Sh} (C : k_C X cX7_countBars RX7 12 ad) (hr : X.meth.sig.returnType = none) (hR : X.R.frames = 2 ∧ X.R.locals = 42) {I : Nat → Nat → Int32} {L : Nat → Nat → Int64} {Rf : Nat → Nat → Option Nat} {a5 : (Nat → Int32)} (ea5 : I 5 = a5) {c26_3 : Int64} (ec26_3 : L 26 3 = c26_3) {c26_4 : Int64} (ec26_4 : L 26 4 = c26_4) {c26_5 : Int64} (ec26_5 : L 26 5 = c26_5) {out : (Nat → Int32)} {k3 : (Nat → Int32) → Int64 → Int64 → Int32 → Option ((Nat → Int32))} (hk3 : ∀ (a42 : (Nat → Int32)) (v2 : Int64) (v4 : Int64) (v6 : Int32), k3 a42 v2 v4 v6 = some out → k_W X 12 0 0 (k_Q X ad none (k_ap [(42, .inr (.inr (.inl out)))] ((shX ++ rest), I, L, Rf))) ad (k_ap [(42, .inr (.inr (.inl a42)))] ((shX ++ rest), I, L, Rf)) 3 [some (.ref 40), some (.ref 26), some (.long v2), none, some (.long v4), none, some (.int v6), none, none, none, none, none] []) : ∀ (a42 : (Nat → Int32)) (v2 : Int64) (v4 : Int64) (v6 : Int32), bX7_countBars_122 u a5 c26_3 c26_4 c26_5 k3 a42 v2 v4 v6 = some out → k_W X 12 0 0 (k_Q X ad none (k_ap [(42, .inr (.inr (.inl out)))] ((shX ++ rest), I, L, Rf))) ad (k_ap [(42, .inr (.inr (.inl a42)))] ((shX ++ rest), I, L, Rf)) 122 [some (.ref 40), some (.ref 26), some (.long v2), none, some (.long v4), none, some (.int v6), none, none, none, none, none] [] := by
  intro a42 v2 v4 v6 h
  unfold bX7_countBars_122 at h
  refine r_iinc (v := (v6 + (1 : Int32))) C dX7_countBars_122 (rfl : 122 + 3 = 125) rfl rfl (by decide) ?_
  show k_W _ _ _ _ _ _ _ _ [some (.ref 40), some (.ref 26), some (.long v2), none, some (.long v4), none, some (.int (v6 + (1 : Int32))), none, none, none, none, none] _
  refine r_goto (tgt := 3) C dX7_countBars_125 (by decide) ?_
  refine k_mask [true, true, true, false, true, false, true, false, false, false, false, false] ?_
  exact hk3 a42 v2 v4 (v6 + (1 : Int32)) h
set_option maxHeartbeats 400000 in
set_option maxRecDepth 100000 in
theorem sX7_countBars_42 (u : Nat) {X : k_X} {ad : Nat → Nat} {rest : List k_Sh} (C : k_C X cX7_countBars RX7 12 ad) (hr : X.meth.sig.returnType = none) (hR : X.R.frames = 2 ∧ X.R.locals = 42) {I : Nat → Nat → Int32} {L : Nat → Nat → Int64} {Rf : Nat → Nat → Option Nat} {a5 : (Nat → Int32)} (ea5 : I 5 = a5) {c26_3 : Int64} (ec26_3 : L 26 3 = c26_3) {c26_4 : Int64} (ec26_4 : L 26 4 = c26_4) {c26_5 : Int64} (ec26_5 : L 26 5 = c26_5) {out : (Nat → Int32)} {k3 : (Nat → Int32) → Int64 → Int64 → Int32 → Option ((Nat → Int32))} (hk3 : ∀ (a42 : (Nat → Int32)) (v2 : Int64) (v4 : Int64) (v6 : Int32), k3 a42 v2 v4 v6 = some out → k_W X 12 0 0 (k_Q X ad none (k_ap [(42, .inr (.inr (.inl out)))] ((shX ++ rest), I, L, Rf))) ad (k_ap [(42, .inr (.inr (.inl a42)))] ((shX ++ rest), I, L, Rf)) 3 [some (.ref 40), some (.ref 26), some (.long v2), none, some (.long v4), none, some (.int v6), none, none, none, none, none] []) : ∀ (n : Nat) (a42 : (Nat → Int32)) (v2 : Int64) (v4 : Int64) (v6 : Int32) (v7 : Int64) (v9 : Int32) (v10 : Int32), bX7_countBars_42 u a5 c26_3 c26_4 c26_5 k3 n a42 v2 v4 v6 v7 v9 v10 = some out → k_W X 12 0 0 (k_Q X ad none (k_ap [(42, .inr (.inr (.inl out)))] ((shX ++ rest), I, L, Rf))) ad (k_ap [(42, .inr (.inr (.inl a42)))] ((shX ++ rest), I, L, Rf)) 42 [some (.ref 40), some (.ref 26), some (.long v2), none, some (.long v4), none, some (.int v6), some (.long v7), none, some (.int v9), some (.int v10), none] [] := by
  intro n
  induction n with
  | zero => intro a42 v2 v4 v6 v7 v9 v10 h; cases h
  | succ n ih =>
    intro a42 v2 v4 v6 v7 v9 v10 h
    refine r_iload C dX7_countBars_42 (rfl : 42 + 2 = 44) rfl ?_
    refine r_gsS C dX7_countBars_44 (rfl : 44 + 3 = 47) fs_X7_105 ?_
    refine r_stepsL C dX7_countBars_47 (rfl : 47 + 1 = 48) ?_
    refine r_icmp_ge (tgt := 106) C dX7_countBars_48 (by decide) (rfl : 48 + 3 = 51) (fun c48 => ?_) (fun c48 => ?_)
    · have h := k_t c48 h
      refine r_aload_n C dX7_countBars_106 (rfl : 106 + 1 = 107) rfl ?_
      refine r_getR (q := 42) C dX7_countBars_107 (rfl : 107 + 3 = 110) fl_X7_17 rfl rfl ?_
      refine r_iload C dX7_countBars_110 (rfl : 110 + 2 = 112) rfl ?_
      refine r_iload C dX7_countBars_112 (rfl : 112 + 2 = 114) rfl ?_
      refine r_aload_n C dX7_countBars_114 (rfl : 114 + 1 = 115) rfl ?_
      refine r_iload C dX7_countBars_115 (rfl : 115 + 2 = 117) rfl ?_
      obtain ⟨r117, q117, h⟩ := k_b_of h
      refine d_Vp (pi := [26, 27, 28, 29, 30, 3, 4, 5, 6, 7, 8, 9, 17, 18, 19, 20, 21, 22]) (shl := shMine) (bl := 0) (As := [.int v6]) (Al := [.int v6]) (st := [.int v9, .int v6, .ref 42]) (st' := [.int r117, .int v9, .int v6, .ref 42]) (h' := k_ap [(42, .inr (.inr (.inl a42)))] ((shX ++ rest), I, L, Rf)) C hR ⟨Nat.zero_le _, Nat.zero_le _⟩ mv_X3_barsLeft lk_X7_114 dX7_countBars_117 (rfl : 117 + 3 = 120) rfl rfl ck_shX_shMine_26_3 rfl rfl (c_X3_barsLeft X.l u (k_pl [26, 27, 28, 29, 30, 3, 4, 5, 6, 7, 8, 9, 17, 18, 19, 20, 21, 22] shMine (k_ap [(42, .inr (.inr (.inl a42)))] ((shX ++ rest), I, L, Rf))) rfl ec26_3 ec26_4 ec26_5 ea5 q117) rfl (fun _ => rfl) rfl (fun _ => rfl) rfl rfl rfl rfl rfl ?_
      refine r_iadd C dX7_countBars_120 (rfl : 120 + 1 = 121) ?_
      obtain ⟨hi121, h⟩ := k_i_of h
      refine s_i (j := (v6).toNatClampNeg) (f := a42) (us' := [(42, .inr (.inr (.inl (upd a42 ((v6).toNatClampNeg) (v9 + r117)))))]) C dX7_countBars_121 (rfl : 121 + 1 = 122) rfl rfl hi121 rfl ds_X7_countBars rfl rfl rfl ?_
      refine k_mask [true, true, true, false, true, false, true, false, false, false, false, false] ?_
      exact sX7_countBars_122 u C hr hR ea5 ec26_3 ec26_4 ec26_5 hk3 (upd a42 ((v6).toNatClampNeg) (v9 + r117)) v2 v4 v6 h
    · have h := k_f c48 h
      refine r_iload C dX7_countBars_51 (rfl : 51 + 2 = 53) rfl ?_
      refine r_gsS C dX7_countBars_53 (rfl : 53 + 3 = 56) fs_X7_105 ?_
      refine r_iload C dX7_countBars_56 (rfl : 56 + 2 = 58) rfl ?_
      obtain ⟨hi58, h⟩ := k_i_of h
      refine r_steps (j := (v10).toNatClampNeg) C dX7_countBars_58 (rfl : 58 + 1 = 59) hi58 rfl ?_
      refine r_iadd C dX7_countBars_59 (rfl : 59 + 1 = 60) ?_
      refine r_istore C dX7_countBars_60 (rfl : 60 + 2 = 62) (by decide) (Nat.le_of_ble_eq_true rfl) ?_
      show k_W _ _ _ _ _ _ _ _ [some (.ref 40), some (.ref 26), some (.long v2), none, some (.long v4), none, some (.int v6), some (.long v7), none, some (.int v9), some (.int v10), some (.int (v6 + (k_stp.getD ((v10).toNatClampNeg) 0)))] _
      refine r_iload C dX7_countBars_62 (rfl : 62 + 2 = 64) rfl ?_
      refine r_if_lt (tgt := 100) C dX7_countBars_64 (by decide) (rfl : 64 + 3 = 67) (fun c64 => ?_) (fun c64 => ?_)
      · have h := k_t c64 h
        refine k_mask [true, true, true, false, true, false, true, true, false, true, true, false] ?_
        exact sX7_countBars_100 u C hr hR ea5 ec26_3 ec26_4 ec26_5 hk3 ih a42 v2 v4 v6 v7 v9 v10 h
      · have h := k_f c64 h
        refine r_iload C dX7_countBars_67 (rfl : 67 + 2 = 69) rfl ?_
        refine r_bipush (v := (48 : Int32)) C dX7_countBars_69 (rfl : 69 + 2 = 71) rfl ?_
        refine r_icmp_ge (tgt := 100) C dX7_countBars_71 (by decide) (rfl : 71 + 3 = 74) (fun c71 => ?_) (fun c71 => ?_)
        · have h := k_t c71 h
          refine k_mask [true, true, true, false, true, false, true, true, false, true, true, false] ?_
          exact sX7_countBars_100 u C hr hR ea5 ec26_3 ec26_4 ec26_5 hk3 ih a42 v2 v4 v6 v7 v9 v10 h
        · have h := k_f c71 h
          refine r_lload C dX7_countBars_74 (rfl : 74 + 2 = 76) rfl ?_
          refine r_iload C dX7_countBars_76 (rfl : 76 + 2 = 78) rfl ?_
          refine r_lushr C dX7_countBars_78 (rfl : 78 + 1 = 79) ?_
          refine r_lconst (v := (1 : Int64)) C dX7_countBars_79 (rfl : 79 + 1 = 80) rfl ?_
          refine r_land C dX7_countBars_80 (rfl : 80 + 1 = 81) ?_
          refine r_lconst (v := (0 : Int64)) C dX7_countBars_81 (rfl : 81 + 1 = 82) rfl ?_
          refine r_lcmp C dX7_countBars_82 (rfl : 82 + 1 = 83) ?_
          refine r_if_eq (tgt := 100) C dX7_countBars_83 (by decide) (rfl : 83 + 3 = 86) (fun c83 => ?_) (fun c83 => ?_)
          · have h := k_t c83 h
            refine k_mask [true, true, true, false, true, false, true, true, false, true, true, false] ?_
            exact sX7_countBars_100 u C hr hR ea5 ec26_3 ec26_4 ec26_5 hk3 ih a42 v2 v4 v6 v7 v9 v10 h
          · have h := k_f c83 h
            refine r_iload C dX7_countBars_86 (rfl : 86 + 2 = 88) rfl ?_
            refine r_aload_n C dX7_countBars_88 (rfl : 88 + 1 = 89) rfl ?_
            refine r_getR (q := 42) C dX7_countBars_89 (rfl : 89 + 3 = 92) fl_X7_17 rfl rfl ?_
            refine r_iload C dX7_countBars_92 (rfl : 92 + 2 = 94) rfl ?_
            obtain ⟨hi94, h⟩ := k_i_of h
            refine a_i (j := ((v6 + (k_stp.getD ((v10).toNatClampNeg) 0))).toNatClampNeg) (f := a42) C dX7_countBars_94 (rfl : 94 + 1 = 95) rfl rfl hi94 rfl ?_
            refine r_max C hR dX7_countBars_95 (rfl : 95 + 3 = 98) lm_X7_108 rfl rfl rfl ?_
            refine r_istore C dX7_countBars_98 (rfl : 98 + 2 = 100) (by decide) (Nat.le_of_ble_eq_true rfl) ?_
            show k_W _ _ _ _ _ _ _ _ [some (.ref 40), some (.ref 26), some (.long v2), none, some (.long v4), none, some (.int v6), some (.long v7), none, some (.int (if v9 < (a42 (((v6 + (k_stp.getD ((v10).toNatClampNeg) 0))).toNatClampNeg)) then (a42 (((v6 + (k_stp.getD ((v10).toNatClampNeg) 0))).toNatClampNeg)) else v9)), some (.int v10), some (.int (v6 + (k_stp.getD ((v10).toNatClampNeg) 0)))] _
            refine k_mask [true, true, true, false, true, false, true, true, false, true, true, false] ?_
            exact sX7_countBars_100 u C hr hR ea5 ec26_3 ec26_4 ec26_5 hk3 ih a42 v2 v4 v6 v7 (if v9 < (a42 (((v6 + (k_stp.getD ((v10).toNatClampNeg) 0))).toNatClampNeg)) then (a42 (((v6 + (k_stp.getD ((v10).toNatClampNeg) 0))).toNatClampNeg)) else v9) v10 h
set_option maxHeartbeats 400000 in
set_option maxRecDepth 100000 in
theorem sX7_countBars_3 (u : Nat) {X : k_X} {ad : Nat → Nat} {rest : List k_Sh} (C : k_C X cX7_countBars RX7 12 ad) (hr : X.meth.sig.returnType = none) (hR : X.R.frames = 2 ∧ X.R.locals = 42) {I : Nat → Nat → Int32} {L : Nat → Nat → Int64} {Rf : Nat → Nat → Option Nat} {a5 : (Nat → Int32)} (ea5 : I 5 = a5) {c26_3 : Int64} (ec26_3 : L 26 3 = c26_3) {c26_4 : Int64} (ec26_4 : L 26 4 = c26_4) {c26_5 : Int64} (ec26_5 : L 26 5 = c26_5) {out : (Nat → Int32)} : ∀ (n : Nat) (a42 : (Nat → Int32)) (v2 : Int64) (v4 : Int64) (v6 : Int32), bX7_countBars_3 u a5 c26_3 c26_4 c26_5 n a42 v2 v4 v6 = some out → k_W X 12 0 0 (k_Q X ad none (k_ap [(42, .inr (.inr (.inl out)))] ((shX ++ rest), I, L, Rf))) ad (k_ap [(42, .inr (.inr (.inl a42)))] ((shX ++ rest), I, L, Rf)) 3 [some (.ref 40), some (.ref 26), some (.long v2), none, some (.long v4), none, some (.int v6), none, none, none, none, none] [] := by
  intro n
  induction n with
  | zero => intro a42 v2 v4 v6 h; cases h
  | succ n ih =>
    intro a42 v2 v4 v6 h
    refine r_iload C dX7_countBars_3 (rfl : 3 + 2 = 5) rfl ?_
    refine r_bipush (v := (48 : Int32)) C dX7_countBars_5 (rfl : 5 + 2 = 7) rfl ?_
    refine r_icmp_ge (tgt := 128) C dX7_countBars_7 (by decide) (rfl : 7 + 3 = 10) (fun c7 => ?_) (fun c7 => ?_)
    · have h := k_t c7 h
      cases h
      exact r_vret C hr dX7_countBars_128
    · have h := k_f c7 h
      refine r_lload_n C dX7_countBars_10 (rfl : 10 + 1 = 11) rfl ?_
      refine r_iload C dX7_countBars_11 (rfl : 11 + 2 = 13) rfl ?_
      refine r_lushr C dX7_countBars_13 (rfl : 13 + 1 = 14) ?_
      refine r_lconst (v := (1 : Int64)) C dX7_countBars_14 (rfl : 14 + 1 = 15) rfl ?_
      refine r_land C dX7_countBars_15 (rfl : 15 + 1 = 16) ?_
      refine r_lconst (v := (0 : Int64)) C dX7_countBars_16 (rfl : 16 + 1 = 17) rfl ?_
      refine r_lcmp C dX7_countBars_17 (rfl : 17 + 1 = 18) ?_
      refine r_if_ne (tgt := 24) C dX7_countBars_18 (by decide) (rfl : 18 + 3 = 21) (fun c18 => ?_) (fun c18 => ?_)
      · have h := k_f c18 h
        refine r_lconst (v := (1 : Int64)) C dX7_countBars_24 (rfl : 24 + 1 = 25) rfl ?_
        refine r_iload C dX7_countBars_25 (rfl : 25 + 2 = 27) rfl ?_
        refine r_lshl C dX7_countBars_27 (rfl : 27 + 1 = 28) ?_
        obtain ⟨r28, q28, h⟩ := k_b_of h
        refine d_S (As := [.long ((1 : Int64) <<< ((v6).toInt64 &&& 63))]) (st := []) (st' := [.long r28]) (h' := k_ap [(42, .inr (.inr (.inl a42)))] ((shX ++ rest), I, L, Rf)) C hR ⟨Nat.zero_le _, Nat.zero_le _⟩ ms_X3_beside lk_X7_93 dX7_countBars_28 (rfl : 28 + 3 = 31) rfl rfl (c_X3_beside X.l u (k_ap [(42, .inr (.inr (.inl a42)))] ((shX ++ rest), I, L, Rf))  q28) rfl rfl rfl rfl rfl ?_
        refine r_lload C dX7_countBars_31 (rfl : 31 + 2 = 33) rfl ?_
        refine r_land C dX7_countBars_33 (rfl : 33 + 1 = 34) ?_
        refine r_lstore C dX7_countBars_34 (rfl : 34 + 2 = 36) (by decide) (Nat.le_of_ble_eq_true rfl) ?_
        show k_W _ _ _ _ _ _ _ _ [some (.ref 40), some (.ref 26), some (.long v2), none, some (.long v4), none, some (.int v6), some (.long (r28 &&& v4)), none, none, none, none] _
        refine r_iconst (v := (0 : Int32)) C dX7_countBars_36 (rfl : 36 + 1 = 37) rfl ?_
        refine r_istore C dX7_countBars_37 (rfl : 37 + 2 = 39) (by decide) (Nat.le_of_ble_eq_true rfl) ?_
        show k_W _ _ _ _ _ _ _ _ [some (.ref 40), some (.ref 26), some (.long v2), none, some (.long v4), none, some (.int v6), some (.long (r28 &&& v4)), none, some (.int (0 : Int32)), none, none] _
        refine r_iconst (v := (0 : Int32)) C dX7_countBars_39 (rfl : 39 + 1 = 40) rfl ?_
        refine r_istore C dX7_countBars_40 (rfl : 40 + 2 = 42) (by decide) (Nat.le_of_ble_eq_true rfl) ?_
        show k_W _ _ _ _ _ _ _ _ [some (.ref 40), some (.ref 26), some (.long v2), none, some (.long v4), none, some (.int v6), some (.long (r28 &&& v4)), none, some (.int (0 : Int32)), some (.int (0 : Int32)), none] _
        refine k_mask [true, true, true, false, true, false, true, true, false, true, true, false] ?_
        exact sX7_countBars_42 u C hr hR ea5 ec26_3 ec26_4 ec26_5 ih u a42 v2 v4 v6 (r28 &&& v4) (0 : Int32) (0 : Int32) h
      · have h := k_t c18 h
        refine r_goto (tgt := 122) C dX7_countBars_21 (by decide) ?_
        refine k_mask [true, true, true, false, true, false, true, false, false, false, false, false] ?_
        exact sX7_countBars_122 u C hr hR ea5 ec26_3 ec26_4 ec26_5 ih a42 v2 v4 v6 h
set_option maxHeartbeats 400000 in
set_option maxRecDepth 100000 in
theorem sX7_countBars_0 (u : Nat) {X : k_X} {ad : Nat → Nat} {rest : List k_Sh} (C : k_C X cX7_countBars RX7 12 ad) (hr : X.meth.sig.returnType = none) (hR : X.R.frames = 2 ∧ X.R.locals = 42) {I : Nat → Nat → Int32} {L : Nat → Nat → Int64} {Rf : Nat → Nat → Option Nat} {a5 : (Nat → Int32)} (ea5 : I 5 = a5) {c26_3 : Int64} (ec26_3 : L 26 3 = c26_3) {c26_4 : Int64} (ec26_4 : L 26 4 = c26_4) {c26_5 : Int64} (ec26_5 : L 26 5 = c26_5) {out : (Nat → Int32)} : ∀ (a42 : (Nat → Int32)) (v2 : Int64) (v4 : Int64), bX7_countBars_0 u a5 c26_3 c26_4 c26_5 a42 v2 v4 = some out → k_W X 12 0 0 (k_Q X ad none (k_ap [(42, .inr (.inr (.inl out)))] ((shX ++ rest), I, L, Rf))) ad (k_ap [(42, .inr (.inr (.inl a42)))] ((shX ++ rest), I, L, Rf)) 0 [some (.ref 40), some (.ref 26), some (.long v2), none, some (.long v4), none, none, none, none, none, none, none] [] := by
  intro a42 v2 v4 h
  unfold bX7_countBars_0 at h
  refine r_iconst (v := (0 : Int32)) C dX7_countBars_0 (rfl : 0 + 1 = 1) rfl ?_
  refine r_istore C dX7_countBars_1 (rfl : 1 + 2 = 3) (by decide) (Nat.le_of_ble_eq_true rfl) ?_
  show k_W _ _ _ _ _ _ _ _ [some (.ref 40), some (.ref 26), some (.long v2), none, some (.long v4), none, some (.int (0 : Int32)), none, none, none, none, none] _
  refine k_mask [true, true, true, false, true, false, true, false, false, false, false, false] ?_
  exact sX7_countBars_3 u C hr hR ea5 ec26_3 ec26_4 ec26_5 u a42 v2 v4 (0 : Int32) h
set_option maxHeartbeats 400000 in
set_option maxRecDepth 100000 in
theorem c_X7_countBars (l : Launch) (u : Nat) (h : k_H) {rest : List k_Sh} (hsh : h.1 = (shX ++ rest)) {a5 : (Nat → Int32)} (ea5 : h.2.1 5 = a5) {c26_3 : Int64} (ec26_3 : h.2.2.1 26 3 = c26_3) {c26_4 : Int64} (ec26_4 : h.2.2.1 26 4 = c26_4) {c26_5 : Int64} (ec26_5 : h.2.2.1 26 5 = c26_5) {a42 : (Nat → Int32)} (ea42 : h.2.1 42 = a42) {x1 : Int64} {x2 : Int64} {out : (Nat → Int32)} (hf : f_X7_countBars u a5 c26_3 c26_4 c26_5 a42 x1 x2 = some out) : k_CT l yX7_countBars cX7_countBars 12 none 2 42 [.ref 40, .ref 26, .long x1, .long x2] h none [(42, .inr (.inr (.inl out)))] := by
  obtain ⟨sh, I, L, Rf⟩ := h
  try dsimp only
  obtain rfl : sh = (shX ++ rest) := hsh
  refine k_ofW (by decide) (Nat.le_of_ble_eq_true rfl) ?_
  intro X ad hl hR0 hr C
  have hR : X.R.frames = 2 ∧ X.R.locals = 42 := by rw [hR0]; exact ⟨rfl, rfl⟩
  have h := hf
  unfold f_X7_countBars at h
  refine k_start (us := [(42, .inr (.inr (.inl a42)))]) (k_ao_A ea42 k_ap_0) ?_
  show k_W X 12 0 0 _ ad (k_ap [(42, .inr (.inr (.inl a42)))] ((shX ++ rest), I, L, Rf)) 0 [some (.ref 40), some (.ref 26), some (.long x1), none, some (.long x2), none, none, none, none, none, none, none] []
  refine k_mask [true, true, true, false, true, false, false, false, false, false, false, false] ?_
  exact sX7_countBars_0 u C hr hR ea5 ec26_3 ec26_4 ec26_5 a42 x1 x2 h
/-! LullabyPit$Survey.wayTo(LLullabyPit$Mine;IZ)I -/
theorem ds_X7_wayTo : k_ds [(42, 2, 0)] = true := by decide +kernel
set_option maxHeartbeats 400000 in
set_option maxRecDepth 100000 in
theorem sX7_wayTo_61 (u : Nat) {X : k_X} {ad : Nat → Nat} {rest : List k_Sh} (C : k_C X cX7_wayTo RX7 15 ad) (hr : X.meth.sig.returnType = (some .int)) (hR : X.R.frames = 3 ∧ X.R.locals = 73) {I : Nat → Nat → Int32} {L : Nat → Nat → Int64} {Rf : Nat → Nat → Option Nat} {c3_5 : Int64} (ec3_5 : L 3 5 = c3_5) {c3_6 : Int64} (ec3_6 : L 3 6 = c3_6) {a4 : (Nat → Int32)} (ea4 : I 4 = a4) {a5 : (Nat → Int32)} (ea5 : I 5 = a5) {c26_3 : Int64} (ec26_3 : L 26 3 = c26_3) {c26_4 : Int64} (ec26_4 : L 26 4 = c26_4) {c26_5 : Int64} (ec26_5 : L 26 5 = c26_5) {out : Int32 × (Nat → Int32)} : ∀ (n : Nat) (a42 : (Nat → Int32)) (v2 : Int32) (v3 : Int32) (v4 : Int64) (v6 : Int64) (v8 : Int64) (v10 : Int64) (v12 : Int32), bX7_wayTo_61 u c3_5 c3_6 a4 a5 c26_3 c26_4 c26_5 n a42 v2 v3 v4 v6 v8 v10 v12 = some out → k_W X 15 0 0 (k_Q X ad (some (.int out.1)) (k_ap [(42, .inr (.inr (.inl out.2)))] ((shX ++ rest), I, L, Rf))) ad (k_ap [(42, .inr (.inr (.inl a42)))] ((shX ++ rest), I, L, Rf)) 61 [some (.ref 40), some (.ref 26), some (.int v2), some (.int v3), some (.long v4), none, some (.long v6), none, some (.long v8), none, some (.long v10), none, some (.int v12), none, none] [] := by
  intro n
  induction n with
  | zero => intro a42 v2 v3 v4 v6 v8 v10 v12 h; cases h
  | succ n ih =>
    intro a42 v2 v3 v4 v6 v8 v10 v12 h
    refine r_iload C dX7_wayTo_61 (rfl : 61 + 2 = 63) rfl ?_
    refine r_bipush (v := (48 : Int32)) C dX7_wayTo_63 (rfl : 63 + 2 = 65) rfl ?_
    refine r_icmp_gt (tgt := 150) C dX7_wayTo_65 (by decide) (rfl : 65 + 3 = 68) (fun c65 => ?_) (fun c65 => ?_)
    · have h := k_t c65 h
      refine r_iconst (v := (-1 : Int32)) C dX7_wayTo_150 (rfl : 150 + 1 = 151) rfl ?_
      cases h
      exact r_iret C hr dX7_wayTo_151
    · have h := k_f c65 h
      refine r_lload C dX7_wayTo_68 (rfl : 68 + 2 = 70) rfl ?_
      refine r_lconst (v := (0 : Int64)) C dX7_wayTo_70 (rfl : 70 + 1 = 71) rfl ?_
      refine r_lcmp C dX7_wayTo_71 (rfl : 71 + 1 = 72) ?_
      refine r_if_eq (tgt := 150) C dX7_wayTo_72 (by decide) (rfl : 72 + 3 = 75) (fun c72 => ?_) (fun c72 => ?_)
      · have h := k_t c72 h
        refine r_iconst (v := (-1 : Int32)) C dX7_wayTo_150 (rfl : 150 + 1 = 151) rfl ?_
        cases h
        exact r_iret C hr dX7_wayTo_151
      · have h := k_f c72 h
        refine r_lload C dX7_wayTo_75 (rfl : 75 + 2 = 77) rfl ?_
        refine r_lload C dX7_wayTo_77 (rfl : 77 + 2 = 79) rfl ?_
        refine r_land C dX7_wayTo_79 (rfl : 79 + 1 = 80) ?_
        refine r_lconst (v := (0 : Int64)) C dX7_wayTo_80 (rfl : 80 + 1 = 81) rfl ?_
        refine r_lcmp C dX7_wayTo_81 (rfl : 81 + 1 = 82) ?_
        refine r_if_eq (tgt := 107) C dX7_wayTo_82 (by decide) (rfl : 82 + 3 = 85) (fun c82 => ?_) (fun c82 => ?_)
        · have h := k_t c82 h
          refine r_lload C dX7_wayTo_107 (rfl : 107 + 2 = 109) rfl ?_
          obtain ⟨r109, q109, h⟩ := k_b_of h
          refine d_S (As := [.long v8]) (st := []) (st' := [.long r109]) (h' := k_ap [(42, .inr (.inr (.inl a42)))] ((shX ++ rest), I, L, Rf)) C hR ⟨Nat.zero_le _, Nat.zero_le _⟩ ms_X3_beside lk_X7_93 dX7_wayTo_109 (rfl : 109 + 3 = 112) rfl rfl (c_X3_beside X.l u (k_ap [(42, .inr (.inr (.inl a42)))] ((shX ++ rest), I, L, Rf))  q109) rfl rfl rfl rfl rfl ?_
          refine r_lload C dX7_wayTo_112 (rfl : 112 + 2 = 114) rfl ?_
          refine r_land C dX7_wayTo_114 (rfl : 114 + 1 = 115) ?_
          refine r_lload C dX7_wayTo_115 (rfl : 115 + 2 = 117) rfl ?_
          refine r_ldc2 C dX7_wayTo_117 (rfl : 117 + 3 = 120) ct_X7_81 ?_
          refine r_lxor C dX7_wayTo_120 (rfl : 120 + 1 = 121) ?_
          refine r_land C dX7_wayTo_121 (rfl : 121 + 1 = 122) ?_
          refine r_lstore C dX7_wayTo_122 (rfl : 122 + 2 = 124) (by decide) (Nat.le_of_ble_eq_true rfl) ?_
          show k_W _ _ _ _ _ _ _ _ [some (.ref 40), some (.ref 26), some (.int v2), some (.int v3), some (.long v4), none, some (.long v6), none, some (.long v8), none, some (.long v10), none, some (.int v12), some (.long ((r109 &&& v6) &&& (v10 ^^^ (-1 : Int64)))), none] _
          refine r_aload_n C dX7_wayTo_124 (rfl : 124 + 1 = 125) rfl ?_
          refine r_aload_n C dX7_wayTo_125 (rfl : 125 + 1 = 126) rfl ?_
          refine r_lload C dX7_wayTo_126 (rfl : 126 + 2 = 128) rfl ?_
          refine r_lload C dX7_wayTo_128 (rfl : 128 + 2 = 130) rfl ?_
          obtain ⟨r130, q130, h⟩ := k_b_of h
          refine d_V (As := [.ref 26, .long ((r109 &&& v6) &&& (v10 ^^^ (-1 : Int64))), .long v8]) (st := []) (st' := []) (h' := k_ap [(42, .inr (.inr (.inl r130)))] ((shX ++ rest), I, L, Rf)) C hR ⟨Nat.zero_le _, Nat.zero_le _⟩ mv_X7_countBars lk_X7_89 dX7_wayTo_130 (rfl : 130 + 3 = 133) rfl rfl rfl rfl (c_X7_countBars X.l u (k_ap [(42, .inr (.inr (.inl a42)))] ((shX ++ rest), I, L, Rf)) rfl ea5 ec26_3 ec26_4 ec26_5 rfl q130) rfl rfl rfl (k_jn (us' := [(42, .inr (.inr (.inl r130)))]) ds_X7_wayTo rfl rfl rfl) rfl ?_
          refine r_lload C dX7_wayTo_133 (rfl : 133 + 2 = 135) rfl ?_
          refine r_lload C dX7_wayTo_135 (rfl : 135 + 2 = 137) rfl ?_
          refine r_lor C dX7_wayTo_137 (rfl : 137 + 1 = 138) ?_
          refine r_lstore C dX7_wayTo_138 (rfl : 138 + 2 = 140) (by decide) (Nat.le_of_ble_eq_true rfl) ?_
          show k_W _ _ _ _ _ _ _ _ [some (.ref 40), some (.ref 26), some (.int v2), some (.int v3), some (.long v4), none, some (.long v6), none, some (.long v8), none, some (.long (v10 ||| ((r109 &&& v6) &&& (v10 ^^^ (-1 : Int64))))), none, some (.int v12), some (.long ((r109 &&& v6) &&& (v10 ^^^ (-1 : Int64)))), none] _
          refine r_lload C dX7_wayTo_140 (rfl : 140 + 2 = 142) rfl ?_
          refine r_lstore C dX7_wayTo_142 (rfl : 142 + 2 = 144) (by decide) (Nat.le_of_ble_eq_true rfl) ?_
          show k_W _ _ _ _ _ _ _ _ [some (.ref 40), some (.ref 26), some (.int v2), some (.int v3), some (.long v4), none, some (.long v6), none, some (.long ((r109 &&& v6) &&& (v10 ^^^ (-1 : Int64)))), none, some (.long (v10 ||| ((r109 &&& v6) &&& (v10 ^^^ (-1 : Int64))))), none, some (.int v12), some (.long ((r109 &&& v6) &&& (v10 ^^^ (-1 : Int64)))), none] _
          refine r_iinc (v := (v12 + (1 : Int32))) C dX7_wayTo_144 (rfl : 144 + 3 = 147) rfl rfl (by decide) ?_
          show k_W _ _ _ _ _ _ _ _ [some (.ref 40), some (.ref 26), some (.int v2), some (.int v3), some (.long v4), none, some (.long v6), none, some (.long ((r109 &&& v6) &&& (v10 ^^^ (-1 : Int64)))), none, some (.long (v10 ||| ((r109 &&& v6) &&& (v10 ^^^ (-1 : Int64))))), none, some (.int (v12 + (1 : Int32))), some (.long ((r109 &&& v6) &&& (v10 ^^^ (-1 : Int64)))), none] _
          refine r_goto (tgt := 61) C dX7_wayTo_147 (by decide) ?_
          refine k_mask [true, true, true, true, true, false, true, false, true, false, true, false, true, false, false] ?_
          exact ih r130 v2 v3 v4 v6 ((r109 &&& v6) &&& (v10 ^^^ (-1 : Int64))) (v10 ||| ((r109 &&& v6) &&& (v10 ^^^ (-1 : Int64)))) (v12 + (1 : Int32)) h
        · have h := k_f c82 h
          refine r_iload_n C dX7_wayTo_85 (rfl : 85 + 1 = 86) rfl ?_
          refine r_if_eq (tgt := 104) C dX7_wayTo_86 (by decide) (rfl : 86 + 3 = 89) (fun c86 => ?_) (fun c86 => ?_)
          · have h := k_t c86 h
            refine r_iload C dX7_wayTo_104 (rfl : 104 + 2 = 106) rfl ?_
            cases h
            exact r_iret C hr dX7_wayTo_106
          · have h := k_f c86 h
            refine r_iload_n C dX7_wayTo_89 (rfl : 89 + 1 = 90) rfl ?_
            refine r_bipush (v := (48 : Int32)) C dX7_wayTo_90 (rfl : 90 + 2 = 92) rfl ?_
            refine r_icmp_ge (tgt := 104) C dX7_wayTo_92 (by decide) (rfl : 92 + 3 = 95) (fun c92 => ?_) (fun c92 => ?_)
            · have h := k_t c92 h
              refine r_iload C dX7_wayTo_104 (rfl : 104 + 2 = 106) rfl ?_
              cases h
              exact r_iret C hr dX7_wayTo_106
            · have h := k_f c92 h
              refine r_aload_n C dX7_wayTo_95 (rfl : 95 + 1 = 96) rfl ?_
              refine r_getR (q := 42) C dX7_wayTo_96 (rfl : 96 + 3 = 99) fl_X7_17 rfl rfl ?_
              refine r_iload_n C dX7_wayTo_99 (rfl : 99 + 1 = 100) rfl ?_
              obtain ⟨hi100, h⟩ := k_i_of h
              refine a_i (j := (v2).toNatClampNeg) (f := a42) C dX7_wayTo_100 (rfl : 100 + 1 = 101) rfl rfl hi100 rfl ?_
              refine r_goto (tgt := 106) C dX7_wayTo_101 (by decide) ?_
              cases h
              exact r_iret C hr dX7_wayTo_106
set_option maxHeartbeats 400000 in
set_option maxRecDepth 100000 in
theorem sX7_wayTo_0 (u : Nat) {X : k_X} {ad : Nat → Nat} {rest : List k_Sh} (C : k_C X cX7_wayTo RX7 15 ad) (hr : X.meth.sig.returnType = (some .int)) (hR : X.R.frames = 3 ∧ X.R.locals = 73) {I : Nat → Nat → Int32} {L : Nat → Nat → Int64} {Rf : Nat → Nat → Option Nat} {c3_5 : Int64} (ec3_5 : L 3 5 = c3_5) {c3_6 : Int64} (ec3_6 : L 3 6 = c3_6) {a4 : (Nat → Int32)} (ea4 : I 4 = a4) {a5 : (Nat → Int32)} (ea5 : I 5 = a5) {c26_3 : Int64} (ec26_3 : L 26 3 = c26_3) {c26_4 : Int64} (ec26_4 : L 26 4 = c26_4) {c26_5 : Int64} (ec26_5 : L 26 5 = c26_5) {out : Int32 × (Nat → Int32)} : ∀ (a42 : (Nat → Int32)) (v2 : Int32) (v3 : Int32), bX7_wayTo_0 u c3_5 c3_6 a4 a5 c26_3 c26_4 c26_5 a42 v2 v3 = some out → k_W X 15 0 0 (k_Q X ad (some (.int out.1)) (k_ap [(42, .inr (.inr (.inl out.2)))] ((shX ++ rest), I, L, Rf))) ad (k_ap [(42, .inr (.inr (.inl a42)))] ((shX ++ rest), I, L, Rf)) 0 [some (.ref 40), some (.ref 26), some (.int v2), some (.int v3), none, none, none, none, none, none, none, none, none, none, none] [] := by
  intro a42 v2 v3 h
  unfold bX7_wayTo_0 at h
  refine r_lconst (v := (1 : Int64)) C dX7_wayTo_0 (rfl : 0 + 1 = 1) rfl ?_
  refine r_iload_n C dX7_wayTo_1 (rfl : 1 + 1 = 2) rfl ?_
  refine r_lshl C dX7_wayTo_2 (rfl : 2 + 1 = 3) ?_
  refine r_lstore C dX7_wayTo_3 (rfl : 3 + 2 = 5) (by decide) (Nat.le_of_ble_eq_true rfl) ?_
  show k_W _ _ _ _ _ _ _ _ [some (.ref 40), some (.ref 26), some (.int v2), some (.int v3), some (.long ((1 : Int64) <<< ((v2).toInt64 &&& 63))), none, none, none, none, none, none, none, none, none, none] _
  refine r_aload_n C dX7_wayTo_5 (rfl : 5 + 1 = 6) rfl ?_
  obtain ⟨r6, q6, h⟩ := k_b_of h
  refine d_Vp (pi := [26, 27, 28, 29, 30, 3, 4, 5, 6, 7, 8, 9, 17, 18, 19, 20, 21, 22]) (shl := shMine) (bl := 0) (As := []) (Al := []) (st := []) (st' := [.long r6]) (h' := k_ap [(42, .inr (.inr (.inl a42)))] ((shX ++ rest), I, L, Rf)) C hR ⟨Nat.zero_le _, Nat.zero_le _⟩ mv_X3_openCells lk_X7_78 dX7_wayTo_6 (rfl : 6 + 3 = 9) rfl rfl ck_shX_shMine_26_3 rfl rfl (c_X3_openCells X.l u (k_pl [26, 27, 28, 29, 30, 3, 4, 5, 6, 7, 8, 9, 17, 18, 19, 20, 21, 22] shMine (k_ap [(42, .inr (.inr (.inl a42)))] ((shX ++ rest), I, L, Rf))) rfl ec26_3 ec26_4 q6) rfl (fun _ => rfl) rfl (fun _ => rfl) rfl rfl rfl rfl rfl ?_
  refine r_lload C dX7_wayTo_9 (rfl : 9 + 2 = 11) rfl ?_
  refine r_land C dX7_wayTo_11 (rfl : 11 + 1 = 12) ?_
  refine r_lconst (v := (0 : Int64)) C dX7_wayTo_12 (rfl : 12 + 1 = 13) rfl ?_
  refine r_lcmp C dX7_wayTo_13 (rfl : 13 + 1 = 14) ?_
  refine r_if_eq (tgt := 19) C dX7_wayTo_14 (by decide) (rfl : 14 + 3 = 17) (fun c14 => ?_) (fun c14 => ?_)
  · have h := k_t c14 h
    refine r_aload_n C dX7_wayTo_19 (rfl : 19 + 1 = 20) rfl ?_
    obtain ⟨r20, q20, h⟩ := k_b_of h
    refine d_Vp (pi := [26, 27, 28, 29, 30, 3, 4, 5, 6, 7, 8, 9, 17, 18, 19, 20, 21, 22]) (shl := shMine) (bl := 0) (As := []) (Al := []) (st := []) (st' := [.long r20]) (h' := k_ap [(42, .inr (.inr (.inl a42)))] ((shX ++ rest), I, L, Rf)) C hR ⟨Nat.zero_le _, Nat.zero_le _⟩ mv_X3_openCells lk_X7_78 dX7_wayTo_20 (rfl : 20 + 3 = 23) rfl rfl ck_shX_shMine_26_3 rfl rfl (c_X3_openCells X.l u (k_pl [26, 27, 28, 29, 30, 3, 4, 5, 6, 7, 8, 9, 17, 18, 19, 20, 21, 22] shMine (k_ap [(42, .inr (.inr (.inl a42)))] ((shX ++ rest), I, L, Rf))) rfl ec26_3 ec26_4 q20) rfl (fun _ => rfl) rfl (fun _ => rfl) rfl rfl rfl rfl rfl ?_
    refine r_ldc2 C dX7_wayTo_23 (rfl : 23 + 3 = 26) ct_X7_81 ?_
    refine r_lxor C dX7_wayTo_26 (rfl : 26 + 1 = 27) ?_
    refine r_aload_n C dX7_wayTo_27 (rfl : 27 + 1 = 28) rfl ?_
    obtain ⟨r28, q28, h⟩ := k_b_of h
    refine d_V (As := []) (st := [.long (r20 ^^^ (-1 : Int64))]) (st' := [.long r28, .long (r20 ^^^ (-1 : Int64))]) (h' := k_ap [(42, .inr (.inr (.inl a42)))] ((shX ++ rest), I, L, Rf)) C hR ⟨Nat.zero_le _, Nat.zero_le _⟩ mv_X7_dryCells lk_X7_83 dX7_wayTo_28 (rfl : 28 + 3 = 31) rfl rfl rfl rfl (c_X7_dryCells X.l u (k_ap [(42, .inr (.inr (.inl a42)))] ((shX ++ rest), I, L, Rf)) rfl ec3_5 ea4 q28) rfl rfl rfl rfl rfl ?_
    refine r_lload C dX7_wayTo_31 (rfl : 31 + 2 = 33) rfl ?_
    refine r_lor C dX7_wayTo_33 (rfl : 33 + 1 = 34) ?_
    refine r_land C dX7_wayTo_34 (rfl : 34 + 1 = 35) ?_
    refine r_lstore C dX7_wayTo_35 (rfl : 35 + 2 = 37) (by decide) (Nat.le_of_ble_eq_true rfl) ?_
    show k_W _ _ _ _ _ _ _ _ [some (.ref 40), some (.ref 26), some (.int v2), some (.int v3), some (.long ((1 : Int64) <<< ((v2).toInt64 &&& 63))), none, some (.long ((r20 ^^^ (-1 : Int64)) &&& (r28 ||| ((1 : Int64) <<< ((v2).toInt64 &&& 63))))), none, none, none, none, none, none, none, none] _
    refine r_aload_n C dX7_wayTo_37 (rfl : 37 + 1 = 38) rfl ?_
    obtain ⟨r38, q38, h⟩ := k_b_of h
    refine d_Vp (pi := [26, 27, 28, 29, 30, 3, 4, 5, 6, 7, 8, 9, 17, 18, 19, 20, 21, 22]) (shl := shMine) (bl := 0) (As := []) (Al := []) (st := []) (st' := [.long r38]) (h' := k_ap [(42, .inr (.inr (.inl a42)))] ((shX ++ rest), I, L, Rf)) C hR ⟨Nat.zero_le _, Nat.zero_le _⟩ mv_X3_handCells lk_X7_86 dX7_wayTo_38 (rfl : 38 + 3 = 41) rfl rfl ck_shX_shMine_26_3 rfl rfl (c_X3_handCells X.l u (k_pl [26, 27, 28, 29, 30, 3, 4, 5, 6, 7, 8, 9, 17, 18, 19, 20, 21, 22] shMine (k_ap [(42, .inr (.inr (.inl a42)))] ((shX ++ rest), I, L, Rf))) rfl ec26_3 ec26_4 ec3_5 ec3_6 q38) rfl (fun _ => rfl) rfl (fun _ => rfl) rfl rfl rfl rfl rfl ?_
    refine r_lload C dX7_wayTo_41 (rfl : 41 + 2 = 43) rfl ?_
    refine r_land C dX7_wayTo_43 (rfl : 43 + 1 = 44) ?_
    refine r_lstore C dX7_wayTo_44 (rfl : 44 + 2 = 46) (by decide) (Nat.le_of_ble_eq_true rfl) ?_
    show k_W _ _ _ _ _ _ _ _ [some (.ref 40), some (.ref 26), some (.int v2), some (.int v3), some (.long ((1 : Int64) <<< ((v2).toInt64 &&& 63))), none, some (.long ((r20 ^^^ (-1 : Int64)) &&& (r28 ||| ((1 : Int64) <<< ((v2).toInt64 &&& 63))))), none, some (.long (r38 &&& ((r20 ^^^ (-1 : Int64)) &&& (r28 ||| ((1 : Int64) <<< ((v2).toInt64 &&& 63)))))), none, none, none, none, none, none] _
    refine r_lload C dX7_wayTo_46 (rfl : 46 + 2 = 48) rfl ?_
    refine r_lstore C dX7_wayTo_48 (rfl : 48 + 2 = 50) (by decide) (Nat.le_of_ble_eq_true rfl) ?_
    show k_W _ _ _ _ _ _ _ _ [some (.ref 40), some (.ref 26), some (.int v2), some (.int v3), some (.long ((1 : Int64) <<< ((v2).toInt64 &&& 63))), none, some (.long ((r20 ^^^ (-1 : Int64)) &&& (r28 ||| ((1 : Int64) <<< ((v2).toInt64 &&& 63))))), none, some (.long (r38 &&& ((r20 ^^^ (-1 : Int64)) &&& (r28 ||| ((1 : Int64) <<< ((v2).toInt64 &&& 63)))))), none, some (.long (r38 &&& ((r20 ^^^ (-1 : Int64)) &&& (r28 ||| ((1 : Int64) <<< ((v2).toInt64 &&& 63)))))), none, none, none, none] _
    refine r_aload_n C dX7_wayTo_50 (rfl : 50 + 1 = 51) rfl ?_
    refine r_aload_n C dX7_wayTo_51 (rfl : 51 + 1 = 52) rfl ?_
    refine r_lload C dX7_wayTo_52 (rfl : 52 + 2 = 54) rfl ?_
    refine r_lconst (v := (0 : Int64)) C dX7_wayTo_54 (rfl : 54 + 1 = 55) rfl ?_
    obtain ⟨r55, q55, h⟩ := k_b_of h
    refine d_V (As := [.ref 26, .long (r38 &&& ((r20 ^^^ (-1 : Int64)) &&& (r28 ||| ((1 : Int64) <<< ((v2).toInt64 &&& 63))))), .long (0 : Int64)]) (st := []) (st' := []) (h' := k_ap [(42, .inr (.inr (.inl r55)))] ((shX ++ rest), I, L, Rf)) C hR ⟨Nat.zero_le _, Nat.zero_le _⟩ mv_X7_countBars lk_X7_89 dX7_wayTo_55 (rfl : 55 + 3 = 58) rfl rfl rfl rfl (c_X7_countBars X.l u (k_ap [(42, .inr (.inr (.inl a42)))] ((shX ++ rest), I, L, Rf)) rfl ea5 ec26_3 ec26_4 ec26_5 rfl q55) rfl rfl rfl (k_jn (us' := [(42, .inr (.inr (.inl r55)))]) ds_X7_wayTo rfl rfl rfl) rfl ?_
    refine r_iconst (v := (1 : Int32)) C dX7_wayTo_58 (rfl : 58 + 1 = 59) rfl ?_
    refine r_istore C dX7_wayTo_59 (rfl : 59 + 2 = 61) (by decide) (Nat.le_of_ble_eq_true rfl) ?_
    show k_W _ _ _ _ _ _ _ _ [some (.ref 40), some (.ref 26), some (.int v2), some (.int v3), some (.long ((1 : Int64) <<< ((v2).toInt64 &&& 63))), none, some (.long ((r20 ^^^ (-1 : Int64)) &&& (r28 ||| ((1 : Int64) <<< ((v2).toInt64 &&& 63))))), none, some (.long (r38 &&& ((r20 ^^^ (-1 : Int64)) &&& (r28 ||| ((1 : Int64) <<< ((v2).toInt64 &&& 63)))))), none, some (.long (r38 &&& ((r20 ^^^ (-1 : Int64)) &&& (r28 ||| ((1 : Int64) <<< ((v2).toInt64 &&& 63)))))), none, some (.int (1 : Int32)), none, none] _
    refine k_mask [true, true, true, true, true, false, true, false, true, false, true, false, true, false, false] ?_
    exact sX7_wayTo_61 u C hr hR ec3_5 ec3_6 ea4 ea5 ec26_3 ec26_4 ec26_5 u r55 v2 v3 ((1 : Int64) <<< ((v2).toInt64 &&& 63)) ((r20 ^^^ (-1 : Int64)) &&& (r28 ||| ((1 : Int64) <<< ((v2).toInt64 &&& 63)))) (r38 &&& ((r20 ^^^ (-1 : Int64)) &&& (r28 ||| ((1 : Int64) <<< ((v2).toInt64 &&& 63))))) (r38 &&& ((r20 ^^^ (-1 : Int64)) &&& (r28 ||| ((1 : Int64) <<< ((v2).toInt64 &&& 63))))) (1 : Int32) h
  · have h := k_f c14 h
    refine r_iconst (v := (0 : Int32)) C dX7_wayTo_17 (rfl : 17 + 1 = 18) rfl ?_
    cases h
    exact r_iret C hr dX7_wayTo_18
set_option maxHeartbeats 400000 in
set_option maxRecDepth 100000 in
theorem c_X7_wayTo (l : Launch) (u : Nat) (h : k_H) {rest : List k_Sh} (hsh : h.1 = (shX ++ rest)) {c3_5 : Int64} (ec3_5 : h.2.2.1 3 5 = c3_5) {c3_6 : Int64} (ec3_6 : h.2.2.1 3 6 = c3_6) {a4 : (Nat → Int32)} (ea4 : h.2.1 4 = a4) {a5 : (Nat → Int32)} (ea5 : h.2.1 5 = a5) {c26_3 : Int64} (ec26_3 : h.2.2.1 26 3 = c26_3) {c26_4 : Int64} (ec26_4 : h.2.2.1 26 4 = c26_4) {c26_5 : Int64} (ec26_5 : h.2.2.1 26 5 = c26_5) {a42 : (Nat → Int32)} (ea42 : h.2.1 42 = a42) {x1 : Int32} {x2 : Int32} {out : Int32 × (Nat → Int32)} (hf : f_X7_wayTo u c3_5 c3_6 a4 a5 c26_3 c26_4 c26_5 a42 x1 x2 = some out) : k_CT l yX7_wayTo cX7_wayTo 15 (some .int) 3 73 [.ref 40, .ref 26, .int x1, .int x2] h (some (.int out.1)) [(42, .inr (.inr (.inl out.2)))] := by
  obtain ⟨sh, I, L, Rf⟩ := h
  try dsimp only
  obtain rfl : sh = (shX ++ rest) := hsh
  refine k_ofW (by decide) (Nat.le_of_ble_eq_true rfl) ?_
  intro X ad hl hR0 hr C
  have hR : X.R.frames = 3 ∧ X.R.locals = 73 := by rw [hR0]; exact ⟨rfl, rfl⟩
  have h := hf
  unfold f_X7_wayTo at h
  refine k_start (us := [(42, .inr (.inr (.inl a42)))]) (k_ao_A ea42 k_ap_0) ?_
  show k_W X 15 0 0 _ ad (k_ap [(42, .inr (.inr (.inl a42)))] ((shX ++ rest), I, L, Rf)) 0 [some (.ref 40), some (.ref 26), some (.int x1), some (.int x2), none, none, none, none, none, none, none, none, none, none, none] []
  refine k_mask [true, true, true, true, false, false, false, false, false, false, false, false, false, false, false] ?_
  exact sX7_wayTo_0 u C hr hR ec3_5 ec3_6 ea4 ea5 ec26_3 ec26_4 ec26_5 a42 x1 x2 h
