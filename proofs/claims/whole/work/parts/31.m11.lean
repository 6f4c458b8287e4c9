/-! LullabyPitModel.lackNow()I -/
theorem ds_X11_lackNow : k_ds [] = true := by decide +kernel
set_option maxHeartbeats 400000 in
set_option maxRecDepth 100000 in
theorem sX11_lackNow_48 (u : Nat) {X : k_X} {ad : Nat → Nat} (C : k_C X cX11_lackNow RX11 3 ad) (hr : X.meth.sig.returnType = (some .int)) (hR : X.R.frames = 0 ∧ X.R.locals = 0) {I : Nat → Nat → Int32} {L : Nat → Nat → Int64} {Rf : Nat → Nat → Option Nat} {a21 : (Nat → Int32)} (ea21 : I 21 = a21) {a24 : (Nat → Int32)} (ea24 : I 24 = a24) {out : Int32} {k4 : Int32 → Int32 → Option (Int32)} (hk4 : ∀ (v1 : Int32) (v2 : Int32), k4 v1 v2 = some out → k_W X 3 0 0 (k_Q X ad (some (.int out)) (k_ap [] (shM, I, L, Rf))) ad (k_ap [] (shM, I, L, Rf)) 4 [some (.ref 0), some (.int v1), some (.int v2)] []) : ∀ (v2 : Int32) (w0 : Int32) (w1 : Int32), bX11_lackNow_48 u a21 a24 k4 v2 w0 w1 = some out → k_W X 3 0 0 (k_Q X ad (some (.int out)) (k_ap [] (shM, I, L, Rf))) ad (k_ap [] (shM, I, L, Rf)) 48 [some (.ref 0), none, some (.int v2)] [.int w0, .int w1] := by
  intro v2 w0 w1 h
  unfold bX11_lackNow_48 at h
  refine r_iadd C dX11_lackNow_48 (rfl : 48 + 1 = 49) ?_
  refine r_istore_n C dX11_lackNow_49 (rfl : 49 + 1 = 50) (by decide) (Nat.le_of_ble_eq_true rfl) ?_
  show k_W _ _ _ _ _ _ _ _ [some (.ref 0), some (.int (w1 + w0)), some (.int v2)] _
  refine r_iinc (v := (v2 + (1 : Int32))) C dX11_lackNow_50 (rfl : 50 + 3 = 53) rfl rfl (by decide) ?_
  show k_W _ _ _ _ _ _ _ _ [some (.ref 0), some (.int (w1 + w0)), some (.int (v2 + (1 : Int32)))] _
  refine r_goto (tgt := 4) C dX11_lackNow_53 (by decide) ?_
  refine k_mask [true, true, true] ?_
  exact hk4 (w1 + w0) (v2 + (1 : Int32)) h
set_option maxHeartbeats 400000 in
set_option maxRecDepth 100000 in
theorem sX11_lackNow_4 (u : Nat) {X : k_X} {ad : Nat → Nat} (C : k_C X cX11_lackNow RX11 3 ad) (hr : X.meth.sig.returnType = (some .int)) (hR : X.R.frames = 0 ∧ X.R.locals = 0) {I : Nat → Nat → Int32} {L : Nat → Nat → Int64} {Rf : Nat → Nat → Option Nat} {a21 : (Nat → Int32)} (ea21 : I 21 = a21) {a24 : (Nat → Int32)} (ea24 : I 24 = a24) {out : Int32} : ∀ (n : Nat) (v1 : Int32) (v2 : Int32), bX11_lackNow_4 u a21 a24 n v1 v2 = some out → k_W X 3 0 0 (k_Q X ad (some (.int out)) (k_ap [] (shM, I, L, Rf))) ad (k_ap [] (shM, I, L, Rf)) 4 [some (.ref 0), some (.int v1), some (.int v2)] [] := by
  intro n
  induction n with
  | zero => intro v1 v2 h; cases h
  | succ n ih =>
    intro v1 v2 h
    refine r_iload_n C dX11_lackNow_4 (rfl : 4 + 1 = 5) rfl ?_
    refine r_iconst (v := (5 : Int32)) C dX11_lackNow_5 (rfl : 5 + 1 = 6) rfl ?_
    refine r_icmp_ge (tgt := 56) C dX11_lackNow_6 (by decide) (rfl : 6 + 3 = 9) (fun c6 => ?_) (fun c6 => ?_)
    · have h := k_t c6 h
      refine r_iload_n C dX11_lackNow_56 (rfl : 56 + 1 = 57) rfl ?_
      cases h
      exact r_iret C hr dX11_lackNow_57
    · have h := k_f c6 h
      refine r_iload_n C dX11_lackNow_9 (rfl : 9 + 1 = 10) rfl ?_
      refine r_aload_n C dX11_lackNow_10 (rfl : 10 + 1 = 11) rfl ?_
      refine r_getR (q := 24) C dX11_lackNow_11 (rfl : 11 + 3 = 14) fl_X11_87 rfl rfl ?_
      refine r_iload_n C dX11_lackNow_14 (rfl : 14 + 1 = 15) rfl ?_
      obtain ⟨hi15, h⟩ := k_i_of h
      refine a_i (j := (v2).toNatClampNeg) (f := a24) C dX11_lackNow_15 (rfl : 15 + 1 = 16) rfl ea24 hi15 rfl ?_
      refine r_aload_n C dX11_lackNow_16 (rfl : 16 + 1 = 17) rfl ?_
      refine r_getR (q := 21) C dX11_lackNow_17 (rfl : 17 + 3 = 20) fl_X11_77 rfl rfl ?_
      refine r_bipush (v := (48 : Int32)) C dX11_lackNow_20 (rfl : 20 + 2 = 22) rfl ?_
      refine r_iload_n C dX11_lackNow_22 (rfl : 22 + 1 = 23) rfl ?_
      refine r_iadd C dX11_lackNow_23 (rfl : 23 + 1 = 24) ?_
      obtain ⟨hi24, h⟩ := k_i_of h
      refine a_i (j := (((48 : Int32) + v2)).toNatClampNeg) (f := a21) C dX11_lackNow_24 (rfl : 24 + 1 = 25) rfl ea21 hi24 rfl ?_
      refine r_icmp_le (tgt := 47) C dX11_lackNow_25 (by decide) (rfl : 25 + 3 = 28) (fun c25 => ?_) (fun c25 => ?_)
      · have h := k_t c25 h
        refine r_iconst (v := (0 : Int32)) C dX11_lackNow_47 (rfl : 47 + 1 = 48) rfl ?_
        refine k_mask [true, false, true] ?_
        exact sX11_lackNow_48 u C hr hR ea21 ea24 ih v2 (0 : Int32) v1 h
      · have h := k_f c25 h
        refine r_aload_n C dX11_lackNow_28 (rfl : 28 + 1 = 29) rfl ?_
        refine r_getR (q := 24) C dX11_lackNow_29 (rfl : 29 + 3 = 32) fl_X11_87 rfl rfl ?_
        refine r_iload_n C dX11_lackNow_32 (rfl : 32 + 1 = 33) rfl ?_
        obtain ⟨hi33, h⟩ := k_i_of h
        refine a_i (j := (v2).toNatClampNeg) (f := a24) C dX11_lackNow_33 (rfl : 33 + 1 = 34) rfl ea24 hi33 rfl ?_
        refine r_aload_n C dX11_lackNow_34 (rfl : 34 + 1 = 35) rfl ?_
        refine r_getR (q := 21) C dX11_lackNow_35 (rfl : 35 + 3 = 38) fl_X11_77 rfl rfl ?_
        refine r_bipush (v := (48 : Int32)) C dX11_lackNow_38 (rfl : 38 + 2 = 40) rfl ?_
        refine r_iload_n C dX11_lackNow_40 (rfl : 40 + 1 = 41) rfl ?_
        refine r_iadd C dX11_lackNow_41 (rfl : 41 + 1 = 42) ?_
        obtain ⟨hi42, h⟩ := k_i_of h
        refine a_i (j := (((48 : Int32) + v2)).toNatClampNeg) (f := a21) C dX11_lackNow_42 (rfl : 42 + 1 = 43) rfl ea21 hi42 rfl ?_
        refine r_isub C dX11_lackNow_43 (rfl : 43 + 1 = 44) ?_
        refine r_goto (tgt := 48) C dX11_lackNow_44 (by decide) ?_
        refine k_mask [true, false, true] ?_
        exact sX11_lackNow_48 u C hr hR ea21 ea24 ih v2 ((a24 ((v2).toNatClampNeg)) - (a21 ((((48 : Int32) + v2)).toNatClampNeg))) v1 h
set_option maxHeartbeats 400000 in
set_option maxRecDepth 100000 in
theorem sX11_lackNow_0 (u : Nat) {X : k_X} {ad : Nat → Nat} (C : k_C X cX11_lackNow RX11 3 ad) (hr : X.meth.sig.returnType = (some .int)) (hR : X.R.frames = 0 ∧ X.R.locals = 0) {I : Nat → Nat → Int32} {L : Nat → Nat → Int64} {Rf : Nat → Nat → Option Nat} {a21 : (Nat → Int32)} (ea21 : I 21 = a21) {a24 : (Nat → Int32)} (ea24 : I 24 = a24) {out : Int32} : bX11_lackNow_0 u a21 a24 = some out → k_W X 3 0 0 (k_Q X ad (some (.int out)) (k_ap [] (shM, I, L, Rf))) ad (k_ap [] (shM, I, L, Rf)) 0 [some (.ref 0), none, none] [] := by
  intro h
  unfold bX11_lackNow_0 at h
  refine r_iconst (v := (0 : Int32)) C dX11_lackNow_0 (rfl : 0 + 1 = 1) rfl ?_
  refine r_istore_n C dX11_lackNow_1 (rfl : 1 + 1 = 2) (by decide) (Nat.le_of_ble_eq_true rfl) ?_
  show k_W _ _ _ _ _ _ _ _ [some (.ref 0), some (.int (0 : Int32)), none] _
  refine r_iconst (v := (0 : Int32)) C dX11_lackNow_2 (rfl : 2 + 1 = 3) rfl ?_
  refine r_istore_n C dX11_lackNow_3 (rfl : 3 + 1 = 4) (by decide) (Nat.le_of_ble_eq_true rfl) ?_
  show k_W _ _ _ _ _ _ _ _ [some (.ref 0), some (.int (0 : Int32)), some (.int (0 : Int32))] _
  refine k_mask [true, true, true] ?_
  exact sX11_lackNow_4 u C hr hR ea21 ea24 u (0 : Int32) (0 : Int32) h
set_option maxHeartbeats 400000 in
set_option maxRecDepth 100000 in
theorem c_X11_lackNow (l : Launch) (u : Nat) (h : k_H) (hsh : h.1 = shM) {a21 : (Nat → Int32)} (ea21 : h.2.1 21 = a21) {a24 : (Nat → Int32)} (ea24 : h.2.1 24 = a24) {out : Int32} (hf : f_X11_lackNow u a21 a24 = some out) : k_CT l yX11_lackNow cX11_lackNow 3 (some .int) 0 0 [.ref 0] h (some (.int out)) [] := by
  obtain ⟨sh, I, L, Rf⟩ := h
  try dsimp only
  obtain rfl : sh = shM := hsh
  refine k_ofW (by decide) (Nat.le_of_ble_eq_true rfl) ?_
  intro X ad hl hR0 hr C
  have hR : X.R.frames = 0 ∧ X.R.locals = 0 := by rw [hR0]; exact ⟨rfl, rfl⟩
  have h := hf
  unfold f_X11_lackNow at h
  refine k_start (us := []) k_ap_0 ?_
  show k_W X 3 0 0 _ ad (k_ap [] (shM, I, L, Rf)) 0 [some (.ref 0), none, none] []
  refine k_mask [true, false, false] ?_
  exact sX11_lackNow_0 u C hr hR ea21 ea24 h
/-! LullabyPitModel.worthOf(I)I -/
theorem ds_X11_worthOf : k_ds [] = true := by decide +kernel
set_option maxHeartbeats 400000 in
set_option maxRecDepth 100000 in
theorem sX11_worthOf_4 (u : Nat) {X : k_X} {ad : Nat → Nat} (C : k_C X cX11_worthOf RX11 4 ad) (hr : X.meth.sig.returnType = (some .int)) (hR : X.R.frames = 0 ∧ X.R.locals = 0) {I : Nat → Nat → Int32} {L : Nat → Nat → Int64} {Rf : Nat → Nat → Option Nat} {a9 : (Nat → Int32)} (ea9 : I 9 = a9) {a10 : (Nat → Int32)} (ea10 : I 10 = a10) {out : Int32} : ∀ (n : Nat) (v1 : Int32) (v2 : Int32) (v3 : Int32), bX11_worthOf_4 u a9 a10 n v1 v2 v3 = some out → k_W X 4 0 0 (k_Q X ad (some (.int out)) (k_ap [] (shM, I, L, Rf))) ad (k_ap [] (shM, I, L, Rf)) 4 [some (.ref 0), some (.int v1), some (.int v2), some (.int v3)] [] := by
  intro n
  induction n with
  | zero => intro v1 v2 v3 h; cases h
  | succ n ih =>
    intro v1 v2 v3 h
    refine r_iload_n C dX11_worthOf_4 (rfl : 4 + 1 = 5) rfl ?_
    refine r_aload_n C dX11_worthOf_5 (rfl : 5 + 1 = 6) rfl ?_
    refine r_getR (q := 10) C dX11_worthOf_6 (rfl : 6 + 3 = 9) fl_X11_44 rfl rfl ?_
    refine r_bipush (v := (10 : Int32)) C dX11_worthOf_9 (rfl : 9 + 2 = 11) rfl ?_
    refine r_iload_n C dX11_worthOf_11 (rfl : 11 + 1 = 12) rfl ?_
    refine r_imul C dX11_worthOf_12 (rfl : 12 + 1 = 13) ?_
    refine r_iconst (v := (1 : Int32)) C dX11_worthOf_13 (rfl : 13 + 1 = 14) rfl ?_
    refine r_iadd C dX11_worthOf_14 (rfl : 14 + 1 = 15) ?_
    obtain ⟨hi15, h⟩ := k_i_of h
    refine a_i (j := ((((10 : Int32) * v1) + (1 : Int32))).toNatClampNeg) (f := a10) C dX11_worthOf_15 (rfl : 15 + 1 = 16) rfl ea10 hi15 rfl ?_
    refine r_icmp_ge (tgt := 46) C dX11_worthOf_16 (by decide) (rfl : 16 + 3 = 19) (fun c16 => ?_) (fun c16 => ?_)
    · have h := k_t c16 h
      refine r_iload_n C dX11_worthOf_46 (rfl : 46 + 1 = 47) rfl ?_
      cases h
      exact r_iret C hr dX11_worthOf_47
    · have h := k_f c16 h
      refine r_iload_n C dX11_worthOf_19 (rfl : 19 + 1 = 20) rfl ?_
      refine r_aload_n C dX11_worthOf_20 (rfl : 20 + 1 = 21) rfl ?_
      refine r_getR (q := 9) C dX11_worthOf_21 (rfl : 21 + 3 = 24) fl_X11_41 rfl rfl ?_
      refine r_aload_n C dX11_worthOf_24 (rfl : 24 + 1 = 25) rfl ?_
      refine r_getR (q := 10) C dX11_worthOf_25 (rfl : 25 + 3 = 28) fl_X11_44 rfl rfl ?_
      refine r_bipush (v := (10 : Int32)) C dX11_worthOf_28 (rfl : 28 + 2 = 30) rfl ?_
      refine r_iload_n C dX11_worthOf_30 (rfl : 30 + 1 = 31) rfl ?_
      refine r_imul C dX11_worthOf_31 (rfl : 31 + 1 = 32) ?_
      refine r_iconst (v := (2 : Int32)) C dX11_worthOf_32 (rfl : 32 + 1 = 33) rfl ?_
      refine r_iadd C dX11_worthOf_33 (rfl : 33 + 1 = 34) ?_
      refine r_iload_n C dX11_worthOf_34 (rfl : 34 + 1 = 35) rfl ?_
      refine r_iadd C dX11_worthOf_35 (rfl : 35 + 1 = 36) ?_
      obtain ⟨hi36, h⟩ := k_i_of h
      refine a_i (j := (((((10 : Int32) * v1) + (2 : Int32)) + v3)).toNatClampNeg) (f := a10) C dX11_worthOf_36 (rfl : 36 + 1 = 37) rfl ea10 hi36 rfl ?_
      obtain ⟨hi37, h⟩ := k_i_of h
      refine a_i (j := ((a10 ((((((10 : Int32) * v1) + (2 : Int32)) + v3)).toNatClampNeg))).toNatClampNeg) (f := a9) C dX11_worthOf_37 (rfl : 37 + 1 = 38) rfl ea9 hi37 rfl ?_
      refine r_iadd C dX11_worthOf_38 (rfl : 38 + 1 = 39) ?_
      refine r_istore_n C dX11_worthOf_39 (rfl : 39 + 1 = 40) (by decide) (Nat.le_of_ble_eq_true rfl) ?_
      show k_W _ _ _ _ _ _ _ _ [some (.ref 0), some (.int v1), some (.int (v2 + (a9 (((a10 ((((((10 : Int32) * v1) + (2 : Int32)) + v3)).toNatClampNeg))).toNatClampNeg)))), some (.int v3)] _
      refine r_iinc (v := (v3 + (1 : Int32))) C dX11_worthOf_40 (rfl : 40 + 3 = 43) rfl rfl (by decide) ?_
      show k_W _ _ _ _ _ _ _ _ [some (.ref 0), some (.int v1), some (.int (v2 + (a9 (((a10 ((((((10 : Int32) * v1) + (2 : Int32)) + v3)).toNatClampNeg))).toNatClampNeg)))), some (.int (v3 + (1 : Int32)))] _
      refine r_goto (tgt := 4) C dX11_worthOf_43 (by decide) ?_
      refine k_mask [true, true, true, true] ?_
      exact ih v1 (v2 + (a9 (((a10 ((((((10 : Int32) * v1) + (2 : Int32)) + v3)).toNatClampNeg))).toNatClampNeg))) (v3 + (1 : Int32)) h
set_option maxHeartbeats 400000 in
set_option maxRecDepth 100000 in
theorem sX11_worthOf_0 (u : Nat) {X : k_X} {ad : Nat → Nat} (C : k_C X cX11_worthOf RX11 4 ad) (hr : X.meth.sig.returnType = (some .int)) (hR : X.R.frames = 0 ∧ X.R.locals = 0) {I : Nat → Nat → Int32} {L : Nat → Nat → Int64} {Rf : Nat → Nat → Option Nat} {a9 : (Nat → Int32)} (ea9 : I 9 = a9) {a10 : (Nat → Int32)} (ea10 : I 10 = a10) {out : Int32} : ∀ (v1 : Int32), bX11_worthOf_0 u a9 a10 v1 = some out → k_W X 4 0 0 (k_Q X ad (some (.int out)) (k_ap [] (shM, I, L, Rf))) ad (k_ap [] (shM, I, L, Rf)) 0 [some (.ref 0), some (.int v1), none, none] [] := by
  intro v1 h
  unfold bX11_worthOf_0 at h
  refine r_iconst (v := (0 : Int32)) C dX11_worthOf_0 (rfl : 0 + 1 = 1) rfl ?_
  refine r_istore_n C dX11_worthOf_1 (rfl : 1 + 1 = 2) (by decide) (Nat.le_of_ble_eq_true rfl) ?_
  show k_W _ _ _ _ _ _ _ _ [some (.ref 0), some (.int v1), some (.int (0 : Int32)), none] _
  refine r_iconst (v := (0 : Int32)) C dX11_worthOf_2 (rfl : 2 + 1 = 3) rfl ?_
  refine r_istore_n C dX11_worthOf_3 (rfl : 3 + 1 = 4) (by decide) (Nat.le_of_ble_eq_true rfl) ?_
  show k_W _ _ _ _ _ _ _ _ [some (.ref 0), some (.int v1), some (.int (0 : Int32)), some (.int (0 : Int32))] _
  refine k_mask [true, true, true, true] ?_
  exact sX11_worthOf_4 u C hr hR ea9 ea10 u v1 (0 : Int32) (0 : Int32) h
set_option maxHeartbeats 400000 in
set_option maxRecDepth 100000 in
theorem c_X11_worthOf (l : Launch) (u : Nat) (h : k_H) (hsh : h.1 = shM) {a9 : (Nat → Int32)} (ea9 : h.2.1 9 = a9) {a10 : (Nat → Int32)} (ea10 : h.2.1 10 = a10) {x0 : Int32} {out : Int32} (hf : f_X11_worthOf u a9 a10 x0 = some out) : k_CT l yX11_worthOf cX11_worthOf 4 (some .int) 0 0 [.ref 0, .int x0] h (some (.int out)) [] := by
  obtain ⟨sh, I, L, Rf⟩ := h
  try dsimp only
  obtain rfl : sh = shM := hsh
  refine k_ofW (by decide) (Nat.le_of_ble_eq_true rfl) ?_
  intro X ad hl hR0 hr C
  have hR : X.R.frames = 0 ∧ X.R.locals = 0 := by rw [hR0]; exact ⟨rfl, rfl⟩
  have h := hf
  unfold f_X11_worthOf at h
  refine k_start (us := []) k_ap_0 ?_
  show k_W X 4 0 0 _ ad (k_ap [] (shM, I, L, Rf)) 0 [some (.ref 0), some (.int x0), none, none] []
  refine k_mask [true, true, false, false] ?_
  exact sX11_worthOf_0 u C hr hR ea9 ea10 x0 h
/-! LullabyPitModel.next()Z -/
theorem ds_X11_next : k_ds [(21, 2, 0), (24, 2, 0)] = true := by decide +kernel
set_option maxHeartbeats 400000 in
set_option maxRecDepth 100000 in
theorem sX11_next_158 (u : Nat) {X : k_X} {ad : Nat → Nat} (C : k_C X cX11_next RX11 4 ad) (hr : X.meth.sig.returnType = (some .boolean)) (hR : X.R.frames = 1 ∧ X.R.locals = 23) {I : Nat → Nat → Int32} {L : Nat → Nat → Int64} {Rf : Nat → Nat → Option Nat} {c0_30 : Int32} (ec0_30 : I 0 30 = c0_30) {a9 : (Nat → Int32)} (ea9 : I 9 = a9) {a10 : (Nat → Int32)} (ea10 : I 10 = a10) {out : Int32 × (Nat → Int32) × (Nat → Int32)} {k17 : (Nat → Int32) → (Nat → Int32) → Int32 → Option (Int32 × (Nat → Int32) × (Nat → Int32))} (hk17 : ∀ (a21 : (Nat → Int32)) (a24 : (Nat → Int32)) (v1 : Int32), k17 a21 a24 v1 = some out → k_W X 4 0 0 (k_Q X ad (some (.int out.1)) (k_ap [(21, .inr (.inr (.inl out.2.1))), (24, .inr (.inr (.inl out.2.2)))] (shM, I, L, Rf))) ad (k_ap [(21, .inr (.inr (.inl a21))), (24, .inr (.inr (.inl a24)))] (shM, I, L, Rf)) 17 [some (.ref 0), some (.int v1), none, none] []) : ∀ (a21 : (Nat → Int32)) (a24 : (Nat → Int32)) (v1 : Int32), bX11_next_158 u c0_30 a9 a10 k17 a21 a24 v1 = some out → k_W X 4 0 0 (k_Q X ad (some (.int out.1)) (k_ap [(21, .inr (.inr (.inl out.2.1))), (24, .inr (.inr (.inl out.2.2)))] (shM, I, L, Rf))) ad (k_ap [(21, .inr (.inr (.inl a21))), (24, .inr (.inr (.inl a24)))] (shM, I, L, Rf)) 158 [some (.ref 0), some (.int v1), none, none] [] := by
  intro a21 a24 v1 h
  unfold bX11_next_158 at h
  refine r_iinc (v := (v1 + (1 : Int32))) C dX11_next_158 (rfl : 158 + 3 = 161) rfl rfl (by decide) ?_
  show k_W _ _ _ _ _ _ _ _ [some (.ref 0), some (.int (v1 + (1 : Int32))), none, none] _
  refine r_goto (tgt := 17) C dX11_next_161 (by decide) ?_
  refine k_mask [true, true, false, false] ?_
  exact hk17 a21 a24 (v1 + (1 : Int32)) h
set_option maxHeartbeats 400000 in
set_option maxRecDepth 100000 in
theorem sX11_next_111 (u : Nat) {X : k_X} {ad : Nat → Nat} (C : k_C X cX11_next RX11 4 ad) (hr : X.meth.sig.returnType = (some .boolean)) (hR : X.R.frames = 1 ∧ X.R.locals = 23) {I : Nat → Nat → Int32} {L : Nat → Nat → Int64} {Rf : Nat → Nat → Option Nat} {c0_30 : Int32} (ec0_30 : I 0 30 = c0_30) {a9 : (Nat → Int32)} (ea9 : I 9 = a9) {a10 : (Nat → Int32)} (ea10 : I 10 = a10) {out : Int32 × (Nat → Int32) × (Nat → Int32)} {k17 : (Nat → Int32) → (Nat → Int32) → Int32 → Option (Int32 × (Nat → Int32) × (Nat → Int32))} (hk17 : ∀ (a21 : (Nat → Int32)) (a24 : (Nat → Int32)) (v1 : Int32), k17 a21 a24 v1 = some out → k_W X 4 0 0 (k_Q X ad (some (.int out.1)) (k_ap [(21, .inr (.inr (.inl out.2.1))), (24, .inr (.inr (.inl out.2.2)))] (shM, I, L, Rf))) ad (k_ap [(21, .inr (.inr (.inl a21))), (24, .inr (.inr (.inl a24)))] (shM, I, L, Rf)) 17 [some (.ref 0), some (.int v1), none, none] []) : ∀ (n : Nat) (a21 : (Nat → Int32)) (a24 : (Nat → Int32)) (v1 : Int32) (v3 : Int32), bX11_next_111 u c0_30 a9 a10 k17 n a21 a24 v1 v3 = some out → k_W X 4 0 0 (k_Q X ad (some (.int out.1)) (k_ap [(21, .inr (.inr (.inl out.2.1))), (24, .inr (.inr (.inl out.2.2)))] (shM, I, L, Rf))) ad (k_ap [(21, .inr (.inr (.inl a21))), (24, .inr (.inr (.inl a24)))] (shM, I, L, Rf)) 111 [some (.ref 0), some (.int v1), none, some (.int v3)] [] := by
  intro n
  induction n with
  | zero => intro a21 a24 v1 v3 h; cases h
  | succ n ih =>
    intro a21 a24 v1 v3 h
    refine r_iload_n C dX11_next_111 (rfl : 111 + 1 = 112) rfl ?_
    refine r_iconst (v := (5 : Int32)) C dX11_next_112 (rfl : 112 + 1 = 113) rfl ?_
    refine r_icmp_ge (tgt := 158) C dX11_next_113 (by decide) (rfl : 113 + 3 = 116) (fun c113 => ?_) (fun c113 => ?_)
    · have h := k_t c113 h
      refine k_mask [true, true, false, false] ?_
      exact sX11_next_158 u C hr hR ec0_30 ea9 ea10 hk17 a21 a24 v1 h
    · have h := k_f c113 h
      refine r_aload_n C dX11_next_116 (rfl : 116 + 1 = 117) rfl ?_
      refine r_getR (q := 21) C dX11_next_117 (rfl : 117 + 3 = 120) fl_X11_77 rfl rfl ?_
      refine r_bipush (v := (48 : Int32)) C dX11_next_120 (rfl : 120 + 2 = 122) rfl ?_
      refine r_iload_n C dX11_next_122 (rfl : 122 + 1 = 123) rfl ?_
      refine r_iadd C dX11_next_123 (rfl : 123 + 1 = 124) ?_
      refine r_dup2 C dX11_next_124 (rfl : 124 + 1 = 125) rfl rfl ?_
      obtain ⟨hi125, h⟩ := k_i_of h
      refine a_i (j := (((48 : Int32) + v3)).toNatClampNeg) (f := a21) C dX11_next_125 (rfl : 125 + 1 = 126) rfl rfl hi125 rfl ?_
      refine r_aload_n C dX11_next_126 (rfl : 126 + 1 = 127) rfl ?_
      refine r_getR (q := 24) C dX11_next_127 (rfl : 127 + 3 = 130) fl_X11_87 rfl rfl ?_
      refine r_iload_n C dX11_next_130 (rfl : 130 + 1 = 131) rfl ?_
      obtain ⟨hi131, h⟩ := k_i_of h
      refine a_i (j := (v3).toNatClampNeg) (f := a24) C dX11_next_131 (rfl : 131 + 1 = 132) rfl rfl hi131 rfl ?_
      refine r_isub C dX11_next_132 (rfl : 132 + 1 = 133) ?_
      obtain ⟨hi133, h⟩ := k_i_of h
      refine s_i (j := (((48 : Int32) + v3)).toNatClampNeg) (f := a21) (us' := [(21, .inr (.inr (.inl (upd a21 ((((48 : Int32) + v3)).toNatClampNeg) ((a21 ((((48 : Int32) + v3)).toNatClampNeg)) - (a24 ((v3).toNatClampNeg))))))), (24, .inr (.inr (.inl a24)))]) C dX11_next_133 (rfl : 133 + 1 = 134) rfl rfl hi133 rfl ds_X11_next rfl rfl rfl ?_
      refine r_aload_n C dX11_next_134 (rfl : 134 + 1 = 135) rfl ?_
      refine r_getR (q := 21) C dX11_next_135 (rfl : 135 + 3 = 138) fl_X11_77 rfl rfl ?_
      refine r_bipush (v := (58 : Int32)) C dX11_next_138 (rfl : 138 + 2 = 140) rfl ?_
      refine r_iload_n C dX11_next_140 (rfl : 140 + 1 = 141) rfl ?_
      refine r_iadd C dX11_next_141 (rfl : 141 + 1 = 142) ?_
      refine r_dup2 C dX11_next_142 (rfl : 142 + 1 = 143) rfl rfl ?_
      obtain ⟨hi143, h⟩ := k_i_of h
      refine a_i (j := (((58 : Int32) + v3)).toNatClampNeg) (f := (upd a21 ((((48 : Int32) + v3)).toNatClampNeg) ((a21 ((((48 : Int32) + v3)).toNatClampNeg)) - (a24 ((v3).toNatClampNeg))))) C dX11_next_143 (rfl : 143 + 1 = 144) rfl rfl hi143 rfl ?_
      refine r_aload_n C dX11_next_144 (rfl : 144 + 1 = 145) rfl ?_
      refine r_getR (q := 24) C dX11_next_145 (rfl : 145 + 3 = 148) fl_X11_87 rfl rfl ?_
      refine r_iload_n C dX11_next_148 (rfl : 148 + 1 = 149) rfl ?_
      obtain ⟨hi149, h⟩ := k_i_of h
      refine a_i (j := (v3).toNatClampNeg) (f := a24) C dX11_next_149 (rfl : 149 + 1 = 150) rfl rfl hi149 rfl ?_
      refine r_iadd C dX11_next_150 (rfl : 150 + 1 = 151) ?_
      obtain ⟨hi151, h⟩ := k_i_of h
      refine s_i (j := (((58 : Int32) + v3)).toNatClampNeg) (f := (upd a21 ((((48 : Int32) + v3)).toNatClampNeg) ((a21 ((((48 : Int32) + v3)).toNatClampNeg)) - (a24 ((v3).toNatClampNeg))))) (us' := [(21, .inr (.inr (.inl (upd (upd a21 ((((48 : Int32) + v3)).toNatClampNeg) ((a21 ((((48 : Int32) + v3)).toNatClampNeg)) - (a24 ((v3).toNatClampNeg)))) ((((58 : Int32) + v3)).toNatClampNeg) (((upd a21 ((((48 : Int32) + v3)).toNatClampNeg) ((a21 ((((48 : Int32) + v3)).toNatClampNeg)) - (a24 ((v3).toNatClampNeg)))) ((((58 : Int32) + v3)).toNatClampNeg)) + (a24 ((v3).toNatClampNeg))))))), (24, .inr (.inr (.inl a24)))]) C dX11_next_151 (rfl : 151 + 1 = 152) rfl rfl hi151 rfl ds_X11_next rfl rfl rfl ?_
      refine r_iinc (v := (v3 + (1 : Int32))) C dX11_next_152 (rfl : 152 + 3 = 155) rfl rfl (by decide) ?_
      show k_W _ _ _ _ _ _ _ _ [some (.ref 0), some (.int v1), none, some (.int (v3 + (1 : Int32)))] _
      refine r_goto (tgt := 111) C dX11_next_155 (by decide) ?_
      refine k_mask [true, true, false, true] ?_
      exact ih (upd (upd a21 ((((48 : Int32) + v3)).toNatClampNeg) ((a21 ((((48 : Int32) + v3)).toNatClampNeg)) - (a24 ((v3).toNatClampNeg)))) ((((58 : Int32) + v3)).toNatClampNeg) (((upd a21 ((((48 : Int32) + v3)).toNatClampNeg) ((a21 ((((48 : Int32) + v3)).toNatClampNeg)) - (a24 ((v3).toNatClampNeg)))) ((((58 : Int32) + v3)).toNatClampNeg)) + (a24 ((v3).toNatClampNeg)))) a24 v1 (v3 + (1 : Int32)) h
set_option maxHeartbeats 400000 in
set_option maxRecDepth 100000 in
theorem sX11_next_86 (u : Nat) {X : k_X} {ad : Nat → Nat} (C : k_C X cX11_next RX11 4 ad) (hr : X.meth.sig.returnType = (some .boolean)) (hR : X.R.frames = 1 ∧ X.R.locals = 23) {I : Nat → Nat → Int32} {L : Nat → Nat → Int64} {Rf : Nat → Nat → Option Nat} {c0_30 : Int32} (ec0_30 : I 0 30 = c0_30) {a9 : (Nat → Int32)} (ea9 : I 9 = a9) {a10 : (Nat → Int32)} (ea10 : I 10 = a10) {out : Int32 × (Nat → Int32) × (Nat → Int32)} {k17 : (Nat → Int32) → (Nat → Int32) → Int32 → Option (Int32 × (Nat → Int32) × (Nat → Int32))} (hk17 : ∀ (a21 : (Nat → Int32)) (a24 : (Nat → Int32)) (v1 : Int32), k17 a21 a24 v1 = some out → k_W X 4 0 0 (k_Q X ad (some (.int out.1)) (k_ap [(21, .inr (.inr (.inl out.2.1))), (24, .inr (.inr (.inl out.2.2)))] (shM, I, L, Rf))) ad (k_ap [(21, .inr (.inr (.inl a21))), (24, .inr (.inr (.inl a24)))] (shM, I, L, Rf)) 17 [some (.ref 0), some (.int v1), none, none] []) : ∀ (a21 : (Nat → Int32)) (a24 : (Nat → Int32)) (v1 : Int32) (v2 : Int32) (w0 : Int32) (w1 : Int32), bX11_next_86 u c0_30 a9 a10 k17 a21 a24 v1 v2 w0 w1 = some out → k_W X 4 0 0 (k_Q X ad (some (.int out.1)) (k_ap [(21, .inr (.inr (.inl out.2.1))), (24, .inr (.inr (.inl out.2.2)))] (shM, I, L, Rf))) ad (k_ap [(21, .inr (.inr (.inl a21))), (24, .inr (.inr (.inl a24)))] (shM, I, L, Rf)) 86 [some (.ref 0), some (.int v1), some (.int v2), none] [.int w0, .int w1, .ref 21] := by
  intro a21 a24 v1 v2 w0 w1 h
  unfold bX11_next_86 at h
  obtain ⟨hi86, h⟩ := k_i_of h
  refine s_i (j := (w1).toNatClampNeg) (f := a21) (us' := [(21, .inr (.inr (.inl (upd a21 ((w1).toNatClampNeg) w0)))), (24, .inr (.inr (.inl a24)))]) C dX11_next_86 (rfl : 86 + 1 = 87) rfl rfl hi86 rfl ds_X11_next rfl rfl rfl ?_
  refine r_iload_n C dX11_next_87 (rfl : 87 + 1 = 88) rfl ?_
  refine r_if_ne (tgt := 94) C dX11_next_88 (by decide) (rfl : 88 + 3 = 91) (fun c88 => ?_) (fun c88 => ?_)
  · have h := k_f c88 h
    refine r_aload_n C dX11_next_94 (rfl : 94 + 1 = 95) rfl ?_
    refine r_getR (q := 21) C dX11_next_95 (rfl : 95 + 3 = 98) fl_X11_77 rfl rfl ?_
    refine r_bipush (v := (72 : Int32)) C dX11_next_98 (rfl : 98 + 2 = 100) rfl ?_
    refine r_dup2 C dX11_next_100 (rfl : 100 + 1 = 101) rfl rfl ?_
    refine a_i (j := 72) (f := (upd a21 ((w1).toNatClampNeg) w0)) C dX11_next_101 (rfl : 101 + 1 = 102) rfl rfl (show ¬ ((72 : Int32) < 0 ∨ 77 ≤ ((72 : Int32)).toNatClampNeg) by decide) rfl ?_
    refine r_aload_n C dX11_next_102 (rfl : 102 + 1 = 103) rfl ?_
    refine r_iload_n C dX11_next_103 (rfl : 103 + 1 = 104) rfl ?_
    obtain ⟨r104, q104, h⟩ := k_b_of h
    refine d_V (As := [.int v1]) (st := [.int ((upd a21 ((w1).toNatClampNeg) w0) 72), .int (72 : Int32), .ref 21]) (st' := [.int r104, .int ((upd a21 ((w1).toNatClampNeg) w0) 72), .int (72 : Int32), .ref 21]) (h' := k_ap [(21, .inr (.inr (.inl (upd a21 ((w1).toNatClampNeg) w0)))), (24, .inr (.inr (.inl a24)))] (shM, I, L, Rf)) C hR ⟨Nat.zero_le _, Nat.zero_le _⟩ mv_X11_worthOf lk_X11_403 dX11_next_104 (rfl : 104 + 3 = 107) rfl rfl rfl rfl (c_X11_worthOf X.l u (k_ap [(21, .inr (.inr (.inl (upd a21 ((w1).toNatClampNeg) w0)))), (24, .inr (.inr (.inl a24)))] (shM, I, L, Rf)) rfl ea9 ea10 q104) rfl rfl rfl rfl rfl ?_
    refine r_iadd C dX11_next_107 (rfl : 107 + 1 = 108) ?_
    refine s_i (j := 72) (f := (upd a21 ((w1).toNatClampNeg) w0)) (us' := [(21, .inr (.inr (.inl (upd (upd a21 ((w1).toNatClampNeg) w0) 72 (((upd a21 ((w1).toNatClampNeg) w0) 72) + r104))))), (24, .inr (.inr (.inl a24)))]) C dX11_next_108 (rfl : 108 + 1 = 109) rfl rfl (show ¬ ((72 : Int32) < 0 ∨ 77 ≤ ((72 : Int32)).toNatClampNeg) by decide) rfl ds_X11_next rfl rfl rfl ?_
    refine r_iconst (v := (0 : Int32)) C dX11_next_109 (rfl : 109 + 1 = 110) rfl ?_
    refine r_istore_n C dX11_next_110 (rfl : 110 + 1 = 111) (by decide) (Nat.le_of_ble_eq_true rfl) ?_
    show k_W _ _ _ _ _ _ _ _ [some (.ref 0), some (.int v1), some (.int v2), some (.int (0 : Int32))] _
    refine k_mask [true, true, false, true] ?_
    exact sX11_next_111 u C hr hR ec0_30 ea9 ea10 hk17 u (upd (upd a21 ((w1).toNatClampNeg) w0) 72 (((upd a21 ((w1).toNatClampNeg) w0) 72) + r104)) a24 v1 (0 : Int32) h
  · have h := k_t c88 h
    refine r_goto (tgt := 158) C dX11_next_91 (by decide) ?_
    refine k_mask [true, true, false, false] ?_
    exact sX11_next_158 u C hr hR ec0_30 ea9 ea10 hk17 (upd a21 ((w1).toNatClampNeg) w0) a24 v1 h
set_option maxHeartbeats 400000 in
set_option maxRecDepth 100000 in
theorem sX11_next_68 (u : Nat) {X : k_X} {ad : Nat → Nat} (C : k_C X cX11_next RX11 4 ad) (hr : X.meth.sig.returnType = (some .boolean)) (hR : X.R.frames = 1 ∧ X.R.locals = 23) {I : Nat → Nat → Int32} {L : Nat → Nat → Int64} {Rf : Nat → Nat → Option Nat} {c0_30 : Int32} (ec0_30 : I 0 30 = c0_30) {a9 : (Nat → Int32)} (ea9 : I 9 = a9) {a10 : (Nat → Int32)} (ea10 : I 10 = a10) {out : Int32 × (Nat → Int32) × (Nat → Int32)} {k17 : (Nat → Int32) → (Nat → Int32) → Int32 → Option (Int32 × (Nat → Int32) × (Nat → Int32))} (hk17 : ∀ (a21 : (Nat → Int32)) (a24 : (Nat → Int32)) (v1 : Int32), k17 a21 a24 v1 = some out → k_W X 4 0 0 (k_Q X ad (some (.int out.1)) (k_ap [(21, .inr (.inr (.inl out.2.1))), (24, .inr (.inr (.inl out.2.2)))] (shM, I, L, Rf))) ad (k_ap [(21, .inr (.inr (.inl a21))), (24, .inr (.inr (.inl a24)))] (shM, I, L, Rf)) 17 [some (.ref 0), some (.int v1), none, none] []) : ∀ (a21 : (Nat → Int32)) (a24 : (Nat → Int32)) (v1 : Int32) (w0 : Int32), bX11_next_68 u c0_30 a9 a10 k17 a21 a24 v1 w0 = some out → k_W X 4 0 0 (k_Q X ad (some (.int out.1)) (k_ap [(21, .inr (.inr (.inl out.2.1))), (24, .inr (.inr (.inl out.2.2)))] (shM, I, L, Rf))) ad (k_ap [(21, .inr (.inr (.inl a21))), (24, .inr (.inr (.inl a24)))] (shM, I, L, Rf)) 68 [some (.ref 0), some (.int v1), none, none] [.int w0] := by
  intro a21 a24 v1 w0 h
  unfold bX11_next_68 at h
  refine r_istore_n C dX11_next_68 (rfl : 68 + 1 = 69) (by decide) (Nat.le_of_ble_eq_true rfl) ?_
  show k_W _ _ _ _ _ _ _ _ [some (.ref 0), some (.int v1), some (.int w0), none] _
  refine r_aload_n C dX11_next_69 (rfl : 69 + 1 = 70) rfl ?_
  refine r_getR (q := 21) C dX11_next_70 (rfl : 70 + 3 = 73) fl_X11_77 rfl rfl ?_
  refine r_bipush (v := (63 : Int32)) C dX11_next_73 (rfl : 73 + 2 = 75) rfl ?_
  refine r_iload_n C dX11_next_75 (rfl : 75 + 1 = 76) rfl ?_
  refine r_iadd C dX11_next_76 (rfl : 76 + 1 = 77) ?_
  refine r_iload_n C dX11_next_77 (rfl : 77 + 1 = 78) rfl ?_
  refine r_if_eq (tgt := 85) C dX11_next_78 (by decide) (rfl : 78 + 3 = 81) (fun c78 => ?_) (fun c78 => ?_)
  · have h := k_t c78 h
    refine r_iconst (v := (2 : Int32)) C dX11_next_85 (rfl : 85 + 1 = 86) rfl ?_
    refine k_mask [true, true, true, false] ?_
    exact sX11_next_86 u C hr hR ec0_30 ea9 ea10 hk17 a21 a24 v1 w0 (2 : Int32) ((63 : Int32) + v1) h
  · have h := k_f c78 h
    refine r_iconst (v := (1 : Int32)) C dX11_next_81 (rfl : 81 + 1 = 82) rfl ?_
    refine r_goto (tgt := 86) C dX11_next_82 (by decide) ?_
    refine k_mask [true, true, true, false] ?_
    exact sX11_next_86 u C hr hR ec0_30 ea9 ea10 hk17 a21 a24 v1 w0 (1 : Int32) ((63 : Int32) + v1) h
set_option maxHeartbeats 400000 in
set_option maxRecDepth 100000 in
theorem sX11_next_17 (u : Nat) {X : k_X} {ad : Nat → Nat} (C : k_C X cX11_next RX11 4 ad) (hr : X.meth.sig.returnType = (some .boolean)) (hR : X.R.frames = 1 ∧ X.R.locals = 23) {I : Nat → Nat → Int32} {L : Nat → Nat → Int64} {Rf : Nat → Nat → Option Nat} {c0_30 : Int32} (ec0_30 : I 0 30 = c0_30) {a9 : (Nat → Int32)} (ea9 : I 9 = a9) {a10 : (Nat → Int32)} (ea10 : I 10 = a10) {out : Int32 × (Nat → Int32) × (Nat → Int32)} : ∀ (n : Nat) (a21 : (Nat → Int32)) (a24 : (Nat → Int32)) (v1 : Int32), bX11_next_17 u c0_30 a9 a10 n a21 a24 v1 = some out → k_W X 4 0 0 (k_Q X ad (some (.int out.1)) (k_ap [(21, .inr (.inr (.inl out.2.1))), (24, .inr (.inr (.inl out.2.2)))] (shM, I, L, Rf))) ad (k_ap [(21, .inr (.inr (.inl a21))), (24, .inr (.inr (.inl a24)))] (shM, I, L, Rf)) 17 [some (.ref 0), some (.int v1), none, none] [] := by
  intro n
  induction n with
  | zero => intro a21 a24 v1 h; cases h
  | succ n ih =>
    intro a21 a24 v1 h
    refine r_iload_n C dX11_next_17 (rfl : 17 + 1 = 18) rfl ?_
    refine r_aload_n C dX11_next_18 (rfl : 18 + 1 = 19) rfl ?_
    refine r_getI (v := c0_30) C dX11_next_19 (rfl : 19 + 3 = 22) fl_X11_199 rfl rfl ec0_30 ?_
    refine r_icmp_ge (tgt := 164) C dX11_next_22 (by decide) (rfl : 22 + 3 = 25) (fun c22 => ?_) (fun c22 => ?_)
    · have h := k_t c22 h
      refine r_aload_n C dX11_next_164 (rfl : 164 + 1 = 165) rfl ?_
      refine r_getR (q := 21) C dX11_next_165 (rfl : 165 + 3 = 168) fl_X11_77 rfl rfl ?_
      refine r_bipush (v := (69 : Int32)) C dX11_next_168 (rfl : 168 + 2 = 170) rfl ?_
      refine r_dup2 C dX11_next_170 (rfl : 170 + 1 = 171) rfl rfl ?_
      refine a_i (j := 69) (f := a21) C dX11_next_171 (rfl : 171 + 1 = 172) rfl rfl (show ¬ ((69 : Int32) < 0 ∨ 77 ≤ ((69 : Int32)).toNatClampNeg) by decide) rfl ?_
      refine r_iconst (v := (1 : Int32)) C dX11_next_172 (rfl : 172 + 1 = 173) rfl ?_
      refine r_iadd C dX11_next_173 (rfl : 173 + 1 = 174) ?_
      refine s_i (j := 69) (f := a21) (us' := [(21, .inr (.inr (.inl (upd a21 69 ((a21 69) + (1 : Int32)))))), (24, .inr (.inr (.inl a24)))]) C dX11_next_174 (rfl : 174 + 1 = 175) rfl rfl (show ¬ ((69 : Int32) < 0 ∨ 77 ≤ ((69 : Int32)).toNatClampNeg) by decide) rfl ds_X11_next rfl rfl rfl ?_
      refine r_aload_n C dX11_next_175 (rfl : 175 + 1 = 176) rfl ?_
      refine r_getR (q := 21) C dX11_next_176 (rfl : 176 + 3 = 179) fl_X11_77 rfl rfl ?_
      refine r_bipush (v := (70 : Int32)) C dX11_next_179 (rfl : 179 + 2 = 181) rfl ?_
      refine r_iconst (v := (0 : Int32)) C dX11_next_181 (rfl : 181 + 1 = 182) rfl ?_
      refine s_i (j := 70) (f := (upd a21 69 ((a21 69) + (1 : Int32)))) (us' := [(21, .inr (.inr (.inl (upd (upd a21 69 ((a21 69) + (1 : Int32))) 70 (0 : Int32))))), (24, .inr (.inr (.inl a24)))]) C dX11_next_182 (rfl : 182 + 1 = 183) rfl rfl (show ¬ ((70 : Int32) < 0 ∨ 77 ≤ ((70 : Int32)).toNatClampNeg) by decide) rfl ds_X11_next rfl rfl rfl ?_
      refine r_iconst (v := (1 : Int32)) C dX11_next_183 (rfl : 183 + 1 = 184) rfl ?_
      cases h
      exact r_zret C hr (Or.inr rfl) dX11_next_184
    · have h := k_f c22 h
      refine r_aload_n C dX11_next_25 (rfl : 25 + 1 = 26) rfl ?_
      refine r_getR (q := 10) C dX11_next_26 (rfl : 26 + 3 = 29) fl_X11_44 rfl rfl ?_
      refine r_bipush (v := (10 : Int32)) C dX11_next_29 (rfl : 29 + 2 = 31) rfl ?_
      refine r_iload_n C dX11_next_31 (rfl : 31 + 1 = 32) rfl ?_
      refine r_imul C dX11_next_32 (rfl : 32 + 1 = 33) ?_
      obtain ⟨hi33, h⟩ := k_i_of h
      refine a_i (j := (((10 : Int32) * v1)).toNatClampNeg) (f := a10) C dX11_next_33 (rfl : 33 + 1 = 34) rfl ea10 hi33 rfl ?_
      refine r_aload_n C dX11_next_34 (rfl : 34 + 1 = 35) rfl ?_
      refine r_getR (q := 21) C dX11_next_35 (rfl : 35 + 3 = 38) fl_X11_77 rfl rfl ?_
      refine r_bipush (v := (69 : Int32)) C dX11_next_38 (rfl : 38 + 2 = 40) rfl ?_
      refine a_i (j := 69) (f := a21) C dX11_next_40 (rfl : 40 + 1 = 41) rfl rfl (show ¬ ((69 : Int32) < 0 ∨ 77 ≤ ((69 : Int32)).toNatClampNeg) by decide) rfl ?_
      refine r_icmp_eq (tgt := 47) C dX11_next_41 (by decide) (rfl : 41 + 3 = 44) (fun c41 => ?_) (fun c41 => ?_)
      · have h := k_t c41 h
        refine r_aload_n C dX11_next_47 (rfl : 47 + 1 = 48) rfl ?_
        obtain ⟨r48, q48, h⟩ := k_b_of h
        refine d_V (As := []) (st := []) (st' := []) (h' := k_ap [(21, .inr (.inr (.inl a21))), (24, .inr (.inr (.inl r48)))] (shM, I, L, Rf)) C hR ⟨Nat.zero_le _, Nat.zero_le _⟩ mv_X11_wantsNothing lk_X11_394 dX11_next_48 (rfl : 48 + 3 = 51) rfl rfl rfl rfl (c_X11_wantsNothing X.l u (k_ap [(21, .inr (.inr (.inl a21))), (24, .inr (.inr (.inl a24)))] (shM, I, L, Rf)) rfl rfl q48) rfl rfl rfl (k_jn (us' := [(21, .inr (.inr (.inl a21))), (24, .inr (.inr (.inl r48)))]) ds_X11_next rfl rfl rfl) rfl ?_
        refine r_aload_n C dX11_next_51 (rfl : 51 + 1 = 52) rfl ?_
        refine r_iload_n C dX11_next_52 (rfl : 52 + 1 = 53) rfl ?_
        obtain ⟨r53, q53, h⟩ := k_b_of h
        refine d_V (As := [.int v1]) (st := []) (st' := []) (h' := k_ap [(21, .inr (.inr (.inl a21))), (24, .inr (.inr (.inl r53)))] (shM, I, L, Rf)) C hR ⟨Nat.zero_le _, Nat.zero_le _⟩ mv_X11_adds lk_X11_397 dX11_next_53 (rfl : 53 + 3 = 56) rfl rfl rfl rfl (c_X11_adds X.l u (k_ap [(21, .inr (.inr (.inl a21))), (24, .inr (.inr (.inl r48)))] (shM, I, L, Rf)) rfl ea10 rfl q53) rfl rfl rfl (k_jn (us' := [(21, .inr (.inr (.inl a21))), (24, .inr (.inr (.inl r53)))]) ds_X11_next rfl rfl rfl) rfl ?_
        refine r_aload_n C dX11_next_56 (rfl : 56 + 1 = 57) rfl ?_
        obtain ⟨r57, q57, h⟩ := k_b_of h
        refine d_V (As := []) (st := []) (st' := [.int r57]) (h' := k_ap [(21, .inr (.inr (.inl a21))), (24, .inr (.inr (.inl r53)))] (shM, I, L, Rf)) C hR ⟨Nat.zero_le _, Nat.zero_le _⟩ mv_X11_lackNow lk_X11_400 dX11_next_57 (rfl : 57 + 3 = 60) rfl rfl rfl rfl (c_X11_lackNow X.l u (k_ap [(21, .inr (.inr (.inl a21))), (24, .inr (.inr (.inl r53)))] (shM, I, L, Rf)) rfl rfl rfl q57) rfl rfl rfl rfl rfl ?_
        refine r_if_ne (tgt := 67) C dX11_next_60 (by decide) (rfl : 60 + 3 = 63) (fun c60 => ?_) (fun c60 => ?_)
        · have h := k_f c60 h
          refine r_iconst (v := (0 : Int32)) C dX11_next_67 (rfl : 67 + 1 = 68) rfl ?_
          refine k_mask [true, true, false, false] ?_
          exact sX11_next_68 u C hr hR ec0_30 ea9 ea10 ih a21 r53 v1 (0 : Int32) h
        · have h := k_t c60 h
          refine r_iconst (v := (1 : Int32)) C dX11_next_63 (rfl : 63 + 1 = 64) rfl ?_
          refine r_goto (tgt := 68) C dX11_next_64 (by decide) ?_
          refine k_mask [true, true, false, false] ?_
          exact sX11_next_68 u C hr hR ec0_30 ea9 ea10 ih a21 r53 v1 (1 : Int32) h
      · have h := k_f c41 h
        refine r_goto (tgt := 158) C dX11_next_44 (by decide) ?_
        refine k_mask [true, true, false, false] ?_
        exact sX11_next_158 u C hr hR ec0_30 ea9 ea10 ih a21 a24 v1 h
set_option maxHeartbeats 400000 in
set_option maxRecDepth 100000 in
theorem sX11_next_0 (u : Nat) {X : k_X} {ad : Nat → Nat} (C : k_C X cX11_next RX11 4 ad) (hr : X.meth.sig.returnType = (some .boolean)) (hR : X.R.frames = 1 ∧ X.R.locals = 23) {I : Nat → Nat → Int32} {L : Nat → Nat → Int64} {Rf : Nat → Nat → Option Nat} {c0_30 : Int32} (ec0_30 : I 0 30 = c0_30) {a9 : (Nat → Int32)} (ea9 : I 9 = a9) {a10 : (Nat → Int32)} (ea10 : I 10 = a10) {out : Int32 × (Nat → Int32) × (Nat → Int32)} : ∀ (a21 : (Nat → Int32)) (a24 : (Nat → Int32)), bX11_next_0 u c0_30 a9 a10 a21 a24 = some out → k_W X 4 0 0 (k_Q X ad (some (.int out.1)) (k_ap [(21, .inr (.inr (.inl out.2.1))), (24, .inr (.inr (.inl out.2.2)))] (shM, I, L, Rf))) ad (k_ap [(21, .inr (.inr (.inl a21))), (24, .inr (.inr (.inl a24)))] (shM, I, L, Rf)) 0 [some (.ref 0), none, none, none] [] := by
  intro a21 a24 h
  unfold bX11_next_0 at h
  refine r_aload_n C dX11_next_0 (rfl : 0 + 1 = 1) rfl ?_
  refine r_getR (q := 21) C dX11_next_1 (rfl : 1 + 3 = 4) fl_X11_77 rfl rfl ?_
  refine r_bipush (v := (69 : Int32)) C dX11_next_4 (rfl : 4 + 2 = 6) rfl ?_
  refine a_i (j := 69) (f := a21) C dX11_next_6 (rfl : 6 + 1 = 7) rfl rfl (show ¬ ((69 : Int32) < 0 ∨ 77 ≤ ((69 : Int32)).toNatClampNeg) by decide) rfl ?_
  refine r_sipush (v := (200 : Int32)) C dX11_next_7 (rfl : 7 + 3 = 10) rfl ?_
  refine r_icmp_ne (tgt := 15) C dX11_next_10 (by decide) (rfl : 10 + 3 = 13) (fun c10 => ?_) (fun c10 => ?_)
  · have h := k_f c10 h
    refine r_iconst (v := (0 : Int32)) C dX11_next_15 (rfl : 15 + 1 = 16) rfl ?_
    refine r_istore_n C dX11_next_16 (rfl : 16 + 1 = 17) (by decide) (Nat.le_of_ble_eq_true rfl) ?_
    show k_W _ _ _ _ _ _ _ _ [some (.ref 0), some (.int (0 : Int32)), none, none] _
    refine k_mask [true, true, false, false] ?_
    exact sX11_next_17 u C hr hR ec0_30 ea9 ea10 u a21 a24 (0 : Int32) h
  · have h := k_t c10 h
    refine r_iconst (v := (0 : Int32)) C dX11_next_13 (rfl : 13 + 1 = 14) rfl ?_
    cases h
    exact r_zret C hr (Or.inl rfl) dX11_next_14
set_option maxHeartbeats 400000 in
set_option maxRecDepth 100000 in
theorem c_X11_next (l : Launch) (u : Nat) (h : k_H) (hsh : h.1 = shM) {c0_30 : Int32} (ec0_30 : h.2.1 0 30 = c0_30) {a9 : (Nat → Int32)} (ea9 : h.2.1 9 = a9) {a10 : (Nat → Int32)} (ea10 : h.2.1 10 = a10) {a21 : (Nat → Int32)} (ea21 : h.2.1 21 = a21) {a24 : (Nat → Int32)} (ea24 : h.2.1 24 = a24) {out : Int32 × (Nat → Int32) × (Nat → Int32)} (hf : f_X11_next u c0_30 a9 a10 a21 a24 = some out) : k_CT l yX11_next cX11_next 4 (some .boolean) 1 23 [.ref 0] h (some (.int out.1)) [(21, .inr (.inr (.inl out.2.1))), (24, .inr (.inr (.inl out.2.2)))] := by
  obtain ⟨sh, I, L, Rf⟩ := h
  try dsimp only
  obtain rfl : sh = shM := hsh
  refine k_ofW (by decide) (Nat.le_of_ble_eq_true rfl) ?_
  intro X ad hl hR0 hr C
  have hR : X.R.frames = 1 ∧ X.R.locals = 23 := by rw [hR0]; exact ⟨rfl, rfl⟩
  have h := hf
  unfold f_X11_next at h
  refine k_start (us := [(21, .inr (.inr (.inl a21))), (24, .inr (.inr (.inl a24)))]) (k_ao_A ea21 (k_ao_A ea24 k_ap_0)) ?_
  show k_W X 4 0 0 _ ad (k_ap [(21, .inr (.inr (.inl a21))), (24, .inr (.inr (.inl a24)))] (shM, I, L, Rf)) 0 [some (.ref 0), none, none, none] []
  refine k_mask [true, false, false, false] ?_
  exact sX11_next_0 u C hr hR ec0_30 ea9 ea10 a21 a24 h
