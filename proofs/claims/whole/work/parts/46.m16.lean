/-! LullabyPitModel.pickNow()I -/
theorem ds_X11_pickNow : k_ds [] = true := by decide
def bX11_pickNow_66 (u : Nat) (c0_25 : Int32) (c0_26 : Int32) (c0_27 : Int32) (a7 : (Nat → Int32)) (a8 : (Nat → Int32)) (a21 : (Nat → Int32)) (k4 : Int32 → Int32 → Option (Int32)) (v1 : Int32) (v2 : Int32) : Option (Int32) := (k4 v1 (v2 + (1 : Int32)))
set_option maxHeartbeats 400000 in
set_option maxRecDepth 100000 in
theorem sX11_pickNow_66 (u : Nat) {X : k_X} {ad : Nat → Nat} (C : k_C X cX11_pickNow RX11 3 ad) (hr : X.meth.sig.returnType = (some .int)) (hR : X.R.frames = 4 ∧ X.R.locals = 88) {I : Nat → Nat → Int32} {L : Nat → Nat → Int64} {Rf : Nat → Nat → Option Nat} {c0_25 : Int32} (ec0_25 : I 0 25 = c0_25) {c0_26 : Int32} (ec0_26 : I 0 26 = c0_26) {c0_27 : Int32} (ec0_27 : I 0 27 = c0_27) {a7 : (Nat → Int32)} (ea7 : I 7 = a7) {a8 : (Nat → Int32)} (ea8 : I 8 = a8) {a21 : (Nat → Int32)} (ea21 : I 21 = a21) {out : Int32} {k4 : Int32 → Int32 → Option (Int32)} (hk4 : ∀ (v1 : Int32) (v2 : Int32), k4 v1 v2 = some out → k_W X 3 0 0 (k_Q X ad (some (.int out)) (k_ap [] (shM, I, L, Rf))) ad (k_ap [] (shM, I, L, Rf)) 4 [some (.ref 0), some (.int v1), some (.int v2)] []) : ∀ (v1 : Int32) (v2 : Int32), bX11_pickNow_66 u c0_25 c0_26 c0_27 a7 a8 a21 k4 v1 v2 = some out → k_W X 3 0 0 (k_Q X ad (some (.int out)) (k_ap [] (shM, I, L, Rf))) ad (k_ap [] (shM, I, L, Rf)) 66 [some (.ref 0), some (.int v1), some (.int v2)] [] := by
  intro v1 v2 h
  unfold bX11_pickNow_66 at h
  refine r_iinc (v := (v2 + (1 : Int32))) C dX11_pickNow_66 (rfl : 66 + 3 = 69) rfl rfl (by decide) ?_
  show k_W _ _ _ _ _ _ _ _ [some (.ref 0), some (.int v1), some (.int (v2 + (1 : Int32)))] _
  refine r_goto (tgt := 4) C dX11_pickNow_69 (by decide) ?_
  refine k_mask [true, true, true] ?_
  exact hk4 v1 (v2 + (1 : Int32)) h
def bX11_pickNow_64 (u : Nat) (c0_25 : Int32) (c0_26 : Int32) (c0_27 : Int32) (a7 : (Nat → Int32)) (a8 : (Nat → Int32)) (a21 : (Nat → Int32)) (k4 : Int32 → Int32 → Option (Int32)) (v2 : Int32) : Option (Int32) := (bX11_pickNow_66 u c0_25 c0_26 c0_27 a7 a8 a21 k4 v2 v2)
set_option maxHeartbeats 400000 in
set_option maxRecDepth 100000 in
theorem sX11_pickNow_64 (u : Nat) {X : k_X} {ad : Nat → Nat} (C : k_C X cX11_pickNow RX11 3 ad) (hr : X.meth.sig.returnType = (some .int)) (hR : X.R.frames = 4 ∧ X.R.locals = 88) {I : Nat → Nat → Int32} {L : Nat → Nat → Int64} {Rf : Nat → Nat → Option Nat} {c0_25 : Int32} (ec0_25 : I 0 25 = c0_25) {c0_26 : Int32} (ec0_26 : I 0 26 = c0_26) {c0_27 : Int32} (ec0_27 : I 0 27 = c0_27) {a7 : (Nat → Int32)} (ea7 : I 7 = a7) {a8 : (Nat → Int32)} (ea8 : I 8 = a8) {a21 : (Nat → Int32)} (ea21 : I 21 = a21) {out : Int32} {k4 : Int32 → Int32 → Option (Int32)} (hk4 : ∀ (v1 : Int32) (v2 : Int32), k4 v1 v2 = some out → k_W X 3 0 0 (k_Q X ad (some (.int out)) (k_ap [] (shM, I, L, Rf))) ad (k_ap [] (shM, I, L, Rf)) 4 [some (.ref 0), some (.int v1), some (.int v2)] []) : ∀ (v2 : Int32), bX11_pickNow_64 u c0_25 c0_26 c0_27 a7 a8 a21 k4 v2 = some out → k_W X 3 0 0 (k_Q X ad (some (.int out)) (k_ap [] (shM, I, L, Rf))) ad (k_ap [] (shM, I, L, Rf)) 64 [some (.ref 0), none, some (.int v2)] [] := by
  intro v2 h
  unfold bX11_pickNow_64 at h
  refine r_iload_n C dX11_pickNow_64 (rfl : 64 + 1 = 65) rfl ?_
  refine r_istore_n C dX11_pickNow_65 (rfl : 65 + 1 = 66) (by decide) (Nat.le_of_ble_eq_true rfl) ?_
  show k_W _ _ _ _ _ _ _ _ [some (.ref 0), some (.int v2), some (.int v2)] _
  refine k_mask [true, true, true] ?_
  exact sX11_pickNow_66 u C hr hR ec0_25 ec0_26 ec0_27 ea7 ea8 ea21 hk4 v2 v2 h
def bX11_pickNow_4 (u : Nat) (c0_25 : Int32) (c0_26 : Int32) (c0_27 : Int32) (a7 : (Nat → Int32)) (a8 : (Nat → Int32)) (a21 : (Nat → Int32)) : Nat → Int32 → Int32 → Option (Int32)
  | 0, _, _ => none
  | n + 1, v1, v2 => (if (48 : Int32) ≤ v2 then some v1 else k_b (f_X11_isIn u c0_25 c0_26 (v2 - v2 / (8 : Int32) * (8 : Int32)) (v2 / (8 : Int32))) (fun r19 => (if r19 = (0 : Int32) then (bX11_pickNow_66 u c0_25 c0_26 c0_27 a7 a8 a21 (bX11_pickNow_4 u c0_25 c0_26 c0_27 a7 a8 a21 n) v1 v2) else k_i 48 v2 ((if (a7 ((v2).toNatClampNeg)) = (5 : Int32) then (bX11_pickNow_66 u c0_25 c0_26 c0_27 a7 a8 a21 (bX11_pickNow_4 u c0_25 c0_26 c0_27 a7 a8 a21 n) v1 v2) else k_b (f_X11_whyNot u c0_25 c0_26 c0_27 a21 v2) (fun r37 => (if r37 = (0 : Int32) then (if v1 = (-1 : Int32) then (bX11_pickNow_64 u c0_25 c0_26 c0_27 a7 a8 a21 (bX11_pickNow_4 u c0_25 c0_26 c0_27 a7 a8 a21 n) v2) else k_b (f_X11_barsIn u a8 a21 v2) (fun r53 => k_b (f_X11_barsIn u a8 a21 v1) (fun r58 => (if r53 ≤ r58 then (bX11_pickNow_66 u c0_25 c0_26 c0_27 a7 a8 a21 (bX11_pickNow_4 u c0_25 c0_26 c0_27 a7 a8 a21 n) v1 v2) else (bX11_pickNow_64 u c0_25 c0_26 c0_27 a7 a8 a21 (bX11_pickNow_4 u c0_25 c0_26 c0_27 a7 a8 a21 n) v2))))) else (bX11_pickNow_66 u c0_25 c0_26 c0_27 a7 a8 a21 (bX11_pickNow_4 u c0_25 c0_26 c0_27 a7 a8 a21 n) v1 v2))))))))
set_option maxHeartbeats 400000 in
set_option maxRecDepth 100000 in
theorem sX11_pickNow_4 (u : Nat) {X : k_X} {ad : Nat → Nat} (C : k_C X cX11_pickNow RX11 3 ad) (hr : X.meth.sig.returnType = (some .int)) (hR : X.R.frames = 4 ∧ X.R.locals = 88) {I : Nat → Nat → Int32} {L : Nat → Nat → Int64} {Rf : Nat → Nat → Option Nat} {c0_25 : Int32} (ec0_25 : I 0 25 = c0_25) {c0_26 : Int32} (ec0_26 : I 0 26 = c0_26) {c0_27 : Int32} (ec0_27 : I 0 27 = c0_27) {a7 : (Nat → Int32)} (ea7 : I 7 = a7) {a8 : (Nat → Int32)} (ea8 : I 8 = a8) {a21 : (Nat → Int32)} (ea21 : I 21 = a21) {out : Int32} : ∀ (n : Nat) (v1 : Int32) (v2 : Int32), bX11_pickNow_4 u c0_25 c0_26 c0_27 a7 a8 a21 n v1 v2 = some out → k_W X 3 0 0 (k_Q X ad (some (.int out)) (k_ap [] (shM, I, L, Rf))) ad (k_ap [] (shM, I, L, Rf)) 4 [some (.ref 0), some (.int v1), some (.int v2)] [] := by
  intro n
  induction n with
  | zero => intro v1 v2 h; cases h
  | succ n ih =>
    intro v1 v2 h
    refine r_iload_n C dX11_pickNow_4 (rfl : 4 + 1 = 5) rfl ?_
    refine r_bipush (v := (48 : Int32)) C dX11_pickNow_5 (rfl : 5 + 2 = 7) rfl ?_
    refine r_icmp_ge (tgt := 72) C dX11_pickNow_7 (by decide) (rfl : 7 + 3 = 10) (fun c7 => ?_) (fun c7 => ?_)
    · have h := k_t c7 h
      refine r_iload_n C dX11_pickNow_72 (rfl : 72 + 1 = 73) rfl ?_
      cases h
      exact r_iret C hr dX11_pickNow_73
    · have h := k_f c7 h
      refine r_aload_n C dX11_pickNow_10 (rfl : 10 + 1 = 11) rfl ?_
      refine r_iload_n C dX11_pickNow_11 (rfl : 11 + 1 = 12) rfl ?_
      refine r_bipush (v := (8 : Int32)) C dX11_pickNow_12 (rfl : 12 + 2 = 14) rfl ?_
      refine r_irem C dX11_pickNow_14 (rfl : 14 + 1 = 15) (by decide) ?_
      refine r_iload_n C dX11_pickNow_15 (rfl : 15 + 1 = 16) rfl ?_
      refine r_bipush (v := (8 : Int32)) C dX11_pickNow_16 (rfl : 16 + 2 = 18) rfl ?_
      refine r_idiv C dX11_pickNow_18 (rfl : 18 + 1 = 19) (by decide) ?_
      obtain ⟨r19, q19, h⟩ := k_b_of h
      refine d_V (As := [.int (v2 - v2 / (8 : Int32) * (8 : Int32)), .int (v2 / (8 : Int32))]) (st := []) (st' := [.int r19]) (h' := k_ap [] (shM, I, L, Rf)) C hR ⟨Nat.zero_le _, Nat.zero_le _⟩ mv_X11_isIn lk_X11_363 dX11_pickNow_19 (rfl : 19 + 3 = 22) rfl rfl rfl rfl (c_X11_isIn X.l u (k_ap [] (shM, I, L, Rf)) rfl ec0_25 ec0_26 q19) rfl rfl rfl rfl rfl ?_
      refine r_if_eq (tgt := 66) C dX11_pickNow_22 (by decide) (rfl : 22 + 3 = 25) (fun c22 => ?_) (fun c22 => ?_)
      · have h := k_t c22 h
        refine k_mask [true, true, true] ?_
        exact sX11_pickNow_66 u C hr hR ec0_25 ec0_26 ec0_27 ea7 ea8 ea21 ih v1 v2 h
      · have h := k_f c22 h
        refine r_aload_n C dX11_pickNow_25 (rfl : 25 + 1 = 26) rfl ?_
        refine r_getR (q := 7) C dX11_pickNow_26 (rfl : 26 + 3 = 29) fl_X11_35 rfl rfl ?_
        refine r_iload_n C dX11_pickNow_29 (rfl : 29 + 1 = 30) rfl ?_
        obtain ⟨hi30, h⟩ := k_i_of h
        refine a_i (j := (v2).toNatClampNeg) (f := a7) C dX11_pickNow_30 (rfl : 30 + 1 = 31) rfl ea7 hi30 rfl ?_
        refine r_iconst (v := (5 : Int32)) C dX11_pickNow_31 (rfl : 31 + 1 = 32) rfl ?_
        refine r_icmp_eq (tgt := 66) C dX11_pickNow_32 (by decide) (rfl : 32 + 3 = 35) (fun c32 => ?_) (fun c32 => ?_)
        · have h := k_t c32 h
          refine k_mask [true, true, true] ?_
          exact sX11_pickNow_66 u C hr hR ec0_25 ec0_26 ec0_27 ea7 ea8 ea21 ih v1 v2 h
        · have h := k_f c32 h
          refine r_aload_n C dX11_pickNow_35 (rfl : 35 + 1 = 36) rfl ?_
          refine r_iload_n C dX11_pickNow_36 (rfl : 36 + 1 = 37) rfl ?_
          obtain ⟨r37, q37, h⟩ := k_b_of h
          refine d_V (As := [.int v2]) (st := []) (st' := [.int r37]) (h' := k_ap [] (shM, I, L, Rf)) C hR ⟨Nat.zero_le _, Nat.zero_le _⟩ mv_X11_whyNot lk_X11_409 dX11_pickNow_37 (rfl : 37 + 3 = 40) rfl rfl rfl rfl (c_X11_whyNot X.l u (k_ap [] (shM, I, L, Rf)) rfl ec0_25 ec0_26 ec0_27 ea21 q37) rfl rfl rfl rfl rfl ?_
          refine r_if_eq (tgt := 46) C dX11_pickNow_40 (by decide) (rfl : 40 + 3 = 43) (fun c40 => ?_) (fun c40 => ?_)
          · have h := k_t c40 h
            refine r_iload_n C dX11_pickNow_46 (rfl : 46 + 1 = 47) rfl ?_
            refine r_iconst (v := (-1 : Int32)) C dX11_pickNow_47 (rfl : 47 + 1 = 48) rfl ?_
            refine r_icmp_eq (tgt := 64) C dX11_pickNow_48 (by decide) (rfl : 48 + 3 = 51) (fun c48 => ?_) (fun c48 => ?_)
            · have h := k_t c48 h
              refine k_mask [true, false, true] ?_
              exact sX11_pickNow_64 u C hr hR ec0_25 ec0_26 ec0_27 ea7 ea8 ea21 ih v2 h
            · have h := k_f c48 h
              refine r_aload_n C dX11_pickNow_51 (rfl : 51 + 1 = 52) rfl ?_
              refine r_iload_n C dX11_pickNow_52 (rfl : 52 + 1 = 53) rfl ?_
              obtain ⟨r53, q53, h⟩ := k_b_of h
              refine d_V (As := [.int v2]) (st := []) (st' := [.int r53]) (h' := k_ap [] (shM, I, L, Rf)) C hR ⟨Nat.zero_le _, Nat.zero_le _⟩ mv_X11_barsIn lk_X11_437 dX11_pickNow_53 (rfl : 53 + 3 = 56) rfl rfl rfl rfl (c_X11_barsIn X.l u (k_ap [] (shM, I, L, Rf)) rfl ea8 ea21 q53) rfl rfl rfl rfl rfl ?_
              refine r_aload_n C dX11_pickNow_56 (rfl : 56 + 1 = 57) rfl ?_
              refine r_iload_n C dX11_pickNow_57 (rfl : 57 + 1 = 58) rfl ?_
              obtain ⟨r58, q58, h⟩ := k_b_of h
              refine d_V (As := [.int v1]) (st := [.int r53]) (st' := [.int r58, .int r53]) (h' := k_ap [] (shM, I, L, Rf)) C hR ⟨Nat.zero_le _, Nat.zero_le _⟩ mv_X11_barsIn lk_X11_437 dX11_pickNow_58 (rfl : 58 + 3 = 61) rfl rfl rfl rfl (c_X11_barsIn X.l u (k_ap [] (shM, I, L, Rf)) rfl ea8 ea21 q58) rfl rfl rfl rfl rfl ?_
              refine r_icmp_le (tgt := 66) C dX11_pickNow_61 (by decide) (rfl : 61 + 3 = 64) (fun c61 => ?_) (fun c61 => ?_)
              · have h := k_t c61 h
                refine k_mask [true, true, true] ?_
                exact sX11_pickNow_66 u C hr hR ec0_25 ec0_26 ec0_27 ea7 ea8 ea21 ih v1 v2 h
              · have h := k_f c61 h
                refine k_mask [true, false, true] ?_
                exact sX11_pickNow_64 u C hr hR ec0_25 ec0_26 ec0_27 ea7 ea8 ea21 ih v2 h
          · have h := k_f c40 h
            refine r_goto (tgt := 66) C dX11_pickNow_43 (by decide) ?_
            refine k_mask [true, true, true] ?_
            exact sX11_pickNow_66 u C hr hR ec0_25 ec0_26 ec0_27 ea7 ea8 ea21 ih v1 v2 h
def f_X11_pickNow (u : Nat) (c0_25 : Int32) (c0_26 : Int32) (c0_27 : Int32) (a7 : (Nat → Int32)) (a8 : (Nat → Int32)) (a21 : (Nat → Int32)) : Option (Int32) := (bX11_pickNow_4 u c0_25 c0_26 c0_27 a7 a8 a21 u (-1 : Int32) (0 : Int32))
set_option maxHeartbeats 400000 in
set_option maxRecDepth 100000 in
theorem c_X11_pickNow (l : Launch) (u : Nat) (h : k_H) (hsh : h.1 = shM) {c0_25 : Int32} (ec0_25 : h.2.1 0 25 = c0_25) {c0_26 : Int32} (ec0_26 : h.2.1 0 26 = c0_26) {c0_27 : Int32} (ec0_27 : h.2.1 0 27 = c0_27) {a7 : (Nat → Int32)} (ea7 : h.2.1 7 = a7) {a8 : (Nat → Int32)} (ea8 : h.2.1 8 = a8) {a21 : (Nat → Int32)} (ea21 : h.2.1 21 = a21) {out : Int32} (hf : f_X11_pickNow u c0_25 c0_26 c0_27 a7 a8 a21 = some out) : k_CT l yX11_pickNow cX11_pickNow 3 (some .int) 4 88 [.ref 0] h (some (.int out)) [] := by
  obtain ⟨sh, I, L, Rf⟩ := h
  obtain rfl : sh = shM := hsh
  refine k_ofW (by decide) (Nat.le_of_ble_eq_true rfl) ?_
  intro X ad hl hR0 hr C
  have hR : X.R.frames = 4 ∧ X.R.locals = 88 := by rw [hR0]; exact ⟨rfl, rfl⟩
  have h := hf
  unfold f_X11_pickNow at h
  refine k_start (us := []) k_ap_0 ?_
  show k_W X 3 0 0 _ ad (k_ap [] (shM, I, L, Rf)) 0 [some (.ref 0), none, none] []
  refine r_iconst (v := (-1 : Int32)) C dX11_pickNow_0 (rfl : 0 + 1 = 1) rfl ?_
  refine r_istore_n C dX11_pickNow_1 (rfl : 1 + 1 = 2) (by decide) (Nat.le_of_ble_eq_true rfl) ?_
  show k_W _ _ _ _ _ _ _ _ [some (.ref 0), some (.int (-1 : Int32)), none] _
  refine r_iconst (v := (0 : Int32)) C dX11_pickNow_2 (rfl : 2 + 1 = 3) rfl ?_
  refine r_istore_n C dX11_pickNow_3 (rfl : 3 + 1 = 4) (by decide) (Nat.le_of_ble_eq_true rfl) ?_
  show k_W _ _ _ _ _ _ _ _ [some (.ref 0), some (.int (-1 : Int32)), some (.int (0 : Int32))] _
  refine k_mask [true, true, true] ?_
  exact sX11_pickNow_4 u C hr hR ec0_25 ec0_26 ec0_27 ea7 ea8 ea21 u (-1 : Int32) (0 : Int32) h
/-! LullabyPitModel.pick()I -/
theorem ds_X11_pick : k_ds [(0, 0, 0), (21, 2, 0)] = true := by decide
def f_X11_pick (u : Nat) (c0_0 : Int32) (c0_25 : Int32) (c0_26 : Int32) (c0_27 : Int32) (a7 : (Nat → Int32)) (a8 : (Nat → Int32)) (a20 : (Nat → Int32)) (a21 : (Nat → Int32)) : Option (Int32 × Int32 × (Nat → Int32)) := k_b (f_X11_take u a20 a21) (fun r6 => k_b (f_X11_pickNow u c0_25 c0_26 c0_27 a7 a8 r6) (fun r10 => some (r10, (0 : Int32), r6)))
set_option maxHeartbeats 400000 in
set_option maxRecDepth 100000 in
theorem c_X11_pick (l : Launch) (u : Nat) (h : k_H) (hsh : h.1 = shM) {c0_0 : Int32} (ec0_0 : h.2.1 0 0 = c0_0) {c0_25 : Int32} (ec0_25 : h.2.1 0 25 = c0_25) {c0_26 : Int32} (ec0_26 : h.2.1 0 26 = c0_26) {c0_27 : Int32} (ec0_27 : h.2.1 0 27 = c0_27) {a7 : (Nat → Int32)} (ea7 : h.2.1 7 = a7) {a8 : (Nat → Int32)} (ea8 : h.2.1 8 = a8) {a20 : (Nat → Int32)} (ea20 : h.2.1 20 = a20) {a21 : (Nat → Int32)} (ea21 : h.2.1 21 = a21) {out : Int32 × Int32 × (Nat → Int32)} (hf : f_X11_pick u c0_0 c0_25 c0_26 c0_27 a7 a8 a20 a21 = some out) : k_CT l yX11_pick cX11_pick 1 (some .int) 5 110 [.ref 0] h (some (.int out.1)) [(0, .inl (0, out.2.1)), (21, .inr (.inr (.inl out.2.2)))] := by
  obtain ⟨sh, I, L, Rf⟩ := h
  obtain rfl : sh = shM := hsh
  obtain rfl := ec0_0
  obtain rfl := ea21
  refine k_ofW (by decide) (Nat.le_of_ble_eq_true rfl) ?_
  intro X ad hl hR0 hr C
  have hR : X.R.frames = 5 ∧ X.R.locals = 110 := by rw [hR0]; exact ⟨rfl, rfl⟩
  have h := hf
  unfold f_X11_pick at h
  refine k_start (us := [(0, .inl (0, I 0 0)), (21, .inr (.inr (.inl (I 21))))]) (k_ap_I (k_ap_A k_ap_0)) ?_
  show k_W X 1 0 0 _ ad (k_ap [(0, .inl (0, I 0 0)), (21, .inr (.inr (.inl (I 21))))] (shM, I, L, Rf)) 0 [some (.ref 0)] []
  refine r_aload_n C dX11_pick_0 (rfl : 0 + 1 = 1) rfl ?_
  refine r_iconst (v := (0 : Int32)) C dX11_pick_1 (rfl : 1 + 1 = 2) rfl ?_
  refine p_I (us' := [(0, .inl (0, (0 : Int32))), (21, .inr (.inr (.inl (I 21))))]) C dX11_pick_2 (rfl : 2 + 3 = 5) fp_X11_3 rfl rfl ds_X11_pick rfl rfl rfl ?_
  refine r_aload_n C dX11_pick_5 (rfl : 5 + 1 = 6) rfl ?_
  obtain ⟨r6, q6, h⟩ := k_b_of h
  refine d_V (As := []) (st := []) (st' := []) (h' := k_ap [(0, .inl (0, (0 : Int32))), (21, .inr (.inr (.inl r6)))] (shM, I, L, Rf)) C hR ⟨Nat.zero_le _, Nat.zero_le _⟩ mv_X11_take lk_X11_345 dX11_pick_6 (rfl : 6 + 3 = 9) rfl rfl rfl rfl (c_X11_take X.l u (k_ap [(0, .inl (0, (0 : Int32))), (21, .inr (.inr (.inl (I 21))))] (shM, I, L, Rf)) rfl ea20 rfl q6) rfl rfl rfl (k_jn (us' := [(0, .inl (0, (0 : Int32))), (21, .inr (.inr (.inl r6)))]) ds_X11_pick rfl rfl rfl) rfl ?_
  refine r_aload_n C dX11_pick_9 (rfl : 9 + 1 = 10) rfl ?_
  obtain ⟨r10, q10, h⟩ := k_b_of h
  refine d_V (As := []) (st := []) (st' := [.int r10]) (h' := k_ap [(0, .inl (0, (0 : Int32))), (21, .inr (.inr (.inl r6)))] (shM, I, L, Rf)) C hR ⟨Nat.zero_le _, Nat.zero_le _⟩ mv_X11_pickNow lk_X11_474 dX11_pick_10 (rfl : 10 + 3 = 13) rfl rfl rfl rfl (c_X11_pickNow X.l u (k_ap [(0, .inl (0, (0 : Int32))), (21, .inr (.inr (.inl r6)))] (shM, I, L, Rf)) rfl ec0_25 ec0_26 ec0_27 ea7 ea8 rfl q10) rfl rfl rfl rfl rfl ?_
  cases h
  exact r_iret C hr dX11_pick_13
/-! LullabyPitModel.draws()I -/
theorem ds_X11_draws : k_ds [(0, 0, 62)] = true := by decide
def f_X11_draws (u : Nat) (c0_62 : Int32) : Option (Int32 × Int32) := some ((((((c0_62 * (1103515245 : Int32)) + (12345 : Int32)) >>> ((16 : Int32) &&& 31)) &&& (32767 : Int32)) - ((((c0_62 * (1103515245 : Int32)) + (12345 : Int32)) >>> ((16 : Int32) &&& 31)) &&& (32767 : Int32)) / (16 : Int32) * (16 : Int32)), ((c0_62 * (1103515245 : Int32)) + (12345 : Int32)))
set_option maxHeartbeats 400000 in
set_option maxRecDepth 100000 in
theorem c_X11_draws (l : Launch) (u : Nat) (h : k_H) (hsh : h.1 = shM) {c0_62 : Int32} (ec0_62 : h.2.1 0 62 = c0_62) {out : Int32 × Int32} (hf : f_X11_draws u c0_62 = some out) : k_CT l yX11_draws cX11_draws 1 (some .int) 0 0 [.ref 0] h (some (.int out.1)) [(0, .inl (62, out.2))] := by
  obtain ⟨sh, I, L, Rf⟩ := h
  obtain rfl : sh = shM := hsh
  obtain rfl := ec0_62
  refine k_ofW (by decide) (Nat.le_of_ble_eq_true rfl) ?_
  intro X ad hl hR0 hr C
  have hR : X.R.frames = 0 ∧ X.R.locals = 0 := by rw [hR0]; exact ⟨rfl, rfl⟩
  have h := hf
  unfold f_X11_draws at h
  refine k_start (us := [(0, .inl (62, I 0 62))]) (k_ap_I k_ap_0) ?_
  show k_W X 1 0 0 _ ad (k_ap [(0, .inl (62, I 0 62))] (shM, I, L, Rf)) 0 [some (.ref 0)] []
  refine r_aload_n C dX11_draws_0 (rfl : 0 + 1 = 1) rfl ?_
  refine r_aload_n C dX11_draws_1 (rfl : 1 + 1 = 2) rfl ?_
  refine r_getI (v := (I 0 62)) C dX11_draws_2 (rfl : 2 + 3 = 5) fl_X11_477 rfl rfl rfl ?_
  refine r_ldcw C dX11_draws_5 (rfl : 5 + 3 = 8) ct_X11_480 ?_
  refine r_imul C dX11_draws_8 (rfl : 8 + 1 = 9) ?_
  refine r_sipush (v := (12345 : Int32)) C dX11_draws_9 (rfl : 9 + 3 = 12) rfl ?_
  refine r_iadd C dX11_draws_12 (rfl : 12 + 1 = 13) ?_
  refine p_I (us' := [(0, .inl (62, (((I 0 62) * (1103515245 : Int32)) + (12345 : Int32))))]) C dX11_draws_13 (rfl : 13 + 3 = 16) fp_X11_477 rfl rfl ds_X11_draws rfl rfl rfl ?_
  refine r_aload_n C dX11_draws_16 (rfl : 16 + 1 = 17) rfl ?_
  refine r_getI (v := (((I 0 62) * (1103515245 : Int32)) + (12345 : Int32))) C dX11_draws_17 (rfl : 17 + 3 = 20) fl_X11_477 rfl rfl rfl ?_
  refine r_bipush (v := (16 : Int32)) C dX11_draws_20 (rfl : 20 + 2 = 22) rfl ?_
  refine r_ishr C dX11_draws_22 (rfl : 22 + 1 = 23) ?_
  refine r_sipush (v := (32767 : Int32)) C dX11_draws_23 (rfl : 23 + 3 = 26) rfl ?_
  refine r_iand C dX11_draws_26 (rfl : 26 + 1 = 27) ?_
  refine r_bipush (v := (16 : Int32)) C dX11_draws_27 (rfl : 27 + 2 = 29) rfl ?_
  refine r_irem C dX11_draws_29 (rfl : 29 + 1 = 30) (by decide) ?_
  cases h
  exact r_iret C hr dX11_draws_30
/-! LullabyPitModel.goesOn(III)V -/
theorem ds_X11_goesOn : k_ds [(0, 0, 62), (0, 0, 63), (16, 2, 0), (17, 2, 0), (21, 2, 0), (23, 2, 0), (24, 2, 0)] = true := by decide
def bX11_goesOn_106 (u : Nat) (c0_25 : Int32) (c0_26 : Int32) (c0_27 : Int32) (c0_28 : Int32) (c0_30 : Int32) (a7 : (Nat → Int32)) (a8 : (Nat → Int32)) (a9 : (Nat → Int32)) (a10 : (Nat → Int32)) (a13 : (Nat → Int32)) (a14 : (Nat → Int32)) (a15 : (Nat → Int32)) (a20 : (Nat → Int32)) (k17 : Int32 → Int32 → (Nat → Int32) → (Nat → Int32) → (Nat → Int32) → (Nat → Int32) → (Nat → Int32) → Int32 → Int32 → Int32 → Option (Int32 × Int32 × (Nat → Int32) × (Nat → Int32) × (Nat → Int32) × (Nat → Int32) × (Nat → Int32))) (c0_62 : Int32) (c0_63 : Int32) (a16 : (Nat → Int32)) (a17 : (Nat → Int32)) (a21 : (Nat → Int32)) (a23 : (Nat → Int32)) (a24 : (Nat → Int32)) (v2 : Int32) (v3 : Int32) (v4 : Int32) : Option (Int32 × Int32 × (Nat → Int32) × (Nat → Int32) × (Nat → Int32) × (Nat → Int32) × (Nat → Int32)) := k_b (f_X11_next u c0_30 a9 a10 a21 a24) (fun r107 => (k17 c0_62 c0_63 a16 a17 r107.2.1 a23 r107.2.2 v2 v3 (v4 + (1 : Int32))))
set_option maxHeartbeats 400000 in
set_option maxRecDepth 100000 in
theorem sX11_goesOn_106 (u : Nat) {X : k_X} {ad : Nat → Nat} (C : k_C X cX11_goesOn RX11 6 ad) (hr : X.meth.sig.returnType = none) (hR : X.R.frames = 6 ∧ X.R.locals = 133) {I : Nat → Nat → Int32} {L : Nat → Nat → Int64} {Rf : Nat → Nat → Option Nat} {c0_25 : Int32} (ec0_25 : I 0 25 = c0_25) {c0_26 : Int32} (ec0_26 : I 0 26 = c0_26) {c0_27 : Int32} (ec0_27 : I 0 27 = c0_27) {c0_28 : Int32} (ec0_28 : I 0 28 = c0_28) {c0_30 : Int32} (ec0_30 : I 0 30 = c0_30) {a7 : (Nat → Int32)} (ea7 : I 7 = a7) {a8 : (Nat → Int32)} (ea8 : I 8 = a8) {a9 : (Nat → Int32)} (ea9 : I 9 = a9) {a10 : (Nat → Int32)} (ea10 : I 10 = a10) {a13 : (Nat → Int32)} (ea13 : I 13 = a13) {a14 : (Nat → Int32)} (ea14 : I 14 = a14) {a15 : (Nat → Int32)} (ea15 : I 15 = a15) {a20 : (Nat → Int32)} (ea20 : I 20 = a20) {out : Int32 × Int32 × (Nat → Int32) × (Nat → Int32) × (Nat → Int32) × (Nat → Int32) × (Nat → Int32)} {k17 : Int32 → Int32 → (Nat → Int32) → (Nat → Int32) → (Nat → Int32) → (Nat → Int32) → (Nat → Int32) → Int32 → Int32 → Int32 → Option (Int32 × Int32 × (Nat → Int32) × (Nat → Int32) × (Nat → Int32) × (Nat → Int32) × (Nat → Int32))} (hk17 : ∀ (c0_62 : Int32) (c0_63 : Int32) (a16 : (Nat → Int32)) (a17 : (Nat → Int32)) (a21 : (Nat → Int32)) (a23 : (Nat → Int32)) (a24 : (Nat → Int32)) (v2 : Int32) (v3 : Int32) (v4 : Int32), k17 c0_62 c0_63 a16 a17 a21 a23 a24 v2 v3 v4 = some out → k_W X 6 0 0 (k_Q X ad none (k_ap [(0, .inl (62, out.1)), (0, .inl (63, out.2.1)), (16, .inr (.inr (.inl out.2.2.1))), (17, .inr (.inr (.inl out.2.2.2.1))), (21, .inr (.inr (.inl out.2.2.2.2.1))), (23, .inr (.inr (.inl out.2.2.2.2.2.1))), (24, .inr (.inr (.inl out.2.2.2.2.2.2)))] (shM, I, L, Rf))) ad (k_ap [(0, .inl (62, c0_62)), (0, .inl (63, c0_63)), (16, .inr (.inr (.inl a16))), (17, .inr (.inr (.inl a17))), (21, .inr (.inr (.inl a21))), (23, .inr (.inr (.inl a23))), (24, .inr (.inr (.inl a24)))] (shM, I, L, Rf)) 17 [some (.ref 0), none, some (.int v2), some (.int v3), some (.int v4), none] []) : ∀ (c0_62 : Int32) (c0_63 : Int32) (a16 : (Nat → Int32)) (a17 : (Nat → Int32)) (a21 : (Nat → Int32)) (a23 : (Nat → Int32)) (a24 : (Nat → Int32)) (v2 : Int32) (v3 : Int32) (v4 : Int32), bX11_goesOn_106 u c0_25 c0_26 c0_27 c0_28 c0_30 a7 a8 a9 a10 a13 a14 a15 a20 k17 c0_62 c0_63 a16 a17 a21 a23 a24 v2 v3 v4 = some out → k_W X 6 0 0 (k_Q X ad none (k_ap [(0, .inl (62, out.1)), (0, .inl (63, out.2.1)), (16, .inr (.inr (.inl out.2.2.1))), (17, .inr (.inr (.inl out.2.2.2.1))), (21, .inr (.inr (.inl out.2.2.2.2.1))), (23, .inr (.inr (.inl out.2.2.2.2.2.1))), (24, .inr (.inr (.inl out.2.2.2.2.2.2)))] (shM, I, L, Rf))) ad (k_ap [(0, .inl (62, c0_62)), (0, .inl (63, c0_63)), (16, .inr (.inr (.inl a16))), (17, .inr (.inr (.inl a17))), (21, .inr (.inr (.inl a21))), (23, .inr (.inr (.inl a23))), (24, .inr (.inr (.inl a24)))] (shM, I, L, Rf)) 106 [some (.ref 0), none, some (.int v2), some (.int v3), some (.int v4), none] [] := by
  intro c0_62 c0_63 a16 a17 a21 a23 a24 v2 v3 v4 h
  unfold bX11_goesOn_106 at h
  refine r_aload_n C dX11_goesOn_106 (rfl : 106 + 1 = 107) rfl ?_
  obtain ⟨r107, q107, h⟩ := k_b_of h
  refine d_V (As := []) (st := []) (st' := [.int r107.1]) (h' := k_ap [(0, .inl (62, c0_62)), (0, .inl (63, c0_63)), (16, .inr (.inr (.inl a16))), (17, .inr (.inr (.inl a17))), (21, .inr (.inr (.inl r107.2.1))), (23, .inr (.inr (.inl a23))), (24, .inr (.inr (.inl r107.2.2)))] (shM, I, L, Rf)) C hR ⟨Nat.zero_le _, Nat.zero_le _⟩ mv_X11_next lk_X11_406 dX11_goesOn_107 (rfl : 107 + 3 = 110) rfl rfl rfl rfl (c_X11_next X.l u (k_ap [(0, .inl (62, c0_62)), (0, .inl (63, c0_63)), (16, .inr (.inr (.inl a16))), (17, .inr (.inr (.inl a17))), (21, .inr (.inr (.inl a21))), (23, .inr (.inr (.inl a23))), (24, .inr (.inr (.inl a24)))] (shM, I, L, Rf)) rfl ec0_30 ea9 ea10 rfl rfl q107) rfl rfl rfl (k_jn (us' := [(0, .inl (62, c0_62)), (0, .inl (63, c0_63)), (16, .inr (.inr (.inl a16))), (17, .inr (.inr (.inl a17))), (21, .inr (.inr (.inl r107.2.1))), (23, .inr (.inr (.inl a23))), (24, .inr (.inr (.inl r107.2.2)))]) ds_X11_goesOn rfl rfl rfl) rfl ?_
  refine r_pop C dX11_goesOn_110 (rfl : 110 + 1 = 111) rfl ?_
  refine r_iinc (v := (v4 + (1 : Int32))) C dX11_goesOn_111 (rfl : 111 + 3 = 114) rfl rfl (by decide) ?_
  show k_W _ _ _ _ _ _ _ _ [some (.ref 0), none, some (.int v2), some (.int v3), some (.int (v4 + (1 : Int32))), none] _
  refine r_goto (tgt := 17) C dX11_goesOn_114 (by decide) ?_
  refine k_mask [true, false, true, true, true, false] ?_
  exact hk17 c0_62 c0_63 a16 a17 r107.2.1 a23 r107.2.2 v2 v3 (v4 + (1 : Int32)) h
def bX11_goesOn_57 (u : Nat) (c0_25 : Int32) (c0_26 : Int32) (c0_27 : Int32) (c0_28 : Int32) (c0_30 : Int32) (a7 : (Nat → Int32)) (a8 : (Nat → Int32)) (a9 : (Nat → Int32)) (a10 : (Nat → Int32)) (a13 : (Nat → Int32)) (a14 : (Nat → Int32)) (a15 : (Nat → Int32)) (a20 : (Nat → Int32)) (k17 : Int32 → Int32 → (Nat → Int32) → (Nat → Int32) → (Nat → Int32) → (Nat → Int32) → (Nat → Int32) → Int32 → Int32 → Int32 → Option (Int32 × Int32 × (Nat → Int32) × (Nat → Int32) × (Nat → Int32) × (Nat → Int32) × (Nat → Int32))) : Nat → Int32 → Int32 → (Nat → Int32) → (Nat → Int32) → (Nat → Int32) → (Nat → Int32) → (Nat → Int32) → Int32 → Int32 → Int32 → Int32 → Option (Int32 × Int32 × (Nat → Int32) × (Nat → Int32) × (Nat → Int32) × (Nat → Int32) × (Nat → Int32))
  | 0, _, _, _, _, _, _, _, _, _, _, _ => none
  | n + 1, c0_62, c0_63, a16, a17, a21, a23, a24, v2, v3, v4, v5 => (if v5 = (0 : Int32) then (if c0_28 ≤ (a21 70) then (bX11_goesOn_106 u c0_25 c0_26 c0_27 c0_28 c0_30 a7 a8 a9 a10 a13 a14 a15 a20 k17 c0_62 c0_63 a16 a17 a21 a23 a24 v2 v3 v4) else k_b (f_X11_pickNow u c0_25 c0_26 c0_27 a7 a8 a21) (fun r77 => (if r77 = (-1 : Int32) then (bX11_goesOn_106 u c0_25 c0_26 c0_27 c0_28 c0_30 a7 a8 a9 a10 a13 a14 a15 a20 k17 c0_62 c0_63 a16 a17 a21 a23 a24 v2 v3 v4) else k_b (f_X11_pickNow u c0_25 c0_26 c0_27 a7 a8 (upd a21 70 ((a21 70) + (1 : Int32)))) (fun r97 => k_b (f_X11_digs u c0_25 c0_26 a7 a8 a13 a14 a15 a16 a17 (upd a21 70 ((a21 70) + (1 : Int32))) a23 r97) (fun r100 => (bX11_goesOn_57 u c0_25 c0_26 c0_27 c0_28 c0_30 a7 a8 a9 a10 a13 a14 a15 a20 k17 n c0_62 c0_63 r100.1 r100.2.1 r100.2.2.1 r100.2.2.2 a24 v2 v3 v4 v5)))))) else (bX11_goesOn_106 u c0_25 c0_26 c0_27 c0_28 c0_30 a7 a8 a9 a10 a13 a14 a15 a20 k17 c0_62 c0_63 a16 a17 a21 a23 a24 v2 v3 v4))
set_option maxHeartbeats 400000 in
set_option maxRecDepth 100000 in
theorem sX11_goesOn_57 (u : Nat) {X : k_X} {ad : Nat → Nat} (C : k_C X cX11_goesOn RX11 6 ad) (hr : X.meth.sig.returnType = none) (hR : X.R.frames = 6 ∧ X.R.locals = 133) {I : Nat → Nat → Int32} {L : Nat → Nat → Int64} {Rf : Nat → Nat → Option Nat} {c0_25 : Int32} (ec0_25 : I 0 25 = c0_25) {c0_26 : Int32} (ec0_26 : I 0 26 = c0_26) {c0_27 : Int32} (ec0_27 : I 0 27 = c0_27) {c0_28 : Int32} (ec0_28 : I 0 28 = c0_28) {c0_30 : Int32} (ec0_30 : I 0 30 = c0_30) {a7 : (Nat → Int32)} (ea7 : I 7 = a7) {a8 : (Nat → Int32)} (ea8 : I 8 = a8) {a9 : (Nat → Int32)} (ea9 : I 9 = a9) {a10 : (Nat → Int32)} (ea10 : I 10 = a10) {a13 : (Nat → Int32)} (ea13 : I 13 = a13) {a14 : (Nat → Int32)} (ea14 : I 14 = a14) {a15 : (Nat → Int32)} (ea15 : I 15 = a15) {a20 : (Nat → Int32)} (ea20 : I 20 = a20) {out : Int32 × Int32 × (Nat → Int32) × (Nat → Int32) × (Nat → Int32) × (Nat → Int32) × (Nat → Int32)} {k17 : Int32 → Int32 → (Nat → Int32) → (Nat → Int32) → (Nat → Int32) → (Nat → Int32) → (Nat → Int32) → Int32 → Int32 → Int32 → Option (Int32 × Int32 × (Nat → Int32) × (Nat → Int32) × (Nat → Int32) × (Nat → Int32) × (Nat → Int32))} (hk17 : ∀ (c0_62 : Int32) (c0_63 : Int32) (a16 : (Nat → Int32)) (a17 : (Nat → Int32)) (a21 : (Nat → Int32)) (a23 : (Nat → Int32)) (a24 : (Nat → Int32)) (v2 : Int32) (v3 : Int32) (v4 : Int32), k17 c0_62 c0_63 a16 a17 a21 a23 a24 v2 v3 v4 = some out → k_W X 6 0 0 (k_Q X ad none (k_ap [(0, .inl (62, out.1)), (0, .inl (63, out.2.1)), (16, .inr (.inr (.inl out.2.2.1))), (17, .inr (.inr (.inl out.2.2.2.1))), (21, .inr (.inr (.inl out.2.2.2.2.1))), (23, .inr (.inr (.inl out.2.2.2.2.2.1))), (24, .inr (.inr (.inl out.2.2.2.2.2.2)))] (shM, I, L, Rf))) ad (k_ap [(0, .inl (62, c0_62)), (0, .inl (63, c0_63)), (16, .inr (.inr (.inl a16))), (17, .inr (.inr (.inl a17))), (21, .inr (.inr (.inl a21))), (23, .inr (.inr (.inl a23))), (24, .inr (.inr (.inl a24)))] (shM, I, L, Rf)) 17 [some (.ref 0), none, some (.int v2), some (.int v3), some (.int v4), none] []) : ∀ (n : Nat) (c0_62 : Int32) (c0_63 : Int32) (a16 : (Nat → Int32)) (a17 : (Nat → Int32)) (a21 : (Nat → Int32)) (a23 : (Nat → Int32)) (a24 : (Nat → Int32)) (v2 : Int32) (v3 : Int32) (v4 : Int32) (v5 : Int32), bX11_goesOn_57 u c0_25 c0_26 c0_27 c0_28 c0_30 a7 a8 a9 a10 a13 a14 a15 a20 k17 n c0_62 c0_63 a16 a17 a21 a23 a24 v2 v3 v4 v5 = some out → k_W X 6 0 0 (k_Q X ad none (k_ap [(0, .inl (62, out.1)), (0, .inl (63, out.2.1)), (16, .inr (.inr (.inl out.2.2.1))), (17, .inr (.inr (.inl out.2.2.2.1))), (21, .inr (.inr (.inl out.2.2.2.2.1))), (23, .inr (.inr (.inl out.2.2.2.2.2.1))), (24, .inr (.inr (.inl out.2.2.2.2.2.2)))] (shM, I, L, Rf))) ad (k_ap [(0, .inl (62, c0_62)), (0, .inl (63, c0_63)), (16, .inr (.inr (.inl a16))), (17, .inr (.inr (.inl a17))), (21, .inr (.inr (.inl a21))), (23, .inr (.inr (.inl a23))), (24, .inr (.inr (.inl a24)))] (shM, I, L, Rf)) 57 [some (.ref 0), none, some (.int v2), some (.int v3), some (.int v4), some (.int v5)] [] := by
  intro n
  induction n with
  | zero => intro c0_62 c0_63 a16 a17 a21 a23 a24 v2 v3 v4 v5 h; cases h
  | succ n ih =>
    intro c0_62 c0_63 a16 a17 a21 a23 a24 v2 v3 v4 v5 h
    refine r_iload C dX11_goesOn_57 (rfl : 57 + 2 = 59) rfl ?_
    refine r_if_ne (tgt := 106) C dX11_goesOn_59 (by decide) (rfl : 59 + 3 = 62) (fun c59 => ?_) (fun c59 => ?_)
    · have h := k_f c59 h
      refine k_mask [true, false, true, true, true, false] ?_
      exact sX11_goesOn_106 u C hr hR ec0_25 ec0_26 ec0_27 ec0_28 ec0_30 ea7 ea8 ea9 ea10 ea13 ea14 ea15 ea20 hk17 c0_62 c0_63 a16 a17 a21 a23 a24 v2 v3 v4 h
    · have h := k_t c59 h
      refine r_aload_n C dX11_goesOn_62 (rfl : 62 + 1 = 63) rfl ?_
      refine r_getR (q := 21) C dX11_goesOn_63 (rfl : 63 + 3 = 66) fl_X11_77 rfl rfl ?_
      refine r_bipush (v := (70 : Int32)) C dX11_goesOn_66 (rfl : 66 + 2 = 68) rfl ?_
      refine a_i (j := 70) (f := a21) C dX11_goesOn_68 (rfl : 68 + 1 = 69) rfl rfl (show ¬ ((70 : Int32) < 0 ∨ 77 ≤ ((70 : Int32)).toNatClampNeg) by decide) rfl ?_
      refine r_aload_n C dX11_goesOn_69 (rfl : 69 + 1 = 70) rfl ?_
      refine r_getI (v := c0_28) C dX11_goesOn_70 (rfl : 70 + 3 = 73) fl_X11_193 rfl rfl ec0_28 ?_
      refine r_icmp_ge (tgt := 106) C dX11_goesOn_73 (by decide) (rfl : 73 + 3 = 76) (fun c73 => ?_) (fun c73 => ?_)
      · have h := k_t c73 h
        refine k_mask [true, false, true, true, true, false] ?_
        exact sX11_goesOn_106 u C hr hR ec0_25 ec0_26 ec0_27 ec0_28 ec0_30 ea7 ea8 ea9 ea10 ea13 ea14 ea15 ea20 hk17 c0_62 c0_63 a16 a17 a21 a23 a24 v2 v3 v4 h
      · have h := k_f c73 h
        refine r_aload_n C dX11_goesOn_76 (rfl : 76 + 1 = 77) rfl ?_
        obtain ⟨r77, q77, h⟩ := k_b_of h
        refine d_V (As := []) (st := []) (st' := [.int r77]) (h' := k_ap [(0, .inl (62, c0_62)), (0, .inl (63, c0_63)), (16, .inr (.inr (.inl a16))), (17, .inr (.inr (.inl a17))), (21, .inr (.inr (.inl a21))), (23, .inr (.inr (.inl a23))), (24, .inr (.inr (.inl a24)))] (shM, I, L, Rf)) C hR ⟨Nat.zero_le _, Nat.zero_le _⟩ mv_X11_pickNow lk_X11_474 dX11_goesOn_77 (rfl : 77 + 3 = 80) rfl rfl rfl rfl (c_X11_pickNow X.l u (k_ap [(0, .inl (62, c0_62)), (0, .inl (63, c0_63)), (16, .inr (.inr (.inl a16))), (17, .inr (.inr (.inl a17))), (21, .inr (.inr (.inl a21))), (23, .inr (.inr (.inl a23))), (24, .inr (.inr (.inl a24)))] (shM, I, L, Rf)) rfl ec0_25 ec0_26 ec0_27 ea7 ea8 rfl q77) rfl rfl rfl rfl rfl ?_
        refine r_iconst (v := (-1 : Int32)) C dX11_goesOn_80 (rfl : 80 + 1 = 81) rfl ?_
        refine r_icmp_eq (tgt := 106) C dX11_goesOn_81 (by decide) (rfl : 81 + 3 = 84) (fun c81 => ?_) (fun c81 => ?_)
        · have h := k_t c81 h
          refine k_mask [true, false, true, true, true, false] ?_
          exact sX11_goesOn_106 u C hr hR ec0_25 ec0_26 ec0_27 ec0_28 ec0_30 ea7 ea8 ea9 ea10 ea13 ea14 ea15 ea20 hk17 c0_62 c0_63 a16 a17 a21 a23 a24 v2 v3 v4 h
        · have h := k_f c81 h
          refine r_aload_n C dX11_goesOn_84 (rfl : 84 + 1 = 85) rfl ?_
          refine r_getR (q := 21) C dX11_goesOn_85 (rfl : 85 + 3 = 88) fl_X11_77 rfl rfl ?_
          refine r_bipush (v := (70 : Int32)) C dX11_goesOn_88 (rfl : 88 + 2 = 90) rfl ?_
          refine r_dup2 C dX11_goesOn_90 (rfl : 90 + 1 = 91) rfl rfl ?_
          refine a_i (j := 70) (f := a21) C dX11_goesOn_91 (rfl : 91 + 1 = 92) rfl rfl (show ¬ ((70 : Int32) < 0 ∨ 77 ≤ ((70 : Int32)).toNatClampNeg) by decide) rfl ?_
          refine r_iconst (v := (1 : Int32)) C dX11_goesOn_92 (rfl : 92 + 1 = 93) rfl ?_
          refine r_iadd C dX11_goesOn_93 (rfl : 93 + 1 = 94) ?_
          refine s_i (j := 70) (f := a21) (us' := [(0, .inl (62, c0_62)), (0, .inl (63, c0_63)), (16, .inr (.inr (.inl a16))), (17, .inr (.inr (.inl a17))), (21, .inr (.inr (.inl (upd a21 70 ((a21 70) + (1 : Int32)))))), (23, .inr (.inr (.inl a23))), (24, .inr (.inr (.inl a24)))]) C dX11_goesOn_94 (rfl : 94 + 1 = 95) rfl rfl (show ¬ ((70 : Int32) < 0 ∨ 77 ≤ ((70 : Int32)).toNatClampNeg) by decide) rfl ds_X11_goesOn rfl rfl rfl ?_
          refine r_aload_n C dX11_goesOn_95 (rfl : 95 + 1 = 96) rfl ?_
          refine r_aload_n C dX11_goesOn_96 (rfl : 96 + 1 = 97) rfl ?_
          obtain ⟨r97, q97, h⟩ := k_b_of h
          refine d_V (As := []) (st := [.ref 0]) (st' := [.int r97, .ref 0]) (h' := k_ap [(0, .inl (62, c0_62)), (0, .inl (63, c0_63)), (16, .inr (.inr (.inl a16))), (17, .inr (.inr (.inl a17))), (21, .inr (.inr (.inl (upd a21 70 ((a21 70) + (1 : Int32)))))), (23, .inr (.inr (.inl a23))), (24, .inr (.inr (.inl a24)))] (shM, I, L, Rf)) C hR ⟨Nat.zero_le _, Nat.zero_le _⟩ mv_X11_pickNow lk_X11_474 dX11_goesOn_97 (rfl : 97 + 3 = 100) rfl rfl rfl rfl (c_X11_pickNow X.l u (k_ap [(0, .inl (62, c0_62)), (0, .inl (63, c0_63)), (16, .inr (.inr (.inl a16))), (17, .inr (.inr (.inl a17))), (21, .inr (.inr (.inl (upd a21 70 ((a21 70) + (1 : Int32)))))), (23, .inr (.inr (.inl a23))), (24, .inr (.inr (.inl a24)))] (shM, I, L, Rf)) rfl ec0_25 ec0_26 ec0_27 ea7 ea8 rfl q97) rfl rfl rfl rfl rfl ?_
          obtain ⟨r100, q100, h⟩ := k_b_of h
          refine d_V (As := [.int r97]) (st := []) (st' := []) (h' := k_ap [(0, .inl (62, c0_62)), (0, .inl (63, c0_63)), (16, .inr (.inr (.inl r100.1))), (17, .inr (.inr (.inl r100.2.1))), (21, .inr (.inr (.inl r100.2.2.1))), (23, .inr (.inr (.inl r100.2.2.2))), (24, .inr (.inr (.inl a24)))] (shM, I, L, Rf)) C hR ⟨Nat.zero_le _, Nat.zero_le _⟩ mv_X11_digs lk_X11_412 dX11_goesOn_100 (rfl : 100 + 3 = 103) rfl rfl rfl rfl (c_X11_digs X.l u (k_ap [(0, .inl (62, c0_62)), (0, .inl (63, c0_63)), (16, .inr (.inr (.inl a16))), (17, .inr (.inr (.inl a17))), (21, .inr (.inr (.inl (upd a21 70 ((a21 70) + (1 : Int32)))))), (23, .inr (.inr (.inl a23))), (24, .inr (.inr (.inl a24)))] (shM, I, L, Rf)) rfl ec0_25 ec0_26 ea7 ea8 ea13 ea14 ea15 rfl rfl rfl rfl q100) rfl rfl rfl (k_jn (us' := [(0, .inl (62, c0_62)), (0, .inl (63, c0_63)), (16, .inr (.inr (.inl r100.1))), (17, .inr (.inr (.inl r100.2.1))), (21, .inr (.inr (.inl r100.2.2.1))), (23, .inr (.inr (.inl r100.2.2.2))), (24, .inr (.inr (.inl a24)))]) ds_X11_goesOn rfl rfl rfl) rfl ?_
          refine r_goto (tgt := 57) C dX11_goesOn_103 (by decide) ?_
          refine k_mask [true, false, true, true, true, true] ?_
          exact ih c0_62 c0_63 r100.1 r100.2.1 r100.2.2.1 r100.2.2.2 a24 v2 v3 v4 v5 h
def bX11_goesOn_53 (u : Nat) (c0_25 : Int32) (c0_26 : Int32) (c0_27 : Int32) (c0_28 : Int32) (c0_30 : Int32) (a7 : (Nat → Int32)) (a8 : (Nat → Int32)) (a9 : (Nat → Int32)) (a10 : (Nat → Int32)) (a13 : (Nat → Int32)) (a14 : (Nat → Int32)) (a15 : (Nat → Int32)) (a20 : (Nat → Int32)) (k17 : Int32 → Int32 → (Nat → Int32) → (Nat → Int32) → (Nat → Int32) → (Nat → Int32) → (Nat → Int32) → Int32 → Int32 → Int32 → Option (Int32 × Int32 × (Nat → Int32) × (Nat → Int32) × (Nat → Int32) × (Nat → Int32) × (Nat → Int32))) (c0_62 : Int32) (c0_63 : Int32) (a16 : (Nat → Int32)) (a17 : (Nat → Int32)) (a21 : (Nat → Int32)) (a23 : (Nat → Int32)) (a24 : (Nat → Int32)) (v2 : Int32) (v3 : Int32) (v4 : Int32) (v5 : Int32) (w0 : Int32) (w1 : Int32) : Option (Int32 × Int32 × (Nat → Int32) × (Nat → Int32) × (Nat → Int32) × (Nat → Int32) × (Nat → Int32)) := (bX11_goesOn_57 u c0_25 c0_26 c0_27 c0_28 c0_30 a7 a8 a9 a10 a13 a14 a15 a20 k17 u c0_62 (w1 + w0) a16 a17 a21 a23 a24 v2 v3 v4 v5)
set_option maxHeartbeats 400000 in
set_option maxRecDepth 100000 in
theorem sX11_goesOn_53 (u : Nat) {X : k_X} {ad : Nat → Nat} (C : k_C X cX11_goesOn RX11 6 ad) (hr : X.meth.sig.returnType = none) (hR : X.R.frames = 6 ∧ X.R.locals = 133) {I : Nat → Nat → Int32} {L : Nat → Nat → Int64} {Rf : Nat → Nat → Option Nat} {c0_25 : Int32} (ec0_25 : I 0 25 = c0_25) {c0_26 : Int32} (ec0_26 : I 0 26 = c0_26) {c0_27 : Int32} (ec0_27 : I 0 27 = c0_27) {c0_28 : Int32} (ec0_28 : I 0 28 = c0_28) {c0_30 : Int32} (ec0_30 : I 0 30 = c0_30) {a7 : (Nat → Int32)} (ea7 : I 7 = a7) {a8 : (Nat → Int32)} (ea8 : I 8 = a8) {a9 : (Nat → Int32)} (ea9 : I 9 = a9) {a10 : (Nat → Int32)} (ea10 : I 10 = a10) {a13 : (Nat → Int32)} (ea13 : I 13 = a13) {a14 : (Nat → Int32)} (ea14 : I 14 = a14) {a15 : (Nat → Int32)} (ea15 : I 15 = a15) {a20 : (Nat → Int32)} (ea20 : I 20 = a20) {out : Int32 × Int32 × (Nat → Int32) × (Nat → Int32) × (Nat → Int32) × (Nat → Int32) × (Nat → Int32)} {k17 : Int32 → Int32 → (Nat → Int32) → (Nat → Int32) → (Nat → Int32) → (Nat → Int32) → (Nat → Int32) → Int32 → Int32 → Int32 → Option (Int32 × Int32 × (Nat → Int32) × (Nat → Int32) × (Nat → Int32) × (Nat → Int32) × (Nat → Int32))} (hk17 : ∀ (c0_62 : Int32) (c0_63 : Int32) (a16 : (Nat → Int32)) (a17 : (Nat → Int32)) (a21 : (Nat → Int32)) (a23 : (Nat → Int32)) (a24 : (Nat → Int32)) (v2 : Int32) (v3 : Int32) (v4 : Int32), k17 c0_62 c0_63 a16 a17 a21 a23 a24 v2 v3 v4 = some out → k_W X 6 0 0 (k_Q X ad none (k_ap [(0, .inl (62, out.1)), (0, .inl (63, out.2.1)), (16, .inr (.inr (.inl out.2.2.1))), (17, .inr (.inr (.inl out.2.2.2.1))), (21, .inr (.inr (.inl out.2.2.2.2.1))), (23, .inr (.inr (.inl out.2.2.2.2.2.1))), (24, .inr (.inr (.inl out.2.2.2.2.2.2)))] (shM, I, L, Rf))) ad (k_ap [(0, .inl (62, c0_62)), (0, .inl (63, c0_63)), (16, .inr (.inr (.inl a16))), (17, .inr (.inr (.inl a17))), (21, .inr (.inr (.inl a21))), (23, .inr (.inr (.inl a23))), (24, .inr (.inr (.inl a24)))] (shM, I, L, Rf)) 17 [some (.ref 0), none, some (.int v2), some (.int v3), some (.int v4), none] []) : ∀ (c0_62 : Int32) (c0_63 : Int32) (a16 : (Nat → Int32)) (a17 : (Nat → Int32)) (a21 : (Nat → Int32)) (a23 : (Nat → Int32)) (a24 : (Nat → Int32)) (v2 : Int32) (v3 : Int32) (v4 : Int32) (v5 : Int32) (w0 : Int32) (w1 : Int32), bX11_goesOn_53 u c0_25 c0_26 c0_27 c0_28 c0_30 a7 a8 a9 a10 a13 a14 a15 a20 k17 c0_62 c0_63 a16 a17 a21 a23 a24 v2 v3 v4 v5 w0 w1 = some out → k_W X 6 0 0 (k_Q X ad none (k_ap [(0, .inl (62, out.1)), (0, .inl (63, out.2.1)), (16, .inr (.inr (.inl out.2.2.1))), (17, .inr (.inr (.inl out.2.2.2.1))), (21, .inr (.inr (.inl out.2.2.2.2.1))), (23, .inr (.inr (.inl out.2.2.2.2.2.1))), (24, .inr (.inr (.inl out.2.2.2.2.2.2)))] (shM, I, L, Rf))) ad (k_ap [(0, .inl (62, c0_62)), (0, .inl (63, c0_63)), (16, .inr (.inr (.inl a16))), (17, .inr (.inr (.inl a17))), (21, .inr (.inr (.inl a21))), (23, .inr (.inr (.inl a23))), (24, .inr (.inr (.inl a24)))] (shM, I, L, Rf)) 53 [some (.ref 0), none, some (.int v2), some (.int v3), some (.int v4), some (.int v5)] [.int w0, .int w1, .ref 0] := by
  intro c0_62 c0_63 a16 a17 a21 a23 a24 v2 v3 v4 v5 w0 w1 h
  unfold bX11_goesOn_53 at h
  refine r_iadd C dX11_goesOn_53 (rfl : 53 + 1 = 54) ?_
  refine p_I (us' := [(0, .inl (62, c0_62)), (0, .inl (63, (w1 + w0))), (16, .inr (.inr (.inl a16))), (17, .inr (.inr (.inl a17))), (21, .inr (.inr (.inl a21))), (23, .inr (.inr (.inl a23))), (24, .inr (.inr (.inl a24)))]) C dX11_goesOn_54 (rfl : 54 + 3 = 57) fp_X11_481 rfl rfl ds_X11_goesOn rfl rfl rfl ?_
  refine k_mask [true, false, true, true, true, true] ?_
  exact sX11_goesOn_57 u C hr hR ec0_25 ec0_26 ec0_27 ec0_28 ec0_30 ea7 ea8 ea9 ea10 ea13 ea14 ea15 ea20 hk17 u c0_62 (w1 + w0) a16 a17 a21 a23 a24 v2 v3 v4 v5 h
def bX11_goesOn_36 (u : Nat) (c0_25 : Int32) (c0_26 : Int32) (c0_27 : Int32) (c0_28 : Int32) (c0_30 : Int32) (a7 : (Nat → Int32)) (a8 : (Nat → Int32)) (a9 : (Nat → Int32)) (a10 : (Nat → Int32)) (a13 : (Nat → Int32)) (a14 : (Nat → Int32)) (a15 : (Nat → Int32)) (a20 : (Nat → Int32)) (k17 : Int32 → Int32 → (Nat → Int32) → (Nat → Int32) → (Nat → Int32) → (Nat → Int32) → (Nat → Int32) → Int32 → Int32 → Int32 → Option (Int32 × Int32 × (Nat → Int32) × (Nat → Int32) × (Nat → Int32) × (Nat → Int32) × (Nat → Int32))) (c0_62 : Int32) (c0_63 : Int32) (a16 : (Nat → Int32)) (a17 : (Nat → Int32)) (a21 : (Nat → Int32)) (a23 : (Nat → Int32)) (a24 : (Nat → Int32)) (v2 : Int32) (v3 : Int32) (v4 : Int32) (w0 : Int32) : Option (Int32 × Int32 × (Nat → Int32) × (Nat → Int32) × (Nat → Int32) × (Nat → Int32) × (Nat → Int32)) := (if w0 = (0 : Int32) then (bX11_goesOn_53 u c0_25 c0_26 c0_27 c0_28 c0_30 a7 a8 a9 a10 a13 a14 a15 a20 k17 c0_62 c0_63 a16 a17 a21 a23 a24 v2 v3 v4 w0 (0 : Int32) c0_63) else (bX11_goesOn_53 u c0_25 c0_26 c0_27 c0_28 c0_30 a7 a8 a9 a10 a13 a14 a15 a20 k17 c0_62 c0_63 a16 a17 a21 a23 a24 v2 v3 v4 w0 (1 : Int32) c0_63))
set_option maxHeartbeats 400000 in
set_option maxRecDepth 100000 in
theorem sX11_goesOn_36 (u : Nat) {X : k_X} {ad : Nat → Nat} (C : k_C X cX11_goesOn RX11 6 ad) (hr : X.meth.sig.returnType = none) (hR : X.R.frames = 6 ∧ X.R.locals = 133) {I : Nat → Nat → Int32} {L : Nat → Nat → Int64} {Rf : Nat → Nat → Option Nat} {c0_25 : Int32} (ec0_25 : I 0 25 = c0_25) {c0_26 : Int32} (ec0_26 : I 0 26 = c0_26) {c0_27 : Int32} (ec0_27 : I 0 27 = c0_27) {c0_28 : Int32} (ec0_28 : I 0 28 = c0_28) {c0_30 : Int32} (ec0_30 : I 0 30 = c0_30) {a7 : (Nat → Int32)} (ea7 : I 7 = a7) {a8 : (Nat → Int32)} (ea8 : I 8 = a8) {a9 : (Nat → Int32)} (ea9 : I 9 = a9) {a10 : (Nat → Int32)} (ea10 : I 10 = a10) {a13 : (Nat → Int32)} (ea13 : I 13 = a13) {a14 : (Nat → Int32)} (ea14 : I 14 = a14) {a15 : (Nat → Int32)} (ea15 : I 15 = a15) {a20 : (Nat → Int32)} (ea20 : I 20 = a20) {out : Int32 × Int32 × (Nat → Int32) × (Nat → Int32) × (Nat → Int32) × (Nat → Int32) × (Nat → Int32)} {k17 : Int32 → Int32 → (Nat → Int32) → (Nat → Int32) → (Nat → Int32) → (Nat → Int32) → (Nat → Int32) → Int32 → Int32 → Int32 → Option (Int32 × Int32 × (Nat → Int32) × (Nat → Int32) × (Nat → Int32) × (Nat → Int32) × (Nat → Int32))} (hk17 : ∀ (c0_62 : Int32) (c0_63 : Int32) (a16 : (Nat → Int32)) (a17 : (Nat → Int32)) (a21 : (Nat → Int32)) (a23 : (Nat → Int32)) (a24 : (Nat → Int32)) (v2 : Int32) (v3 : Int32) (v4 : Int32), k17 c0_62 c0_63 a16 a17 a21 a23 a24 v2 v3 v4 = some out → k_W X 6 0 0 (k_Q X ad none (k_ap [(0, .inl (62, out.1)), (0, .inl (63, out.2.1)), (16, .inr (.inr (.inl out.2.2.1))), (17, .inr (.inr (.inl out.2.2.2.1))), (21, .inr (.inr (.inl out.2.2.2.2.1))), (23, .inr (.inr (.inl out.2.2.2.2.2.1))), (24, .inr (.inr (.inl out.2.2.2.2.2.2)))] (shM, I, L, Rf))) ad (k_ap [(0, .inl (62, c0_62)), (0, .inl (63, c0_63)), (16, .inr (.inr (.inl a16))), (17, .inr (.inr (.inl a17))), (21, .inr (.inr (.inl a21))), (23, .inr (.inr (.inl a23))), (24, .inr (.inr (.inl a24)))] (shM, I, L, Rf)) 17 [some (.ref 0), none, some (.int v2), some (.int v3), some (.int v4), none] []) : ∀ (c0_62 : Int32) (c0_63 : Int32) (a16 : (Nat → Int32)) (a17 : (Nat → Int32)) (a21 : (Nat → Int32)) (a23 : (Nat → Int32)) (a24 : (Nat → Int32)) (v2 : Int32) (v3 : Int32) (v4 : Int32) (w0 : Int32), bX11_goesOn_36 u c0_25 c0_26 c0_27 c0_28 c0_30 a7 a8 a9 a10 a13 a14 a15 a20 k17 c0_62 c0_63 a16 a17 a21 a23 a24 v2 v3 v4 w0 = some out → k_W X 6 0 0 (k_Q X ad none (k_ap [(0, .inl (62, out.1)), (0, .inl (63, out.2.1)), (16, .inr (.inr (.inl out.2.2.1))), (17, .inr (.inr (.inl out.2.2.2.1))), (21, .inr (.inr (.inl out.2.2.2.2.1))), (23, .inr (.inr (.inl out.2.2.2.2.2.1))), (24, .inr (.inr (.inl out.2.2.2.2.2.2)))] (shM, I, L, Rf))) ad (k_ap [(0, .inl (62, c0_62)), (0, .inl (63, c0_63)), (16, .inr (.inr (.inl a16))), (17, .inr (.inr (.inl a17))), (21, .inr (.inr (.inl a21))), (23, .inr (.inr (.inl a23))), (24, .inr (.inr (.inl a24)))] (shM, I, L, Rf)) 36 [some (.ref 0), none, some (.int v2), some (.int v3), some (.int v4), none] [.int w0] := by
  intro c0_62 c0_63 a16 a17 a21 a23 a24 v2 v3 v4 w0 h
  unfold bX11_goesOn_36 at h
  refine r_istore C dX11_goesOn_36 (rfl : 36 + 2 = 38) (by decide) (Nat.le_of_ble_eq_true rfl) ?_
  show k_W _ _ _ _ _ _ _ _ [some (.ref 0), none, some (.int v2), some (.int v3), some (.int v4), some (.int w0)] _
  refine r_aload_n C dX11_goesOn_38 (rfl : 38 + 1 = 39) rfl ?_
  refine r_dup C dX11_goesOn_39 (rfl : 39 + 1 = 40) rfl ?_
  refine r_getI (v := c0_63) C dX11_goesOn_40 (rfl : 40 + 3 = 43) fl_X11_481 rfl rfl rfl ?_
  refine r_iload C dX11_goesOn_43 (rfl : 43 + 2 = 45) rfl ?_
  refine r_if_eq (tgt := 52) C dX11_goesOn_45 (by decide) (rfl : 45 + 3 = 48) (fun c45 => ?_) (fun c45 => ?_)
  · have h := k_t c45 h
    refine r_iconst (v := (0 : Int32)) C dX11_goesOn_52 (rfl : 52 + 1 = 53) rfl ?_
    refine k_mask [true, false, true, true, true, true] ?_
    exact sX11_goesOn_53 u C hr hR ec0_25 ec0_26 ec0_27 ec0_28 ec0_30 ea7 ea8 ea9 ea10 ea13 ea14 ea15 ea20 hk17 c0_62 c0_63 a16 a17 a21 a23 a24 v2 v3 v4 w0 (0 : Int32) c0_63 h
  · have h := k_f c45 h
    refine r_iconst (v := (1 : Int32)) C dX11_goesOn_48 (rfl : 48 + 1 = 49) rfl ?_
    refine r_goto (tgt := 53) C dX11_goesOn_49 (by decide) ?_
    refine k_mask [true, false, true, true, true, true] ?_
    exact sX11_goesOn_53 u C hr hR ec0_25 ec0_26 ec0_27 ec0_28 ec0_30 ea7 ea8 ea9 ea10 ea13 ea14 ea15 ea20 hk17 c0_62 c0_63 a16 a17 a21 a23 a24 v2 v3 v4 w0 (1 : Int32) c0_63 h
def bX11_goesOn_17 (u : Nat) (c0_25 : Int32) (c0_26 : Int32) (c0_27 : Int32) (c0_28 : Int32) (c0_30 : Int32) (a7 : (Nat → Int32)) (a8 : (Nat → Int32)) (a9 : (Nat → Int32)) (a10 : (Nat → Int32)) (a13 : (Nat → Int32)) (a14 : (Nat → Int32)) (a15 : (Nat → Int32)) (a20 : (Nat → Int32)) : Nat → Int32 → Int32 → (Nat → Int32) → (Nat → Int32) → (Nat → Int32) → (Nat → Int32) → (Nat → Int32) → Int32 → Int32 → Int32 → Option (Int32 × Int32 × (Nat → Int32) × (Nat → Int32) × (Nat → Int32) × (Nat → Int32) × (Nat → Int32))
  | 0, _, _, _, _, _, _, _, _, _, _ => none
  | n + 1, c0_62, c0_63, a16, a17, a21, a23, a24, v2, v3, v4 => (if v3 ≤ v4 then some (c0_62, c0_63, a16, a17, a21, a23, a24) else k_b (f_X11_draws u c0_62) (fun r24 => (if v2 ≤ r24.1 then (bX11_goesOn_36 u c0_25 c0_26 c0_27 c0_28 c0_30 a7 a8 a9 a10 a13 a14 a15 a20 (bX11_goesOn_17 u c0_25 c0_26 c0_27 c0_28 c0_30 a7 a8 a9 a10 a13 a14 a15 a20 n) r24.2 c0_63 a16 a17 a21 a23 a24 v2 v3 v4 (0 : Int32)) else (bX11_goesOn_36 u c0_25 c0_26 c0_27 c0_28 c0_30 a7 a8 a9 a10 a13 a14 a15 a20 (bX11_goesOn_17 u c0_25 c0_26 c0_27 c0_28 c0_30 a7 a8 a9 a10 a13 a14 a15 a20 n) r24.2 c0_63 a16 a17 a21 a23 a24 v2 v3 v4 (1 : Int32)))))
set_option maxHeartbeats 400000 in
set_option maxRecDepth 100000 in
theorem sX11_goesOn_17 (u : Nat) {X : k_X} {ad : Nat → Nat} (C : k_C X cX11_goesOn RX11 6 ad) (hr : X.meth.sig.returnType = none) (hR : X.R.frames = 6 ∧ X.R.locals = 133) {I : Nat → Nat → Int32} {L : Nat → Nat → Int64} {Rf : Nat → Nat → Option Nat} {c0_25 : Int32} (ec0_25 : I 0 25 = c0_25) {c0_26 : Int32} (ec0_26 : I 0 26 = c0_26) {c0_27 : Int32} (ec0_27 : I 0 27 = c0_27) {c0_28 : Int32} (ec0_28 : I 0 28 = c0_28) {c0_30 : Int32} (ec0_30 : I 0 30 = c0_30) {a7 : (Nat → Int32)} (ea7 : I 7 = a7) {a8 : (Nat → Int32)} (ea8 : I 8 = a8) {a9 : (Nat → Int32)} (ea9 : I 9 = a9) {a10 : (Nat → Int32)} (ea10 : I 10 = a10) {a13 : (Nat → Int32)} (ea13 : I 13 = a13) {a14 : (Nat → Int32)} (ea14 : I 14 = a14) {a15 : (Nat → Int32)} (ea15 : I 15 = a15) {a20 : (Nat → Int32)} (ea20 : I 20 = a20) {out : Int32 × Int32 × (Nat → Int32) × (Nat → Int32) × (Nat → Int32) × (Nat → Int32) × (Nat → Int32)} : ∀ (n : Nat) (c0_62 : Int32) (c0_63 : Int32) (a16 : (Nat → Int32)) (a17 : (Nat → Int32)) (a21 : (Nat → Int32)) (a23 : (Nat → Int32)) (a24 : (Nat → Int32)) (v2 : Int32) (v3 : Int32) (v4 : Int32), bX11_goesOn_17 u c0_25 c0_26 c0_27 c0_28 c0_30 a7 a8 a9 a10 a13 a14 a15 a20 n c0_62 c0_63 a16 a17 a21 a23 a24 v2 v3 v4 = some out → k_W X 6 0 0 (k_Q X ad none (k_ap [(0, .inl (62, out.1)), (0, .inl (63, out.2.1)), (16, .inr (.inr (.inl out.2.2.1))), (17, .inr (.inr (.inl out.2.2.2.1))), (21, .inr (.inr (.inl out.2.2.2.2.1))), (23, .inr (.inr (.inl out.2.2.2.2.2.1))), (24, .inr (.inr (.inl out.2.2.2.2.2.2)))] (shM, I, L, Rf))) ad (k_ap [(0, .inl (62, c0_62)), (0, .inl (63, c0_63)), (16, .inr (.inr (.inl a16))), (17, .inr (.inr (.inl a17))), (21, .inr (.inr (.inl a21))), (23, .inr (.inr (.inl a23))), (24, .inr (.inr (.inl a24)))] (shM, I, L, Rf)) 17 [some (.ref 0), none, some (.int v2), some (.int v3), some (.int v4), none] [] := by
  intro n
  induction n with
  | zero => intro c0_62 c0_63 a16 a17 a21 a23 a24 v2 v3 v4 h; cases h
  | succ n ih =>
    intro c0_62 c0_63 a16 a17 a21 a23 a24 v2 v3 v4 h
    refine r_iload C dX11_goesOn_17 (rfl : 17 + 2 = 19) rfl ?_
    refine r_iload_n C dX11_goesOn_19 (rfl : 19 + 1 = 20) rfl ?_
    refine r_icmp_ge (tgt := 117) C dX11_goesOn_20 (by decide) (rfl : 20 + 3 = 23) (fun c20 => ?_) (fun c20 => ?_)
    · have h := k_t c20 h
      cases h
      exact r_vret C hr dX11_goesOn_117
    · have h := k_f c20 h
      refine r_aload_n C dX11_goesOn_23 (rfl : 23 + 1 = 24) rfl ?_
      obtain ⟨r24, q24, h⟩ := k_b_of h
      refine d_V (As := []) (st := []) (st' := [.int r24.1]) (h' := k_ap [(0, .inl (62, r24.2)), (0, .inl (63, c0_63)), (16, .inr (.inr (.inl a16))), (17, .inr (.inr (.inl a17))), (21, .inr (.inr (.inl a21))), (23, .inr (.inr (.inl a23))), (24, .inr (.inr (.inl a24)))] (shM, I, L, Rf)) C hR ⟨Nat.zero_le _, Nat.zero_le _⟩ mv_X11_draws lk_X11_484 dX11_goesOn_24 (rfl : 24 + 3 = 27) rfl rfl rfl rfl (c_X11_draws X.l u (k_ap [(0, .inl (62, c0_62)), (0, .inl (63, c0_63)), (16, .inr (.inr (.inl a16))), (17, .inr (.inr (.inl a17))), (21, .inr (.inr (.inl a21))), (23, .inr (.inr (.inl a23))), (24, .inr (.inr (.inl a24)))] (shM, I, L, Rf)) rfl rfl q24) rfl rfl rfl (k_jn (us' := [(0, .inl (62, r24.2)), (0, .inl (63, c0_63)), (16, .inr (.inr (.inl a16))), (17, .inr (.inr (.inl a17))), (21, .inr (.inr (.inl a21))), (23, .inr (.inr (.inl a23))), (24, .inr (.inr (.inl a24)))]) ds_X11_goesOn rfl rfl rfl) rfl ?_
      refine r_iload_n C dX11_goesOn_27 (rfl : 27 + 1 = 28) rfl ?_
      refine r_icmp_ge (tgt := 35) C dX11_goesOn_28 (by decide) (rfl : 28 + 3 = 31) (fun c28 => ?_) (fun c28 => ?_)
      · have h := k_t c28 h
        refine r_iconst (v := (0 : Int32)) C dX11_goesOn_35 (rfl : 35 + 1 = 36) rfl ?_
        refine k_mask [true, false, true, true, true, false] ?_
        exact sX11_goesOn_36 u C hr hR ec0_25 ec0_26 ec0_27 ec0_28 ec0_30 ea7 ea8 ea9 ea10 ea13 ea14 ea15 ea20 ih r24.2 c0_63 a16 a17 a21 a23 a24 v2 v3 v4 (0 : Int32) h
      · have h := k_f c28 h
        refine r_iconst (v := (1 : Int32)) C dX11_goesOn_31 (rfl : 31 + 1 = 32) rfl ?_
        refine r_goto (tgt := 36) C dX11_goesOn_32 (by decide) ?_
        refine k_mask [true, false, true, true, true, false] ?_
        exact sX11_goesOn_36 u C hr hR ec0_25 ec0_26 ec0_27 ec0_28 ec0_30 ea7 ea8 ea9 ea10 ea13 ea14 ea15 ea20 ih r24.2 c0_63 a16 a17 a21 a23 a24 v2 v3 v4 (1 : Int32) h
def f_X11_goesOn (u : Nat) (c0_25 : Int32) (c0_26 : Int32) (c0_27 : Int32) (c0_28 : Int32) (c0_30 : Int32) (c0_62 : Int32) (c0_63 : Int32) (a7 : (Nat → Int32)) (a8 : (Nat → Int32)) (a9 : (Nat → Int32)) (a10 : (Nat → Int32)) (a13 : (Nat → Int32)) (a14 : (Nat → Int32)) (a15 : (Nat → Int32)) (a16 : (Nat → Int32)) (a17 : (Nat → Int32)) (a20 : (Nat → Int32)) (a21 : (Nat → Int32)) (a23 : (Nat → Int32)) (a24 : (Nat → Int32)) (x0 : Int32) (x1 : Int32) (x2 : Int32) : Option (Int32 × Int32 × (Nat → Int32) × (Nat → Int32) × (Nat → Int32) × (Nat → Int32) × (Nat → Int32)) := k_b (f_X11_take u a20 a21) (fun r1 => (bX11_goesOn_17 u c0_25 c0_26 c0_27 c0_28 c0_30 a7 a8 a9 a10 a13 a14 a15 a20 u x0 (0 : Int32) a16 a17 r1 a23 a24 x1 x2 (0 : Int32)))
set_option maxHeartbeats 400000 in
set_option maxRecDepth 100000 in
theorem c_X11_goesOn (l : Launch) (u : Nat) (h : k_H) (hsh : h.1 = shM) {c0_25 : Int32} (ec0_25 : h.2.1 0 25 = c0_25) {c0_26 : Int32} (ec0_26 : h.2.1 0 26 = c0_26) {c0_27 : Int32} (ec0_27 : h.2.1 0 27 = c0_27) {c0_28 : Int32} (ec0_28 : h.2.1 0 28 = c0_28) {c0_30 : Int32} (ec0_30 : h.2.1 0 30 = c0_30) {c0_62 : Int32} (ec0_62 : h.2.1 0 62 = c0_62) {c0_63 : Int32} (ec0_63 : h.2.1 0 63 = c0_63) {a7 : (Nat → Int32)} (ea7 : h.2.1 7 = a7) {a8 : (Nat → Int32)} (ea8 : h.2.1 8 = a8) {a9 : (Nat → Int32)} (ea9 : h.2.1 9 = a9) {a10 : (Nat → Int32)} (ea10 : h.2.1 10 = a10) {a13 : (Nat → Int32)} (ea13 : h.2.1 13 = a13) {a14 : (Nat → Int32)} (ea14 : h.2.1 14 = a14) {a15 : (Nat → Int32)} (ea15 : h.2.1 15 = a15) {a16 : (Nat → Int32)} (ea16 : h.2.1 16 = a16) {a17 : (Nat → Int32)} (ea17 : h.2.1 17 = a17) {a20 : (Nat → Int32)} (ea20 : h.2.1 20 = a20) {a21 : (Nat → Int32)} (ea21 : h.2.1 21 = a21) {a23 : (Nat → Int32)} (ea23 : h.2.1 23 = a23) {a24 : (Nat → Int32)} (ea24 : h.2.1 24 = a24) {x0 : Int32} {x1 : Int32} {x2 : Int32} {out : Int32 × Int32 × (Nat → Int32) × (Nat → Int32) × (Nat → Int32) × (Nat → Int32) × (Nat → Int32)} (hf : f_X11_goesOn u c0_25 c0_26 c0_27 c0_28 c0_30 c0_62 c0_63 a7 a8 a9 a10 a13 a14 a15 a16 a17 a20 a21 a23 a24 x0 x1 x2 = some out) : k_CT l yX11_goesOn cX11_goesOn 6 none 6 133 [.ref 0, .int x0, .int x1, .int x2] h none [(0, .inl (62, out.1)), (0, .inl (63, out.2.1)), (16, .inr (.inr (.inl out.2.2.1))), (17, .inr (.inr (.inl out.2.2.2.1))), (21, .inr (.inr (.inl out.2.2.2.2.1))), (23, .inr (.inr (.inl out.2.2.2.2.2.1))), (24, .inr (.inr (.inl out.2.2.2.2.2.2)))] := by
  obtain ⟨sh, I, L, Rf⟩ := h
  obtain rfl : sh = shM := hsh
  obtain rfl := ec0_62
  obtain rfl := ec0_63
  obtain rfl := ea16
  obtain rfl := ea17
  obtain rfl := ea21
  obtain rfl := ea23
  obtain rfl := ea24
  refine k_ofW (by decide) (Nat.le_of_ble_eq_true rfl) ?_
  intro X ad hl hR0 hr C
  have hR : X.R.frames = 6 ∧ X.R.locals = 133 := by rw [hR0]; exact ⟨rfl, rfl⟩
  have h := hf
  unfold f_X11_goesOn at h
  refine k_start (us := [(0, .inl (62, I 0 62)), (0, .inl (63, I 0 63)), (16, .inr (.inr (.inl (I 16)))), (17, .inr (.inr (.inl (I 17)))), (21, .inr (.inr (.inl (I 21)))), (23, .inr (.inr (.inl (I 23)))), (24, .inr (.inr (.inl (I 24))))]) (k_ap_I (k_ap_I (k_ap_A (k_ap_A (k_ap_A (k_ap_A (k_ap_A k_ap_0))))))) ?_
  show k_W X 6 0 0 _ ad (k_ap [(0, .inl (62, I 0 62)), (0, .inl (63, I 0 63)), (16, .inr (.inr (.inl (I 16)))), (17, .inr (.inr (.inl (I 17)))), (21, .inr (.inr (.inl (I 21)))), (23, .inr (.inr (.inl (I 23)))), (24, .inr (.inr (.inl (I 24))))] (shM, I, L, Rf)) 0 [some (.ref 0), some (.int x0), some (.int x1), some (.int x2), none, none] []
  refine r_aload_n C dX11_goesOn_0 (rfl : 0 + 1 = 1) rfl ?_
  obtain ⟨r1, q1, h⟩ := k_b_of h
  refine d_V (As := []) (st := []) (st' := []) (h' := k_ap [(0, .inl (62, (I 0 62))), (0, .inl (63, (I 0 63))), (16, .inr (.inr (.inl (I 16)))), (17, .inr (.inr (.inl (I 17)))), (21, .inr (.inr (.inl r1))), (23, .inr (.inr (.inl (I 23)))), (24, .inr (.inr (.inl (I 24))))] (shM, I, L, Rf)) C hR ⟨Nat.zero_le _, Nat.zero_le _⟩ mv_X11_take lk_X11_345 dX11_goesOn_1 (rfl : 1 + 3 = 4) rfl rfl rfl rfl (c_X11_take X.l u (k_ap [(0, .inl (62, (I 0 62))), (0, .inl (63, (I 0 63))), (16, .inr (.inr (.inl (I 16)))), (17, .inr (.inr (.inl (I 17)))), (21, .inr (.inr (.inl (I 21)))), (23, .inr (.inr (.inl (I 23)))), (24, .inr (.inr (.inl (I 24))))] (shM, I, L, Rf)) rfl ea20 rfl q1) rfl rfl rfl (k_jn (us' := [(0, .inl (62, (I 0 62))), (0, .inl (63, (I 0 63))), (16, .inr (.inr (.inl (I 16)))), (17, .inr (.inr (.inl (I 17)))), (21, .inr (.inr (.inl r1))), (23, .inr (.inr (.inl (I 23)))), (24, .inr (.inr (.inl (I 24))))]) ds_X11_goesOn rfl rfl rfl) rfl ?_
  refine r_aload_n C dX11_goesOn_4 (rfl : 4 + 1 = 5) rfl ?_
  refine r_iload_n C dX11_goesOn_5 (rfl : 5 + 1 = 6) rfl ?_
  refine p_I (us' := [(0, .inl (62, x0)), (0, .inl (63, (I 0 63))), (16, .inr (.inr (.inl (I 16)))), (17, .inr (.inr (.inl (I 17)))), (21, .inr (.inr (.inl r1))), (23, .inr (.inr (.inl (I 23)))), (24, .inr (.inr (.inl (I 24))))]) C dX11_goesOn_6 (rfl : 6 + 3 = 9) fp_X11_477 rfl rfl ds_X11_goesOn rfl rfl rfl ?_
  refine r_aload_n C dX11_goesOn_9 (rfl : 9 + 1 = 10) rfl ?_
  refine r_iconst (v := (0 : Int32)) C dX11_goesOn_10 (rfl : 10 + 1 = 11) rfl ?_
  refine p_I (us' := [(0, .inl (62, x0)), (0, .inl (63, (0 : Int32))), (16, .inr (.inr (.inl (I 16)))), (17, .inr (.inr (.inl (I 17)))), (21, .inr (.inr (.inl r1))), (23, .inr (.inr (.inl (I 23)))), (24, .inr (.inr (.inl (I 24))))]) C dX11_goesOn_11 (rfl : 11 + 3 = 14) fp_X11_481 rfl rfl ds_X11_goesOn rfl rfl rfl ?_
  refine r_iconst (v := (0 : Int32)) C dX11_goesOn_14 (rfl : 14 + 1 = 15) rfl ?_
  refine r_istore C dX11_goesOn_15 (rfl : 15 + 2 = 17) (by decide) (Nat.le_of_ble_eq_true rfl) ?_
  show k_W _ _ _ _ _ _ _ _ [some (.ref 0), some (.int x0), some (.int x1), some (.int x2), some (.int (0 : Int32)), none] _
  refine k_mask [true, false, true, true, true, false] ?_
  exact sX11_goesOn_17 u C hr hR ec0_25 ec0_26 ec0_27 ec0_28 ec0_30 ea7 ea8 ea9 ea10 ea13 ea14 ea15 ea20 u x0 (0 : Int32) (I 16) (I 17) r1 (I 23) (I 24) x1 x2 (0 : Int32) h
/-! LullabyPitModel.isDecade(II)Z -/
theorem ds_X11_isDecade : k_ds [] = true := by decide
def f_X11_isDecade (u : Nat) (x0 : Int32) (x1 : Int32) : Option (Int32) := (if x0 < (0 : Int32) then some (0 : Int32) else (if (16 : Int32) < x0 then some (0 : Int32) else (if x1 < (1 : Int32) then some (0 : Int32) else (if (40 : Int32) < x1 then some (0 : Int32) else some (1 : Int32)))))
set_option maxHeartbeats 400000 in
set_option maxRecDepth 100000 in
theorem c_X11_isDecade (l : Launch) (u : Nat) (h : k_H) (hsh : h.1 = shM) {x0 : Int32} {x1 : Int32} {out : Int32} (hf : f_X11_isDecade u x0 x1 = some out) : k_CT l yX11_isDecade cX11_isDecade 2 (some .boolean) 0 0 [.int x0, .int x1] h (some (.int out)) [] := by
  obtain ⟨sh, I, L, Rf⟩ := h
  obtain rfl : sh = shM := hsh
  refine k_ofW (by decide) (Nat.le_of_ble_eq_true rfl) ?_
  intro X ad hl hR0 hr C
  have hR : X.R.frames = 0 ∧ X.R.locals = 0 := by rw [hR0]; exact ⟨rfl, rfl⟩
  have h := hf
  unfold f_X11_isDecade at h
  refine k_start (us := []) k_ap_0 ?_
  show k_W X 2 0 0 _ ad (k_ap [] (shM, I, L, Rf)) 0 [some (.int x0), some (.int x1)] []
  refine r_iload_n C dX11_isDecade_0 (rfl : 0 + 1 = 1) rfl ?_
  refine r_if_lt (tgt := 25) C dX11_isDecade_1 (by decide) (rfl : 1 + 3 = 4) (fun c1 => ?_) (fun c1 => ?_)
  · have h := k_t c1 h
    refine r_iconst (v := (0 : Int32)) C dX11_isDecade_25 (rfl : 25 + 1 = 26) rfl ?_
    cases h
    exact r_zret C hr (Or.inl rfl) dX11_isDecade_26
  · have h := k_f c1 h
    refine r_iload_n C dX11_isDecade_4 (rfl : 4 + 1 = 5) rfl ?_
    refine r_bipush (v := (16 : Int32)) C dX11_isDecade_5 (rfl : 5 + 2 = 7) rfl ?_
    refine r_icmp_gt (tgt := 25) C dX11_isDecade_7 (by decide) (rfl : 7 + 3 = 10) (fun c7 => ?_) (fun c7 => ?_)
    · have h := k_t c7 h
      refine r_iconst (v := (0 : Int32)) C dX11_isDecade_25 (rfl : 25 + 1 = 26) rfl ?_
      cases h
      exact r_zret C hr (Or.inl rfl) dX11_isDecade_26
    · have h := k_f c7 h
      refine r_iload_n C dX11_isDecade_10 (rfl : 10 + 1 = 11) rfl ?_
      refine r_iconst (v := (1 : Int32)) C dX11_isDecade_11 (rfl : 11 + 1 = 12) rfl ?_
      refine r_icmp_lt (tgt := 25) C dX11_isDecade_12 (by decide) (rfl : 12 + 3 = 15) (fun c12 => ?_) (fun c12 => ?_)
      · have h := k_t c12 h
        refine r_iconst (v := (0 : Int32)) C dX11_isDecade_25 (rfl : 25 + 1 = 26) rfl ?_
        cases h
        exact r_zret C hr (Or.inl rfl) dX11_isDecade_26
      · have h := k_f c12 h
        refine r_iload_n C dX11_isDecade_15 (rfl : 15 + 1 = 16) rfl ?_
        refine r_bipush (v := (40 : Int32)) C dX11_isDecade_16 (rfl : 16 + 2 = 18) rfl ?_
        refine r_icmp_gt (tgt := 25) C dX11_isDecade_18 (by decide) (rfl : 18 + 3 = 21) (fun c18 => ?_) (fun c18 => ?_)
        · have h := k_t c18 h
          refine r_iconst (v := (0 : Int32)) C dX11_isDecade_25 (rfl : 25 + 1 = 26) rfl ?_
          cases h
          exact r_zret C hr (Or.inl rfl) dX11_isDecade_26
        · have h := k_f c18 h
          refine r_iconst (v := (1 : Int32)) C dX11_isDecade_21 (rfl : 21 + 1 = 22) rfl ?_
          refine r_goto (tgt := 26) C dX11_isDecade_22 (by decide) ?_
          cases h
          exact r_zret C hr (Or.inr rfl) dX11_isDecade_26
