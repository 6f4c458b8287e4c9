/-! LullabyPitModel.next(I)I -/
theorem ds_X11_next_ : k_ds [(0, 0, 0), (1, 2, 0), (30, 2, 0)] = true := by decide +kernel
set_option maxHeartbeats 400000 in
set_option maxRecDepth 100000 in
theorem sX11_next__87 (u : Nat) {X : k_X} {ad : Nat → Nat} (C : k_C X cX11_next_ RX11 7 ad) (hr : X.meth.sig.returnType = (some .int)) (hR : X.R.frames = 2 ∧ X.R.locals = 47) {I : Nat → Nat → Int32} {L : Nat → Nat → Int64} {Rf : Nat → Nat → Option Nat} {c0_25 : Int32} (ec0_25 : I 0 25 = c0_25) {c0_26 : Int32} (ec0_26 : I 0 26 = c0_26) {c0_54 : Int32} (ec0_54 : I 0 54 = c0_54) {a7 : (Nat → Int32)} (ea7 : I 7 = a7) {a26 : (Nat → Int32)} (ea26 : I 26 = a26) {out : Int32 × Int32 × (Nat → Int32) × (Nat → Int32)} {k35 : Int32 → (Nat → Int32) → (Nat → Int32) → Int32 → Int32 → Int32 → Int32 → Int32 → Option (Int32 × Int32 × (Nat → Int32) × (Nat → Int32))} (hk35 : ∀ (c0_0 : Int32) (a1 : (Nat → Int32)) (a30 : (Nat → Int32)) (v1 : Int32) (v2 : Int32) (v3 : Int32) (v4 : Int32) (v5 : Int32), k35 c0_0 a1 a30 v1 v2 v3 v4 v5 = some out → k_W X 7 0 0 (k_Q X ad (some (.int out.1)) (k_ap [(0, .inl (0, out.2.1)), (1, .inr (.inr (.inl out.2.2.1))), (30, .inr (.inr (.inl out.2.2.2)))] (shM, I, L, Rf))) ad (k_ap [(0, .inl (0, c0_0)), (1, .inr (.inr (.inl a1))), (30, .inr (.inr (.inl a30)))] (shM, I, L, Rf)) 35 [some (.ref 0), some (.int v1), some (.int v2), some (.int v3), some (.int v4), some (.int v5), none] []) : ∀ (c0_0 : Int32) (a1 : (Nat → Int32)) (a30 : (Nat → Int32)) (v1 : Int32) (v2 : Int32) (v3 : Int32) (v4 : Int32) (v5 : Int32), bX11_next__87 u c0_25 c0_26 c0_54 a7 a26 k35 c0_0 a1 a30 v1 v2 v3 v4 v5 = some out → k_W X 7 0 0 (k_Q X ad (some (.int out.1)) (k_ap [(0, .inl (0, out.2.1)), (1, .inr (.inr (.inl out.2.2.1))), (30, .inr (.inr (.inl out.2.2.2)))] (shM, I, L, Rf))) ad (k_ap [(0, .inl (0, c0_0)), (1, .inr (.inr (.inl a1))), (30, .inr (.inr (.inl a30)))] (shM, I, L, Rf)) 87 [some (.ref 0), some (.int v1), some (.int v2), some (.int v3), some (.int v4), some (.int v5), none] [] := by
  intro c0_0 a1 a30 v1 v2 v3 v4 v5 h
  unfold bX11_next__87 at h
  refine r_iinc (v := (v5 + (1 : Int32))) C dX11_next__87 (rfl : 87 + 3 = 90) rfl rfl (by decide) ?_
  show k_W _ _ _ _ _ _ _ _ [some (.ref 0), some (.int v1), some (.int v2), some (.int v3), some (.int v4), some (.int (v5 + (1 : Int32))), none] _
  refine r_goto (tgt := 35) C dX11_next__90 (by decide) ?_
  refine k_mask [true, true, true, true, true, true, false] ?_
  exact hk35 c0_0 a1 a30 v1 v2 v3 v4 (v5 + (1 : Int32)) h
set_option maxHeartbeats 400000 in
set_option maxRecDepth 100000 in
theorem sX11_next__80 (u : Nat) {X : k_X} {ad : Nat → Nat} (C : k_C X cX11_next_ RX11 7 ad) (hr : X.meth.sig.returnType = (some .int)) (hR : X.R.frames = 2 ∧ X.R.locals = 47) {I : Nat → Nat → Int32} {L : Nat → Nat → Int64} {Rf : Nat → Nat → Option Nat} {c0_25 : Int32} (ec0_25 : I 0 25 = c0_25) {c0_26 : Int32} (ec0_26 : I 0 26 = c0_26) {c0_54 : Int32} (ec0_54 : I 0 54 = c0_54) {a7 : (Nat → Int32)} (ea7 : I 7 = a7) {a26 : (Nat → Int32)} (ea26 : I 26 = a26) {out : Int32 × Int32 × (Nat → Int32) × (Nat → Int32)} {k35 : Int32 → (Nat → Int32) → (Nat → Int32) → Int32 → Int32 → Int32 → Int32 → Int32 → Option (Int32 × Int32 × (Nat → Int32) × (Nat → Int32))} (hk35 : ∀ (c0_0 : Int32) (a1 : (Nat → Int32)) (a30 : (Nat → Int32)) (v1 : Int32) (v2 : Int32) (v3 : Int32) (v4 : Int32) (v5 : Int32), k35 c0_0 a1 a30 v1 v2 v3 v4 v5 = some out → k_W X 7 0 0 (k_Q X ad (some (.int out.1)) (k_ap [(0, .inl (0, out.2.1)), (1, .inr (.inr (.inl out.2.2.1))), (30, .inr (.inr (.inl out.2.2.2)))] (shM, I, L, Rf))) ad (k_ap [(0, .inl (0, c0_0)), (1, .inr (.inr (.inl a1))), (30, .inr (.inr (.inl a30)))] (shM, I, L, Rf)) 35 [some (.ref 0), some (.int v1), some (.int v2), some (.int v3), some (.int v4), some (.int v5), none] []) : ∀ (c0_0 : Int32) (a1 : (Nat → Int32)) (a30 : (Nat → Int32)) (v1 : Int32) (v2 : Int32) (v5 : Int32) (v6 : Int32), bX11_next__80 u c0_25 c0_26 c0_54 a7 a26 k35 c0_0 a1 a30 v1 v2 v5 v6 = some out → k_W X 7 0 0 (k_Q X ad (some (.int out.1)) (k_ap [(0, .inl (0, out.2.1)), (1, .inr (.inr (.inl out.2.2.1))), (30, .inr (.inr (.inl out.2.2.2)))] (shM, I, L, Rf))) ad (k_ap [(0, .inl (0, c0_0)), (1, .inr (.inr (.inl a1))), (30, .inr (.inr (.inl a30)))] (shM, I, L, Rf)) 80 [some (.ref 0), some (.int v1), some (.int v2), none, none, some (.int v5), some (.int v6)] [] := by
  intro c0_0 a1 a30 v1 v2 v5 v6 h
  unfold bX11_next__80 at h
  refine r_iload C dX11_next__80 (rfl : 80 + 2 = 82) rfl ?_
  refine r_istore_n C dX11_next__82 (rfl : 82 + 1 = 83) (by decide) (Nat.le_of_ble_eq_true rfl) ?_
  show k_W _ _ _ _ _ _ _ _ [some (.ref 0), some (.int v1), some (.int v2), some (.int v5), none, some (.int v5), some (.int v6)] _
  refine r_iload C dX11_next__83 (rfl : 83 + 2 = 85) rfl ?_
  refine r_istore C dX11_next__85 (rfl : 85 + 2 = 87) (by decide) (Nat.le_of_ble_eq_true rfl) ?_
  show k_W _ _ _ _ _ _ _ _ [some (.ref 0), some (.int v1), some (.int v2), some (.int v5), some (.int v6), some (.int v5), some (.int v6)] _
  refine k_mask [true, true, true, true, true, true, false] ?_
  exact sX11_next__87 u C hr hR ec0_25 ec0_26 ec0_54 ea7 ea26 hk35 c0_0 a1 a30 v1 v2 v5 v6 v5 h
set_option maxHeartbeats 400000 in
set_option maxRecDepth 100000 in
theorem sX11_next__35 (u : Nat) {X : k_X} {ad : Nat → Nat} (C : k_C X cX11_next_ RX11 7 ad) (hr : X.meth.sig.returnType = (some .int)) (hR : X.R.frames = 2 ∧ X.R.locals = 47) {I : Nat → Nat → Int32} {L : Nat → Nat → Int64} {Rf : Nat → Nat → Option Nat} {c0_25 : Int32} (ec0_25 : I 0 25 = c0_25) {c0_26 : Int32} (ec0_26 : I 0 26 = c0_26) {c0_54 : Int32} (ec0_54 : I 0 54 = c0_54) {a7 : (Nat → Int32)} (ea7 : I 7 = a7) {a26 : (Nat → Int32)} (ea26 : I 26 = a26) {out : Int32 × Int32 × (Nat → Int32) × (Nat → Int32)} : ∀ (n : Nat) (c0_0 : Int32) (a1 : (Nat → Int32)) (a30 : (Nat → Int32)) (v1 : Int32) (v2 : Int32) (v3 : Int32) (v4 : Int32) (v5 : Int32), bX11_next__35 u c0_25 c0_26 c0_54 a7 a26 n c0_0 a1 a30 v1 v2 v3 v4 v5 = some out → k_W X 7 0 0 (k_Q X ad (some (.int out.1)) (k_ap [(0, .inl (0, out.2.1)), (1, .inr (.inr (.inl out.2.2.1))), (30, .inr (.inr (.inl out.2.2.2)))] (shM, I, L, Rf))) ad (k_ap [(0, .inl (0, c0_0)), (1, .inr (.inr (.inl a1))), (30, .inr (.inr (.inl a30)))] (shM, I, L, Rf)) 35 [some (.ref 0), some (.int v1), some (.int v2), some (.int v3), some (.int v4), some (.int v5), none] [] := by
  intro n
  induction n with
  | zero => intro c0_0 a1 a30 v1 v2 v3 v4 v5 h; cases h
  | succ n ih =>
    intro c0_0 a1 a30 v1 v2 v3 v4 v5 h
    refine r_iload C dX11_next__35 (rfl : 35 + 2 = 37) rfl ?_
    refine r_aload_n C dX11_next__37 (rfl : 37 + 1 = 38) rfl ?_
    refine r_getI (v := c0_25) C dX11_next__38 (rfl : 38 + 3 = 41) fl_X11_184 rfl rfl ec0_25 ?_
    refine r_icmp_ge (tgt := 93) C dX11_next__41 (by decide) (rfl : 41 + 3 = 44) (fun c41 => ?_) (fun c41 => ?_)
    · have h := k_t c41 h
      refine r_iload_n C dX11_next__93 (rfl : 93 + 1 = 94) rfl ?_
      refine r_if_ne (tgt := 101) C dX11_next__94 (by decide) (rfl : 94 + 3 = 97) (fun c94 => ?_) (fun c94 => ?_)
      · have h := k_f c94 h
        refine r_iload C dX11_next__101 (rfl : 101 + 2 = 103) rfl ?_
        cases h
        exact r_iret C hr dX11_next__103
      · have h := k_t c94 h
        refine r_iload_n C dX11_next__97 (rfl : 97 + 1 = 98) rfl ?_
        refine r_goto (tgt := 103) C dX11_next__98 (by decide) ?_
        cases h
        exact r_iret C hr dX11_next__103
    · have h := k_f c41 h
      refine r_aload_n C dX11_next__44 (rfl : 44 + 1 = 45) rfl ?_
      refine r_iload C dX11_next__45 (rfl : 45 + 2 = 47) rfl ?_
      obtain ⟨r47, q47, h⟩ := k_b_of h
      refine d_V (As := [.int v5]) (st := []) (st' := [.int r47]) (h' := k_ap [(0, .inl (0, c0_0)), (1, .inr (.inr (.inl a1))), (30, .inr (.inr (.inl a30)))] (shM, I, L, Rf)) C hR ⟨Nat.zero_le _, Nat.zero_le _⟩ mv_X11_isTapped lk_X11_461 dX11_next__47 (rfl : 47 + 3 = 50) rfl rfl rfl rfl (c_X11_isTapped X.l u (k_ap [(0, .inl (0, c0_0)), (1, .inr (.inr (.inl a1))), (30, .inr (.inr (.inl a30)))] (shM, I, L, Rf)) rfl ec0_54 ea26 q47) rfl rfl rfl rfl rfl ?_
      refine r_if_eq (tgt := 56) C dX11_next__50 (by decide) (rfl : 50 + 3 = 53) (fun c50 => ?_) (fun c50 => ?_)
      · have h := k_t c50 h
        refine r_aload_n C dX11_next__56 (rfl : 56 + 1 = 57) rfl ?_
        refine r_iload C dX11_next__57 (rfl : 57 + 2 = 59) rfl ?_
        refine r_iload_n C dX11_next__59 (rfl : 59 + 1 = 60) rfl ?_
        obtain ⟨r60, q60, h⟩ := k_b_of h
        refine d_V (As := [.int v5, .int v2]) (st := []) (st' := [.int r60.1]) (h' := k_ap [(0, .inl (0, c0_0)), (1, .inr (.inr (.inl a1))), (30, .inr (.inr (.inl r60.2)))] (shM, I, L, Rf)) C hR ⟨Nat.zero_le _, Nat.zero_le _⟩ mv_X11_worstAt lk_X11_464 dX11_next__60 (rfl : 60 + 3 = 63) rfl rfl rfl rfl (c_X11_worstAt X.l u (k_ap [(0, .inl (0, c0_0)), (1, .inr (.inr (.inl a1))), (30, .inr (.inr (.inl a30)))] (shM, I, L, Rf)) rfl ec0_25 ec0_26 ea7 rfl q60) rfl rfl rfl (k_jn (us' := [(0, .inl (0, c0_0)), (1, .inr (.inr (.inl a1))), (30, .inr (.inr (.inl r60.2)))]) ds_X11_next_ rfl rfl rfl) rfl ?_
        refine r_istore C dX11_next__63 (rfl : 63 + 2 = 65) (by decide) (Nat.le_of_ble_eq_true rfl) ?_
        show k_W _ _ _ _ _ _ _ _ [some (.ref 0), some (.int v1), some (.int v2), some (.int v3), some (.int v4), some (.int v5), some (.int r60.1)] _
        refine r_iload_n C dX11_next__65 (rfl : 65 + 1 = 66) rfl ?_
        refine r_iconst (v := (-1 : Int32)) C dX11_next__66 (rfl : 66 + 1 = 67) rfl ?_
        refine r_icmp_eq (tgt := 80) C dX11_next__67 (by decide) (rfl : 67 + 3 = 70) (fun c67 => ?_) (fun c67 => ?_)
        · have h := k_t c67 h
          refine k_mask [true, true, true, false, false, true, true] ?_
          exact sX11_next__80 u C hr hR ec0_25 ec0_26 ec0_54 ea7 ea26 ih c0_0 a1 r60.2 v1 v2 v5 r60.1 h
        · have h := k_f c67 h
          refine r_iload C dX11_next__70 (rfl : 70 + 2 = 72) rfl ?_
          refine r_iload C dX11_next__72 (rfl : 72 + 2 = 74) rfl ?_
          refine r_icmp_lt (tgt := 80) C dX11_next__74 (by decide) (rfl : 74 + 3 = 77) (fun c74 => ?_) (fun c74 => ?_)
          · have h := k_t c74 h
            refine k_mask [true, true, true, false, false, true, true] ?_
            exact sX11_next__80 u C hr hR ec0_25 ec0_26 ec0_54 ea7 ea26 ih c0_0 a1 r60.2 v1 v2 v5 r60.1 h
          · have h := k_f c74 h
            refine r_goto (tgt := 87) C dX11_next__77 (by decide) ?_
            refine k_mask [true, true, true, true, true, true, false] ?_
            exact sX11_next__87 u C hr hR ec0_25 ec0_26 ec0_54 ea7 ea26 ih c0_0 a1 r60.2 v1 v2 v3 v4 v5 h
      · have h := k_f c50 h
        refine r_goto (tgt := 87) C dX11_next__53 (by decide) ?_
        refine k_mask [true, true, true, true, true, true, false] ?_
        exact sX11_next__87 u C hr hR ec0_25 ec0_26 ec0_54 ea7 ea26 ih c0_0 a1 a30 v1 v2 v3 v4 v5 h
set_option maxHeartbeats 400000 in
set_option maxRecDepth 100000 in
theorem sX11_next__0 (u : Nat) {X : k_X} {ad : Nat → Nat} (C : k_C X cX11_next_ RX11 7 ad) (hr : X.meth.sig.returnType = (some .int)) (hR : X.R.frames = 2 ∧ X.R.locals = 47) {I : Nat → Nat → Int32} {L : Nat → Nat → Int64} {Rf : Nat → Nat → Option Nat} {c0_25 : Int32} (ec0_25 : I 0 25 = c0_25) {c0_26 : Int32} (ec0_26 : I 0 26 = c0_26) {c0_54 : Int32} (ec0_54 : I 0 54 = c0_54) {a7 : (Nat → Int32)} (ea7 : I 7 = a7) {a26 : (Nat → Int32)} (ea26 : I 26 = a26) {out : Int32 × Int32 × (Nat → Int32) × (Nat → Int32)} : ∀ (c0_0 : Int32) (a1 : (Nat → Int32)) (a30 : (Nat → Int32)) (v1 : Int32), bX11_next__0 u c0_25 c0_26 c0_54 a7 a26 c0_0 a1 a30 v1 = some out → k_W X 7 0 0 (k_Q X ad (some (.int out.1)) (k_ap [(0, .inl (0, out.2.1)), (1, .inr (.inr (.inl out.2.2.1))), (30, .inr (.inr (.inl out.2.2.2)))] (shM, I, L, Rf))) ad (k_ap [(0, .inl (0, c0_0)), (1, .inr (.inr (.inl a1))), (30, .inr (.inr (.inl a30)))] (shM, I, L, Rf)) 0 [some (.ref 0), some (.int v1), none, none, none, none, none] [] := by
  intro c0_0 a1 a30 v1 h
  unfold bX11_next__0 at h
  refine r_aload_n C dX11_next__0 (rfl : 0 + 1 = 1) rfl ?_
  refine r_iconst (v := (0 : Int32)) C dX11_next__1 (rfl : 1 + 1 = 2) rfl ?_
  refine p_I (us' := [(0, .inl (0, (0 : Int32))), (1, .inr (.inr (.inl a1))), (30, .inr (.inr (.inl a30)))]) C dX11_next__2 (rfl : 2 + 3 = 5) fp_X11_3 rfl rfl ds_X11_next_ rfl rfl rfl ?_
  refine r_aload_n C dX11_next__5 (rfl : 5 + 1 = 6) rfl ?_
  refine r_iload_n C dX11_next__6 (rfl : 6 + 1 = 7) rfl ?_
  refine r_iconst (v := (0 : Int32)) C dX11_next__7 (rfl : 7 + 1 = 8) rfl ?_
  refine r_iconst (v := (1 : Int32)) C dX11_next__8 (rfl : 8 + 1 = 9) rfl ?_
  obtain ⟨r9, q9, h⟩ := k_b_of h
  refine d_S (As := [.int v1, .int (0 : Int32), .int (1 : Int32)]) (st := [.ref 0]) (st' := [.int r9, .ref 0]) (h' := k_ap [(0, .inl (0, (0 : Int32))), (1, .inr (.inr (.inl a1))), (30, .inr (.inr (.inl a30)))] (shM, I, L, Rf)) C hR ⟨Nat.zero_le _, Nat.zero_le _⟩ ms_X11_within lk_X11_317 dX11_next__9 (rfl : 9 + 3 = 12) rfl rfl (c_X11_within X.l u (k_ap [(0, .inl (0, (0 : Int32))), (1, .inr (.inr (.inl a1))), (30, .inr (.inr (.inl a30)))] (shM, I, L, Rf)) rfl  q9) rfl rfl rfl rfl rfl ?_
  refine r_iconst (v := (1 : Int32)) C dX11_next__12 (rfl : 12 + 1 = 13) rfl ?_
  refine r_iconst (v := (2 : Int32)) C dX11_next__13 (rfl : 13 + 1 = 14) rfl ?_
  obtain ⟨r14, q14, h⟩ := k_b_of h
  refine d_V (As := [.int r9, .int (1 : Int32), .int (2 : Int32)]) (st := []) (st' := [.int r14.1]) (h' := k_ap [(0, .inl (0, r14.2.1)), (1, .inr (.inr (.inl r14.2.2))), (30, .inr (.inr (.inl a30)))] (shM, I, L, Rf)) C hR ⟨Nat.zero_le _, Nat.zero_le _⟩ mv_X11_may lk_X11_252 dX11_next__14 (rfl : 14 + 3 = 17) rfl rfl rfl rfl (c_X11_may X.l u (k_ap [(0, .inl (0, (0 : Int32))), (1, .inr (.inr (.inl a1))), (30, .inr (.inr (.inl a30)))] (shM, I, L, Rf)) rfl rfl rfl q14) rfl rfl rfl (k_jn (us' := [(0, .inl (0, r14.2.1)), (1, .inr (.inr (.inl r14.2.2))), (30, .inr (.inr (.inl a30)))]) ds_X11_next_ rfl rfl rfl) rfl ?_
  refine r_if_ne (tgt := 22) C dX11_next__17 (by decide) (rfl : 17 + 3 = 20) (fun c17 => ?_) (fun c17 => ?_)
  · have h := k_f c17 h
    refine r_aload_n C dX11_next__22 (rfl : 22 + 1 = 23) rfl ?_
    obtain ⟨r23, q23, h⟩ := k_b_of h
    refine d_V (As := []) (st := []) (st' := [.int r23]) (h' := k_ap [(0, .inl (0, r14.2.1)), (1, .inr (.inr (.inl r14.2.2))), (30, .inr (.inr (.inl a30)))] (shM, I, L, Rf)) C hR ⟨Nat.zero_le _, Nat.zero_le _⟩ mv_X11_fitsNow lk_X11_458 dX11_next__23 (rfl : 23 + 3 = 26) rfl rfl rfl rfl (c_X11_fitsNow X.l u (k_ap [(0, .inl (0, r14.2.1)), (1, .inr (.inr (.inl r14.2.2))), (30, .inr (.inr (.inl a30)))] (shM, I, L, Rf)) rfl ec0_25 ec0_26 ec0_54 ea7 ea26 q23) rfl rfl rfl rfl rfl ?_
    refine r_istore_n C dX11_next__26 (rfl : 26 + 1 = 27) (by decide) (Nat.le_of_ble_eq_true rfl) ?_
    show k_W _ _ _ _ _ _ _ _ [some (.ref 0), some (.int v1), some (.int r23), none, none, none, none] _
    refine r_iconst (v := (-1 : Int32)) C dX11_next__27 (rfl : 27 + 1 = 28) rfl ?_
    refine r_istore_n C dX11_next__28 (rfl : 28 + 1 = 29) (by decide) (Nat.le_of_ble_eq_true rfl) ?_
    show k_W _ _ _ _ _ _ _ _ [some (.ref 0), some (.int v1), some (.int r23), some (.int (-1 : Int32)), none, none, none] _
    refine r_iconst (v := (-1 : Int32)) C dX11_next__29 (rfl : 29 + 1 = 30) rfl ?_
    refine r_istore C dX11_next__30 (rfl : 30 + 2 = 32) (by decide) (Nat.le_of_ble_eq_true rfl) ?_
    show k_W _ _ _ _ _ _ _ _ [some (.ref 0), some (.int v1), some (.int r23), some (.int (-1 : Int32)), some (.int (-1 : Int32)), none, none] _
    refine r_iconst (v := (0 : Int32)) C dX11_next__32 (rfl : 32 + 1 = 33) rfl ?_
    refine r_istore C dX11_next__33 (rfl : 33 + 2 = 35) (by decide) (Nat.le_of_ble_eq_true rfl) ?_
    show k_W _ _ _ _ _ _ _ _ [some (.ref 0), some (.int v1), some (.int r23), some (.int (-1 : Int32)), some (.int (-1 : Int32)), some (.int (0 : Int32)), none] _
    refine k_mask [true, true, true, true, true, true, false] ?_
    exact sX11_next__35 u C hr hR ec0_25 ec0_26 ec0_54 ea7 ea26 u r14.2.1 r14.2.2 a30 v1 r23 (-1 : Int32) (-1 : Int32) (0 : Int32) h
  · have h := k_t c17 h
    refine r_iconst (v := (0 : Int32)) C dX11_next__20 (rfl : 20 + 1 = 21) rfl ?_
    cases h
    exact r_iret C hr dX11_next__21
set_option maxHeartbeats 400000 in
set_option maxRecDepth 100000 in
theorem c_X11_next_ (l : Launch) (u : Nat) (h : k_H) (hsh : h.1 = shM) {c0_0 : Int32} (ec0_0 : h.2.1 0 0 = c0_0) {c0_25 : Int32} (ec0_25 : h.2.1 0 25 = c0_25) {c0_26 : Int32} (ec0_26 : h.2.1 0 26 = c0_26) {c0_54 : Int32} (ec0_54 : h.2.1 0 54 = c0_54) {a1 : (Nat → Int32)} (ea1 : h.2.1 1 = a1) {a7 : (Nat → Int32)} (ea7 : h.2.1 7 = a7) {a26 : (Nat → Int32)} (ea26 : h.2.1 26 = a26) {a30 : (Nat → Int32)} (ea30 : h.2.1 30 = a30) {x0 : Int32} {out : Int32 × Int32 × (Nat → Int32) × (Nat → Int32)} (hf : f_X11_next_ u c0_0 c0_25 c0_26 c0_54 a1 a7 a26 a30 x0 = some out) : k_CT l yX11_next_ cX11_next_ 7 (some .int) 2 47 [.ref 0, .int x0] h (some (.int out.1)) [(0, .inl (0, out.2.1)), (1, .inr (.inr (.inl out.2.2.1))), (30, .inr (.inr (.inl out.2.2.2)))] := by
  obtain ⟨sh, I, L, Rf⟩ := h
  try dsimp only
  obtain rfl : sh = shM := hsh
  refine k_ofW (by decide) (Nat.le_of_ble_eq_true rfl) ?_
  intro X ad hl hR0 hr C
  have hR : X.R.frames = 2 ∧ X.R.locals = 47 := by rw [hR0]; exact ⟨rfl, rfl⟩
  have h := hf
  unfold f_X11_next_ at h
  refine k_start (us := [(0, .inl (0, c0_0)), (1, .inr (.inr (.inl a1))), (30, .inr (.inr (.inl a30)))]) (k_ao_I ec0_0 (k_ao_A ea1 (k_ao_A ea30 k_ap_0))) ?_
  show k_W X 7 0 0 _ ad (k_ap [(0, .inl (0, c0_0)), (1, .inr (.inr (.inl a1))), (30, .inr (.inr (.inl a30)))] (shM, I, L, Rf)) 0 [some (.ref 0), some (.int x0), none, none, none, none, none] []
  refine k_mask [true, true, false, false, false, false, false] ?_
  exact sX11_next__0 u C hr hR ec0_25 ec0_26 ec0_54 ea7 ea26 c0_0 a1 a30 x0 h
/-! LullabyPitModel.canon(III)I -/
theorem ds_X11_canon : k_ds [(0, 0, 0), (1, 2, 0)] = true := by decide +kernel
set_option maxHeartbeats 400000 in
set_option maxRecDepth 100000 in
theorem sX11_canon_135 (u : Nat) {X : k_X} {ad : Nat → Nat} (C : k_C X cX11_canon RX11 10 ad) (hr : X.meth.sig.returnType = (some .int)) (hR : X.R.frames = 1 ∧ X.R.locals = 23) {I : Nat → Nat → Int32} {L : Nat → Nat → Int64} {Rf : Nat → Nat → Option Nat} {c0_25 : Int32} (ec0_25 : I 0 25 = c0_25) {c0_26 : Int32} (ec0_26 : I 0 26 = c0_26) {a7 : (Nat → Int32)} (ea7 : I 7 = a7) {out : Int32 × Int32 × (Nat → Int32)} {k55 : Int32 → (Nat → Int32) → Int32 → Int32 → Int32 → Int32 → Int32 → Int32 → Option (Int32 × Int32 × (Nat → Int32))} (hk55 : ∀ (c0_0 : Int32) (a1 : (Nat → Int32)) (v1 : Int32) (v2 : Int32) (v3 : Int32) (v4 : Int32) (v5 : Int32) (v6 : Int32), k55 c0_0 a1 v1 v2 v3 v4 v5 v6 = some out → k_W X 10 0 0 (k_Q X ad (some (.int out.1)) (k_ap [(0, .inl (0, out.2.1)), (1, .inr (.inr (.inl out.2.2)))] (shM, I, L, Rf))) ad (k_ap [(0, .inl (0, c0_0)), (1, .inr (.inr (.inl a1)))] (shM, I, L, Rf)) 55 [some (.ref 0), some (.int v1), some (.int v2), some (.int v3), some (.int v4), some (.int v5), some (.int v6), none, none, none] []) {k70 : Int32 → (Nat → Int32) → Int32 → Int32 → Int32 → Int32 → Int32 → Int32 → Int32 → Int32 → Option (Int32 × Int32 × (Nat → Int32))} (hk70 : ∀ (c0_0 : Int32) (a1 : (Nat → Int32)) (v1 : Int32) (v2 : Int32) (v3 : Int32) (v4 : Int32) (v5 : Int32) (v6 : Int32) (v7 : Int32) (v8 : Int32), k70 c0_0 a1 v1 v2 v3 v4 v5 v6 v7 v8 = some out → k_W X 10 0 0 (k_Q X ad (some (.int out.1)) (k_ap [(0, .inl (0, out.2.1)), (1, .inr (.inr (.inl out.2.2)))] (shM, I, L, Rf))) ad (k_ap [(0, .inl (0, c0_0)), (1, .inr (.inr (.inl a1)))] (shM, I, L, Rf)) 70 [some (.ref 0), some (.int v1), some (.int v2), some (.int v3), some (.int v4), some (.int v5), some (.int v6), some (.int v7), some (.int v8), none] []) : ∀ (c0_0 : Int32) (a1 : (Nat → Int32)) (v1 : Int32) (v2 : Int32) (v3 : Int32) (v4 : Int32) (v5 : Int32) (v6 : Int32) (v8 : Int32) (w0 : Int32) (w1 : Int32), bX11_canon_135 u c0_25 c0_26 a7 k55 k70 c0_0 a1 v1 v2 v3 v4 v5 v6 v8 w0 w1 = some out → k_W X 10 0 0 (k_Q X ad (some (.int out.1)) (k_ap [(0, .inl (0, out.2.1)), (1, .inr (.inr (.inl out.2.2)))] (shM, I, L, Rf))) ad (k_ap [(0, .inl (0, c0_0)), (1, .inr (.inr (.inl a1)))] (shM, I, L, Rf)) 135 [some (.ref 0), some (.int v1), some (.int v2), some (.int v3), some (.int v4), some (.int v5), some (.int v6), none, some (.int v8), none] [.int w0, .int w1] := by
  intro c0_0 a1 v1 v2 v3 v4 v5 v6 v8 w0 w1 h
  unfold bX11_canon_135 at h
  refine r_iadd C dX11_canon_135 (rfl : 135 + 1 = 136) ?_
  refine r_istore C dX11_canon_136 (rfl : 136 + 2 = 138) (by decide) (Nat.le_of_ble_eq_true rfl) ?_
  show k_W _ _ _ _ _ _ _ _ [some (.ref 0), some (.int v1), some (.int v2), some (.int v3), some (.int v4), some (.int v5), some (.int v6), some (.int (w1 + w0)), some (.int v8), none] _
  refine r_iinc (v := (v8 + (1 : Int32))) C dX11_canon_138 (rfl : 138 + 3 = 141) rfl rfl (by decide) ?_
  show k_W _ _ _ _ _ _ _ _ [some (.ref 0), some (.int v1), some (.int v2), some (.int v3), some (.int v4), some (.int v5), some (.int v6), some (.int (w1 + w0)), some (.int (v8 + (1 : Int32))), none] _
  refine r_goto (tgt := 70) C dX11_canon_141 (by decide) ?_
  refine k_mask [true, true, true, true, true, true, true, true, true, false] ?_
  exact hk70 c0_0 a1 v1 v2 v3 v4 v5 v6 (w1 + w0) (v8 + (1 : Int32)) h
set_option maxHeartbeats 400000 in
set_option maxRecDepth 100000 in
theorem sX11_canon_134 (u : Nat) {X : k_X} {ad : Nat → Nat} (C : k_C X cX11_canon RX11 10 ad) (hr : X.meth.sig.returnType = (some .int)) (hR : X.R.frames = 1 ∧ X.R.locals = 23) {I : Nat → Nat → Int32} {L : Nat → Nat → Int64} {Rf : Nat → Nat → Option Nat} {c0_25 : Int32} (ec0_25 : I 0 25 = c0_25) {c0_26 : Int32} (ec0_26 : I 0 26 = c0_26) {a7 : (Nat → Int32)} (ea7 : I 7 = a7) {out : Int32 × Int32 × (Nat → Int32)} {k55 : Int32 → (Nat → Int32) → Int32 → Int32 → Int32 → Int32 → Int32 → Int32 → Option (Int32 × Int32 × (Nat → Int32))} (hk55 : ∀ (c0_0 : Int32) (a1 : (Nat → Int32)) (v1 : Int32) (v2 : Int32) (v3 : Int32) (v4 : Int32) (v5 : Int32) (v6 : Int32), k55 c0_0 a1 v1 v2 v3 v4 v5 v6 = some out → k_W X 10 0 0 (k_Q X ad (some (.int out.1)) (k_ap [(0, .inl (0, out.2.1)), (1, .inr (.inr (.inl out.2.2)))] (shM, I, L, Rf))) ad (k_ap [(0, .inl (0, c0_0)), (1, .inr (.inr (.inl a1)))] (shM, I, L, Rf)) 55 [some (.ref 0), some (.int v1), some (.int v2), some (.int v3), some (.int v4), some (.int v5), some (.int v6), none, none, none] []) {k70 : Int32 → (Nat → Int32) → Int32 → Int32 → Int32 → Int32 → Int32 → Int32 → Int32 → Int32 → Option (Int32 × Int32 × (Nat → Int32))} (hk70 : ∀ (c0_0 : Int32) (a1 : (Nat → Int32)) (v1 : Int32) (v2 : Int32) (v3 : Int32) (v4 : Int32) (v5 : Int32) (v6 : Int32) (v7 : Int32) (v8 : Int32), k70 c0_0 a1 v1 v2 v3 v4 v5 v6 v7 v8 = some out → k_W X 10 0 0 (k_Q X ad (some (.int out.1)) (k_ap [(0, .inl (0, out.2.1)), (1, .inr (.inr (.inl out.2.2)))] (shM, I, L, Rf))) ad (k_ap [(0, .inl (0, c0_0)), (1, .inr (.inr (.inl a1)))] (shM, I, L, Rf)) 70 [some (.ref 0), some (.int v1), some (.int v2), some (.int v3), some (.int v4), some (.int v5), some (.int v6), some (.int v7), some (.int v8), none] []) : ∀ (c0_0 : Int32) (a1 : (Nat → Int32)) (v1 : Int32) (v2 : Int32) (v3 : Int32) (v4 : Int32) (v5 : Int32) (v6 : Int32) (v8 : Int32) (w0 : Int32), bX11_canon_134 u c0_25 c0_26 a7 k55 k70 c0_0 a1 v1 v2 v3 v4 v5 v6 v8 w0 = some out → k_W X 10 0 0 (k_Q X ad (some (.int out.1)) (k_ap [(0, .inl (0, out.2.1)), (1, .inr (.inr (.inl out.2.2)))] (shM, I, L, Rf))) ad (k_ap [(0, .inl (0, c0_0)), (1, .inr (.inr (.inl a1)))] (shM, I, L, Rf)) 134 [some (.ref 0), some (.int v1), some (.int v2), some (.int v3), some (.int v4), some (.int v5), some (.int v6), none, some (.int v8), none] [.int w0] := by
  intro c0_0 a1 v1 v2 v3 v4 v5 v6 v8 w0 h
  unfold bX11_canon_134 at h
  refine r_iconst (v := (0 : Int32)) C dX11_canon_134 (rfl : 134 + 1 = 135) rfl ?_
  refine k_mask [true, true, true, true, true, true, true, false, true, false] ?_
  exact sX11_canon_135 u C hr hR ec0_25 ec0_26 ea7 hk55 hk70 c0_0 a1 v1 v2 v3 v4 v5 v6 v8 (0 : Int32) w0 h
set_option maxHeartbeats 400000 in
set_option maxRecDepth 100000 in
theorem sX11_canon_162 (u : Nat) {X : k_X} {ad : Nat → Nat} (C : k_C X cX11_canon RX11 10 ad) (hr : X.meth.sig.returnType = (some .int)) (hR : X.R.frames = 1 ∧ X.R.locals = 23) {I : Nat → Nat → Int32} {L : Nat → Nat → Int64} {Rf : Nat → Nat → Option Nat} {c0_25 : Int32} (ec0_25 : I 0 25 = c0_25) {c0_26 : Int32} (ec0_26 : I 0 26 = c0_26) {a7 : (Nat → Int32)} (ea7 : I 7 = a7) {out : Int32 × Int32 × (Nat → Int32)} {k55 : Int32 → (Nat → Int32) → Int32 → Int32 → Int32 → Int32 → Int32 → Int32 → Option (Int32 × Int32 × (Nat → Int32))} (hk55 : ∀ (c0_0 : Int32) (a1 : (Nat → Int32)) (v1 : Int32) (v2 : Int32) (v3 : Int32) (v4 : Int32) (v5 : Int32) (v6 : Int32), k55 c0_0 a1 v1 v2 v3 v4 v5 v6 = some out → k_W X 10 0 0 (k_Q X ad (some (.int out.1)) (k_ap [(0, .inl (0, out.2.1)), (1, .inr (.inr (.inl out.2.2)))] (shM, I, L, Rf))) ad (k_ap [(0, .inl (0, c0_0)), (1, .inr (.inr (.inl a1)))] (shM, I, L, Rf)) 55 [some (.ref 0), some (.int v1), some (.int v2), some (.int v3), some (.int v4), some (.int v5), some (.int v6), none, none, none] []) : ∀ (c0_0 : Int32) (a1 : (Nat → Int32)) (v1 : Int32) (v2 : Int32) (v3 : Int32) (v4 : Int32) (v5 : Int32) (v6 : Int32), bX11_canon_162 u c0_25 c0_26 a7 k55 c0_0 a1 v1 v2 v3 v4 v5 v6 = some out → k_W X 10 0 0 (k_Q X ad (some (.int out.1)) (k_ap [(0, .inl (0, out.2.1)), (1, .inr (.inr (.inl out.2.2)))] (shM, I, L, Rf))) ad (k_ap [(0, .inl (0, c0_0)), (1, .inr (.inr (.inl a1)))] (shM, I, L, Rf)) 162 [some (.ref 0), some (.int v1), some (.int v2), some (.int v3), some (.int v4), some (.int v5), some (.int v6), none, none, none] [] := by
  intro c0_0 a1 v1 v2 v3 v4 v5 v6 h
  unfold bX11_canon_162 at h
  refine r_iinc (v := (v6 + (1 : Int32))) C dX11_canon_162 (rfl : 162 + 3 = 165) rfl rfl (by decide) ?_
  show k_W _ _ _ _ _ _ _ _ [some (.ref 0), some (.int v1), some (.int v2), some (.int v3), some (.int v4), some (.int v5), some (.int (v6 + (1 : Int32))), none, none, none] _
  refine r_goto (tgt := 55) C dX11_canon_165 (by decide) ?_
  refine k_mask [true, true, true, true, true, true, true, false, false, false] ?_
  exact hk55 c0_0 a1 v1 v2 v3 v4 v5 (v6 + (1 : Int32)) h
set_option maxHeartbeats 400000 in
set_option maxRecDepth 100000 in
theorem sX11_canon_70 (u : Nat) {X : k_X} {ad : Nat → Nat} (C : k_C X cX11_canon RX11 10 ad) (hr : X.meth.sig.returnType = (some .int)) (hR : X.R.frames = 1 ∧ X.R.locals = 23) {I : Nat → Nat → Int32} {L : Nat → Nat → Int64} {Rf : Nat → Nat → Option Nat} {c0_25 : Int32} (ec0_25 : I 0 25 = c0_25) {c0_26 : Int32} (ec0_26 : I 0 26 = c0_26) {a7 : (Nat → Int32)} (ea7 : I 7 = a7) {out : Int32 × Int32 × (Nat → Int32)} {k55 : Int32 → (Nat → Int32) → Int32 → Int32 → Int32 → Int32 → Int32 → Int32 → Option (Int32 × Int32 × (Nat → Int32))} (hk55 : ∀ (c0_0 : Int32) (a1 : (Nat → Int32)) (v1 : Int32) (v2 : Int32) (v3 : Int32) (v4 : Int32) (v5 : Int32) (v6 : Int32), k55 c0_0 a1 v1 v2 v3 v4 v5 v6 = some out → k_W X 10 0 0 (k_Q X ad (some (.int out.1)) (k_ap [(0, .inl (0, out.2.1)), (1, .inr (.inr (.inl out.2.2)))] (shM, I, L, Rf))) ad (k_ap [(0, .inl (0, c0_0)), (1, .inr (.inr (.inl a1)))] (shM, I, L, Rf)) 55 [some (.ref 0), some (.int v1), some (.int v2), some (.int v3), some (.int v4), some (.int v5), some (.int v6), none, none, none] []) : ∀ (n : Nat) (c0_0 : Int32) (a1 : (Nat → Int32)) (v1 : Int32) (v2 : Int32) (v3 : Int32) (v4 : Int32) (v5 : Int32) (v6 : Int32) (v7 : Int32) (v8 : Int32), bX11_canon_70 u c0_25 c0_26 a7 k55 n c0_0 a1 v1 v2 v3 v4 v5 v6 v7 v8 = some out → k_W X 10 0 0 (k_Q X ad (some (.int out.1)) (k_ap [(0, .inl (0, out.2.1)), (1, .inr (.inr (.inl out.2.2)))] (shM, I, L, Rf))) ad (k_ap [(0, .inl (0, c0_0)), (1, .inr (.inr (.inl a1)))] (shM, I, L, Rf)) 70 [some (.ref 0), some (.int v1), some (.int v2), some (.int v3), some (.int v4), some (.int v5), some (.int v6), some (.int v7), some (.int v8), none] [] := by
  intro n
  induction n with
  | zero => intro c0_0 a1 v1 v2 v3 v4 v5 v6 v7 v8 h; cases h
  | succ n ih =>
    intro c0_0 a1 v1 v2 v3 v4 v5 v6 v7 v8 h
    refine r_iload C dX11_canon_70 (rfl : 70 + 2 = 72) rfl ?_
    refine r_iload C dX11_canon_72 (rfl : 72 + 2 = 74) rfl ?_
    refine r_iadd C dX11_canon_74 (rfl : 74 + 1 = 75) ?_
    refine r_aload_n C dX11_canon_75 (rfl : 75 + 1 = 76) rfl ?_
    refine r_getI (v := c0_26) C dX11_canon_76 (rfl : 76 + 3 = 79) fl_X11_187 rfl rfl ec0_26 ?_
    refine r_icmp_ge (tgt := 144) C dX11_canon_79 (by decide) (rfl : 79 + 3 = 82) (fun c79 => ?_) (fun c79 => ?_)
    · have h := k_t c79 h
      refine r_iload C dX11_canon_144 (rfl : 144 + 2 = 146) rfl ?_
      refine r_iload C dX11_canon_146 (rfl : 146 + 2 = 148) rfl ?_
      refine r_icmp_gt (tgt := 154) C dX11_canon_148 (by decide) (rfl : 148 + 3 = 151) (fun c148 => ?_) (fun c148 => ?_)
      · have h := k_t c148 h
        refine r_iload C dX11_canon_154 (rfl : 154 + 2 = 156) rfl ?_
        refine r_istore C dX11_canon_156 (rfl : 156 + 2 = 158) (by decide) (Nat.le_of_ble_eq_true rfl) ?_
        show k_W _ _ _ _ _ _ _ _ [some (.ref 0), some (.int v1), some (.int v2), some (.int v3), some (.int v6), some (.int v5), some (.int v6), some (.int v7), some (.int v8), none] _
        refine r_iload C dX11_canon_158 (rfl : 158 + 2 = 160) rfl ?_
        refine r_istore C dX11_canon_160 (rfl : 160 + 2 = 162) (by decide) (Nat.le_of_ble_eq_true rfl) ?_
        show k_W _ _ _ _ _ _ _ _ [some (.ref 0), some (.int v1), some (.int v2), some (.int v3), some (.int v6), some (.int v7), some (.int v6), some (.int v7), some (.int v8), none] _
        refine k_mask [true, true, true, true, true, true, true, false, false, false] ?_
        exact sX11_canon_162 u C hr hR ec0_25 ec0_26 ea7 hk55 c0_0 a1 v1 v2 v3 v6 v7 v6 h
      · have h := k_f c148 h
        refine r_goto (tgt := 162) C dX11_canon_151 (by decide) ?_
        refine k_mask [true, true, true, true, true, true, true, false, false, false] ?_
        exact sX11_canon_162 u C hr hR ec0_25 ec0_26 ea7 hk55 c0_0 a1 v1 v2 v3 v4 v5 v6 h
    · have h := k_f c79 h
      refine r_aload_n C dX11_canon_82 (rfl : 82 + 1 = 83) rfl ?_
      refine r_getR (q := 7) C dX11_canon_83 (rfl : 83 + 3 = 86) fl_X11_35 rfl rfl ?_
      refine r_bipush (v := (8 : Int32)) C dX11_canon_86 (rfl : 86 + 2 = 88) rfl ?_
      refine r_iload C dX11_canon_88 (rfl : 88 + 2 = 90) rfl ?_
      refine r_imul C dX11_canon_90 (rfl : 90 + 1 = 91) ?_
      refine r_iload_n C dX11_canon_91 (rfl : 91 + 1 = 92) rfl ?_
      refine r_iadd C dX11_canon_92 (rfl : 92 + 1 = 93) ?_
      obtain ⟨hi93, h⟩ := k_i_of h
      refine a_i (j := ((((8 : Int32) * v8) + v2)).toNatClampNeg) (f := a7) C dX11_canon_93 (rfl : 93 + 1 = 94) rfl ea7 hi93 rfl ?_
      refine r_istore C dX11_canon_94 (rfl : 94 + 2 = 96) (by decide) (Nat.le_of_ble_eq_true rfl) ?_
      show k_W _ _ _ _ _ _ _ _ [some (.ref 0), some (.int v1), some (.int v2), some (.int v3), some (.int v4), some (.int v5), some (.int v6), some (.int v7), some (.int v8), some (.int (a7 (((((8 : Int32) * v8) + v2)).toNatClampNeg)))] _
      refine r_iload C dX11_canon_96 (rfl : 96 + 2 = 98) rfl ?_
      refine r_iload C dX11_canon_98 (rfl : 98 + 2 = 100) rfl ?_
      refine r_iconst (v := (1 : Int32)) C dX11_canon_100 (rfl : 100 + 1 = 101) rfl ?_
      refine r_icmp_lt (tgt := 134) C dX11_canon_101 (by decide) (rfl : 101 + 3 = 104) (fun c101 => ?_) (fun c101 => ?_)
      · have h := k_t c101 h
        refine k_mask [true, true, true, true, true, true, true, false, true, false] ?_
        exact sX11_canon_134 u C hr hR ec0_25 ec0_26 ea7 hk55 ih c0_0 a1 v1 v2 v3 v4 v5 v6 v8 v7 h
      · have h := k_f c101 h
        refine r_iload C dX11_canon_104 (rfl : 104 + 2 = 106) rfl ?_
        refine r_iconst (v := (4 : Int32)) C dX11_canon_106 (rfl : 106 + 1 = 107) rfl ?_
        refine r_icmp_gt (tgt := 134) C dX11_canon_107 (by decide) (rfl : 107 + 3 = 110) (fun c107 => ?_) (fun c107 => ?_)
        · have h := k_t c107 h
          refine k_mask [true, true, true, true, true, true, true, false, true, false] ?_
          exact sX11_canon_134 u C hr hR ec0_25 ec0_26 ea7 hk55 ih c0_0 a1 v1 v2 v3 v4 v5 v6 v8 v7 h
        · have h := k_f c107 h
          refine r_iload C dX11_canon_110 (rfl : 110 + 2 = 112) rfl ?_
          refine r_aload_n C dX11_canon_112 (rfl : 112 + 1 = 113) rfl ?_
          refine r_getR (q := 7) C dX11_canon_113 (rfl : 113 + 3 = 116) fl_X11_35 rfl rfl ?_
          refine r_bipush (v := (8 : Int32)) C dX11_canon_116 (rfl : 116 + 2 = 118) rfl ?_
          refine r_iload C dX11_canon_118 (rfl : 118 + 2 = 120) rfl ?_
          refine r_iload C dX11_canon_120 (rfl : 120 + 2 = 122) rfl ?_
          refine r_iadd C dX11_canon_122 (rfl : 122 + 1 = 123) ?_
          refine r_imul C dX11_canon_123 (rfl : 123 + 1 = 124) ?_
          refine r_iload_n C dX11_canon_124 (rfl : 124 + 1 = 125) rfl ?_
          refine r_iadd C dX11_canon_125 (rfl : 125 + 1 = 126) ?_
          obtain ⟨hi126, h⟩ := k_i_of h
          refine a_i (j := ((((8 : Int32) * (v8 + v6)) + v1)).toNatClampNeg) (f := a7) C dX11_canon_126 (rfl : 126 + 1 = 127) rfl ea7 hi126 rfl ?_
          refine r_icmp_ne (tgt := 134) C dX11_canon_127 (by decide) (rfl : 127 + 3 = 130) (fun c127 => ?_) (fun c127 => ?_)
          · have h := k_f c127 h
            refine k_mask [true, true, true, true, true, true, true, false, true, false] ?_
            exact sX11_canon_134 u C hr hR ec0_25 ec0_26 ea7 hk55 ih c0_0 a1 v1 v2 v3 v4 v5 v6 v8 v7 h
          · have h := k_t c127 h
            refine r_iconst (v := (1 : Int32)) C dX11_canon_130 (rfl : 130 + 1 = 131) rfl ?_
            refine r_goto (tgt := 135) C dX11_canon_131 (by decide) ?_
            refine k_mask [true, true, true, true, true, true, true, false, true, false] ?_
            exact sX11_canon_135 u C hr hR ec0_25 ec0_26 ea7 hk55 ih c0_0 a1 v1 v2 v3 v4 v5 v6 v8 (1 : Int32) v7 h
set_option maxHeartbeats 400000 in
set_option maxRecDepth 100000 in
theorem sX11_canon_55 (u : Nat) {X : k_X} {ad : Nat → Nat} (C : k_C X cX11_canon RX11 10 ad) (hr : X.meth.sig.returnType = (some .int)) (hR : X.R.frames = 1 ∧ X.R.locals = 23) {I : Nat → Nat → Int32} {L : Nat → Nat → Int64} {Rf : Nat → Nat → Option Nat} {c0_25 : Int32} (ec0_25 : I 0 25 = c0_25) {c0_26 : Int32} (ec0_26 : I 0 26 = c0_26) {a7 : (Nat → Int32)} (ea7 : I 7 = a7) {out : Int32 × Int32 × (Nat → Int32)} : ∀ (n : Nat) (c0_0 : Int32) (a1 : (Nat → Int32)) (v1 : Int32) (v2 : Int32) (v3 : Int32) (v4 : Int32) (v5 : Int32) (v6 : Int32), bX11_canon_55 u c0_25 c0_26 a7 n c0_0 a1 v1 v2 v3 v4 v5 v6 = some out → k_W X 10 0 0 (k_Q X ad (some (.int out.1)) (k_ap [(0, .inl (0, out.2.1)), (1, .inr (.inr (.inl out.2.2)))] (shM, I, L, Rf))) ad (k_ap [(0, .inl (0, c0_0)), (1, .inr (.inr (.inl a1)))] (shM, I, L, Rf)) 55 [some (.ref 0), some (.int v1), some (.int v2), some (.int v3), some (.int v4), some (.int v5), some (.int v6), none, none, none] [] := by
  intro n
  induction n with
  | zero => intro c0_0 a1 v1 v2 v3 v4 v5 v6 h; cases h
  | succ n ih =>
    intro c0_0 a1 v1 v2 v3 v4 v5 v6 h
    refine r_iload C dX11_canon_55 (rfl : 55 + 2 = 57) rfl ?_
    refine r_aload_n C dX11_canon_57 (rfl : 57 + 1 = 58) rfl ?_
    refine r_getI (v := c0_26) C dX11_canon_58 (rfl : 58 + 3 = 61) fl_X11_187 rfl rfl ec0_26 ?_
    refine r_icmp_ge (tgt := 168) C dX11_canon_61 (by decide) (rfl : 61 + 3 = 64) (fun c61 => ?_) (fun c61 => ?_)
    · have h := k_t c61 h
      refine r_iload_n C dX11_canon_168 (rfl : 168 + 1 = 169) rfl ?_
      refine r_if_ne (tgt := 177) C dX11_canon_169 (by decide) (rfl : 169 + 3 = 172) (fun c169 => ?_) (fun c169 => ?_)
      · have h := k_f c169 h
        refine r_iload C dX11_canon_177 (rfl : 177 + 2 = 179) rfl ?_
        cases h
        exact r_iret C hr dX11_canon_179
      · have h := k_t c169 h
        refine r_iload C dX11_canon_172 (rfl : 172 + 2 = 174) rfl ?_
        refine r_goto (tgt := 179) C dX11_canon_174 (by decide) ?_
        cases h
        exact r_iret C hr dX11_canon_179
    · have h := k_f c61 h
      refine r_iconst (v := (0 : Int32)) C dX11_canon_64 (rfl : 64 + 1 = 65) rfl ?_
      refine r_istore C dX11_canon_65 (rfl : 65 + 2 = 67) (by decide) (Nat.le_of_ble_eq_true rfl) ?_
      show k_W _ _ _ _ _ _ _ _ [some (.ref 0), some (.int v1), some (.int v2), some (.int v3), some (.int v4), some (.int v5), some (.int v6), some (.int (0 : Int32)), none, none] _
      refine r_iconst (v := (0 : Int32)) C dX11_canon_67 (rfl : 67 + 1 = 68) rfl ?_
      refine r_istore C dX11_canon_68 (rfl : 68 + 2 = 70) (by decide) (Nat.le_of_ble_eq_true rfl) ?_
      show k_W _ _ _ _ _ _ _ _ [some (.ref 0), some (.int v1), some (.int v2), some (.int v3), some (.int v4), some (.int v5), some (.int v6), some (.int (0 : Int32)), some (.int (0 : Int32)), none] _
      refine k_mask [true, true, true, true, true, true, true, true, true, false] ?_
      exact sX11_canon_70 u C hr hR ec0_25 ec0_26 ea7 ih u c0_0 a1 v1 v2 v3 v4 v5 v6 (0 : Int32) (0 : Int32) h
set_option maxHeartbeats 400000 in
set_option maxRecDepth 100000 in
theorem sX11_canon_36 (u : Nat) {X : k_X} {ad : Nat → Nat} (C : k_C X cX11_canon RX11 10 ad) (hr : X.meth.sig.returnType = (some .int)) (hR : X.R.frames = 1 ∧ X.R.locals = 23) {I : Nat → Nat → Int32} {L : Nat → Nat → Int64} {Rf : Nat → Nat → Option Nat} {c0_25 : Int32} (ec0_25 : I 0 25 = c0_25) {c0_26 : Int32} (ec0_26 : I 0 26 = c0_26) {a7 : (Nat → Int32)} (ea7 : I 7 = a7) {out : Int32 × Int32 × (Nat → Int32)} : ∀ (c0_0 : Int32) (a1 : (Nat → Int32)) (v1 : Int32) (v2 : Int32) (v3 : Int32) (w0 : Int32), bX11_canon_36 u c0_25 c0_26 a7 c0_0 a1 v1 v2 v3 w0 = some out → k_W X 10 0 0 (k_Q X ad (some (.int out.1)) (k_ap [(0, .inl (0, out.2.1)), (1, .inr (.inr (.inl out.2.2)))] (shM, I, L, Rf))) ad (k_ap [(0, .inl (0, c0_0)), (1, .inr (.inr (.inl a1)))] (shM, I, L, Rf)) 36 [some (.ref 0), some (.int v1), some (.int v2), some (.int v3), none, none, none, none, none, none] [.int w0, .ref 0] := by
  intro c0_0 a1 v1 v2 v3 w0 h
  unfold bX11_canon_36 at h
  refine r_iconst (v := (1 : Int32)) C dX11_canon_36 (rfl : 36 + 1 = 37) rfl ?_
  refine r_iconst (v := (2 : Int32)) C dX11_canon_37 (rfl : 37 + 1 = 38) rfl ?_
  obtain ⟨r38, q38, h⟩ := k_b_of h
  refine d_V (As := [.int w0, .int (1 : Int32), .int (2 : Int32)]) (st := []) (st' := [.int r38.1]) (h' := k_ap [(0, .inl (0, r38.2.1)), (1, .inr (.inr (.inl r38.2.2)))] (shM, I, L, Rf)) C hR ⟨Nat.zero_le _, Nat.zero_le _⟩ mv_X11_may lk_X11_252 dX11_canon_38 (rfl : 38 + 3 = 41) rfl rfl rfl rfl (c_X11_may X.l u (k_ap [(0, .inl (0, c0_0)), (1, .inr (.inr (.inl a1)))] (shM, I, L, Rf)) rfl rfl rfl q38) rfl rfl rfl (k_jn (us' := [(0, .inl (0, r38.2.1)), (1, .inr (.inr (.inl r38.2.2)))]) ds_X11_canon rfl rfl rfl) rfl ?_
  refine r_if_ne (tgt := 46) C dX11_canon_41 (by decide) (rfl : 41 + 3 = 44) (fun c41 => ?_) (fun c41 => ?_)
  · have h := k_f c41 h
    refine r_iconst (v := (0 : Int32)) C dX11_canon_46 (rfl : 46 + 1 = 47) rfl ?_
    refine r_istore C dX11_canon_47 (rfl : 47 + 2 = 49) (by decide) (Nat.le_of_ble_eq_true rfl) ?_
    show k_W _ _ _ _ _ _ _ _ [some (.ref 0), some (.int v1), some (.int v2), some (.int v3), some (.int (0 : Int32)), none, none, none, none, none] _
    refine r_iconst (v := (-1 : Int32)) C dX11_canon_49 (rfl : 49 + 1 = 50) rfl ?_
    refine r_istore C dX11_canon_50 (rfl : 50 + 2 = 52) (by decide) (Nat.le_of_ble_eq_true rfl) ?_
    show k_W _ _ _ _ _ _ _ _ [some (.ref 0), some (.int v1), some (.int v2), some (.int v3), some (.int (0 : Int32)), some (.int (-1 : Int32)), none, none, none, none] _
    refine r_iconst (v := (0 : Int32)) C dX11_canon_52 (rfl : 52 + 1 = 53) rfl ?_
    refine r_istore C dX11_canon_53 (rfl : 53 + 2 = 55) (by decide) (Nat.le_of_ble_eq_true rfl) ?_
    show k_W _ _ _ _ _ _ _ _ [some (.ref 0), some (.int v1), some (.int v2), some (.int v3), some (.int (0 : Int32)), some (.int (-1 : Int32)), some (.int (0 : Int32)), none, none, none] _
    refine k_mask [true, true, true, true, true, true, true, false, false, false] ?_
    exact sX11_canon_55 u C hr hR ec0_25 ec0_26 ea7 u r38.2.1 r38.2.2 v1 v2 v3 (0 : Int32) (-1 : Int32) (0 : Int32) h
  · have h := k_t c41 h
    refine r_iconst (v := (0 : Int32)) C dX11_canon_44 (rfl : 44 + 1 = 45) rfl ?_
    cases h
    exact r_iret C hr dX11_canon_45
set_option maxHeartbeats 400000 in
set_option maxRecDepth 100000 in
theorem sX11_canon_35 (u : Nat) {X : k_X} {ad : Nat → Nat} (C : k_C X cX11_canon RX11 10 ad) (hr : X.meth.sig.returnType = (some .int)) (hR : X.R.frames = 1 ∧ X.R.locals = 23) {I : Nat → Nat → Int32} {L : Nat → Nat → Int64} {Rf : Nat → Nat → Option Nat} {c0_25 : Int32} (ec0_25 : I 0 25 = c0_25) {c0_26 : Int32} (ec0_26 : I 0 26 = c0_26) {a7 : (Nat → Int32)} (ea7 : I 7 = a7) {out : Int32 × Int32 × (Nat → Int32)} : ∀ (c0_0 : Int32) (a1 : (Nat → Int32)) (v1 : Int32) (v2 : Int32) (v3 : Int32), bX11_canon_35 u c0_25 c0_26 a7 c0_0 a1 v1 v2 v3 = some out → k_W X 10 0 0 (k_Q X ad (some (.int out.1)) (k_ap [(0, .inl (0, out.2.1)), (1, .inr (.inr (.inl out.2.2)))] (shM, I, L, Rf))) ad (k_ap [(0, .inl (0, c0_0)), (1, .inr (.inr (.inl a1)))] (shM, I, L, Rf)) 35 [some (.ref 0), some (.int v1), some (.int v2), some (.int v3), none, none, none, none, none, none] [.ref 0] := by
  intro c0_0 a1 v1 v2 v3 h
  unfold bX11_canon_35 at h
  refine r_iconst (v := (0 : Int32)) C dX11_canon_35 (rfl : 35 + 1 = 36) rfl ?_
  refine k_mask [true, true, true, true, false, false, false, false, false, false] ?_
  exact sX11_canon_36 u C hr hR ec0_25 ec0_26 ea7 c0_0 a1 v1 v2 v3 (0 : Int32) h
set_option maxHeartbeats 400000 in
set_option maxRecDepth 100000 in
theorem sX11_canon_0 (u : Nat) {X : k_X} {ad : Nat → Nat} (C : k_C X cX11_canon RX11 10 ad) (hr : X.meth.sig.returnType = (some .int)) (hR : X.R.frames = 1 ∧ X.R.locals = 23) {I : Nat → Nat → Int32} {L : Nat → Nat → Int64} {Rf : Nat → Nat → Option Nat} {c0_25 : Int32} (ec0_25 : I 0 25 = c0_25) {c0_26 : Int32} (ec0_26 : I 0 26 = c0_26) {a7 : (Nat → Int32)} (ea7 : I 7 = a7) {out : Int32 × Int32 × (Nat → Int32)} : ∀ (c0_0 : Int32) (a1 : (Nat → Int32)) (v1 : Int32) (v2 : Int32) (v3 : Int32), bX11_canon_0 u c0_25 c0_26 a7 c0_0 a1 v1 v2 v3 = some out → k_W X 10 0 0 (k_Q X ad (some (.int out.1)) (k_ap [(0, .inl (0, out.2.1)), (1, .inr (.inr (.inl out.2.2)))] (shM, I, L, Rf))) ad (k_ap [(0, .inl (0, c0_0)), (1, .inr (.inr (.inl a1)))] (shM, I, L, Rf)) 0 [some (.ref 0), some (.int v1), some (.int v2), some (.int v3), none, none, none, none, none, none] [] := by
  intro c0_0 a1 v1 v2 v3 h
  unfold bX11_canon_0 at h
  refine r_aload_n C dX11_canon_0 (rfl : 0 + 1 = 1) rfl ?_
  refine r_iconst (v := (0 : Int32)) C dX11_canon_1 (rfl : 1 + 1 = 2) rfl ?_
  refine p_I (us' := [(0, .inl (0, (0 : Int32))), (1, .inr (.inr (.inl a1)))]) C dX11_canon_2 (rfl : 2 + 3 = 5) fp_X11_3 rfl rfl ds_X11_canon rfl rfl rfl ?_
  refine r_aload_n C dX11_canon_5 (rfl : 5 + 1 = 6) rfl ?_
  refine r_aload_n C dX11_canon_6 (rfl : 6 + 1 = 7) rfl ?_
  refine r_iload_n C dX11_canon_7 (rfl : 7 + 1 = 8) rfl ?_
  obtain ⟨r8, q8, h⟩ := k_b_of h
  refine d_V (As := [.int v1]) (st := [.ref 0]) (st' := [.int r8, .ref 0]) (h' := k_ap [(0, .inl (0, (0 : Int32))), (1, .inr (.inr (.inl a1)))] (shM, I, L, Rf)) C hR ⟨Nat.zero_le _, Nat.zero_le _⟩ mv_X11_isColumn lk_X11_452 dX11_canon_8 (rfl : 8 + 3 = 11) rfl rfl rfl rfl (c_X11_isColumn X.l u (k_ap [(0, .inl (0, (0 : Int32))), (1, .inr (.inr (.inl a1)))] (shM, I, L, Rf)) rfl ec0_25 q8) rfl rfl rfl rfl rfl ?_
  refine r_if_eq (tgt := 35) C dX11_canon_11 (by decide) (rfl : 11 + 3 = 14) (fun c11 => ?_) (fun c11 => ?_)
  · have h := k_t c11 h
    refine k_mask [true, true, true, true, false, false, false, false, false, false] ?_
    exact sX11_canon_35 u C hr hR ec0_25 ec0_26 ea7 (0 : Int32) a1 v1 v2 v3 h
  · have h := k_f c11 h
    refine r_aload_n C dX11_canon_14 (rfl : 14 + 1 = 15) rfl ?_
    refine r_iload_n C dX11_canon_15 (rfl : 15 + 1 = 16) rfl ?_
    obtain ⟨r16, q16, h⟩ := k_b_of h
    refine d_V (As := [.int v2]) (st := [.ref 0]) (st' := [.int r16, .ref 0]) (h' := k_ap [(0, .inl (0, (0 : Int32))), (1, .inr (.inr (.inl a1)))] (shM, I, L, Rf)) C hR ⟨Nat.zero_le _, Nat.zero_le _⟩ mv_X11_isColumn lk_X11_452 dX11_canon_16 (rfl : 16 + 3 = 19) rfl rfl rfl rfl (c_X11_isColumn X.l u (k_ap [(0, .inl (0, (0 : Int32))), (1, .inr (.inr (.inl a1)))] (shM, I, L, Rf)) rfl ec0_25 q16) rfl rfl rfl rfl rfl ?_
    refine r_if_eq (tgt := 35) C dX11_canon_19 (by decide) (rfl : 19 + 3 = 22) (fun c19 => ?_) (fun c19 => ?_)
    · have h := k_t c19 h
      refine k_mask [true, true, true, true, false, false, false, false, false, false] ?_
      exact sX11_canon_35 u C hr hR ec0_25 ec0_26 ea7 (0 : Int32) a1 v1 v2 v3 h
    · have h := k_f c19 h
      refine r_iload_n C dX11_canon_22 (rfl : 22 + 1 = 23) rfl ?_
      refine r_iconst (v := (0 : Int32)) C dX11_canon_23 (rfl : 23 + 1 = 24) rfl ?_
      refine r_iconst (v := (1 : Int32)) C dX11_canon_24 (rfl : 24 + 1 = 25) rfl ?_
      obtain ⟨r25, q25, h⟩ := k_b_of h
      refine d_S (As := [.int v3, .int (0 : Int32), .int (1 : Int32)]) (st := [.ref 0]) (st' := [.int r25, .ref 0]) (h' := k_ap [(0, .inl (0, (0 : Int32))), (1, .inr (.inr (.inl a1)))] (shM, I, L, Rf)) C hR ⟨Nat.zero_le _, Nat.zero_le _⟩ ms_X11_within lk_X11_317 dX11_canon_25 (rfl : 25 + 3 = 28) rfl rfl (c_X11_within X.l u (k_ap [(0, .inl (0, (0 : Int32))), (1, .inr (.inr (.inl a1)))] (shM, I, L, Rf)) rfl  q25) rfl rfl rfl rfl rfl ?_
      refine r_if_eq (tgt := 35) C dX11_canon_28 (by decide) (rfl : 28 + 3 = 31) (fun c28 => ?_) (fun c28 => ?_)
      · have h := k_t c28 h
        refine k_mask [true, true, true, true, false, false, false, false, false, false] ?_
        exact sX11_canon_35 u C hr hR ec0_25 ec0_26 ea7 (0 : Int32) a1 v1 v2 v3 h
      · have h := k_f c28 h
        refine r_iconst (v := (1 : Int32)) C dX11_canon_31 (rfl : 31 + 1 = 32) rfl ?_
        refine r_goto (tgt := 36) C dX11_canon_32 (by decide) ?_
        refine k_mask [true, true, true, true, false, false, false, false, false, false] ?_
        exact sX11_canon_36 u C hr hR ec0_25 ec0_26 ea7 (0 : Int32) a1 v1 v2 v3 (1 : Int32) h
set_option maxHeartbeats 400000 in
set_option maxRecDepth 100000 in
theorem c_X11_canon (l : Launch) (u : Nat) (h : k_H) (hsh : h.1 = shM) {c0_0 : Int32} (ec0_0 : h.2.1 0 0 = c0_0) {c0_25 : Int32} (ec0_25 : h.2.1 0 25 = c0_25) {c0_26 : Int32} (ec0_26 : h.2.1 0 26 = c0_26) {a1 : (Nat → Int32)} (ea1 : h.2.1 1 = a1) {a7 : (Nat → Int32)} (ea7 : h.2.1 7 = a7) {x0 : Int32} {x1 : Int32} {x2 : Int32} {out : Int32 × Int32 × (Nat → Int32)} (hf : f_X11_canon u c0_0 c0_25 c0_26 a1 a7 x0 x1 x2 = some out) : k_CT l yX11_canon cX11_canon 10 (some .int) 1 23 [.ref 0, .int x0, .int x1, .int x2] h (some (.int out.1)) [(0, .inl (0, out.2.1)), (1, .inr (.inr (.inl out.2.2)))] := by
  obtain ⟨sh, I, L, Rf⟩ := h
  try dsimp only
  obtain rfl : sh = shM := hsh
  refine k_ofW (by decide) (Nat.le_of_ble_eq_true rfl) ?_
  intro X ad hl hR0 hr C
  have hR : X.R.frames = 1 ∧ X.R.locals = 23 := by rw [hR0]; exact ⟨rfl, rfl⟩
  have h := hf
  unfold f_X11_canon at h
  refine k_start (us := [(0, .inl (0, c0_0)), (1, .inr (.inr (.inl a1)))]) (k_ao_I ec0_0 (k_ao_A ea1 k_ap_0)) ?_
  show k_W X 10 0 0 _ ad (k_ap [(0, .inl (0, c0_0)), (1, .inr (.inr (.inl a1)))] (shM, I, L, Rf)) 0 [some (.ref 0), some (.int x0), some (.int x1), some (.int x2), none, none, none, none, none, none] []
  refine k_mask [true, true, true, true, false, false, false, false, false, false] ?_
  exact sX11_canon_0 u C hr hR ec0_25 ec0_26 ea7 c0_0 a1 x0 x1 x2 h
/-! LullabyPitModel.getsOf(III)I -/
theorem ds_X11_getsOf : k_ds [] = true := by decide +kernel
set_option maxHeartbeats 400000 in
set_option maxRecDepth 100000 in
theorem sX11_getsOf_0 (u : Nat) {X : k_X} {ad : Nat → Nat} (C : k_C X cX11_getsOf RX11 5 ad) (hr : X.meth.sig.returnType = (some .int)) (hR : X.R.frames = 0 ∧ X.R.locals = 0) {I : Nat → Nat → Int32} {L : Nat → Nat → Int64} {Rf : Nat → Nat → Option Nat} {a9 : (Nat → Int32)} (ea9 : I 9 = a9) {out : Int32} : ∀ (v1 : Int32) (v2 : Int32) (v3 : Int32), bX11_getsOf_0 u a9 v1 v2 v3 = some out → k_W X 5 0 0 (k_Q X ad (some (.int out)) (k_ap [] (shM, I, L, Rf))) ad (k_ap [] (shM, I, L, Rf)) 0 [some (.ref 0), some (.int v1), some (.int v2), some (.int v3), none] [] := by
  intro v1 v2 v3 h
  unfold bX11_getsOf_0 at h
  refine r_aload_n C dX11_getsOf_0 (rfl : 0 + 1 = 1) rfl ?_
  refine r_getR (q := 9) C dX11_getsOf_1 (rfl : 1 + 3 = 4) fl_X11_41 rfl rfl ?_
  refine r_iload_n C dX11_getsOf_4 (rfl : 4 + 1 = 5) rfl ?_
  obtain ⟨hi5, h⟩ := k_i_of h
  refine a_i (j := (v1).toNatClampNeg) (f := a9) C dX11_getsOf_5 (rfl : 5 + 1 = 6) rfl ea9 hi5 rfl ?_
  refine r_iload_n C dX11_getsOf_6 (rfl : 6 + 1 = 7) rfl ?_
  refine r_isub C dX11_getsOf_7 (rfl : 7 + 1 = 8) ?_
  refine r_iload_n C dX11_getsOf_8 (rfl : 8 + 1 = 9) rfl ?_
  refine r_isub C dX11_getsOf_9 (rfl : 9 + 1 = 10) ?_
  refine r_istore C dX11_getsOf_10 (rfl : 10 + 2 = 12) (by decide) (Nat.le_of_ble_eq_true rfl) ?_
  show k_W _ _ _ _ _ _ _ _ [some (.ref 0), some (.int v1), some (.int v2), some (.int v3), some (.int (((a9 ((v1).toNatClampNeg)) - v2) - v3))] _
  refine r_iload C dX11_getsOf_12 (rfl : 12 + 2 = 14) rfl ?_
  refine r_if_le (tgt := 24) C dX11_getsOf_14 (by decide) (rfl : 14 + 3 = 17) (fun c14 => ?_) (fun c14 => ?_)
  · have h := k_t c14 h
    refine r_iconst (v := (0 : Int32)) C dX11_getsOf_24 (rfl : 24 + 1 = 25) rfl ?_
    cases h
    exact r_iret C hr dX11_getsOf_25
  · have h := k_f c14 h
    refine r_iload_n C dX11_getsOf_17 (rfl : 17 + 1 = 18) rfl ?_
    refine r_iload C dX11_getsOf_18 (rfl : 18 + 2 = 20) rfl ?_
    refine r_imul C dX11_getsOf_20 (rfl : 20 + 1 = 21) ?_
    refine r_goto (tgt := 25) C dX11_getsOf_21 (by decide) ?_
    cases h
    exact r_iret C hr dX11_getsOf_25
set_option maxHeartbeats 400000 in
set_option maxRecDepth 100000 in
theorem c_X11_getsOf (l : Launch) (u : Nat) (h : k_H) (hsh : h.1 = shM) {a9 : (Nat → Int32)} (ea9 : h.2.1 9 = a9) {x0 : Int32} {x1 : Int32} {x2 : Int32} {out : Int32} (hf : f_X11_getsOf u a9 x0 x1 x2 = some out) : k_CT l yX11_getsOf cX11_getsOf 5 (some .int) 0 0 [.ref 0, .int x0, .int x1, .int x2] h (some (.int out)) [] := by
  obtain ⟨sh, I, L, Rf⟩ := h
  try dsimp only
  obtain rfl : sh = shM := hsh
  refine k_ofW (by decide) (Nat.le_of_ble_eq_true rfl) ?_
  intro X ad hl hR0 hr C
  have hR : X.R.frames = 0 ∧ X.R.locals = 0 := by rw [hR0]; exact ⟨rfl, rfl⟩
  have h := hf
  unfold f_X11_getsOf at h
  refine k_start (us := []) k_ap_0 ?_
  show k_W X 5 0 0 _ ad (k_ap [] (shM, I, L, Rf)) 0 [some (.ref 0), some (.int x0), some (.int x1), some (.int x2), none] []
  refine k_mask [true, true, true, true, false] ?_
  exact sX11_getsOf_0 u C hr hR ea9 x0 x1 x2 h
/-! LullabyPitModel.isBest(IIII)Z -/
theorem ds_X11_isBest : k_ds [] = true := by decide +kernel
set_option maxHeartbeats 400000 in
set_option maxRecDepth 100000 in
theorem sX11_isBest_3 (u : Nat) {X : k_X} {ad : Nat → Nat} (C : k_C X cX11_isBest RX11 6 ad) (hr : X.meth.sig.returnType = (some .boolean)) (hR : X.R.frames = 1 ∧ X.R.locals = 24) {I : Nat → Nat → Int32} {L : Nat → Nat → Int64} {Rf : Nat → Nat → Option Nat} {a9 : (Nat → Int32)} (ea9 : I 9 = a9) {out : Int32} : ∀ (n : Nat) (v1 : Int32) (v2 : Int32) (v3 : Int32) (v4 : Int32) (v5 : Int32), bX11_isBest_3 u a9 n v1 v2 v3 v4 v5 = some out → k_W X 6 0 0 (k_Q X ad (some (.int out)) (k_ap [] (shM, I, L, Rf))) ad (k_ap [] (shM, I, L, Rf)) 3 [some (.ref 0), some (.int v1), some (.int v2), some (.int v3), some (.int v4), some (.int v5)] [] := by
  intro n
  induction n with
  | zero => intro v1 v2 v3 v4 v5 h; cases h
  | succ n ih =>
    intro v1 v2 v3 v4 v5 h
    refine r_iload C dX11_isBest_3 (rfl : 3 + 2 = 5) rfl ?_
    refine r_iload C dX11_isBest_5 (rfl : 5 + 2 = 7) rfl ?_
    refine r_icmp_gt (tgt := 36) C dX11_isBest_7 (by decide) (rfl : 7 + 3 = 10) (fun c7 => ?_) (fun c7 => ?_)
    · have h := k_t c7 h
      refine r_iconst (v := (1 : Int32)) C dX11_isBest_36 (rfl : 36 + 1 = 37) rfl ?_
      cases h
      exact r_zret C hr (Or.inr rfl) dX11_isBest_37
    · have h := k_f c7 h
      refine r_aload_n C dX11_isBest_10 (rfl : 10 + 1 = 11) rfl ?_
      refine r_iload_n C dX11_isBest_11 (rfl : 11 + 1 = 12) rfl ?_
      refine r_iload C dX11_isBest_12 (rfl : 12 + 2 = 14) rfl ?_
      refine r_iload_n C dX11_isBest_14 (rfl : 14 + 1 = 15) rfl ?_
      obtain ⟨r15, q15, h⟩ := k_b_of h
      refine d_V (As := [.int v1, .int v5, .int v3]) (st := []) (st' := [.int r15]) (h' := k_ap [] (shM, I, L, Rf)) C hR ⟨Nat.zero_le _, Nat.zero_le _⟩ mv_X11_getsOf lk_X11_467 dX11_isBest_15 (rfl : 15 + 3 = 18) rfl rfl rfl rfl (c_X11_getsOf X.l u (k_ap [] (shM, I, L, Rf)) rfl ea9 q15) rfl rfl rfl rfl rfl ?_
      refine r_aload_n C dX11_isBest_18 (rfl : 18 + 1 = 19) rfl ?_
      refine r_iload_n C dX11_isBest_19 (rfl : 19 + 1 = 20) rfl ?_
      refine r_iload_n C dX11_isBest_20 (rfl : 20 + 1 = 21) rfl ?_
      refine r_iload_n C dX11_isBest_21 (rfl : 21 + 1 = 22) rfl ?_
      obtain ⟨r22, q22, h⟩ := k_b_of h
      refine d_V (As := [.int v1, .int v2, .int v3]) (st := [.int r15]) (st' := [.int r22, .int r15]) (h' := k_ap [] (shM, I, L, Rf)) C hR ⟨Nat.zero_le _, Nat.zero_le _⟩ mv_X11_getsOf lk_X11_467 dX11_isBest_22 (rfl : 22 + 3 = 25) rfl rfl rfl rfl (c_X11_getsOf X.l u (k_ap [] (shM, I, L, Rf)) rfl ea9 q22) rfl rfl rfl rfl rfl ?_
      refine r_icmp_le (tgt := 30) C dX11_isBest_25 (by decide) (rfl : 25 + 3 = 28) (fun c25 => ?_) (fun c25 => ?_)
      · have h := k_t c25 h
        refine r_iinc (v := (v5 + (1 : Int32))) C dX11_isBest_30 (rfl : 30 + 3 = 33) rfl rfl (by decide) ?_
        show k_W _ _ _ _ _ _ _ _ [some (.ref 0), some (.int v1), some (.int v2), some (.int v3), some (.int v4), some (.int (v5 + (1 : Int32)))] _
        refine r_goto (tgt := 3) C dX11_isBest_33 (by decide) ?_
        refine k_mask [true, true, true, true, true, true] ?_
        exact ih v1 v2 v3 v4 (v5 + (1 : Int32)) h
      · have h := k_f c25 h
        refine r_iconst (v := (0 : Int32)) C dX11_isBest_28 (rfl : 28 + 1 = 29) rfl ?_
        cases h
        exact r_zret C hr (Or.inl rfl) dX11_isBest_29
set_option maxHeartbeats 400000 in
set_option maxRecDepth 100000 in
theorem sX11_isBest_0 (u : Nat) {X : k_X} {ad : Nat → Nat} (C : k_C X cX11_isBest RX11 6 ad) (hr : X.meth.sig.returnType = (some .boolean)) (hR : X.R.frames = 1 ∧ X.R.locals = 24) {I : Nat → Nat → Int32} {L : Nat → Nat → Int64} {Rf : Nat → Nat → Option Nat} {a9 : (Nat → Int32)} (ea9 : I 9 = a9) {out : Int32} : ∀ (v1 : Int32) (v2 : Int32) (v3 : Int32) (v4 : Int32), bX11_isBest_0 u a9 v1 v2 v3 v4 = some out → k_W X 6 0 0 (k_Q X ad (some (.int out)) (k_ap [] (shM, I, L, Rf))) ad (k_ap [] (shM, I, L, Rf)) 0 [some (.ref 0), some (.int v1), some (.int v2), some (.int v3), some (.int v4), none] [] := by
  intro v1 v2 v3 v4 h
  unfold bX11_isBest_0 at h
  refine r_iconst (v := (0 : Int32)) C dX11_isBest_0 (rfl : 0 + 1 = 1) rfl ?_
  refine r_istore C dX11_isBest_1 (rfl : 1 + 2 = 3) (by decide) (Nat.le_of_ble_eq_true rfl) ?_
  show k_W _ _ _ _ _ _ _ _ [some (.ref 0), some (.int v1), some (.int v2), some (.int v3), some (.int v4), some (.int (0 : Int32))] _
  refine k_mask [true, true, true, true, true, true] ?_
  exact sX11_isBest_3 u C hr hR ea9 u v1 v2 v3 v4 (0 : Int32) h
set_option maxHeartbeats 400000 in
set_option maxRecDepth 100000 in
theorem c_X11_isBest (l : Launch) (u : Nat) (h : k_H) (hsh : h.1 = shM) {a9 : (Nat → Int32)} (ea9 : h.2.1 9 = a9) {x0 : Int32} {x1 : Int32} {x2 : Int32} {x3 : Int32} {out : Int32} (hf : f_X11_isBest u a9 x0 x1 x2 x3 = some out) : k_CT l yX11_isBest cX11_isBest 6 (some .boolean) 1 24 [.ref 0, .int x0, .int x1, .int x2, .int x3] h (some (.int out)) [] := by
  obtain ⟨sh, I, L, Rf⟩ := h
  try dsimp only
  obtain rfl : sh = shM := hsh
  refine k_ofW (by decide) (Nat.le_of_ble_eq_true rfl) ?_
  intro X ad hl hR0 hr C
  have hR : X.R.frames = 1 ∧ X.R.locals = 24 := by rw [hR0]; exact ⟨rfl, rfl⟩
  have h := hf
  unfold f_X11_isBest at h
  refine k_start (us := []) k_ap_0 ?_
  show k_W X 6 0 0 _ ad (k_ap [] (shM, I, L, Rf)) 0 [some (.ref 0), some (.int x0), some (.int x1), some (.int x2), some (.int x3), none] []
  refine k_mask [true, true, true, true, true, false] ?_
  exact sX11_isBest_0 u C hr hR ea9 x0 x1 x2 x3 h
