/-! LullabyPitModel.goesOn(III)V -/
theorem ds_X11_goesOn : k_ds [(0, 0, 62), (0, 0, 63), (16, 2, 0), (17, 2, 0), (21, 2, 0), (23, 2, 0), (24, 2, 0)] = true := by decide +kernel
set_option maxHeartbeats 400000 in
set_option maxRecDepth 100000 in
theorem sX11_goesOn_106 (u : Nat) {X : k_X} {ad : Nat → Nat} (C : k_C X cX11_goesOn RX11 6 ad) (hr : X.meth.sig.returnType = none) (hR : X.R.frames = 6 ∧ X.R.locals = 133) {I : Nat → Nat → Int32} {L : Nat → Nat → Int64} {Rf : Nat → Nat → Option Nat} {c0_25 : Int32} (ec0_25 : I 0 25 = c0_25) {c0_26 : Int32} (ec0_26 : I 0 26 = c0_26) {c0_27 : Int32} (ec0_27 : I 0 27 = c0_27) {c0_28 : Int32} (ec0_28 : I 0 28 = c0_28) {c0_30 : Int32} (ec0_30 : I 0 30 = c0_30) {a7 : (Nat → Int32)} (ea7 : I 7 = a7) {a8 : (Nat → Int32)} (ea8 : I 8 = a8) {a9 : (Nat → Int32)} (ea9 : I 9 = a9) {a10 : (Nat → Int32)} (ea10 : I 10 = a10) {a13 : (Nat → Int32)} (ea13 : I 13 = a13) {a14 : (Nat → Int32)} (ea14 : I 14 = a14) {a15 : (Nat → Int32)} (ea15 : I 15 = a15) {a20 : (Nat → Int32)} (ea20 : I 20 = a20) {out : Int32 × Int32 × (Nat → Int32) × (Nat → Int32) × (Nat → Int32) × (Nat → Int32) × (Nat → Int32)} {k17 : Int32 → Int32 → (Nat → Int32) → (Nat → Int32) → (Nat → Int32) → (Nat → Int32) → (Nat → Int32) → Int32 → Int32 → Int32 → Option (Int32 × Int32 × (Nat → Int32) × (Nat → Int32) × (Nat → Int32) × (Nat → Int32) × (Nat → Int32))} (hk17 : ∀ (c0_62 : Int32) (c0_63 : Int32) (a16 : (Nat → Int32)) (a17 : (Nat → Int32)) (a21 : (Nat → Int32)) (a23 : (Nat → Int32)) (a24 : (Nat → Int32)) (v2 : Int32) (v3 : Int32) (v4 : Int32), k17 c0_62 c0_63 a16 a17 a21 a23 a24 v2 v3 v4 = some out → k_W X 6 0 0 (k_Q X ad none (k_ap [(0, .inl (62, out.1)), (0, .inl (63, out.2.1)), (16, .inr (.inr (.inl out.2.2.1))), (17, .inr (.inr (.inl out.2.2.2.1))), (21, .inr (.inr (.inl out.2.2.2.2.1))), (23, .inr (.inr (.inl out.2.2.2.2.2.1))), (24, .inr (.inr (.inl out.2.2.2.2.2.2)))] (shM, I, L, Rf))) ad (k_ap [(0, .inl (62, c0_62)), (0, .inl (63, c0_63)), (16, .inr (.inr (.inl a16))), (17, .inr (.inr (.inl a17))), (21, .inr (.inr (.inl a21))), (23, .inr (.inr (.inl a23))), (24, .inr (.inr (.inl a24)))] (shM, I, L, Rf)) 17 [some (.ref 0), none, some (.int v2), some (.int v3), some (.int v4), none] []) : ∀ (c0_62 : Int32) (c0_63 : Int32) (a16 : (Nat → Int32)) (a17 : (Nat → Int32)) (a21 : (Nat → Int32)) (a23 : (Nat → Int32)) (a24 : (Nat → Int32)) (v2 : Int32) (v3 : Int32) (v4 : Int32), bX11_goesOn_106 u c0_25 c0_26 c0_27 c0_28 c0_30 a7 a8 a9 a10 a13 a14 a15 a20 k17 c0_62 c0_63 a16 a17 a21 a23 a24 v2 v3 v4 = some out → k_W X 6 0 0 (k_Q X ad none (k_ap [(0, .inl (62, out.1)), (0, .inl (63, out.2.1)), (16, .inr (.inr (.inl out.2.2.1))), (17, .inr (.inr (.inl out.2.2.2.1))), (21, .inr (.inr (.inl out.2.2.2.2.1))), (23, .inr (.inr (.inl out.2.2.2.2.2.1))), (24, .inr (.inr (.inl out.2.2.2.2.2.2)))] (shM, I, L, Rf))) ad (k_ap [(0, .inl (62, c0_62)), (0, .inl (63, c0_63)), (16, .inr (.inr (.inl a16))), (17, .inr (.inr (.inl a17))), (21, .inr (.inr (.inl a21))), (23, .inr (.inr (.inl a23))), (24, .inr (.inr (.inl a24)))] (shM, I, L, Rf)) 106 [some (.ref 0), none, some (.int v2), some (.int v3), some (.int v4), none] [] := by
  intro c0_62 c0_63 a16 a17 a21 a23 a24 v2 v3 v4 h
  unfold bX11_goesOn_106 at h
  refine r_aload_n C dX11_goesOn_106 (rfl : 106 + 1 = 107) rfl ?_
  obtain ⟨r107, q107, h⟩ := k_b_of h
  refine d_V (As := []) (st := []) (st' := [.int r107.1]) (h' := k_ap [(0, .inl (62, c0_62)), (0, .inl (63, c0_63)), (16, .inr (.inr (.inl a16))), (17, .inr (.inr (.inl a17))), (21, .inr (.inr (.inl r107.2.1))), (23, .inr (.inr (.inl a23))), (24, .inr (.inr (.inl r107.2.2)))] (shM, I, L, Rf)) C hR ⟨Nat.zero_le _, Nat.zero_le _⟩ mv_X11_next lk_X11_406 dX11_goesOn_107 (rfl : 107 + 3 = 110) rfl rfl rfl rfl (c_X11_next X.l u (k_ap [(0, .inl (62, c0_62)), (0, .inl (63, c0_63)), (16, .inr (.inr (.inl a16))), (17, .inr (.inr (.inl a17))), (21, .inr (.inr (.inl a21))), (23, .inr (.inr (.inl a23))), (24, .inr (.inr (.inl a24)))] (shM, I, L, Rf)) rfl ec0_30 ea9 ea10 rfl rfl q107) rfl rfl rfl (k_jn (us' := [(0, .inl (62, c0_62)), (0, .inl (63, c0_63)), (16, .inr (.inr (.inl a16))), (17, .inr (.inr (.inl a17))), (21, .inr (.inr (.inl r107.2.1))), (23, .inr (.inr (.inl a23))), (24, .inr (.inr (.inl r107.2.2)))]) ds_X11_goesOn rfl rfl rfl) rfl ?_
  refine r_pop C dX11_goesOn_110 (rfl : 110 + 1 = 111) rfl ?_
  refine r_iinc (v := (v4 + (1 : Int32))) C dX11_goesOn_111 (rfl : 111 + 3 = 114) rfl rfl (by decide) ?_
  show k_W _ _ _ _ _ _ _ _ [some (.ref 0), none, some (.int v2), some (.int v3), some (.int (v4 + (1 : Int32))), none] _
  refine r_goto (tgt := 17) C dX11_goesOn_114 (by decide) ?_
  refine k_mask [true, false, true, true, true, false] ?_
  exact hk17 c0_62 c0_63 a16 a17 r107.2.1 a23 r107.2.2 v2 v3 (v4 + (1 : Int32)) h
set_option maxHeartbeats 400000 in
set_option maxRecDepth 100000 in
theorem sX11_goesOn_57 (u : Nat) {X : k_X} {ad : Nat → Nat} (C : k_C X cX11_goesOn RX11 6 ad) (hr : X.meth.sig.returnType = none) (hR : X.R.frames = 6 ∧ X.R.locals = 133) {I : Nat → Nat → Int32} {L : Nat → Nat → Int64} {Rf : Nat → Nat → Option Nat} {c0_25 : Int32} (ec0_25 : I 0 25 = c0_25) {c0_26 : Int32} (ec0_26 : I 0 26 = c0_26) {c0_27 : Int32} (ec0_27 : I 0 27 = c0_27) {c0_28 : Int32} (ec0_28 : I 0 28 = c0_28) {c0_30 : Int32} (ec0_30 : I 0 30 = c0_30) {a7 : (Nat → Int32)} (ea7 : I 7 = a7) {a8 : (Nat → Int32)} (ea8 : I 8 = a8) {a9 : (Nat → Int32)} (ea9 : I 9 = a9) {a10 : (Nat → Int32)} (ea10 : I 10 = a10) {a13 : (Nat → Int32)} (ea13 : I 13 = a13) {a14 : (Nat → Int32)} (ea14 : I 14 = a14) {a15 : (Nat → Int32)} (ea15 : I 15 = a15) {a20 : (Nat → Int32)} (ea20 : I 20 = a20) {out : Int32 × Int32 × (Nat → Int32) × (Nat → Int32) × (Nat → Int32) × (Nat → Int32) × (Nat → Int32)} {k17 : Int32 → Int32 → (Nat → Int32) → (Nat → Int32) → (Nat → Int32) → (Nat → Int32) → (Nat → Int32) → Int32 → Int32 → Int32 → Option (Int32 × Int32 × (Nat → Int32) × (Nat → Int32) × (Nat → Int32) × (Nat → Int32) × (Nat → Int32))} (hk17 : ∀ (c0_62 : Int32) (c0_63 : Int32) (a16 : (Nat → Int32)) (a17 : (Nat → Int32)) (a21 : (Nat → Int32)) (a23 : (Nat → Int32)) (a24 : (Nat → Int32)) (v2 : Int32) (v3 : Int32) (v4 : Int32), k17 c0_62 c0_63 a16 a17 a21 a23 a24 v2 v3 v4 = some out → k_W X 6 0 0 (k_Q X ad none (k_ap [(0, .inl (62, out.1)), (0, .inl (63, out.2.1)), (16, .inr (.inr (.inl out.2.2.1))), (17, .inr (.inr (.inl out.2.2.2.1))), (21, .inr (.inr (.inl out.2.2.2.2.1))), (23, .inr (.inr (.inl out.2.2.2.2.2.1))), (24, .inr (.inr (.inl out.2.2.2.2.2.2)))] (shM, I, L, Rf))) ad (k_ap [(0, .inl (62, c0_62)), (0, .inl (63, c0_63)), (16, .inr (.inr (.inl a16))), (17, .inr (.inr (.inl a17))), (21, .inr (.inr (.inl a21))), (23, .inr (.inr (.inl a23))), (24, .inr (.inr (.inl a24)))] (shM, I, L, Rf)) 17 [some (.ref 0), none, some (.int v2), some (.int v3), some (.int v4), none] []) : ∀ (n : Nat) (c0_62 : Int32) (c0_63 : Int32) (a16 : (Nat → Int32)) (a17 : (Nat → Int32)) (a21 : (Nat → Int32)) (a23 : (Nat → Int32)) (a24 : (Nat → Int32)) (v2 : Int32) (v3 : Int32) (v4 : Int32) (v5 : Int32), bX11_goesOn_57 u c0_25 c0_26 c0_27 c0_28 c0_30 a7 a8 a9 a10 a13 a14 a15 a20 k17 n c0_62 c0_63 a16 a17 a21 a23 a24 v2 v3 v4 v5 = some out → k_W X 6 0 0 (k_Q X ad none (k_ap [(0, .inl (62, out.1)), (0, .inl (63, out.2.1)), (16, .inr (.inr (.inl out.2.2.1))), (17, .inr (.inr (.inl out.2.2.2.1))), (21, .inr (.inr (.inl out.2.2.2.2.1))), (23, .inr (.inr (.inl out.2.2.2.2.2.1))), (24, .inr (.inr (.inl out.2.2.2.2.2.2)))] (shM, I, L, Rf))) ad (k_ap [(0, .inl (62, c0_62)), (0, .inl (63, c0_63)), (16, .inr (.inr (.inl a16))), (17, .inr (.inr (.inl a17))), (21, .inr (.inr (.inl a21))), (23, .inr (.inr (.inl a23))), (24, .inr (.inr (.inl a24)))] (shM, I, L, Rf)) 57 [some (.ref 0), none, some (.int v2), some (.int v3), some (.int v4), some (.int v5)] [] := by
  intro n
  induction n with
  | zero => intro c0_62 c0_63 a16 a17 a21 a23 a24 v2 v3 v4 v5 h; cases h
  | succ n ih =>
    intro c0_62 c0_63 a16 a17 a21 a23 a24 v2 v3 v4 v5 h
    refine r_iload C dX11_goesOn_57 (rfl : 57 + 2 = 59) rfl ?_
    refine r_if_ne (tgt := 106) C dX11_goesOn_59 (by decide) (rfl : 59 + 3 = 62) (fun c59 => ?_) (fun c59 => ?_)
    · have h := k_f c59 h
      refine k_mask [true, false, true, true, true, false] ?_
      exact sX11_goesOn_106 u C hr hR ec0_25 ec0_26 ec0_27 ec0_28 ec0_30 ea7 ea8 ea9 ea10 ea13 ea14 ea15 ea20 hk17 c0_62 c0_63 a16 a17 a21 a23 a24 v2 v3 v4 h
    · have h := k_t c59 h
      refine r_aload_n C dX11_goesOn_62 (rfl : 62 + 1 = 63) rfl ?_
      refine r_getR (q := 21) C dX11_goesOn_63 (rfl : 63 + 3 = 66) fl_X11_77 rfl rfl ?_
      refine r_bipush (v := (70 : Int32)) C dX11_goesOn_66 (rfl : 66 + 2 = 68) rfl ?_
      refine a_i (j := 70) (f := a21) C dX11_goesOn_68 (rfl : 68 + 1 = 69) rfl rfl (show ¬ ((70 : Int32) < 0 ∨ 77 ≤ ((70 : Int32)).toNatClampNeg) by decide) rfl ?_
      refine r_aload_n C dX11_goesOn_69 (rfl : 69 + 1 = 70) rfl ?_
      refine r_getI (v := c0_28) C dX11_goesOn_70 (rfl : 70 + 3 = 73) fl_X11_193 rfl rfl ec0_28 ?_
      refine r_icmp_ge (tgt := 106) C dX11_goesOn_73 (by decide) (rfl : 73 + 3 = 76) (fun c73 => ?_) (fun c73 => ?_)
      · have h := k_t c73 h
        refine k_mask [true, false, true, true, true, false] ?_
        exact sX11_goesOn_106 u C hr hR ec0_25 ec0_26 ec0_27 ec0_28 ec0_30 ea7 ea8 ea9 ea10 ea13 ea14 ea15 ea20 hk17 c0_62 c0_63 a16 a17 a21 a23 a24 v2 v3 v4 h
      · have h := k_f c73 h
        refine r_aload_n C dX11_goesOn_76 (rfl : 76 + 1 = 77) rfl ?_
        obtain ⟨r77, q77, h⟩ := k_b_of h
        refine d_V (As := []) (st := []) (st' := [.int r77]) (h' := k_ap [(0, .inl (62, c0_62)), (0, .inl (63, c0_63)), (16, .inr (.inr (.inl a16))), (17, .inr (.inr (.inl a17))), (21, .inr (.inr (.inl a21))), (23, .inr (.inr (.inl a23))), (24, .inr (.inr (.inl a24)))] (shM, I, L, Rf)) C hR ⟨Nat.zero_le _, Nat.zero_le _⟩ mv_X11_pickNow lk_X11_474 dX11_goesOn_77 (rfl : 77 + 3 = 80) rfl rfl rfl rfl (c_X11_pickNow X.l u (k_ap [(0, .inl (62, c0_62)), (0, .inl (63, c0_63)), (16, .inr (.inr (.inl a16))), (17, .inr (.inr (.inl a17))), (21, .inr (.inr (.inl a21))), (23, .inr (.inr (.inl a23))), (24, .inr (.inr (.inl a24)))] (shM, I, L, Rf)) rfl ec0_25 ec0_26 ec0_27 ea7 ea8 rfl q77) rfl rfl rfl rfl rfl ?_
        refine r_iconst (v := (-1 : Int32)) C dX11_goesOn_80 (rfl : 80 + 1 = 81) rfl ?_
        refine r_icmp_eq (tgt := 106) C dX11_goesOn_81 (by decide) (rfl : 81 + 3 = 84) (fun c81 => ?_) (fun c81 => ?_)
        · have h := k_t c81 h
          refine k_mask [true, false, true, true, true, false] ?_
          exact sX11_goesOn_106 u C hr hR ec0_25 ec0_26 ec0_27 ec0_28 ec0_30 ea7 ea8 ea9 ea10 ea13 ea14 ea15 ea20 hk17 c0_62 c0_63 a16 a17 a21 a23 a24 v2 v3 v4 h
        · have h := k_f c81 h
          refine r_aload_n C dX11_goesOn_84 (rfl : 84 + 1 = 85) rfl ?_
          refine r_getR (q := 21) C dX11_goesOn_85 (rfl : 85 + 3 = 88) fl_X11_77 rfl rfl ?_
          refine r_bipush (v := (70 : Int32)) C dX11_goesOn_88 (rfl : 88 + 2 = 90) rfl ?_
          refine r_dup2 C dX11_goesOn_90 (rfl : 90 + 1 = 91) rfl rfl ?_
          refine a_i (j := 70) (f := a21) C dX11_goesOn_91 (rfl : 91 + 1 = 92) rfl rfl (show ¬ ((70 : Int32) < 0 ∨ 77 ≤ ((70 : Int32)).toNatClampNeg) by decide) rfl ?_
          refine r_iconst (v := (1 : Int32)) C dX11_goesOn_92 (rfl : 92 + 1 = 93) rfl ?_
          refine r_iadd C dX11_goesOn_93 (rfl : 93 + 1 = 94) ?_
          refine s_i (j := 70) (f := a21) (us' := [(0, .inl (62, c0_62)), (0, .inl (63, c0_63)), (16, .inr (.inr (.inl a16))), (17, .inr (.inr (.inl a17))), (21, .inr (.inr (.inl (upd a21 70 ((a21 70) + (1 : Int32)))))), (23, .inr (.inr (.inl a23))), (24, .inr (.inr (.inl a24)))]) C dX11_goesOn_94 (rfl : 94 + 1 = 95) rfl rfl (show ¬ ((70 : Int32) < 0 ∨ 77 ≤ ((70 : Int32)).toNatClampNeg) by decide) rfl ds_X11_goesOn rfl rfl rfl ?_
          refine r_aload_n C dX11_goesOn_95 (rfl : 95 + 1 = 96) rfl ?_
          refine r_aload_n C dX11_goesOn_96 (rfl : 96 + 1 = 97) rfl ?_
          obtain ⟨r97, q97, h⟩ := k_b_of h
          refine d_V (As := []) (st := [.ref 0]) (st' := [.int r97, .ref 0]) (h' := k_ap [(0, .inl (62, c0_62)), (0, .inl (63, c0_63)), (16, .inr (.inr (.inl a16))), (17, .inr (.inr (.inl a17))), (21, .inr (.inr (.inl (upd a21 70 ((a21 70) + (1 : Int32)))))), (23, .inr (.inr (.inl a23))), (24, .inr (.inr (.inl a24)))] (shM, I, L, Rf)) C hR ⟨Nat.zero_le _, Nat.zero_le _⟩ mv_X11_pickNow lk_X11_474 dX11_goesOn_97 (rfl : 97 + 3 = 100) rfl rfl rfl rfl (c_X11_pickNow X.l u (k_ap [(0, .inl (62, c0_62)), (0, .inl (63, c0_63)), (16, .inr (.inr (.inl a16))), (17, .inr (.inr (.inl a17))), (21, .inr (.inr (.inl (upd a21 70 ((a21 70) + (1 : Int32)))))), (23, .inr (.inr (.inl a23))), (24, .inr (.inr (.inl a24)))] (shM, I, L, Rf)) rfl ec0_25 ec0_26 ec0_27 ea7 ea8 rfl q97) rfl rfl rfl rfl rfl ?_
          obtain ⟨r100, q100, h⟩ := k_b_of h
          refine d_V (As := [.int r97]) (st := []) (st' := []) (h' := k_ap [(0, .inl (62, c0_62)), (0, .inl (63, c0_63)), (16, .inr (.inr (.inl r100.1))), (17, .inr (.inr (.inl r100.2.1))), (21, .inr (.inr (.inl r100.2.2.1))), (23, .inr (.inr (.inl r100.2.2.2))), (24, .inr (.inr (.inl a24)))] (shM, I, L, Rf)) C hR ⟨Nat.zero_le _, Nat.zero_le _⟩ mv_X11_digs lk_X11_412 dX11_goesOn_100 (rfl : 100 + 3 = 103) rfl rfl rfl rfl (c_X11_digs X.l u (k_ap [(0, .inl (62, c0_62)), (0, .inl (63, c0_63)), (16, .inr (.inr (.inl a16))), (17, .inr (.inr (.inl a17))), (21, .inr (.inr (.inl (upd a21 70 ((a21 70) + (1 : Int32)))))), (23, .inr (.inr (.inl a23))), (24, .inr (.inr (.inl a24)))] (shM, I, L, Rf)) rfl ec0_25 ec0_26 ea7 ea8 ea13 ea14 ea15 rfl rfl rfl rfl q100) rfl rfl rfl (k_jn (us' := [(0, .inl (62, c0_62)), (0, .inl (63, c0_63)), (16, .inr (.inr (.inl r100.1))), (17, .inr (.inr (.inl r100.2.1))), (21, .inr (.inr (.inl r100.2.2.1))), (23, .inr (.inr (.inl r100.2.2.2))), (24, .inr (.inr (.inl a24)))]) ds_X11_goesOn rfl rfl rfl) rfl ?_
          refine r_goto (tgt := 57) C dX11_goesOn_103 (by decide) ?_
          refine k_mask [true, false, true, true, true, true] ?_
          exact ih c0_62 c0_63 r100.1 r100.2.1 r100.2.2.1 r100.2.2.2 a24 v2 v3 v4 v5 h
set_option maxHeartbeats 400000 in
set_option maxRecDepth 100000 in
theorem sX11_goesOn_53 (u : Nat) {X : k_X} {ad : Nat → Nat} (C : k_C X cX11_goesOn RX11 6 ad) (hr : X.meth.sig.returnType = none) (hR : X.R.frames = 6 ∧ X.R.locals = 133) {I : Nat → Nat → Int32} {L : Nat → Nat → Int64} {Rf : Nat → Nat → Option Nat} {c0_25 : Int32} (ec0_25 : I 0 25 = c0_25) {c0_26 : Int32} (ec0_26 : I 0 26 = c0_26) {c0_27 : Int32} (ec0_27 : I 0 27 = c0_27) {c0_28 : Int32} (ec0_28 : I 0 28 = c0_28) {c0_30 : Int32} (ec0_30 : I 0 30 = c0_30) {a7 : (Nat → Int32)} (ea7 : I 7 = a7) {a8 : (Nat → Int32)} (ea8 : I 8 = a8) {a9 : (Nat → Int32)} (ea9 : I 9 = a9) {a10 : (Nat → Int32)} (ea10 : I 10 = a10) {a13 : (Nat → Int32)} (ea13 : I 13 = a13) {a14 : (Nat → Int32)} (ea14 : I 14 = a14) {a15 : (Nat → Int32)} (ea15 : I 15 = a15) {a20 : (Nat → Int32)} (ea20 : I 20 = a20) {out : Int32 × Int32 × (Nat → Int32) × (Nat → Int32) × (Nat → Int32) × (Nat → Int32) × (Nat → Int32)} {k17 : Int32 → Int32 → (Nat → Int32) → (Nat → Int32) → (Nat → Int32) → (Nat → Int32) → (Nat → Int32) → Int32 → Int32 → Int32 → Option (Int32 × Int32 × (Nat → Int32) × (Nat → Int32) × (Nat → Int32) × (Nat → Int32) × (Nat → Int32))} (hk17 : ∀ (c0_62 : Int32) (c0_63 : Int32) (a16 : (Nat → Int32)) (a17 : (Nat → Int32)) (a21 : (Nat → Int32)) (a23 : (Nat → Int32)) (a24 : (Nat → Int32)) (v2 : Int32) (v3 : Int32) (v4 : Int32), k17 c0_62 c0_63 a16 a17 a21 a23 a24 v2 v3 v4 = some out → k_W X 6 0 0 (k_Q X ad none (k_ap [(0, .inl (62, out.1)), (0, .inl (63, out.2.1)), (16, .inr (.inr (.inl out.2.2.1))), (17, .inr (.inr (.inl out.2.2.2.1))), (21, .inr (.inr (.inl out.2.2.2.2.1))), (23, .inr (.inr (.inl out.2.2.2.2.2.1))), (24, .inr (.inr (.inl out.2.2.2.2.2.2)))] (shM, I, L, Rf))) ad (k_ap [(0, .inl (62, c0_62)), (0, .inl (63, c0_63)), (16, .inr (.inr (.inl a16))), (17, .inr (.inr (.inl a17))), (21, .inr (.inr (.inl a21))), (23, .inr (.inr (.inl a23))), (24, .inr (.inr (.inl a24)))] (shM, I, L, Rf)) 17 [some (.ref 0), none, some (.int v2), some (.int v3), some (.int v4), none] []) : ∀ (c0_62 : Int32) (c0_63 : Int32) (a16 : (Nat → Int32)) (a17 : (Nat → Int32)) (a21 : (Nat → Int32)) (a23 : (Nat → Int32)) (a24 : (Nat → Int32)) (v2 : Int32) (v3 : Int32) (v4 : Int32) (v5 : Int32) (w0 : Int32) (w1 : Int32), bX11_goesOn_53 u c0_25 c0_26 c0_27 c0_28 c0_30 a7 a8 a9 a10 a13 a14 a15 a20 k17 c0_62 c0_63 a16 a17 a21 a23 a24 v2 v3 v4 v5 w0 w1 = some out → k_W X 6 0 0 (k_Q X ad none (k_ap [(0, .inl (62, out.1)), (0, .inl (63, out.2.1)), (16, .inr (.inr (.inl out.2.2.1))), (17, .inr (.inr (.inl out.2.2.2.1))), (21, .inr (.inr (.inl out.2.2.2.2.1))), (23, .inr (.inr (.inl out.2.2.2.2.2.1))), (24, .inr (.inr (.inl out.2.2.2.2.2.2)))] (shM, I, L, Rf))) ad (k_ap [(0, .inl (62, c0_62)), (0, .inl (63, c0_63)), (16, .inr (.inr (.inl a16))), (17, .inr (.inr (.inl a17))), (21, .inr (.inr (.inl a21))), (23, .inr (.inr (.inl a23))), (24, .inr (.inr (.inl a24)))] (shM, I, L, Rf)) 53 [some (.ref 0), none, some (.int v2), some (.int v3), some (.int v4), some (.int v5)] [.int w0, .int w1, .ref 0] := by
  intro c0_62 c0_63 a16 a17 a21 a23 a24 v2 v3 v4 v5 w0 w1 h
  unfold bX11_goesOn_53 at h
  refine r_iadd C dX11_goesOn_53 (rfl : 53 + 1 = 54) ?_
  refine p_I (us' := [(0, .inl (62, c0_62)), (0, .inl (63, (w1 + w0))), (16, .inr (.inr (.inl a16))), (17, .inr (.inr (.inl a17))), (21, .inr (.inr (.inl a21))), (23, .inr (.inr (.inl a23))), (24, .inr (.inr (.inl a24)))]) C dX11_goesOn_54 (rfl : 54 + 3 = 57) fp_X11_481 rfl rfl ds_X11_goesOn rfl rfl rfl ?_
  refine k_mask [true, false, true, true, true, true] ?_
  exact sX11_goesOn_57 u C hr hR ec0_25 ec0_26 ec0_27 ec0_28 ec0_30 ea7 ea8 ea9 ea10 ea13 ea14 ea15 ea20 hk17 u c0_62 (w1 + w0) a16 a17 a21 a23 a24 v2 v3 v4 v5 h
set_option maxHeartbeats 400000 in
set_option maxRecDepth 100000 in
theorem sX11_goesOn_36 (u : Nat) {X : k_X} {ad : Nat → Nat} (C : k_C X cX11_goesOn RX11 6 ad) (hr : X.meth.sig.returnType = none) (hR : X.R.frames = 6 ∧ X.R.locals = 133) {I : Nat → Nat → Int32} {L : Nat → Nat → Int64} {Rf : Nat → Nat → Option Nat} {c0_25 : Int32} (ec0_25 : I 0 25 = c0_25) {c0_26 : Int32} (ec0_26 : I 0 26 = c0_26) {c0_27 : Int32} (ec0_27 : I 0 27 = c0_27) {c0_28 : Int32} (ec0_28 : I 0 28 = c0_28) {c0_30 : Int32} (ec0_30 : I 0 30 = c0_30) {a7 : (Nat → Int32)} (ea7 : I 7 = a7) {a8 : (Nat → Int32)} (ea8 : I 8 = a8) {a9 : (Nat → Int32)} (ea9 : I 9 = a9) {a10 : (Nat → Int32)} (ea10 : I 10 = a10) {a13 : (Nat → Int32)} (ea13 : I 13 = a13) {a14 : (Nat → Int32)} (ea14 : I 14 = a14) {a15 : (Nat → Int32)} (ea15 : I 15 = a15) {a20 : (Nat → Int32)} (ea20 : I 20 = a20) {out : Int32 × Int32 × (Nat → Int32) × (Nat → Int32) × (Nat → Int32) × (Nat → Int32) × (Nat → Int32)} {k17 : Int32 → Int32 → (Nat → Int32) → (Nat → Int32) → (Nat → Int32) → (Nat → Int32) → (Nat → Int32) → Int32 → Int32 → Int32 → Option (Int32 × Int32 × (Nat → Int32) × (Nat → Int32) × (Nat → Int32) × (Nat → Int32) × (Nat → Int32))} (hk17 : ∀ (c0_62 : Int32) (c0_63 : Int32) (a16 : (Nat → Int32)) (a17 : (Nat → Int32)) (a21 : (Nat → Int32)) (a23 : (Nat → Int32)) (a24 : (Nat → Int32)) (v2 : Int32) (v3 : Int32) (v4 : Int32), k17 c0_62 c0_63 a16 a17 a21 a23 a24 v2 v3 v4 = some out → k_W X 6 0 0 (k_Q X ad none (k_ap [(0, .inl (62, out.1)), (0, .inl (63, out.2.1)), (16, .inr (.inr (.inl out.2.2.1))), (17, .inr (.inr (.inl out.2.2.2.1))), (21, .inr (.inr (.inl out.2.2.2.2.1))), (23, .inr (.inr (.inl out.2.2.2.2.2.1))), (24, .inr (.inr (.inl out.2.2.2.2.2.2)))] (shM, I, L, Rf))) ad (k_ap [(0, .inl (62, c0_62)), (0, .inl (63, c0_63)), (16, .inr (.inr (.inl a16))), (17, .inr (.inr (.inl a17))), (21, .inr (.inr (.inl a21))), (23, .inr (.inr (.inl a23))), (24, .inr (.inr (.inl a24)))] (shM, I, L, Rf)) 17 [some (.ref 0), none, some (.int v2), some (.int v3), some (.int v4), none] []) : ∀ (c0_62 : Int32) (c0_63 : Int32) (a16 : (Nat → Int32)) (a17 : (Nat → Int32)) (a21 : (Nat → Int32)) (a23 : (Nat → Int32)) (a24 : (Nat → Int32)) (v2 : Int32) (v3 : Int32) (v4 : Int32) (w0 : Int32), bX11_goesOn_36 u c0_25 c0_26 c0_27 c0_28 c0_30 a7 a8 a9 a10 a13 a14 a15 a20 k17 c0_62 c0_63 a16 a17 a21 a23 a24 v2 v3 v4 w0 = some out → k_W X 6 0 0 (k_Q X ad none (k_ap [(0, .inl (62, out.1)), (0, .inl (63, out.2.1)), (16, .inr (.inr (.inl out.2.2.1))), (17, .inr (.inr (.inl out.2.2.2.1))), (21, .inr (.inr (.inl out.2.2.2.2.1))), (23, .inr (.inr (.inl out.2.2.2.2.2.1))), (24, .inr (.inr (.inl out.2.2.2.2.2.2)))] (shM, I, L, Rf))) ad (k_ap [(0, .inl (62, c0_62)), (0, .inl (63, c0_63)), (16, .inr (.inr (.inl a16))), (17, .inr (.inr (.inl a17))), (21, .inr (.inr (.inl a21))), (23, .inr (.inr (.inl a23))), (24, .inr (.inr (.inl a24)))] (shM, I, L, Rf)) 36 [some (.ref 0), none, some (.int v2), some (.int v3), some (.int v4), none] [.int w0] := by
  intro c0_62 c0_63 a16 a17 a21 a23 a24 v2 v3 v4 w0 h
  unfold bX11_goesOn_36 at h
  refine r_istore C dX11_goesOn_36 (rfl : 36 + 2 = 38) (by decide) (Nat.le_of_ble_eq_true rfl) ?_
  show k_W _ _ _ _ _ _ _ _ [some (.ref 0), none, some (.int v2), some (.int v3), some (.int v4), some (.int w0)] _
  refine r_aload_n C dX11_goesOn_38 (rfl : 38 + 1 = 39) rfl ?_
  refine r_dup C dX11_goesOn_39 (rfl : 39 + 1 = 40) rfl ?_
  refine r_getI (v := c0_63) C dX11_goesOn_40 (rfl : 40 + 3 = 43) fl_X11_481 rfl rfl rfl ?_
  refine r_iload C dX11_goesOn_43 (rfl : 43 + 2 = 45) rfl ?_
  refine r_if_eq (tgt := 52) C dX11_goesOn_45 (by decide) (rfl : 45 + 3 = 48) (fun c45 => ?_) (fun c45 => ?_)
  · have h := k_t c45 h
    refine r_iconst (v := (0 : Int32)) C dX11_goesOn_52 (rfl : 52 + 1 = 53) rfl ?_
    refine k_mask [true, false, true, true, true, true] ?_
    exact sX11_goesOn_53 u C hr hR ec0_25 ec0_26 ec0_27 ec0_28 ec0_30 ea7 ea8 ea9 ea10 ea13 ea14 ea15 ea20 hk17 c0_62 c0_63 a16 a17 a21 a23 a24 v2 v3 v4 w0 (0 : Int32) c0_63 h
  · have h := k_f c45 h
    refine r_iconst (v := (1 : Int32)) C dX11_goesOn_48 (rfl : 48 + 1 = 49) rfl ?_
    refine r_goto (tgt := 53) C dX11_goesOn_49 (by decide) ?_
    refine k_mask [true, false, true, true, true, true] ?_
    exact sX11_goesOn_53 u C hr hR ec0_25 ec0_26 ec0_27 ec0_28 ec0_30 ea7 ea8 ea9 ea10 ea13 ea14 ea15 ea20 hk17 c0_62 c0_63 a16 a17 a21 a23 a24 v2 v3 v4 w0 (1 : Int32) c0_63 h
set_option maxHeartbeats 400000 in
set_option maxRecDepth 100000 in
theorem sX11_goesOn_17 (u : Nat) {X : k_X} {ad : Nat → Nat} (C : k_C X cX11_goesOn RX11 6 ad) (hr : X.meth.sig.returnType = none) (hR : X.R.frames = 6 ∧ X.R.locals = 133) {I : Nat → Nat → Int32} {L : Nat → Nat → Int64} {Rf : Nat → Nat → Option Nat} {c0_25 : Int32} (ec0_25 : I 0 25 = c0_25) {c0_26 : Int32} (ec0_26 : I 0 26 = c0_26) {c0_27 : Int32} (ec0_27 : I 0 27 = c0_27) {c0_28 : Int32} (ec0_28 : I 0 28 = c0_28) {c0_30 : Int32} (ec0_30 : I 0 30 = c0_30) {a7 : (Nat → Int32)} (ea7 : I 7 = a7) {a8 : (Nat → Int32)} (ea8 : I 8 = a8) {a9 : (Nat → Int32)} (ea9 : I 9 = a9) {a10 : (Nat → Int32)} (ea10 : I 10 = a10) {a13 : (Nat → Int32)} (ea13 : I 13 = a13) {a14 : (Nat → Int32)} (ea14 : I 14 = a14) {a15 : (Nat → Int32)} (ea15 : I 15 = a15) {a20 : (Nat → Int32)} (ea20 : I 20 = a20) {out : Int32 × Int32 × (Nat → Int32) × (Nat → Int32) × (Nat → Int32) × (Nat → Int32) × (Nat → Int32)} : ∀ (n : Nat) (c0_62 : Int32) (c0_63 : Int32) (a16 : (Nat → Int32)) (a17 : (Nat → Int32)) (a21 : (Nat → Int32)) (a23 : (Nat → Int32)) (a24 : (Nat → Int32)) (v2 : Int32) (v3 : Int32) (v4 : Int32), bX11_goesOn_17 u c0_25 c0_26 c0_27 c0_28 c0_30 a7 a8 a9 a10 a13 a14 a15 a20 n c0_62 c0_63 a16 a17 a21 a23 a24 v2 v3 v4 = some out → k_W X 6 0 0 (k_Q X ad none (k_ap [(0, .inl (62, out.1)), (0, .inl (63, out.2.1)), (16, .inr (.inr (.inl out.2.2.1))), (17, .inr (.inr (.inl out.2.2.2.1))), (21, .inr (.inr (.inl out.2.2.2.2.1))), (23, .inr (.inr (.inl out.2.2.2.2.2.1))), (24, .inr (.inr (.inl out.2.2.2.2.2.2)))] (shM, I, L, Rf))) ad (k_ap [(0, .inl (62, c0_62)), (0, .inl (63, c0_63)), (16, .inr (.inr (.inl a16))), (17, .inr (.inr (.inl a17))), (21, .inr (.inr (.inl a21))), (23, .inr (.inr (.inl a23))), (24, .inr (.inr (.inl a24)))] (shM, I, L, Rf)) 17 [some (.ref 0), none, some (.int v2), some (.int v3), some (.int v4), none] [] := by
  intro n
  induction n with
  | zero => intro c0_62 c0_63 a16 a17 a21 a23 a24 v2 v3 v4 h; cases h
  | succ n ih =>
    intro c0_62 c0_63 a16 a17 a21 a23 a24 v2 v3 v4 h
    refine r_iload C dX11_goesOn_17 (rfl : 17 + 2 = 19) rfl ?_
    refine r_iload_n C dX11_goesOn_19 (rfl : 19 + 1 = 20) rfl ?_
    refine r_icmp_ge (tgt := 117) C dX11_goesOn_20 (by decide) (rfl : 20 + 3 = 23) (fun c20 => ?_) (fun c20 => ?_)
    · have h := k_t c20 h
      cases h
      exact r_vret C hr dX11_goesOn_117
    · have h := k_f c20 h
      refine r_aload_n C dX11_goesOn_23 (rfl : 23 + 1 = 24) rfl ?_
      obtain ⟨r24, q24, h⟩ := k_b_of h
      refine d_V (As := []) (st := []) (st' := [.int r24.1]) (h' := k_ap [(0, .inl (62, r24.2)), (0, .inl (63, c0_63)), (16, .inr (.inr (.inl a16))), (17, .inr (.inr (.inl a17))), (21, .inr (.inr (.inl a21))), (23, .inr (.inr (.inl a23))), (24, .inr (.inr (.inl a24)))] (shM, I, L, Rf)) C hR ⟨Nat.zero_le _, Nat.zero_le _⟩ mv_X11_draws lk_X11_484 dX11_goesOn_24 (rfl : 24 + 3 = 27) rfl rfl rfl rfl (c_X11_draws X.l u (k_ap [(0, .inl (62, c0_62)), (0, .inl (63, c0_63)), (16, .inr (.inr (.inl a16))), (17, .inr (.inr (.inl a17))), (21, .inr (.inr (.inl a21))), (23, .inr (.inr (.inl a23))), (24, .inr (.inr (.inl a24)))] (shM, I, L, Rf)) rfl rfl q24) rfl rfl rfl (k_jn (us' := [(0, .inl (62, r24.2)), (0, .inl (63, c0_63)), (16, .inr (.inr (.inl a16))), (17, .inr (.inr (.inl a17))), (21, .inr (.inr (.inl a21))), (23, .inr (.inr (.inl a23))), (24, .inr (.inr (.inl a24)))]) ds_X11_goesOn rfl rfl rfl) rfl ?_
      refine r_iload_n C dX11_goesOn_27 (rfl : 27 + 1 = 28) rfl ?_
      refine r_icmp_ge (tgt := 35) C dX11_goesOn_28 (by decide) (rfl : 28 + 3 = 31) (fun c28 => ?_) (fun c28 => ?_)
      · have h := k_t c28 h
        refine r_iconst (v := (0 : Int32)) C dX11_goesOn_35 (rfl : 35 + 1 = 36) rfl ?_
        refine k_mask [true, false, true, true, true, false] ?_
        exact sX11_goesOn_36 u C hr hR ec0_25 ec0_26 ec0_27 ec0_28 ec0_30 ea7 ea8 ea9 ea10 ea13 ea14 ea15 ea20 ih r24.2 c0_63 a16 a17 a21 a23 a24 v2 v3 v4 (0 : Int32) h
      · have h := k_f c28 h
        refine r_iconst (v := (1 : Int32)) C dX11_goesOn_31 (rfl : 31 + 1 = 32) rfl ?_
        refine r_goto (tgt := 36) C dX11_goesOn_32 (by decide) ?_
        refine k_mask [true, false, true, true, true, false] ?_
        exact sX11_goesOn_36 u C hr hR ec0_25 ec0_26 ec0_27 ec0_28 ec0_30 ea7 ea8 ea9 ea10 ea13 ea14 ea15 ea20 ih r24.2 c0_63 a16 a17 a21 a23 a24 v2 v3 v4 (1 : Int32) h
set_option maxHeartbeats 400000 in
set_option maxRecDepth 100000 in
theorem sX11_goesOn_0 (u : Nat) {X : k_X} {ad : Nat → Nat} (C : k_C X cX11_goesOn RX11 6 ad) (hr : X.meth.sig.returnType = none) (hR : X.R.frames = 6 ∧ X.R.locals = 133) {I : Nat → Nat → Int32} {L : Nat → Nat → Int64} {Rf : Nat → Nat → Option Nat} {c0_25 : Int32} (ec0_25 : I 0 25 = c0_25) {c0_26 : Int32} (ec0_26 : I 0 26 = c0_26) {c0_27 : Int32} (ec0_27 : I 0 27 = c0_27) {c0_28 : Int32} (ec0_28 : I 0 28 = c0_28) {c0_30 : Int32} (ec0_30 : I 0 30 = c0_30) {a7 : (Nat → Int32)} (ea7 : I 7 = a7) {a8 : (Nat → Int32)} (ea8 : I 8 = a8) {a9 : (Nat → Int32)} (ea9 : I 9 = a9) {a10 : (Nat → Int32)} (ea10 : I 10 = a10) {a13 : (Nat → Int32)} (ea13 : I 13 = a13) {a14 : (Nat → Int32)} (ea14 : I 14 = a14) {a15 : (Nat → Int32)} (ea15 : I 15 = a15) {a20 : (Nat → Int32)} (ea20 : I 20 = a20) {out : Int32 × Int32 × (Nat → Int32) × (Nat → Int32) × (Nat → Int32) × (Nat → Int32) × (Nat → Int32)} : ∀ (c0_62 : Int32) (c0_63 : Int32) (a16 : (Nat → Int32)) (a17 : (Nat → Int32)) (a21 : (Nat → Int32)) (a23 : (Nat → Int32)) (a24 : (Nat → Int32)) (v1 : Int32) (v2 : Int32) (v3 : Int32), bX11_goesOn_0 u c0_25 c0_26 c0_27 c0_28 c0_30 a7 a8 a9 a10 a13 a14 a15 a20 c0_62 c0_63 a16 a17 a21 a23 a24 v1 v2 v3 = some out → k_W X 6 0 0 (k_Q X ad none (k_ap [(0, .inl (62, out.1)), (0, .inl (63, out.2.1)), (16, .inr (.inr (.inl out.2.2.1))), (17, .inr (.inr (.inl out.2.2.2.1))), (21, .inr (.inr (.inl out.2.2.2.2.1))), (23, .inr (.inr (.inl out.2.2.2.2.2.1))), (24, .inr (.inr (.inl out.2.2.2.2.2.2)))] (shM, I, L, Rf))) ad (k_ap [(0, .inl (62, c0_62)), (0, .inl (63, c0_63)), (16, .inr (.inr (.inl a16))), (17, .inr (.inr (.inl a17))), (21, .inr (.inr (.inl a21))), (23, .inr (.inr (.inl a23))), (24, .inr (.inr (.inl a24)))] (shM, I, L, Rf)) 0 [some (.ref 0), some (.int v1), some (.int v2), some (.int v3), none, none] [] := by
  intro c0_62 c0_63 a16 a17 a21 a23 a24 v1 v2 v3 h
  unfold bX11_goesOn_0 at h
  refine r_aload_n C dX11_goesOn_0 (rfl : 0 + 1 = 1) rfl ?_
  obtain ⟨r1, q1, h⟩ := k_b_of h
  refine d_V (As := []) (st := []) (st' := []) (h' := k_ap [(0, .inl (62, c0_62)), (0, .inl (63, c0_63)), (16, .inr (.inr (.inl a16))), (17, .inr (.inr (.inl a17))), (21, .inr (.inr (.inl r1))), (23, .inr (.inr (.inl a23))), (24, .inr (.inr (.inl a24)))] (shM, I, L, Rf)) C hR ⟨Nat.zero_le _, Nat.zero_le _⟩ mv_X11_take lk_X11_345 dX11_goesOn_1 (rfl : 1 + 3 = 4) rfl rfl rfl rfl (c_X11_take X.l u (k_ap [(0, .inl (62, c0_62)), (0, .inl (63, c0_63)), (16, .inr (.inr (.inl a16))), (17, .inr (.inr (.inl a17))), (21, .inr (.inr (.inl a21))), (23, .inr (.inr (.inl a23))), (24, .inr (.inr (.inl a24)))] (shM, I, L, Rf)) rfl ea20 rfl q1) rfl rfl rfl (k_jn (us' := [(0, .inl (62, c0_62)), (0, .inl (63, c0_63)), (16, .inr (.inr (.inl a16))), (17, .inr (.inr (.inl a17))), (21, .inr (.inr (.inl r1))), (23, .inr (.inr (.inl a23))), (24, .inr (.inr (.inl a24)))]) ds_X11_goesOn rfl rfl rfl) rfl ?_
  refine r_aload_n C dX11_goesOn_4 (rfl : 4 + 1 = 5) rfl ?_
  refine r_iload_n C dX11_goesOn_5 (rfl : 5 + 1 = 6) rfl ?_
  refine p_I (us' := [(0, .inl (62, v1)), (0, .inl (63, c0_63)), (16, .inr (.inr (.inl a16))), (17, .inr (.inr (.inl a17))), (21, .inr (.inr (.inl r1))), (23, .inr (.inr (.inl a23))), (24, .inr (.inr (.inl a24)))]) C dX11_goesOn_6 (rfl : 6 + 3 = 9) fp_X11_477 rfl rfl ds_X11_goesOn rfl rfl rfl ?_
  refine r_aload_n C dX11_goesOn_9 (rfl : 9 + 1 = 10) rfl ?_
  refine r_iconst (v := (0 : Int32)) C dX11_goesOn_10 (rfl : 10 + 1 = 11) rfl ?_
  refine p_I (us' := [(0, .inl (62, v1)), (0, .inl (63, (0 : Int32))), (16, .inr (.inr (.inl a16))), (17, .inr (.inr (.inl a17))), (21, .inr (.inr (.inl r1))), (23, .inr (.inr (.inl a23))), (24, .inr (.inr (.inl a24)))]) C dX11_goesOn_11 (rfl : 11 + 3 = 14) fp_X11_481 rfl rfl ds_X11_goesOn rfl rfl rfl ?_
  refine r_iconst (v := (0 : Int32)) C dX11_goesOn_14 (rfl : 14 + 1 = 15) rfl ?_
  refine r_istore C dX11_goesOn_15 (rfl : 15 + 2 = 17) (by decide) (Nat.le_of_ble_eq_true rfl) ?_
  show k_W _ _ _ _ _ _ _ _ [some (.ref 0), some (.int v1), some (.int v2), some (.int v3), some (.int (0 : Int32)), none] _
  refine k_mask [true, false, true, true, true, false] ?_
  exact sX11_goesOn_17 u C hr hR ec0_25 ec0_26 ec0_27 ec0_28 ec0_30 ea7 ea8 ea9 ea10 ea13 ea14 ea15 ea20 u v1 (0 : Int32) a16 a17 r1 a23 a24 v2 v3 (0 : Int32) h
set_option maxHeartbeats 400000 in
set_option maxRecDepth 100000 in
theorem c_X11_goesOn (l : Launch) (u : Nat) (h : k_H) (hsh : h.1 = shM) {c0_25 : Int32} (ec0_25 : h.2.1 0 25 = c0_25) {c0_26 : Int32} (ec0_26 : h.2.1 0 26 = c0_26) {c0_27 : Int32} (ec0_27 : h.2.1 0 27 = c0_27) {c0_28 : Int32} (ec0_28 : h.2.1 0 28 = c0_28) {c0_30 : Int32} (ec0_30 : h.2.1 0 30 = c0_30) {c0_62 : Int32} (ec0_62 : h.2.1 0 62 = c0_62) {c0_63 : Int32} (ec0_63 : h.2.1 0 63 = c0_63) {a7 : (Nat → Int32)} (ea7 : h.2.1 7 = a7) {a8 : (Nat → Int32)} (ea8 : h.2.1 8 = a8) {a9 : (Nat → Int32)} (ea9 : h.2.1 9 = a9) {a10 : (Nat → Int32)} (ea10 : h.2.1 10 = a10) {a13 : (Nat → Int32)} (ea13 : h.2.1 13 = a13) {a14 : (Nat → Int32)} (ea14 : h.2.1 14 = a14) {a15 : (Nat → Int32)} (ea15 : h.2.1 15 = a15) {a16 : (Nat → Int32)} (ea16 : h.2.1 16 = a16) {a17 : (Nat → Int32)} (ea17 : h.2.1 17 = a17) {a20 : (Nat → Int32)} (ea20 : h.2.1 20 = a20) {a21 : (Nat → Int32)} (ea21 : h.2.1 21 = a21) {a23 : (Nat → Int32)} (ea23 : h.2.1 23 = a23) {a24 : (Nat → Int32)} (ea24 : h.2.1 24 = a24) {x0 : Int32} {x1 : Int32} {x2 : Int32} {out : Int32 × Int32 × (Nat → Int32) × (Nat → Int32) × (Nat → Int32) × (Nat → Int32) × (Nat → Int32)} (hf : f_X11_goesOn u c0_25 c0_26 c0_27 c0_28 c0_30 c0_62 c0_63 a7 a8 a9 a10 a13 a14 a15 a16 a17 a20 a21 a23 a24 x0 x1 x2 = some out) : k_CT l yX11_goesOn cX11_goesOn 6 none 6 133 [.ref 0, .int x0, .int x1, .int x2] h none [(0, .inl (62, out.1)), (0, .inl (63, out.2.1)), (16, .inr (.inr (.inl out.2.2.1))), (17, .inr (.inr (.inl out.2.2.2.1))), (21, .inr (.inr (.inl out.2.2.2.2.1))), (23, .inr (.inr (.inl out.2.2.2.2.2.1))), (24, .inr (.inr (.inl out.2.2.2.2.2.2)))] := by
  obtain ⟨sh, I, L, Rf⟩ := h
  try dsimp only
  obtain rfl : sh = shM := hsh
  refine k_ofW (by decide) (Nat.le_of_ble_eq_true rfl) ?_
  intro X ad hl hR0 hr C
  have hR : X.R.frames = 6 ∧ X.R.locals = 133 := by rw [hR0]; exact ⟨rfl, rfl⟩
  have h := hf
  unfold f_X11_goesOn at h
  refine k_start (us := [(0, .inl (62, c0_62)), (0, .inl (63, c0_63)), (16, .inr (.inr (.inl a16))), (17, .inr (.inr (.inl a17))), (21, .inr (.inr (.inl a21))), (23, .inr (.inr (.inl a23))), (24, .inr (.inr (.inl a24)))]) (k_ao_I ec0_62 (k_ao_I ec0_63 (k_ao_A ea16 (k_ao_A ea17 (k_ao_A ea21 (k_ao_A ea23 (k_ao_A ea24 k_ap_0))))))) ?_
  show k_W X 6 0 0 _ ad (k_ap [(0, .inl (62, c0_62)), (0, .inl (63, c0_63)), (16, .inr (.inr (.inl a16))), (17, .inr (.inr (.inl a17))), (21, .inr (.inr (.inl a21))), (23, .inr (.inr (.inl a23))), (24, .inr (.inr (.inl a24)))] (shM, I, L, Rf)) 0 [some (.ref 0), some (.int x0), some (.int x1), some (.int x2), none, none] []
  refine k_mask [true, true, true, true, false, false] ?_
  exact sX11_goesOn_0 u C hr hR ec0_25 ec0_26 ec0_27 ec0_28 ec0_30 ea7 ea8 ea9 ea10 ea13 ea14 ea15 ea20 c0_62 c0_63 a16 a17 a21 a23 a24 x0 x1 x2 h
/-! LullabyPitModel.isDecade(II)Z -/
theorem ds_X11_isDecade : k_ds [] = true := by decide +kernel
set_option maxHeartbeats 400000 in
set_option maxRecDepth 100000 in
theorem sX11_isDecade_0 (u : Nat) {X : k_X} {ad : Nat → Nat} (C : k_C X cX11_isDecade RX11 2 ad) (hr : X.meth.sig.returnType = (some .boolean)) (hR : X.R.frames = 0 ∧ X.R.locals = 0) {I : Nat → Nat → Int32} {L : Nat → Nat → Int64} {Rf : Nat → Nat → Option Nat} {out : Int32} : ∀ (v0 : Int32) (v1 : Int32), bX11_isDecade_0 u v0 v1 = some out → k_W X 2 0 0 (k_Q X ad (some (.int out)) (k_ap [] (shM, I, L, Rf))) ad (k_ap [] (shM, I, L, Rf)) 0 [some (.int v0), some (.int v1)] [] := by
  intro v0 v1 h
  unfold bX11_isDecade_0 at h
  refine r_iload_n C dX11_isDecade_0 (rfl : 0 + 1 = 1) rfl ?_
  refine r_if_lt (tgt := 25) C dX11_isDecade_1 (by decide) (rfl : 1 + 3 = 4) (fun c1 => ?_) (fun c1 => ?_)
  · have h := k_t c1 h
    refine r_iconst (v := (0 : Int32)) C dX11_isDecade_25 (rfl : 25 + 1 = 26) rfl ?_
    cases h
    exact r_zret C hr (Or.inl rfl) dX11_isDecade_26
  · have h := k_f c1 h
    refine r_iload_n C dX11_isDecade_4 (rfl : 4 + 1 = 5) rfl ?_
    refine r_bipush (v := (16 : Int32)) C dX11_isDecade_5 (rfl : 5 + 2 = 7) rfl ?_
    refine r_icmp_gt (tgt := 25) C dX11_isDecade_7 (by decide) (rfl : 7 + 3 = 10) (fun c7 => ?_) (fun c7 => ?_)
    · have h := k_t c7 h
      refine r_iconst (v := (0 : Int32)) C dX11_isDecade_25 (rfl : 25 + 1 = 26) rfl ?_
      cases h
      exact r_zret C hr (Or.inl rfl) dX11_isDecade_26
    · have h := k_f c7 h
      refine r_iload_n C dX11_isDecade_10 (rfl : 10 + 1 = 11) rfl ?_
      refine r_iconst (v := (1 : Int32)) C dX11_isDecade_11 (rfl : 11 + 1 = 12) rfl ?_
      refine r_icmp_lt (tgt := 25) C dX11_isDecade_12 (by decide) (rfl : 12 + 3 = 15) (fun c12 => ?_) (fun c12 => ?_)
      · have h := k_t c12 h
        refine r_iconst (v := (0 : Int32)) C dX11_isDecade_25 (rfl : 25 + 1 = 26) rfl ?_
        cases h
        exact r_zret C hr (Or.inl rfl) dX11_isDecade_26
      · have h := k_f c12 h
        refine r_iload_n C dX11_isDecade_15 (rfl : 15 + 1 = 16) rfl ?_
        refine r_bipush (v := (40 : Int32)) C dX11_isDecade_16 (rfl : 16 + 2 = 18) rfl ?_
        refine r_icmp_gt (tgt := 25) C dX11_isDecade_18 (by decide) (rfl : 18 + 3 = 21) (fun c18 => ?_) (fun c18 => ?_)
        · have h := k_t c18 h
          refine r_iconst (v := (0 : Int32)) C dX11_isDecade_25 (rfl : 25 + 1 = 26) rfl ?_
          cases h
          exact r_zret C hr (Or.inl rfl) dX11_isDecade_26
        · have h := k_f c18 h
          refine r_iconst (v := (1 : Int32)) C dX11_isDecade_21 (rfl : 21 + 1 = 22) rfl ?_
          refine r_goto (tgt := 26) C dX11_isDecade_22 (by decide) ?_
          cases h
          exact r_zret C hr (Or.inr rfl) dX11_isDecade_26
set_option maxHeartbeats 400000 in
set_option maxRecDepth 100000 in
theorem c_X11_isDecade (l : Launch) (u : Nat) (h : k_H) (hsh : h.1 = shM) {x0 : Int32} {x1 : Int32} {out : Int32} (hf : f_X11_isDecade u x0 x1 = some out) : k_CT l yX11_isDecade cX11_isDecade 2 (some .boolean) 0 0 [.int x0, .int x1] h (some (.int out)) [] := by
  obtain ⟨sh, I, L, Rf⟩ := h
  try dsimp only
  obtain rfl : sh = shM := hsh
  refine k_ofW (by decide) (Nat.le_of_ble_eq_true rfl) ?_
  intro X ad hl hR0 hr C
  have hR : X.R.frames = 0 ∧ X.R.locals = 0 := by rw [hR0]; exact ⟨rfl, rfl⟩
  have h := hf
  unfold f_X11_isDecade at h
  refine k_start (us := []) k_ap_0 ?_
  show k_W X 2 0 0 _ ad (k_ap [] (shM, I, L, Rf)) 0 [some (.int x0), some (.int x1)] []
  refine k_mask [true, true] ?_
  exact sX11_isDecade_0 u C hr hR x0 x1 h
