/-! LullabyPitModel.readClause(I)V -/
theorem ds_X11_readClause : k_ds [(0, 0, 4), (0, 0, 5), (0, 0, 6), (0, 0, 18), (0, 0, 19), (0, 0, 20), (0, 0, 21), (0, 0, 22), (0, 0, 23), (0, 0, 24), (3, 2, 0), (4, 2, 0), (5, 2, 0), (6, 2, 0)] = true := by decide +kernel
set_option maxHeartbeats 400000 in
set_option maxRecDepth 100000 in
theorem sX11_readClause_158 (u : Nat) {X : k_X} {ad : Nat → Nat} (C : k_C X cX11_readClause RX11 4 ad) (hr : X.meth.sig.returnType = none) (hR : X.R.frames = 6 ∧ X.R.locals = 131) {I : Nat → Nat → Int32} {L : Nat → Nat → Int64} {Rf : Nat → Nat → Option Nat} {c0_3 : Int32} (ec0_3 : I 0 3 = c0_3) {a2 : (Nat → Int32)} (ea2 : I 2 = a2) {out : Int32 × Int32 × Int32 × Int32 × Int32 × Int32 × Int32 × Int32 × Int32 × Int32 × (Nat → Int32) × (Nat → Int32) × (Nat → Int32) × (Nat → Int32)} : ∀ (c0_4 : Int32) (c0_5 : Int32) (c0_6 : Int32) (c0_18 : Int32) (c0_19 : Int32) (c0_20 : Int32) (c0_21 : Int32) (c0_22 : Int32) (c0_23 : Int32) (c0_24 : Int32) (a3 : (Nat → Int32)) (a4 : (Nat → Int32)) (a5 : (Nat → Int32)) (a6 : (Nat → Int32)), bX11_readClause_158 u c0_3 a2 c0_4 c0_5 c0_6 c0_18 c0_19 c0_20 c0_21 c0_22 c0_23 c0_24 a3 a4 a5 a6 = some out → k_W X 4 0 0 (k_Q X ad none (k_ap [(0, .inl (4, out.1)), (0, .inl (5, out.2.1)), (0, .inl (6, out.2.2.1)), (0, .inl (18, out.2.2.2.1)), (0, .inl (19, out.2.2.2.2.1)), (0, .inl (20, out.2.2.2.2.2.1)), (0, .inl (21, out.2.2.2.2.2.2.1)), (0, .inl (22, out.2.2.2.2.2.2.2.1)), (0, .inl (23, out.2.2.2.2.2.2.2.2.1)), (0, .inl (24, out.2.2.2.2.2.2.2.2.2.1)), (3, .inr (.inr (.inl out.2.2.2.2.2.2.2.2.2.2.1))), (4, .inr (.inr (.inl out.2.2.2.2.2.2.2.2.2.2.2.1))), (5, .inr (.inr (.inl out.2.2.2.2.2.2.2.2.2.2.2.2.1))), (6, .inr (.inr (.inl out.2.2.2.2.2.2.2.2.2.2.2.2.2)))] (shM, I, L, Rf))) ad (k_ap [(0, .inl (4, c0_4)), (0, .inl (5, c0_5)), (0, .inl (6, c0_6)), (0, .inl (18, c0_18)), (0, .inl (19, c0_19)), (0, .inl (20, c0_20)), (0, .inl (21, c0_21)), (0, .inl (22, c0_22)), (0, .inl (23, c0_23)), (0, .inl (24, c0_24)), (3, .inr (.inr (.inl a3))), (4, .inr (.inr (.inl a4))), (5, .inr (.inr (.inl a5))), (6, .inr (.inr (.inl a6)))] (shM, I, L, Rf)) 158 [some (.ref 0), none, none, none] [] := by
  intro c0_4 c0_5 c0_6 c0_18 c0_19 c0_20 c0_21 c0_22 c0_23 c0_24 a3 a4 a5 a6 h
  unfold bX11_readClause_158 at h
  refine r_aload_n C dX11_readClause_158 (rfl : 158 + 1 = 159) rfl ?_
  refine r_dup C dX11_readClause_159 (rfl : 159 + 1 = 160) rfl ?_
  refine r_getI (v := c0_21) C dX11_readClause_160 (rfl : 160 + 3 = 163) fl_X11_172 rfl rfl rfl ?_
  refine r_iconst (v := (1 : Int32)) C dX11_readClause_163 (rfl : 163 + 1 = 164) rfl ?_
  refine r_iadd C dX11_readClause_164 (rfl : 164 + 1 = 165) ?_
  refine p_I (us' := [(0, .inl (4, c0_4)), (0, .inl (5, c0_5)), (0, .inl (6, c0_6)), (0, .inl (18, c0_18)), (0, .inl (19, c0_19)), (0, .inl (20, c0_20)), (0, .inl (21, (c0_21 + (1 : Int32)))), (0, .inl (22, c0_22)), (0, .inl (23, c0_23)), (0, .inl (24, c0_24)), (3, .inr (.inr (.inl a3))), (4, .inr (.inr (.inl a4))), (5, .inr (.inr (.inl a5))), (6, .inr (.inr (.inl a6)))]) C dX11_readClause_165 (rfl : 165 + 3 = 168) fp_X11_172 rfl rfl ds_X11_readClause rfl rfl rfl ?_
  refine r_goto (tgt := 262) C dX11_readClause_168 (by decide) ?_
  cases h
  exact r_vret C hr dX11_readClause_262
set_option maxHeartbeats 400000 in
set_option maxRecDepth 100000 in
theorem sX11_readClause_0 (u : Nat) {X : k_X} {ad : Nat → Nat} (C : k_C X cX11_readClause RX11 4 ad) (hr : X.meth.sig.returnType = none) (hR : X.R.frames = 6 ∧ X.R.locals = 131) {I : Nat → Nat → Int32} {L : Nat → Nat → Int64} {Rf : Nat → Nat → Option Nat} {c0_3 : Int32} (ec0_3 : I 0 3 = c0_3) {a2 : (Nat → Int32)} (ea2 : I 2 = a2) {out : Int32 × Int32 × Int32 × Int32 × Int32 × Int32 × Int32 × Int32 × Int32 × Int32 × (Nat → Int32) × (Nat → Int32) × (Nat → Int32) × (Nat → Int32)} : ∀ (c0_4 : Int32) (c0_5 : Int32) (c0_6 : Int32) (c0_18 : Int32) (c0_19 : Int32) (c0_20 : Int32) (c0_21 : Int32) (c0_22 : Int32) (c0_23 : Int32) (c0_24 : Int32) (a3 : (Nat → Int32)) (a4 : (Nat → Int32)) (a5 : (Nat → Int32)) (a6 : (Nat → Int32)) (v1 : Int32), bX11_readClause_0 u c0_3 a2 c0_4 c0_5 c0_6 c0_18 c0_19 c0_20 c0_21 c0_22 c0_23 c0_24 a3 a4 a5 a6 v1 = some out → k_W X 4 0 0 (k_Q X ad none (k_ap [(0, .inl (4, out.1)), (0, .inl (5, out.2.1)), (0, .inl (6, out.2.2.1)), (0, .inl (18, out.2.2.2.1)), (0, .inl (19, out.2.2.2.2.1)), (0, .inl (20, out.2.2.2.2.2.1)), (0, .inl (21, out.2.2.2.2.2.2.1)), (0, .inl (22, out.2.2.2.2.2.2.2.1)), (0, .inl (23, out.2.2.2.2.2.2.2.2.1)), (0, .inl (24, out.2.2.2.2.2.2.2.2.2.1)), (3, .inr (.inr (.inl out.2.2.2.2.2.2.2.2.2.2.1))), (4, .inr (.inr (.inl out.2.2.2.2.2.2.2.2.2.2.2.1))), (5, .inr (.inr (.inl out.2.2.2.2.2.2.2.2.2.2.2.2.1))), (6, .inr (.inr (.inl out.2.2.2.2.2.2.2.2.2.2.2.2.2)))] (shM, I, L, Rf))) ad (k_ap [(0, .inl (4, c0_4)), (0, .inl (5, c0_5)), (0, .inl (6, c0_6)), (0, .inl (18, c0_18)), (0, .inl (19, c0_19)), (0, .inl (20, c0_20)), (0, .inl (21, c0_21)), (0, .inl (22, c0_22)), (0, .inl (23, c0_23)), (0, .inl (24, c0_24)), (3, .inr (.inr (.inl a3))), (4, .inr (.inr (.inl a4))), (5, .inr (.inr (.inl a5))), (6, .inr (.inr (.inl a6)))] (shM, I, L, Rf)) 0 [some (.ref 0), some (.int v1), none, none] [] := by
  intro c0_4 c0_5 c0_6 c0_18 c0_19 c0_20 c0_21 c0_22 c0_23 c0_24 a3 a4 a5 a6 v1 h
  unfold bX11_readClause_0 at h
  refine r_iload_n C dX11_readClause_0 (rfl : 0 + 1 = 1) rfl ?_
  refine r_ldcS (i := 7) C rfl dX11_readClause_1 (rfl : 1 + 2 = 3) ?_
  obtain ⟨r3, q3, h⟩ := k_b_of h
  refine d_S (As := [.ref (1000000 + 7)]) (st := [.int v1]) (st' := [.int r3, .int v1]) (h' := k_ap [(0, .inl (4, c0_4)), (0, .inl (5, c0_5)), (0, .inl (6, c0_6)), (0, .inl (18, c0_18)), (0, .inl (19, c0_19)), (0, .inl (20, c0_20)), (0, .inl (21, c0_21)), (0, .inl (22, c0_22)), (0, .inl (23, c0_23)), (0, .inl (24, c0_24)), (3, .inr (.inr (.inl a3))), (4, .inr (.inr (.inl a4))), (5, .inr (.inr (.inl a5))), (6, .inr (.inr (.inl a6)))] (shM, I, L, Rf)) C hR ⟨Nat.zero_le _, Nat.zero_le _⟩ ms_X11_of lk_X11_227 dX11_readClause_3 (rfl : 3 + 3 = 6) rfl rfl (c_X11_of X.l u 7 (by decide) (k_ap [(0, .inl (4, c0_4)), (0, .inl (5, c0_5)), (0, .inl (6, c0_6)), (0, .inl (18, c0_18)), (0, .inl (19, c0_19)), (0, .inl (20, c0_20)), (0, .inl (21, c0_21)), (0, .inl (22, c0_22)), (0, .inl (23, c0_23)), (0, .inl (24, c0_24)), (3, .inr (.inr (.inl a3))), (4, .inr (.inr (.inl a4))), (5, .inr (.inr (.inl a5))), (6, .inr (.inr (.inl a6)))] (shM, I, L, Rf)) rfl  q3) rfl rfl rfl rfl rfl ?_
  refine r_icmp_ne (tgt := 34) C dX11_readClause_6 (by decide) (rfl : 6 + 3 = 9) (fun c6 => ?_) (fun c6 => ?_)
  · have h := k_f c6 h
    refine r_iload_n C dX11_readClause_34 (rfl : 34 + 1 = 35) rfl ?_
    refine r_ldcS (i := 8) C rfl dX11_readClause_35 (rfl : 35 + 2 = 37) ?_
    obtain ⟨r37, q37, h⟩ := k_b_of h
    refine d_S (As := [.ref (1000000 + 8)]) (st := [.int v1]) (st' := [.int r37, .int v1]) (h' := k_ap [(0, .inl (4, c0_4)), (0, .inl (5, c0_5)), (0, .inl (6, c0_6)), (0, .inl (18, c0_18)), (0, .inl (19, c0_19)), (0, .inl (20, c0_20)), (0, .inl (21, c0_21)), (0, .inl (22, c0_22)), (0, .inl (23, c0_23)), (0, .inl (24, c0_24)), (3, .inr (.inr (.inl a3))), (4, .inr (.inr (.inl a4))), (5, .inr (.inr (.inl a5))), (6, .inr (.inr (.inl a6)))] (shM, I, L, Rf)) C hR ⟨Nat.zero_le _, Nat.zero_le _⟩ ms_X11_of lk_X11_227 dX11_readClause_37 (rfl : 37 + 3 = 40) rfl rfl (c_X11_of X.l u 8 (by decide) (k_ap [(0, .inl (4, c0_4)), (0, .inl (5, c0_5)), (0, .inl (6, c0_6)), (0, .inl (18, c0_18)), (0, .inl (19, c0_19)), (0, .inl (20, c0_20)), (0, .inl (21, c0_21)), (0, .inl (22, c0_22)), (0, .inl (23, c0_23)), (0, .inl (24, c0_24)), (3, .inr (.inr (.inl a3))), (4, .inr (.inr (.inl a4))), (5, .inr (.inr (.inl a5))), (6, .inr (.inr (.inl a6)))] (shM, I, L, Rf)) rfl  q37) rfl rfl rfl rfl rfl ?_
    refine r_icmp_ne (tgt := 50) C dX11_readClause_40 (by decide) (rfl : 40 + 3 = 43) (fun c40 => ?_) (fun c40 => ?_)
    · have h := k_f c40 h
      refine r_iload_n C dX11_readClause_50 (rfl : 50 + 1 = 51) rfl ?_
      refine r_ldcS (i := 9) C rfl dX11_readClause_51 (rfl : 51 + 2 = 53) ?_
      obtain ⟨r53, q53, h⟩ := k_b_of h
      refine d_S (As := [.ref (1000000 + 9)]) (st := [.int v1]) (st' := [.int r53, .int v1]) (h' := k_ap [(0, .inl (4, c0_4)), (0, .inl (5, c0_5)), (0, .inl (6, c0_6)), (0, .inl (18, c0_18)), (0, .inl (19, c0_19)), (0, .inl (20, c0_20)), (0, .inl (21, c0_21)), (0, .inl (22, c0_22)), (0, .inl (23, c0_23)), (0, .inl (24, c0_24)), (3, .inr (.inr (.inl a3))), (4, .inr (.inr (.inl a4))), (5, .inr (.inr (.inl a5))), (6, .inr (.inr (.inl a6)))] (shM, I, L, Rf)) C hR ⟨Nat.zero_le _, Nat.zero_le _⟩ ms_X11_of lk_X11_227 dX11_readClause_53 (rfl : 53 + 3 = 56) rfl rfl (c_X11_of X.l u 9 (by decide) (k_ap [(0, .inl (4, c0_4)), (0, .inl (5, c0_5)), (0, .inl (6, c0_6)), (0, .inl (18, c0_18)), (0, .inl (19, c0_19)), (0, .inl (20, c0_20)), (0, .inl (21, c0_21)), (0, .inl (22, c0_22)), (0, .inl (23, c0_23)), (0, .inl (24, c0_24)), (3, .inr (.inr (.inl a3))), (4, .inr (.inr (.inl a4))), (5, .inr (.inr (.inl a5))), (6, .inr (.inr (.inl a6)))] (shM, I, L, Rf)) rfl  q53) rfl rfl rfl rfl rfl ?_
      refine r_icmp_ne (tgt := 118) C dX11_readClause_56 (by decide) (rfl : 56 + 3 = 59) (fun c56 => ?_) (fun c56 => ?_)
      · have h := k_f c56 h
        refine r_iload_n C dX11_readClause_118 (rfl : 118 + 1 = 119) rfl ?_
        refine r_ldcS (i := 10) C rfl dX11_readClause_119 (rfl : 119 + 2 = 121) ?_
        obtain ⟨r121, q121, h⟩ := k_b_of h
        refine d_S (As := [.ref (1000000 + 10)]) (st := [.int v1]) (st' := [.int r121, .int v1]) (h' := k_ap [(0, .inl (4, c0_4)), (0, .inl (5, c0_5)), (0, .inl (6, c0_6)), (0, .inl (18, c0_18)), (0, .inl (19, c0_19)), (0, .inl (20, c0_20)), (0, .inl (21, c0_21)), (0, .inl (22, c0_22)), (0, .inl (23, c0_23)), (0, .inl (24, c0_24)), (3, .inr (.inr (.inl a3))), (4, .inr (.inr (.inl a4))), (5, .inr (.inr (.inl a5))), (6, .inr (.inr (.inl a6)))] (shM, I, L, Rf)) C hR ⟨Nat.zero_le _, Nat.zero_le _⟩ ms_X11_of lk_X11_227 dX11_readClause_121 (rfl : 121 + 3 = 124) rfl rfl (c_X11_of X.l u 10 (by decide) (k_ap [(0, .inl (4, c0_4)), (0, .inl (5, c0_5)), (0, .inl (6, c0_6)), (0, .inl (18, c0_18)), (0, .inl (19, c0_19)), (0, .inl (20, c0_20)), (0, .inl (21, c0_21)), (0, .inl (22, c0_22)), (0, .inl (23, c0_23)), (0, .inl (24, c0_24)), (3, .inr (.inr (.inl a3))), (4, .inr (.inr (.inl a4))), (5, .inr (.inr (.inl a5))), (6, .inr (.inr (.inl a6)))] (shM, I, L, Rf)) rfl  q121) rfl rfl rfl rfl rfl ?_
        refine r_icmp_ne (tgt := 171) C dX11_readClause_124 (by decide) (rfl : 124 + 3 = 127) (fun c124 => ?_) (fun c124 => ?_)
        · have h := k_f c124 h
          refine r_iload_n C dX11_readClause_171 (rfl : 171 + 1 = 172) rfl ?_
          refine r_ldcS (i := 11) C rfl dX11_readClause_172 (rfl : 172 + 2 = 174) ?_
          obtain ⟨r174, q174, h⟩ := k_b_of h
          refine d_S (As := [.ref (1000000 + 11)]) (st := [.int v1]) (st' := [.int r174, .int v1]) (h' := k_ap [(0, .inl (4, c0_4)), (0, .inl (5, c0_5)), (0, .inl (6, c0_6)), (0, .inl (18, c0_18)), (0, .inl (19, c0_19)), (0, .inl (20, c0_20)), (0, .inl (21, c0_21)), (0, .inl (22, c0_22)), (0, .inl (23, c0_23)), (0, .inl (24, c0_24)), (3, .inr (.inr (.inl a3))), (4, .inr (.inr (.inl a4))), (5, .inr (.inr (.inl a5))), (6, .inr (.inr (.inl a6)))] (shM, I, L, Rf)) C hR ⟨Nat.zero_le _, Nat.zero_le _⟩ ms_X11_of lk_X11_227 dX11_readClause_174 (rfl : 174 + 3 = 177) rfl rfl (c_X11_of X.l u 11 (by decide) (k_ap [(0, .inl (4, c0_4)), (0, .inl (5, c0_5)), (0, .inl (6, c0_6)), (0, .inl (18, c0_18)), (0, .inl (19, c0_19)), (0, .inl (20, c0_20)), (0, .inl (21, c0_21)), (0, .inl (22, c0_22)), (0, .inl (23, c0_23)), (0, .inl (24, c0_24)), (3, .inr (.inr (.inl a3))), (4, .inr (.inr (.inl a4))), (5, .inr (.inr (.inl a5))), (6, .inr (.inr (.inl a6)))] (shM, I, L, Rf)) rfl  q174) rfl rfl rfl rfl rfl ?_
          refine r_icmp_ne (tgt := 194) C dX11_readClause_177 (by decide) (rfl : 177 + 3 = 180) (fun c177 => ?_) (fun c177 => ?_)
          · have h := k_f c177 h
            refine r_iload_n C dX11_readClause_194 (rfl : 194 + 1 = 195) rfl ?_
            refine r_ldcS (i := 12) C rfl dX11_readClause_195 (rfl : 195 + 2 = 197) ?_
            obtain ⟨r197, q197, h⟩ := k_b_of h
            refine d_S (As := [.ref (1000000 + 12)]) (st := [.int v1]) (st' := [.int r197, .int v1]) (h' := k_ap [(0, .inl (4, c0_4)), (0, .inl (5, c0_5)), (0, .inl (6, c0_6)), (0, .inl (18, c0_18)), (0, .inl (19, c0_19)), (0, .inl (20, c0_20)), (0, .inl (21, c0_21)), (0, .inl (22, c0_22)), (0, .inl (23, c0_23)), (0, .inl (24, c0_24)), (3, .inr (.inr (.inl a3))), (4, .inr (.inr (.inl a4))), (5, .inr (.inr (.inl a5))), (6, .inr (.inr (.inl a6)))] (shM, I, L, Rf)) C hR ⟨Nat.zero_le _, Nat.zero_le _⟩ ms_X11_of lk_X11_227 dX11_readClause_197 (rfl : 197 + 3 = 200) rfl rfl (c_X11_of X.l u 12 (by decide) (k_ap [(0, .inl (4, c0_4)), (0, .inl (5, c0_5)), (0, .inl (6, c0_6)), (0, .inl (18, c0_18)), (0, .inl (19, c0_19)), (0, .inl (20, c0_20)), (0, .inl (21, c0_21)), (0, .inl (22, c0_22)), (0, .inl (23, c0_23)), (0, .inl (24, c0_24)), (3, .inr (.inr (.inl a3))), (4, .inr (.inr (.inl a4))), (5, .inr (.inr (.inl a5))), (6, .inr (.inr (.inl a6)))] (shM, I, L, Rf)) rfl  q197) rfl rfl rfl rfl rfl ?_
            refine r_icmp_ne (tgt := 217) C dX11_readClause_200 (by decide) (rfl : 200 + 3 = 203) (fun c200 => ?_) (fun c200 => ?_)
            · have h := k_f c200 h
              refine r_iload_n C dX11_readClause_217 (rfl : 217 + 1 = 218) rfl ?_
              refine r_ldcS (i := 13) C rfl dX11_readClause_218 (rfl : 218 + 2 = 220) ?_
              obtain ⟨r220, q220, h⟩ := k_b_of h
              refine d_S (As := [.ref (1000000 + 13)]) (st := [.int v1]) (st' := [.int r220, .int v1]) (h' := k_ap [(0, .inl (4, c0_4)), (0, .inl (5, c0_5)), (0, .inl (6, c0_6)), (0, .inl (18, c0_18)), (0, .inl (19, c0_19)), (0, .inl (20, c0_20)), (0, .inl (21, c0_21)), (0, .inl (22, c0_22)), (0, .inl (23, c0_23)), (0, .inl (24, c0_24)), (3, .inr (.inr (.inl a3))), (4, .inr (.inr (.inl a4))), (5, .inr (.inr (.inl a5))), (6, .inr (.inr (.inl a6)))] (shM, I, L, Rf)) C hR ⟨Nat.zero_le _, Nat.zero_le _⟩ ms_X11_of lk_X11_227 dX11_readClause_220 (rfl : 220 + 3 = 223) rfl rfl (c_X11_of X.l u 13 (by decide) (k_ap [(0, .inl (4, c0_4)), (0, .inl (5, c0_5)), (0, .inl (6, c0_6)), (0, .inl (18, c0_18)), (0, .inl (19, c0_19)), (0, .inl (20, c0_20)), (0, .inl (21, c0_21)), (0, .inl (22, c0_22)), (0, .inl (23, c0_23)), (0, .inl (24, c0_24)), (3, .inr (.inr (.inl a3))), (4, .inr (.inr (.inl a4))), (5, .inr (.inr (.inl a5))), (6, .inr (.inr (.inl a6)))] (shM, I, L, Rf)) rfl  q220) rfl rfl rfl rfl rfl ?_
              refine r_icmp_ne (tgt := 258) C dX11_readClause_223 (by decide) (rfl : 223 + 3 = 226) (fun c223 => ?_) (fun c223 => ?_)
              · have h := k_f c223 h
                refine r_aload_n C dX11_readClause_258 (rfl : 258 + 1 = 259) rfl ?_
                obtain ⟨r259, q259, h⟩ := k_b_of h
                refine d_V (As := []) (st := []) (st' := []) (h' := k_ap [(0, .inl (4, r259.1)), (0, .inl (5, r259.2.1)), (0, .inl (6, r259.2.2.1)), (0, .inl (18, c0_18)), (0, .inl (19, c0_19)), (0, .inl (20, c0_20)), (0, .inl (21, c0_21)), (0, .inl (22, c0_22)), (0, .inl (23, c0_23)), (0, .inl (24, r259.2.2.2.1)), (3, .inr (.inr (.inl a3))), (4, .inr (.inr (.inl a4))), (5, .inr (.inr (.inl a5))), (6, .inr (.inr (.inl r259.2.2.2.2)))] (shM, I, L, Rf)) C hR ⟨Nat.zero_le _, Nat.zero_le _⟩ mv_X11_readOrder lk_X11_247 dX11_readClause_259 (rfl : 259 + 3 = 262) rfl rfl rfl rfl (c_X11_readOrder X.l u (k_ap [(0, .inl (4, c0_4)), (0, .inl (5, c0_5)), (0, .inl (6, c0_6)), (0, .inl (18, c0_18)), (0, .inl (19, c0_19)), (0, .inl (20, c0_20)), (0, .inl (21, c0_21)), (0, .inl (22, c0_22)), (0, .inl (23, c0_23)), (0, .inl (24, c0_24)), (3, .inr (.inr (.inl a3))), (4, .inr (.inr (.inl a4))), (5, .inr (.inr (.inl a5))), (6, .inr (.inr (.inl a6)))] (shM, I, L, Rf)) rfl ec0_3 rfl rfl rfl rfl ea2 rfl q259) rfl rfl rfl (k_jn2 (us' := [(0, .inl (4, r259.1)), (0, .inl (5, r259.2.1)), (0, .inl (6, r259.2.2.1)), (0, .inl (18, c0_18)), (0, .inl (19, c0_19)), (0, .inl (20, c0_20)), (0, .inl (21, c0_21)), (0, .inl (22, c0_22)), (0, .inl (23, c0_23)), (0, .inl (24, r259.2.2.2.1)), (3, .inr (.inr (.inl a3))), (4, .inr (.inr (.inl a4))), (5, .inr (.inr (.inl a5))), (6, .inr (.inr (.inl r259.2.2.2.2)))]) (vks := [(0, 0, 4), (0, 0, 5), (0, 0, 6), (0, 0, 24), (6, 2, 0)]) (js := [0, 1, 2, 9, 13]) ds_X11_readClause rfl rfl (by decide +kernel) rfl) rfl ?_
                cases h
                exact r_vret C hr dX11_readClause_262
              · have h := k_t c223 h
                refine r_aload_n C dX11_readClause_226 (rfl : 226 + 1 = 227) rfl ?_
                refine r_iconst (v := (1 : Int32)) C dX11_readClause_227 (rfl : 227 + 1 = 228) rfl ?_
                refine r_iconst (v := (4 : Int32)) C dX11_readClause_228 (rfl : 228 + 1 = 229) rfl ?_
                obtain ⟨r229, q229, h⟩ := k_b_of h
                refine d_V (As := [.int (1 : Int32), .int (4 : Int32)]) (st := []) (st' := [.int r229.1]) (h' := k_ap [(0, .inl (4, r229.2.1)), (0, .inl (5, r229.2.2.1)), (0, .inl (6, r229.2.2.2)), (0, .inl (18, c0_18)), (0, .inl (19, c0_19)), (0, .inl (20, c0_20)), (0, .inl (21, c0_21)), (0, .inl (22, c0_22)), (0, .inl (23, c0_23)), (0, .inl (24, c0_24)), (3, .inr (.inr (.inl a3))), (4, .inr (.inr (.inl a4))), (5, .inr (.inr (.inl a5))), (6, .inr (.inr (.inl a6)))] (shM, I, L, Rf)) C hR ⟨Nat.zero_le _, Nat.zero_le _⟩ mv_X11_readNumber lk_X11_218 dX11_readClause_229 (rfl : 229 + 3 = 232) rfl rfl rfl rfl (c_X11_readNumber X.l u (k_ap [(0, .inl (4, c0_4)), (0, .inl (5, c0_5)), (0, .inl (6, c0_6)), (0, .inl (18, c0_18)), (0, .inl (19, c0_19)), (0, .inl (20, c0_20)), (0, .inl (21, c0_21)), (0, .inl (22, c0_22)), (0, .inl (23, c0_23)), (0, .inl (24, c0_24)), (3, .inr (.inr (.inl a3))), (4, .inr (.inr (.inl a4))), (5, .inr (.inr (.inl a5))), (6, .inr (.inr (.inl a6)))] (shM, I, L, Rf)) rfl ec0_3 rfl rfl rfl ea2 q229) rfl rfl rfl (k_jn2 (us' := [(0, .inl (4, r229.2.1)), (0, .inl (5, r229.2.2.1)), (0, .inl (6, r229.2.2.2)), (0, .inl (18, c0_18)), (0, .inl (19, c0_19)), (0, .inl (20, c0_20)), (0, .inl (21, c0_21)), (0, .inl (22, c0_22)), (0, .inl (23, c0_23)), (0, .inl (24, c0_24)), (3, .inr (.inr (.inl a3))), (4, .inr (.inr (.inl a4))), (5, .inr (.inr (.inl a5))), (6, .inr (.inr (.inl a6)))]) (vks := [(0, 0, 4), (0, 0, 5), (0, 0, 6)]) (js := [0, 1, 2]) ds_X11_readClause rfl rfl (by decide +kernel) rfl) rfl ?_
                refine r_istore_n C dX11_readClause_232 (rfl : 232 + 1 = 233) (by decide) (Nat.le_of_ble_eq_true rfl) ?_
                show k_W _ _ _ _ _ _ _ _ [some (.ref 0), some (.int v1), some (.int r229.1), none] _
                refine r_aload_n C dX11_readClause_233 (rfl : 233 + 1 = 234) rfl ?_
                refine r_iconst (v := (0 : Int32)) C dX11_readClause_234 (rfl : 234 + 1 = 235) rfl ?_
                refine r_bipush (v := (99 : Int32)) C dX11_readClause_235 (rfl : 235 + 2 = 237) rfl ?_
                obtain ⟨r237, q237, h⟩ := k_b_of h
                refine d_V (As := [.int (0 : Int32), .int (99 : Int32)]) (st := []) (st' := [.int r237.1]) (h' := k_ap [(0, .inl (4, r237.2.1)), (0, .inl (5, r237.2.2.1)), (0, .inl (6, r237.2.2.2)), (0, .inl (18, c0_18)), (0, .inl (19, c0_19)), (0, .inl (20, c0_20)), (0, .inl (21, c0_21)), (0, .inl (22, c0_22)), (0, .inl (23, c0_23)), (0, .inl (24, c0_24)), (3, .inr (.inr (.inl a3))), (4, .inr (.inr (.inl a4))), (5, .inr (.inr (.inl a5))), (6, .inr (.inr (.inl a6)))] (shM, I, L, Rf)) C hR ⟨Nat.zero_le _, Nat.zero_le _⟩ mv_X11_readNumber lk_X11_218 dX11_readClause_237 (rfl : 237 + 3 = 240) rfl rfl rfl rfl (c_X11_readNumber X.l u (k_ap [(0, .inl (4, r229.2.1)), (0, .inl (5, r229.2.2.1)), (0, .inl (6, r229.2.2.2)), (0, .inl (18, c0_18)), (0, .inl (19, c0_19)), (0, .inl (20, c0_20)), (0, .inl (21, c0_21)), (0, .inl (22, c0_22)), (0, .inl (23, c0_23)), (0, .inl (24, c0_24)), (3, .inr (.inr (.inl a3))), (4, .inr (.inr (.inl a4))), (5, .inr (.inr (.inl a5))), (6, .inr (.inr (.inl a6)))] (shM, I, L, Rf)) rfl ec0_3 rfl rfl rfl ea2 q237) rfl rfl rfl (k_jn2 (us' := [(0, .inl (4, r237.2.1)), (0, .inl (5, r237.2.2.1)), (0, .inl (6, r237.2.2.2)), (0, .inl (18, c0_18)), (0, .inl (19, c0_19)), (0, .inl (20, c0_20)), (0, .inl (21, c0_21)), (0, .inl (22, c0_22)), (0, .inl (23, c0_23)), (0, .inl (24, c0_24)), (3, .inr (.inr (.inl a3))), (4, .inr (.inr (.inl a4))), (5, .inr (.inr (.inl a5))), (6, .inr (.inr (.inl a6)))]) (vks := [(0, 0, 4), (0, 0, 5), (0, 0, 6)]) (js := [0, 1, 2]) ds_X11_readClause rfl rfl (by decide +kernel) rfl) rfl ?_
                refine r_istore_n C dX11_readClause_240 (rfl : 240 + 1 = 241) (by decide) (Nat.le_of_ble_eq_true rfl) ?_
                show k_W _ _ _ _ _ _ _ _ [some (.ref 0), some (.int v1), some (.int r229.1), some (.int r237.1)] _
                refine r_aload_n C dX11_readClause_241 (rfl : 241 + 1 = 242) rfl ?_
                obtain ⟨r242, q242, h⟩ := k_b_of h
                refine d_V (As := []) (st := []) (st' := [.int r242]) (h' := k_ap [(0, .inl (4, r237.2.1)), (0, .inl (5, r237.2.2.1)), (0, .inl (6, r237.2.2.2)), (0, .inl (18, c0_18)), (0, .inl (19, c0_19)), (0, .inl (20, c0_20)), (0, .inl (21, c0_21)), (0, .inl (22, c0_22)), (0, .inl (23, c0_23)), (0, .inl (24, c0_24)), (3, .inr (.inr (.inl a3))), (4, .inr (.inr (.inl a4))), (5, .inr (.inr (.inl a5))), (6, .inr (.inr (.inl a6)))] (shM, I, L, Rf)) C hR ⟨Nat.zero_le _, Nat.zero_le _⟩ mv_X11_fine lk_X11_149 dX11_readClause_242 (rfl : 242 + 3 = 245) rfl rfl rfl rfl (c_X11_fine X.l u (k_ap [(0, .inl (4, r237.2.1)), (0, .inl (5, r237.2.2.1)), (0, .inl (6, r237.2.2.2)), (0, .inl (18, c0_18)), (0, .inl (19, c0_19)), (0, .inl (20, c0_20)), (0, .inl (21, c0_21)), (0, .inl (22, c0_22)), (0, .inl (23, c0_23)), (0, .inl (24, c0_24)), (3, .inr (.inr (.inl a3))), (4, .inr (.inr (.inl a4))), (5, .inr (.inr (.inl a5))), (6, .inr (.inr (.inl a6)))] (shM, I, L, Rf)) rfl rfl q242) rfl rfl rfl rfl rfl ?_
                refine r_if_eq (tgt := 255) C dX11_readClause_245 (by decide) (rfl : 245 + 3 = 248) (fun c245 => ?_) (fun c245 => ?_)
                · have h := k_t c245 h
                  refine r_goto (tgt := 262) C dX11_readClause_255 (by decide) ?_
                  cases h
                  exact r_vret C hr dX11_readClause_262
                · have h := k_f c245 h
                  refine r_aload_n C dX11_readClause_248 (rfl : 248 + 1 = 249) rfl ?_
                  refine r_getR (q := 5) C dX11_readClause_249 (rfl : 249 + 3 = 252) fl_X11_29 rfl rfl ?_
                  refine r_iload_n C dX11_readClause_252 (rfl : 252 + 1 = 253) rfl ?_
                  refine r_iload_n C dX11_readClause_253 (rfl : 253 + 1 = 254) rfl ?_
                  obtain ⟨hi254, h⟩ := k_i_of h
                  refine s_i (j := (r229.1).toNatClampNeg) (f := a5) (us' := [(0, .inl (4, r237.2.1)), (0, .inl (5, r237.2.2.1)), (0, .inl (6, r237.2.2.2)), (0, .inl (18, c0_18)), (0, .inl (19, c0_19)), (0, .inl (20, c0_20)), (0, .inl (21, c0_21)), (0, .inl (22, c0_22)), (0, .inl (23, c0_23)), (0, .inl (24, c0_24)), (3, .inr (.inr (.inl a3))), (4, .inr (.inr (.inl a4))), (5, .inr (.inr (.inl (upd a5 ((r229.1).toNatClampNeg) r237.1)))), (6, .inr (.inr (.inl a6)))]) C dX11_readClause_254 (rfl : 254 + 1 = 255) rfl rfl hi254 rfl ds_X11_readClause rfl rfl rfl ?_
                  refine r_goto (tgt := 262) C dX11_readClause_255 (by decide) ?_
                  cases h
                  exact r_vret C hr dX11_readClause_262
            · have h := k_t c200 h
              refine r_aload_n C dX11_readClause_203 (rfl : 203 + 1 = 204) rfl ?_
              refine r_aload_n C dX11_readClause_204 (rfl : 204 + 1 = 205) rfl ?_
              refine r_iconst (v := (0 : Int32)) C dX11_readClause_205 (rfl : 205 + 1 = 206) rfl ?_
              refine r_bipush (v := (20 : Int32)) C dX11_readClause_206 (rfl : 206 + 2 = 208) rfl ?_
              obtain ⟨r208, q208, h⟩ := k_b_of h
              refine d_V (As := [.int (0 : Int32), .int (20 : Int32)]) (st := [.ref 0]) (st' := [.int r208.1, .ref 0]) (h' := k_ap [(0, .inl (4, r208.2.1)), (0, .inl (5, r208.2.2.1)), (0, .inl (6, r208.2.2.2)), (0, .inl (18, c0_18)), (0, .inl (19, c0_19)), (0, .inl (20, c0_20)), (0, .inl (21, c0_21)), (0, .inl (22, c0_22)), (0, .inl (23, c0_23)), (0, .inl (24, c0_24)), (3, .inr (.inr (.inl a3))), (4, .inr (.inr (.inl a4))), (5, .inr (.inr (.inl a5))), (6, .inr (.inr (.inl a6)))] (shM, I, L, Rf)) C hR ⟨Nat.zero_le _, Nat.zero_le _⟩ mv_X11_readNumber lk_X11_218 dX11_readClause_208 (rfl : 208 + 3 = 211) rfl rfl rfl rfl (c_X11_readNumber X.l u (k_ap [(0, .inl (4, c0_4)), (0, .inl (5, c0_5)), (0, .inl (6, c0_6)), (0, .inl (18, c0_18)), (0, .inl (19, c0_19)), (0, .inl (20, c0_20)), (0, .inl (21, c0_21)), (0, .inl (22, c0_22)), (0, .inl (23, c0_23)), (0, .inl (24, c0_24)), (3, .inr (.inr (.inl a3))), (4, .inr (.inr (.inl a4))), (5, .inr (.inr (.inl a5))), (6, .inr (.inr (.inl a6)))] (shM, I, L, Rf)) rfl ec0_3 rfl rfl rfl ea2 q208) rfl rfl rfl (k_jn2 (us' := [(0, .inl (4, r208.2.1)), (0, .inl (5, r208.2.2.1)), (0, .inl (6, r208.2.2.2)), (0, .inl (18, c0_18)), (0, .inl (19, c0_19)), (0, .inl (20, c0_20)), (0, .inl (21, c0_21)), (0, .inl (22, c0_22)), (0, .inl (23, c0_23)), (0, .inl (24, c0_24)), (3, .inr (.inr (.inl a3))), (4, .inr (.inr (.inl a4))), (5, .inr (.inr (.inl a5))), (6, .inr (.inr (.inl a6)))]) (vks := [(0, 0, 4), (0, 0, 5), (0, 0, 6)]) (js := [0, 1, 2]) ds_X11_readClause rfl rfl (by decide +kernel) rfl) rfl ?_
              refine p_I (us' := [(0, .inl (4, r208.2.1)), (0, .inl (5, r208.2.2.1)), (0, .inl (6, r208.2.2.2)), (0, .inl (18, c0_18)), (0, .inl (19, c0_19)), (0, .inl (20, c0_20)), (0, .inl (21, c0_21)), (0, .inl (22, c0_22)), (0, .inl (23, r208.1)), (0, .inl (24, c0_24)), (3, .inr (.inr (.inl a3))), (4, .inr (.inr (.inl a4))), (5, .inr (.inr (.inl a5))), (6, .inr (.inr (.inl a6)))]) C dX11_readClause_211 (rfl : 211 + 3 = 214) fp_X11_178 rfl rfl ds_X11_readClause rfl rfl rfl ?_
              refine r_goto (tgt := 262) C dX11_readClause_214 (by decide) ?_
              cases h
              exact r_vret C hr dX11_readClause_262
          · have h := k_t c177 h
            refine r_aload_n C dX11_readClause_180 (rfl : 180 + 1 = 181) rfl ?_
            refine r_aload_n C dX11_readClause_181 (rfl : 181 + 1 = 182) rfl ?_
            refine r_iconst (v := (1 : Int32)) C dX11_readClause_182 (rfl : 182 + 1 = 183) rfl ?_
            refine r_bipush (v := (9 : Int32)) C dX11_readClause_183 (rfl : 183 + 2 = 185) rfl ?_
            obtain ⟨r185, q185, h⟩ := k_b_of h
            refine d_V (As := [.int (1 : Int32), .int (9 : Int32)]) (st := [.ref 0]) (st' := [.int r185.1, .ref 0]) (h' := k_ap [(0, .inl (4, r185.2.1)), (0, .inl (5, r185.2.2.1)), (0, .inl (6, r185.2.2.2)), (0, .inl (18, c0_18)), (0, .inl (19, c0_19)), (0, .inl (20, c0_20)), (0, .inl (21, c0_21)), (0, .inl (22, c0_22)), (0, .inl (23, c0_23)), (0, .inl (24, c0_24)), (3, .inr (.inr (.inl a3))), (4, .inr (.inr (.inl a4))), (5, .inr (.inr (.inl a5))), (6, .inr (.inr (.inl a6)))] (shM, I, L, Rf)) C hR ⟨Nat.zero_le _, Nat.zero_le _⟩ mv_X11_readNumber lk_X11_218 dX11_readClause_185 (rfl : 185 + 3 = 188) rfl rfl rfl rfl (c_X11_readNumber X.l u (k_ap [(0, .inl (4, c0_4)), (0, .inl (5, c0_5)), (0, .inl (6, c0_6)), (0, .inl (18, c0_18)), (0, .inl (19, c0_19)), (0, .inl (20, c0_20)), (0, .inl (21, c0_21)), (0, .inl (22, c0_22)), (0, .inl (23, c0_23)), (0, .inl (24, c0_24)), (3, .inr (.inr (.inl a3))), (4, .inr (.inr (.inl a4))), (5, .inr (.inr (.inl a5))), (6, .inr (.inr (.inl a6)))] (shM, I, L, Rf)) rfl ec0_3 rfl rfl rfl ea2 q185) rfl rfl rfl (k_jn2 (us' := [(0, .inl (4, r185.2.1)), (0, .inl (5, r185.2.2.1)), (0, .inl (6, r185.2.2.2)), (0, .inl (18, c0_18)), (0, .inl (19, c0_19)), (0, .inl (20, c0_20)), (0, .inl (21, c0_21)), (0, .inl (22, c0_22)), (0, .inl (23, c0_23)), (0, .inl (24, c0_24)), (3, .inr (.inr (.inl a3))), (4, .inr (.inr (.inl a4))), (5, .inr (.inr (.inl a5))), (6, .inr (.inr (.inl a6)))]) (vks := [(0, 0, 4), (0, 0, 5), (0, 0, 6)]) (js := [0, 1, 2]) ds_X11_readClause rfl rfl (by decide +kernel) rfl) rfl ?_
            refine p_I (us' := [(0, .inl (4, r185.2.1)), (0, .inl (5, r185.2.2.1)), (0, .inl (6, r185.2.2.2)), (0, .inl (18, c0_18)), (0, .inl (19, c0_19)), (0, .inl (20, c0_20)), (0, .inl (21, c0_21)), (0, .inl (22, r185.1)), (0, .inl (23, c0_23)), (0, .inl (24, c0_24)), (3, .inr (.inr (.inl a3))), (4, .inr (.inr (.inl a4))), (5, .inr (.inr (.inl a5))), (6, .inr (.inr (.inl a6)))]) C dX11_readClause_188 (rfl : 188 + 3 = 191) fp_X11_175 rfl rfl ds_X11_readClause rfl rfl rfl ?_
            refine r_goto (tgt := 262) C dX11_readClause_191 (by decide) ?_
            cases h
            exact r_vret C hr dX11_readClause_262
        · have h := k_t c124 h
          refine r_aload_n C dX11_readClause_127 (rfl : 127 + 1 = 128) rfl ?_
          refine r_iconst (v := (0 : Int32)) C dX11_readClause_128 (rfl : 128 + 1 = 129) rfl ?_
          refine r_aload_n C dX11_readClause_129 (rfl : 129 + 1 = 130) rfl ?_
          refine r_getI (v := c0_18) C dX11_readClause_130 (rfl : 130 + 3 = 133) fl_X11_163 rfl rfl rfl ?_
          refine r_iconst (v := (1 : Int32)) C dX11_readClause_133 (rfl : 133 + 1 = 134) rfl ?_
          refine r_isub C dX11_readClause_134 (rfl : 134 + 1 = 135) ?_
          obtain ⟨r135, q135, h⟩ := k_b_of h
          refine d_V (As := [.int (0 : Int32), .int (c0_18 - (1 : Int32))]) (st := []) (st' := [.int r135.1]) (h' := k_ap [(0, .inl (4, r135.2.1)), (0, .inl (5, r135.2.2.1)), (0, .inl (6, r135.2.2.2)), (0, .inl (18, c0_18)), (0, .inl (19, c0_19)), (0, .inl (20, c0_20)), (0, .inl (21, c0_21)), (0, .inl (22, c0_22)), (0, .inl (23, c0_23)), (0, .inl (24, c0_24)), (3, .inr (.inr (.inl a3))), (4, .inr (.inr (.inl a4))), (5, .inr (.inr (.inl a5))), (6, .inr (.inr (.inl a6)))] (shM, I, L, Rf)) C hR ⟨Nat.zero_le _, Nat.zero_le _⟩ mv_X11_readNumber lk_X11_218 dX11_readClause_135 (rfl : 135 + 3 = 138) rfl rfl rfl rfl (c_X11_readNumber X.l u (k_ap [(0, .inl (4, c0_4)), (0, .inl (5, c0_5)), (0, .inl (6, c0_6)), (0, .inl (18, c0_18)), (0, .inl (19, c0_19)), (0, .inl (20, c0_20)), (0, .inl (21, c0_21)), (0, .inl (22, c0_22)), (0, .inl (23, c0_23)), (0, .inl (24, c0_24)), (3, .inr (.inr (.inl a3))), (4, .inr (.inr (.inl a4))), (5, .inr (.inr (.inl a5))), (6, .inr (.inr (.inl a6)))] (shM, I, L, Rf)) rfl ec0_3 rfl rfl rfl ea2 q135) rfl rfl rfl (k_jn2 (us' := [(0, .inl (4, r135.2.1)), (0, .inl (5, r135.2.2.1)), (0, .inl (6, r135.2.2.2)), (0, .inl (18, c0_18)), (0, .inl (19, c0_19)), (0, .inl (20, c0_20)), (0, .inl (21, c0_21)), (0, .inl (22, c0_22)), (0, .inl (23, c0_23)), (0, .inl (24, c0_24)), (3, .inr (.inr (.inl a3))), (4, .inr (.inr (.inl a4))), (5, .inr (.inr (.inl a5))), (6, .inr (.inr (.inl a6)))]) (vks := [(0, 0, 4), (0, 0, 5), (0, 0, 6)]) (js := [0, 1, 2]) ds_X11_readClause rfl rfl (by decide +kernel) rfl) rfl ?_
          refine r_istore_n C dX11_readClause_138 (rfl : 138 + 1 = 139) (by decide) (Nat.le_of_ble_eq_true rfl) ?_
          show k_W _ _ _ _ _ _ _ _ [some (.ref 0), some (.int v1), some (.int r135.1), none] _
          refine r_aload_n C dX11_readClause_139 (rfl : 139 + 1 = 140) rfl ?_
          obtain ⟨r140, q140, h⟩ := k_b_of h
          refine d_V (As := []) (st := []) (st' := [.int r140]) (h' := k_ap [(0, .inl (4, r135.2.1)), (0, .inl (5, r135.2.2.1)), (0, .inl (6, r135.2.2.2)), (0, .inl (18, c0_18)), (0, .inl (19, c0_19)), (0, .inl (20, c0_20)), (0, .inl (21, c0_21)), (0, .inl (22, c0_22)), (0, .inl (23, c0_23)), (0, .inl (24, c0_24)), (3, .inr (.inr (.inl a3))), (4, .inr (.inr (.inl a4))), (5, .inr (.inr (.inl a5))), (6, .inr (.inr (.inl a6)))] (shM, I, L, Rf)) C hR ⟨Nat.zero_le _, Nat.zero_le _⟩ mv_X11_fine lk_X11_149 dX11_readClause_140 (rfl : 140 + 3 = 143) rfl rfl rfl rfl (c_X11_fine X.l u (k_ap [(0, .inl (4, r135.2.1)), (0, .inl (5, r135.2.2.1)), (0, .inl (6, r135.2.2.2)), (0, .inl (18, c0_18)), (0, .inl (19, c0_19)), (0, .inl (20, c0_20)), (0, .inl (21, c0_21)), (0, .inl (22, c0_22)), (0, .inl (23, c0_23)), (0, .inl (24, c0_24)), (3, .inr (.inr (.inl a3))), (4, .inr (.inr (.inl a4))), (5, .inr (.inr (.inl a5))), (6, .inr (.inr (.inl a6)))] (shM, I, L, Rf)) rfl rfl q140) rfl rfl rfl rfl rfl ?_
          refine r_if_eq (tgt := 158) C dX11_readClause_143 (by decide) (rfl : 143 + 3 = 146) (fun c143 => ?_) (fun c143 => ?_)
          · have h := k_t c143 h
            refine k_mask [true, false, false, false] ?_
            exact sX11_readClause_158 u C hr hR ec0_3 ea2 r135.2.1 r135.2.2.1 r135.2.2.2 c0_18 c0_19 c0_20 c0_21 c0_22 c0_23 c0_24 a3 a4 a5 a6 h
          · have h := k_f c143 h
            refine r_aload_n C dX11_readClause_146 (rfl : 146 + 1 = 147) rfl ?_
            refine r_dup C dX11_readClause_147 (rfl : 147 + 1 = 148) rfl ?_
            refine r_getI (v := c0_20) C dX11_readClause_148 (rfl : 148 + 3 = 151) fl_X11_169 rfl rfl rfl ?_
            refine r_iconst (v := (1 : Int32)) C dX11_readClause_151 (rfl : 151 + 1 = 152) rfl ?_
            refine r_iload_n C dX11_readClause_152 (rfl : 152 + 1 = 153) rfl ?_
            refine r_ishl C dX11_readClause_153 (rfl : 153 + 1 = 154) ?_
            refine r_ior C dX11_readClause_154 (rfl : 154 + 1 = 155) ?_
            refine p_I (us' := [(0, .inl (4, r135.2.1)), (0, .inl (5, r135.2.2.1)), (0, .inl (6, r135.2.2.2)), (0, .inl (18, c0_18)), (0, .inl (19, c0_19)), (0, .inl (20, (c0_20 ||| ((1 : Int32) <<< (r135.1 &&& 31))))), (0, .inl (21, c0_21)), (0, .inl (22, c0_22)), (0, .inl (23, c0_23)), (0, .inl (24, c0_24)), (3, .inr (.inr (.inl a3))), (4, .inr (.inr (.inl a4))), (5, .inr (.inr (.inl a5))), (6, .inr (.inr (.inl a6)))]) C dX11_readClause_155 (rfl : 155 + 3 = 158) fp_X11_169 rfl rfl ds_X11_readClause rfl rfl rfl ?_
            refine k_mask [true, false, false, false] ?_
            exact sX11_readClause_158 u C hr hR ec0_3 ea2 r135.2.1 r135.2.2.1 r135.2.2.2 c0_18 c0_19 (c0_20 ||| ((1 : Int32) <<< (r135.1 &&& 31))) c0_21 c0_22 c0_23 c0_24 a3 a4 a5 a6 h
      · have h := k_t c56 h
        refine r_aload_n C dX11_readClause_59 (rfl : 59 + 1 = 60) rfl ?_
        refine r_iconst (v := (0 : Int32)) C dX11_readClause_60 (rfl : 60 + 1 = 61) rfl ?_
        refine r_aload_n C dX11_readClause_61 (rfl : 61 + 1 = 62) rfl ?_
        refine r_getI (v := c0_18) C dX11_readClause_62 (rfl : 62 + 3 = 65) fl_X11_163 rfl rfl rfl ?_
        refine r_iconst (v := (1 : Int32)) C dX11_readClause_65 (rfl : 65 + 1 = 66) rfl ?_
        refine r_isub C dX11_readClause_66 (rfl : 66 + 1 = 67) ?_
        obtain ⟨r67, q67, h⟩ := k_b_of h
        refine d_V (As := [.int (0 : Int32), .int (c0_18 - (1 : Int32))]) (st := []) (st' := [.int r67.1]) (h' := k_ap [(0, .inl (4, r67.2.1)), (0, .inl (5, r67.2.2.1)), (0, .inl (6, r67.2.2.2)), (0, .inl (18, c0_18)), (0, .inl (19, c0_19)), (0, .inl (20, c0_20)), (0, .inl (21, c0_21)), (0, .inl (22, c0_22)), (0, .inl (23, c0_23)), (0, .inl (24, c0_24)), (3, .inr (.inr (.inl a3))), (4, .inr (.inr (.inl a4))), (5, .inr (.inr (.inl a5))), (6, .inr (.inr (.inl a6)))] (shM, I, L, Rf)) C hR ⟨Nat.zero_le _, Nat.zero_le _⟩ mv_X11_readNumber lk_X11_218 dX11_readClause_67 (rfl : 67 + 3 = 70) rfl rfl rfl rfl (c_X11_readNumber X.l u (k_ap [(0, .inl (4, c0_4)), (0, .inl (5, c0_5)), (0, .inl (6, c0_6)), (0, .inl (18, c0_18)), (0, .inl (19, c0_19)), (0, .inl (20, c0_20)), (0, .inl (21, c0_21)), (0, .inl (22, c0_22)), (0, .inl (23, c0_23)), (0, .inl (24, c0_24)), (3, .inr (.inr (.inl a3))), (4, .inr (.inr (.inl a4))), (5, .inr (.inr (.inl a5))), (6, .inr (.inr (.inl a6)))] (shM, I, L, Rf)) rfl ec0_3 rfl rfl rfl ea2 q67) rfl rfl rfl (k_jn2 (us' := [(0, .inl (4, r67.2.1)), (0, .inl (5, r67.2.2.1)), (0, .inl (6, r67.2.2.2)), (0, .inl (18, c0_18)), (0, .inl (19, c0_19)), (0, .inl (20, c0_20)), (0, .inl (21, c0_21)), (0, .inl (22, c0_22)), (0, .inl (23, c0_23)), (0, .inl (24, c0_24)), (3, .inr (.inr (.inl a3))), (4, .inr (.inr (.inl a4))), (5, .inr (.inr (.inl a5))), (6, .inr (.inr (.inl a6)))]) (vks := [(0, 0, 4), (0, 0, 5), (0, 0, 6)]) (js := [0, 1, 2]) ds_X11_readClause rfl rfl (by decide +kernel) rfl) rfl ?_
        refine r_istore_n C dX11_readClause_70 (rfl : 70 + 1 = 71) (by decide) (Nat.le_of_ble_eq_true rfl) ?_
        show k_W _ _ _ _ _ _ _ _ [some (.ref 0), some (.int v1), some (.int r67.1), none] _
        refine r_aload_n C dX11_readClause_71 (rfl : 71 + 1 = 72) rfl ?_
        refine r_iconst (v := (0 : Int32)) C dX11_readClause_72 (rfl : 72 + 1 = 73) rfl ?_
        refine r_aload_n C dX11_readClause_73 (rfl : 73 + 1 = 74) rfl ?_
        refine r_getI (v := c0_19) C dX11_readClause_74 (rfl : 74 + 3 = 77) fl_X11_166 rfl rfl rfl ?_
        refine r_iconst (v := (1 : Int32)) C dX11_readClause_77 (rfl : 77 + 1 = 78) rfl ?_
        refine r_isub C dX11_readClause_78 (rfl : 78 + 1 = 79) ?_
        obtain ⟨r79, q79, h⟩ := k_b_of h
        refine d_V (As := [.int (0 : Int32), .int (c0_19 - (1 : Int32))]) (st := []) (st' := [.int r79.1]) (h' := k_ap [(0, .inl (4, r79.2.1)), (0, .inl (5, r79.2.2.1)), (0, .inl (6, r79.2.2.2)), (0, .inl (18, c0_18)), (0, .inl (19, c0_19)), (0, .inl (20, c0_20)), (0, .inl (21, c0_21)), (0, .inl (22, c0_22)), (0, .inl (23, c0_23)), (0, .inl (24, c0_24)), (3, .inr (.inr (.inl a3))), (4, .inr (.inr (.inl a4))), (5, .inr (.inr (.inl a5))), (6, .inr (.inr (.inl a6)))] (shM, I, L, Rf)) C hR ⟨Nat.zero_le _, Nat.zero_le _⟩ mv_X11_readNumber lk_X11_218 dX11_readClause_79 (rfl : 79 + 3 = 82) rfl rfl rfl rfl (c_X11_readNumber X.l u (k_ap [(0, .inl (4, r67.2.1)), (0, .inl (5, r67.2.2.1)), (0, .inl (6, r67.2.2.2)), (0, .inl (18, c0_18)), (0, .inl (19, c0_19)), (0, .inl (20, c0_20)), (0, .inl (21, c0_21)), (0, .inl (22, c0_22)), (0, .inl (23, c0_23)), (0, .inl (24, c0_24)), (3, .inr (.inr (.inl a3))), (4, .inr (.inr (.inl a4))), (5, .inr (.inr (.inl a5))), (6, .inr (.inr (.inl a6)))] (shM, I, L, Rf)) rfl ec0_3 rfl rfl rfl ea2 q79) rfl rfl rfl (k_jn2 (us' := [(0, .inl (4, r79.2.1)), (0, .inl (5, r79.2.2.1)), (0, .inl (6, r79.2.2.2)), (0, .inl (18, c0_18)), (0, .inl (19, c0_19)), (0, .inl (20, c0_20)), (0, .inl (21, c0_21)), (0, .inl (22, c0_22)), (0, .inl (23, c0_23)), (0, .inl (24, c0_24)), (3, .inr (.inr (.inl a3))), (4, .inr (.inr (.inl a4))), (5, .inr (.inr (.inl a5))), (6, .inr (.inr (.inl a6)))]) (vks := [(0, 0, 4), (0, 0, 5), (0, 0, 6)]) (js := [0, 1, 2]) ds_X11_readClause rfl rfl (by decide +kernel) rfl) rfl ?_
        refine r_istore_n C dX11_readClause_82 (rfl : 82 + 1 = 83) (by decide) (Nat.le_of_ble_eq_true rfl) ?_
        show k_W _ _ _ _ _ _ _ _ [some (.ref 0), some (.int v1), some (.int r67.1), some (.int r79.1)] _
        refine r_aload_n C dX11_readClause_83 (rfl : 83 + 1 = 84) rfl ?_
        obtain ⟨r84, q84, h⟩ := k_b_of h
        refine d_V (As := []) (st := []) (st' := [.int r84]) (h' := k_ap [(0, .inl (4, r79.2.1)), (0, .inl (5, r79.2.2.1)), (0, .inl (6, r79.2.2.2)), (0, .inl (18, c0_18)), (0, .inl (19, c0_19)), (0, .inl (20, c0_20)), (0, .inl (21, c0_21)), (0, .inl (22, c0_22)), (0, .inl (23, c0_23)), (0, .inl (24, c0_24)), (3, .inr (.inr (.inl a3))), (4, .inr (.inr (.inl a4))), (5, .inr (.inr (.inl a5))), (6, .inr (.inr (.inl a6)))] (shM, I, L, Rf)) C hR ⟨Nat.zero_le _, Nat.zero_le _⟩ mv_X11_fine lk_X11_149 dX11_readClause_84 (rfl : 84 + 3 = 87) rfl rfl rfl rfl (c_X11_fine X.l u (k_ap [(0, .inl (4, r79.2.1)), (0, .inl (5, r79.2.2.1)), (0, .inl (6, r79.2.2.2)), (0, .inl (18, c0_18)), (0, .inl (19, c0_19)), (0, .inl (20, c0_20)), (0, .inl (21, c0_21)), (0, .inl (22, c0_22)), (0, .inl (23, c0_23)), (0, .inl (24, c0_24)), (3, .inr (.inr (.inl a3))), (4, .inr (.inr (.inl a4))), (5, .inr (.inr (.inl a5))), (6, .inr (.inr (.inl a6)))] (shM, I, L, Rf)) rfl rfl q84) rfl rfl rfl rfl rfl ?_
        refine r_if_ne (tgt := 91) C dX11_readClause_87 (by decide) (rfl : 87 + 3 = 90) (fun c87 => ?_) (fun c87 => ?_)
        · have h := k_f c87 h
          refine r_aload_n C dX11_readClause_91 (rfl : 91 + 1 = 92) rfl ?_
          refine r_getR (q := 3) C dX11_readClause_92 (rfl : 92 + 3 = 95) fl_X11_23 rfl rfl ?_
          refine r_bipush (v := (8 : Int32)) C dX11_readClause_95 (rfl : 95 + 2 = 97) rfl ?_
          refine r_iload_n C dX11_readClause_97 (rfl : 97 + 1 = 98) rfl ?_
          refine r_imul C dX11_readClause_98 (rfl : 98 + 1 = 99) ?_
          refine r_iload_n C dX11_readClause_99 (rfl : 99 + 1 = 100) rfl ?_
          refine r_iadd C dX11_readClause_100 (rfl : 100 + 1 = 101) ?_
          refine r_iconst (v := (5 : Int32)) C dX11_readClause_101 (rfl : 101 + 1 = 102) rfl ?_
          obtain ⟨hi102, h⟩ := k_i_of h
          refine s_i (j := ((((8 : Int32) * r79.1) + r67.1)).toNatClampNeg) (f := a3) (us' := [(0, .inl (4, r79.2.1)), (0, .inl (5, r79.2.2.1)), (0, .inl (6, r79.2.2.2)), (0, .inl (18, c0_18)), (0, .inl (19, c0_19)), (0, .inl (20, c0_20)), (0, .inl (21, c0_21)), (0, .inl (22, c0_22)), (0, .inl (23, c0_23)), (0, .inl (24, c0_24)), (3, .inr (.inr (.inl (upd a3 (((((8 : Int32) * r79.1) + r67.1)).toNatClampNeg) (5 : Int32))))), (4, .inr (.inr (.inl a4))), (5, .inr (.inr (.inl a5))), (6, .inr (.inr (.inl a6)))]) C dX11_readClause_102 (rfl : 102 + 1 = 103) rfl rfl hi102 rfl ds_X11_readClause rfl rfl rfl ?_
          refine r_aload_n C dX11_readClause_103 (rfl : 103 + 1 = 104) rfl ?_
          refine r_getR (q := 4) C dX11_readClause_104 (rfl : 104 + 3 = 107) fl_X11_26 rfl rfl ?_
          refine r_bipush (v := (8 : Int32)) C dX11_readClause_107 (rfl : 107 + 2 = 109) rfl ?_
          refine r_iload_n C dX11_readClause_109 (rfl : 109 + 1 = 110) rfl ?_
          refine r_imul C dX11_readClause_110 (rfl : 110 + 1 = 111) ?_
          refine r_iload_n C dX11_readClause_111 (rfl : 111 + 1 = 112) rfl ?_
          refine r_iadd C dX11_readClause_112 (rfl : 112 + 1 = 113) ?_
          refine r_iconst (v := (0 : Int32)) C dX11_readClause_113 (rfl : 113 + 1 = 114) rfl ?_
          obtain ⟨hi114, h⟩ := k_i_of h
          refine s_i (j := ((((8 : Int32) * r79.1) + r67.1)).toNatClampNeg) (f := a4) (us' := [(0, .inl (4, r79.2.1)), (0, .inl (5, r79.2.2.1)), (0, .inl (6, r79.2.2.2)), (0, .inl (18, c0_18)), (0, .inl (19, c0_19)), (0, .inl (20, c0_20)), (0, .inl (21, c0_21)), (0, .inl (22, c0_22)), (0, .inl (23, c0_23)), (0, .inl (24, c0_24)), (3, .inr (.inr (.inl (upd a3 (((((8 : Int32) * r79.1) + r67.1)).toNatClampNeg) (5 : Int32))))), (4, .inr (.inr (.inl (upd a4 (((((8 : Int32) * r79.1) + r67.1)).toNatClampNeg) (0 : Int32))))), (5, .inr (.inr (.inl a5))), (6, .inr (.inr (.inl a6)))]) C dX11_readClause_114 (rfl : 114 + 1 = 115) rfl rfl hi114 rfl ds_X11_readClause rfl rfl rfl ?_
          refine r_goto (tgt := 262) C dX11_readClause_115 (by decide) ?_
          cases h
          exact r_vret C hr dX11_readClause_262
        · have h := k_t c87 h
          cases h
          exact r_vret C hr dX11_readClause_90
    · have h := k_t c40 h
      refine r_aload_n C dX11_readClause_43 (rfl : 43 + 1 = 44) rfl ?_
      obtain ⟨r44, q44, h⟩ := k_b_of h
      refine d_V (As := []) (st := []) (st' := []) (h' := k_ap [(0, .inl (4, r44.1)), (0, .inl (5, r44.2.1)), (0, .inl (6, r44.2.2.1)), (0, .inl (18, c0_18)), (0, .inl (19, c0_19)), (0, .inl (20, c0_20)), (0, .inl (21, c0_21)), (0, .inl (22, c0_22)), (0, .inl (23, c0_23)), (0, .inl (24, c0_24)), (3, .inr (.inr (.inl r44.2.2.2.1))), (4, .inr (.inr (.inl r44.2.2.2.2))), (5, .inr (.inr (.inl a5))), (6, .inr (.inr (.inl a6)))] (shM, I, L, Rf)) C hR ⟨Nat.zero_le _, Nat.zero_le _⟩ mv_X11_readSeam lk_X11_237 dX11_readClause_44 (rfl : 44 + 3 = 47) rfl rfl rfl rfl (c_X11_readSeam X.l u (k_ap [(0, .inl (4, c0_4)), (0, .inl (5, c0_5)), (0, .inl (6, c0_6)), (0, .inl (18, c0_18)), (0, .inl (19, c0_19)), (0, .inl (20, c0_20)), (0, .inl (21, c0_21)), (0, .inl (22, c0_22)), (0, .inl (23, c0_23)), (0, .inl (24, c0_24)), (3, .inr (.inr (.inl a3))), (4, .inr (.inr (.inl a4))), (5, .inr (.inr (.inl a5))), (6, .inr (.inr (.inl a6)))] (shM, I, L, Rf)) rfl ec0_3 rfl rfl rfl rfl rfl ea2 rfl rfl q44) rfl rfl rfl (k_jn2 (us' := [(0, .inl (4, r44.1)), (0, .inl (5, r44.2.1)), (0, .inl (6, r44.2.2.1)), (0, .inl (18, c0_18)), (0, .inl (19, c0_19)), (0, .inl (20, c0_20)), (0, .inl (21, c0_21)), (0, .inl (22, c0_22)), (0, .inl (23, c0_23)), (0, .inl (24, c0_24)), (3, .inr (.inr (.inl r44.2.2.2.1))), (4, .inr (.inr (.inl r44.2.2.2.2))), (5, .inr (.inr (.inl a5))), (6, .inr (.inr (.inl a6)))]) (vks := [(0, 0, 4), (0, 0, 5), (0, 0, 6), (3, 2, 0), (4, 2, 0)]) (js := [0, 1, 2, 10, 11]) ds_X11_readClause rfl rfl (by decide +kernel) rfl) rfl ?_
      refine r_goto (tgt := 262) C dX11_readClause_47 (by decide) ?_
      cases h
      exact r_vret C hr dX11_readClause_262
  · have h := k_t c6 h
    refine r_aload_n C dX11_readClause_9 (rfl : 9 + 1 = 10) rfl ?_
    refine r_aload_n C dX11_readClause_10 (rfl : 10 + 1 = 11) rfl ?_
    refine r_iconst (v := (1 : Int32)) C dX11_readClause_11 (rfl : 11 + 1 = 12) rfl ?_
    refine r_bipush (v := (8 : Int32)) C dX11_readClause_12 (rfl : 12 + 2 = 14) rfl ?_
    obtain ⟨r14, q14, h⟩ := k_b_of h
    refine d_V (As := [.int (1 : Int32), .int (8 : Int32)]) (st := [.ref 0]) (st' := [.int r14.1, .ref 0]) (h' := k_ap [(0, .inl (4, r14.2.1)), (0, .inl (5, r14.2.2.1)), (0, .inl (6, r14.2.2.2)), (0, .inl (18, c0_18)), (0, .inl (19, c0_19)), (0, .inl (20, c0_20)), (0, .inl (21, c0_21)), (0, .inl (22, c0_22)), (0, .inl (23, c0_23)), (0, .inl (24, c0_24)), (3, .inr (.inr (.inl a3))), (4, .inr (.inr (.inl a4))), (5, .inr (.inr (.inl a5))), (6, .inr (.inr (.inl a6)))] (shM, I, L, Rf)) C hR ⟨Nat.zero_le _, Nat.zero_le _⟩ mv_X11_readNumber lk_X11_218 dX11_readClause_14 (rfl : 14 + 3 = 17) rfl rfl rfl rfl (c_X11_readNumber X.l u (k_ap [(0, .inl (4, c0_4)), (0, .inl (5, c0_5)), (0, .inl (6, c0_6)), (0, .inl (18, c0_18)), (0, .inl (19, c0_19)), (0, .inl (20, c0_20)), (0, .inl (21, c0_21)), (0, .inl (22, c0_22)), (0, .inl (23, c0_23)), (0, .inl (24, c0_24)), (3, .inr (.inr (.inl a3))), (4, .inr (.inr (.inl a4))), (5, .inr (.inr (.inl a5))), (6, .inr (.inr (.inl a6)))] (shM, I, L, Rf)) rfl ec0_3 rfl rfl rfl ea2 q14) rfl rfl rfl (k_jn2 (us' := [(0, .inl (4, r14.2.1)), (0, .inl (5, r14.2.2.1)), (0, .inl (6, r14.2.2.2)), (0, .inl (18, c0_18)), (0, .inl (19, c0_19)), (0, .inl (20, c0_20)), (0, .inl (21, c0_21)), (0, .inl (22, c0_22)), (0, .inl (23, c0_23)), (0, .inl (24, c0_24)), (3, .inr (.inr (.inl a3))), (4, .inr (.inr (.inl a4))), (5, .inr (.inr (.inl a5))), (6, .inr (.inr (.inl a6)))]) (vks := [(0, 0, 4), (0, 0, 5), (0, 0, 6)]) (js := [0, 1, 2]) ds_X11_readClause rfl rfl (by decide +kernel) rfl) rfl ?_
    refine p_I (us' := [(0, .inl (4, r14.2.1)), (0, .inl (5, r14.2.2.1)), (0, .inl (6, r14.2.2.2)), (0, .inl (18, r14.1)), (0, .inl (19, c0_19)), (0, .inl (20, c0_20)), (0, .inl (21, c0_21)), (0, .inl (22, c0_22)), (0, .inl (23, c0_23)), (0, .inl (24, c0_24)), (3, .inr (.inr (.inl a3))), (4, .inr (.inr (.inl a4))), (5, .inr (.inr (.inl a5))), (6, .inr (.inr (.inl a6)))]) C dX11_readClause_17 (rfl : 17 + 3 = 20) fp_X11_163 rfl rfl ds_X11_readClause rfl rfl rfl ?_
    refine r_aload_n C dX11_readClause_20 (rfl : 20 + 1 = 21) rfl ?_
    refine r_aload_n C dX11_readClause_21 (rfl : 21 + 1 = 22) rfl ?_
    refine r_iconst (v := (1 : Int32)) C dX11_readClause_22 (rfl : 22 + 1 = 23) rfl ?_
    refine r_bipush (v := (6 : Int32)) C dX11_readClause_23 (rfl : 23 + 2 = 25) rfl ?_
    obtain ⟨r25, q25, h⟩ := k_b_of h
    refine d_V (As := [.int (1 : Int32), .int (6 : Int32)]) (st := [.ref 0]) (st' := [.int r25.1, .ref 0]) (h' := k_ap [(0, .inl (4, r25.2.1)), (0, .inl (5, r25.2.2.1)), (0, .inl (6, r25.2.2.2)), (0, .inl (18, r14.1)), (0, .inl (19, c0_19)), (0, .inl (20, c0_20)), (0, .inl (21, c0_21)), (0, .inl (22, c0_22)), (0, .inl (23, c0_23)), (0, .inl (24, c0_24)), (3, .inr (.inr (.inl a3))), (4, .inr (.inr (.inl a4))), (5, .inr (.inr (.inl a5))), (6, .inr (.inr (.inl a6)))] (shM, I, L, Rf)) C hR ⟨Nat.zero_le _, Nat.zero_le _⟩ mv_X11_readNumber lk_X11_218 dX11_readClause_25 (rfl : 25 + 3 = 28) rfl rfl rfl rfl (c_X11_readNumber X.l u (k_ap [(0, .inl (4, r14.2.1)), (0, .inl (5, r14.2.2.1)), (0, .inl (6, r14.2.2.2)), (0, .inl (18, r14.1)), (0, .inl (19, c0_19)), (0, .inl (20, c0_20)), (0, .inl (21, c0_21)), (0, .inl (22, c0_22)), (0, .inl (23, c0_23)), (0, .inl (24, c0_24)), (3, .inr (.inr (.inl a3))), (4, .inr (.inr (.inl a4))), (5, .inr (.inr (.inl a5))), (6, .inr (.inr (.inl a6)))] (shM, I, L, Rf)) rfl ec0_3 rfl rfl rfl ea2 q25) rfl rfl rfl (k_jn2 (us' := [(0, .inl (4, r25.2.1)), (0, .inl (5, r25.2.2.1)), (0, .inl (6, r25.2.2.2)), (0, .inl (18, r14.1)), (0, .inl (19, c0_19)), (0, .inl (20, c0_20)), (0, .inl (21, c0_21)), (0, .inl (22, c0_22)), (0, .inl (23, c0_23)), (0, .inl (24, c0_24)), (3, .inr (.inr (.inl a3))), (4, .inr (.inr (.inl a4))), (5, .inr (.inr (.inl a5))), (6, .inr (.inr (.inl a6)))]) (vks := [(0, 0, 4), (0, 0, 5), (0, 0, 6)]) (js := [0, 1, 2]) ds_X11_readClause rfl rfl (by decide +kernel) rfl) rfl ?_
    refine p_I (us' := [(0, .inl (4, r25.2.1)), (0, .inl (5, r25.2.2.1)), (0, .inl (6, r25.2.2.2)), (0, .inl (18, r14.1)), (0, .inl (19, r25.1)), (0, .inl (20, c0_20)), (0, .inl (21, c0_21)), (0, .inl (22, c0_22)), (0, .inl (23, c0_23)), (0, .inl (24, c0_24)), (3, .inr (.inr (.inl a3))), (4, .inr (.inr (.inl a4))), (5, .inr (.inr (.inl a5))), (6, .inr (.inr (.inl a6)))]) C dX11_readClause_28 (rfl : 28 + 3 = 31) fp_X11_166 rfl rfl ds_X11_readClause rfl rfl rfl ?_
    refine r_goto (tgt := 262) C dX11_readClause_31 (by decide) ?_
    cases h
    exact r_vret C hr dX11_readClause_262
set_option maxHeartbeats 400000 in
set_option maxRecDepth 100000 in
theorem c_X11_readClause (l : Launch) (u : Nat) (h : k_H) (hsh : h.1 = shM) {c0_3 : Int32} (ec0_3 : h.2.1 0 3 = c0_3) {c0_4 : Int32} (ec0_4 : h.2.1 0 4 = c0_4) {c0_5 : Int32} (ec0_5 : h.2.1 0 5 = c0_5) {c0_6 : Int32} (ec0_6 : h.2.1 0 6 = c0_6) {c0_18 : Int32} (ec0_18 : h.2.1 0 18 = c0_18) {c0_19 : Int32} (ec0_19 : h.2.1 0 19 = c0_19) {c0_20 : Int32} (ec0_20 : h.2.1 0 20 = c0_20) {c0_21 : Int32} (ec0_21 : h.2.1 0 21 = c0_21) {c0_22 : Int32} (ec0_22 : h.2.1 0 22 = c0_22) {c0_23 : Int32} (ec0_23 : h.2.1 0 23 = c0_23) {c0_24 : Int32} (ec0_24 : h.2.1 0 24 = c0_24) {a2 : (Nat → Int32)} (ea2 : h.2.1 2 = a2) {a3 : (Nat → Int32)} (ea3 : h.2.1 3 = a3) {a4 : (Nat → Int32)} (ea4 : h.2.1 4 = a4) {a5 : (Nat → Int32)} (ea5 : h.2.1 5 = a5) {a6 : (Nat → Int32)} (ea6 : h.2.1 6 = a6) {x0 : Int32} {out : Int32 × Int32 × Int32 × Int32 × Int32 × Int32 × Int32 × Int32 × Int32 × Int32 × (Nat → Int32) × (Nat → Int32) × (Nat → Int32) × (Nat → Int32)} (hf : f_X11_readClause u c0_3 c0_4 c0_5 c0_6 c0_18 c0_19 c0_20 c0_21 c0_22 c0_23 c0_24 a2 a3 a4 a5 a6 x0 = some out) : k_CT l yX11_readClause cX11_readClause 4 none 6 131 [.ref 0, .int x0] h none [(0, .inl (4, out.1)), (0, .inl (5, out.2.1)), (0, .inl (6, out.2.2.1)), (0, .inl (18, out.2.2.2.1)), (0, .inl (19, out.2.2.2.2.1)), (0, .inl (20, out.2.2.2.2.2.1)), (0, .inl (21, out.2.2.2.2.2.2.1)), (0, .inl (22, out.2.2.2.2.2.2.2.1)), (0, .inl (23, out.2.2.2.2.2.2.2.2.1)), (0, .inl (24, out.2.2.2.2.2.2.2.2.2.1)), (3, .inr (.inr (.inl out.2.2.2.2.2.2.2.2.2.2.1))), (4, .inr (.inr (.inl out.2.2.2.2.2.2.2.2.2.2.2.1))), (5, .inr (.inr (.inl out.2.2.2.2.2.2.2.2.2.2.2.2.1))), (6, .inr (.inr (.inl out.2.2.2.2.2.2.2.2.2.2.2.2.2)))] := by
  obtain ⟨sh, I, L, Rf⟩ := h
  try dsimp only
  obtain rfl : sh = shM := hsh
  refine k_ofW (by decide) (Nat.le_of_ble_eq_true rfl) ?_
  intro X ad hl hR0 hr C
  have hR : X.R.frames = 6 ∧ X.R.locals = 131 := by rw [hR0]; exact ⟨rfl, rfl⟩
  have h := hf
  unfold f_X11_readClause at h
  refine k_start (us := [(0, .inl (4, c0_4)), (0, .inl (5, c0_5)), (0, .inl (6, c0_6)), (0, .inl (18, c0_18)), (0, .inl (19, c0_19)), (0, .inl (20, c0_20)), (0, .inl (21, c0_21)), (0, .inl (22, c0_22)), (0, .inl (23, c0_23)), (0, .inl (24, c0_24)), (3, .inr (.inr (.inl a3))), (4, .inr (.inr (.inl a4))), (5, .inr (.inr (.inl a5))), (6, .inr (.inr (.inl a6)))]) (k_ao_I ec0_4 (k_ao_I ec0_5 (k_ao_I ec0_6 (k_ao_I ec0_18 (k_ao_I ec0_19 (k_ao_I ec0_20 (k_ao_I ec0_21 (k_ao_I ec0_22 (k_ao_I ec0_23 (k_ao_I ec0_24 (k_ao_A ea3 (k_ao_A ea4 (k_ao_A ea5 (k_ao_A ea6 k_ap_0)))))))))))))) ?_
  show k_W X 4 0 0 _ ad (k_ap [(0, .inl (4, c0_4)), (0, .inl (5, c0_5)), (0, .inl (6, c0_6)), (0, .inl (18, c0_18)), (0, .inl (19, c0_19)), (0, .inl (20, c0_20)), (0, .inl (21, c0_21)), (0, .inl (22, c0_22)), (0, .inl (23, c0_23)), (0, .inl (24, c0_24)), (3, .inr (.inr (.inl a3))), (4, .inr (.inr (.inl a4))), (5, .inr (.inr (.inl a5))), (6, .inr (.inr (.inl a6)))] (shM, I, L, Rf)) 0 [some (.ref 0), some (.int x0), none, none] []
  refine k_mask [true, true, false, false] ?_
  exact sX11_readClause_0 u C hr hR ec0_3 ea2 c0_4 c0_5 c0_6 c0_18 c0_19 c0_20 c0_21 c0_22 c0_23 c0_24 a3 a4 a5 a6 x0 h
/-! LullabyPitModel.isClause(I)Z -/
theorem ds_X11_isClause : k_ds [] = true := by decide +kernel
set_option maxHeartbeats 400000 in
set_option maxRecDepth 100000 in
theorem sX11_isClause_0 (u : Nat) {X : k_X} {ad : Nat → Nat} (C : k_C X cX11_isClause RX11 1 ad) (hr : X.meth.sig.returnType = (some .boolean)) (hR : X.R.frames = 5 ∧ X.R.locals = 107) {I : Nat → Nat → Int32} {L : Nat → Nat → Int64} {Rf : Nat → Nat → Option Nat} {out : Int32} : ∀ (v0 : Int32), bX11_isClause_0 u v0 = some out → k_W X 1 0 0 (k_Q X ad (some (.int out)) (k_ap [] (shM, I, L, Rf))) ad (k_ap [] (shM, I, L, Rf)) 0 [some (.int v0)] [] := by
  intro v0 h
  unfold bX11_isClause_0 at h
  refine r_iload_n C dX11_isClause_0 (rfl : 0 + 1 = 1) rfl ?_
  refine r_ldcS (i := 7) C rfl dX11_isClause_1 (rfl : 1 + 2 = 3) ?_
  obtain ⟨r3, q3, h⟩ := k_b_of h
  refine d_S (As := [.ref (1000000 + 7)]) (st := [.int v0]) (st' := [.int r3, .int v0]) (h' := k_ap [] (shM, I, L, Rf)) C hR ⟨Nat.zero_le _, Nat.zero_le _⟩ ms_X11_of lk_X11_227 dX11_isClause_3 (rfl : 3 + 3 = 6) rfl rfl (c_X11_of X.l u 7 (by decide) (k_ap [] (shM, I, L, Rf)) rfl  q3) rfl rfl rfl rfl rfl ?_
  refine r_icmp_eq (tgt := 72) C dX11_isClause_6 (by decide) (rfl : 6 + 3 = 9) (fun c6 => ?_) (fun c6 => ?_)
  · have h := k_t c6 h
    refine r_iconst (v := (1 : Int32)) C dX11_isClause_72 (rfl : 72 + 1 = 73) rfl ?_
    refine r_goto (tgt := 77) C dX11_isClause_73 (by decide) ?_
    cases h
    exact r_zret C hr (Or.inr rfl) dX11_isClause_77
  · have h := k_f c6 h
    refine r_iload_n C dX11_isClause_9 (rfl : 9 + 1 = 10) rfl ?_
    refine r_ldcS (i := 8) C rfl dX11_isClause_10 (rfl : 10 + 2 = 12) ?_
    obtain ⟨r12, q12, h⟩ := k_b_of h
    refine d_S (As := [.ref (1000000 + 8)]) (st := [.int v0]) (st' := [.int r12, .int v0]) (h' := k_ap [] (shM, I, L, Rf)) C hR ⟨Nat.zero_le _, Nat.zero_le _⟩ ms_X11_of lk_X11_227 dX11_isClause_12 (rfl : 12 + 3 = 15) rfl rfl (c_X11_of X.l u 8 (by decide) (k_ap [] (shM, I, L, Rf)) rfl  q12) rfl rfl rfl rfl rfl ?_
    refine r_icmp_eq (tgt := 72) C dX11_isClause_15 (by decide) (rfl : 15 + 3 = 18) (fun c15 => ?_) (fun c15 => ?_)
    · have h := k_t c15 h
      refine r_iconst (v := (1 : Int32)) C dX11_isClause_72 (rfl : 72 + 1 = 73) rfl ?_
      refine r_goto (tgt := 77) C dX11_isClause_73 (by decide) ?_
      cases h
      exact r_zret C hr (Or.inr rfl) dX11_isClause_77
    · have h := k_f c15 h
      refine r_iload_n C dX11_isClause_18 (rfl : 18 + 1 = 19) rfl ?_
      refine r_ldcS (i := 9) C rfl dX11_isClause_19 (rfl : 19 + 2 = 21) ?_
      obtain ⟨r21, q21, h⟩ := k_b_of h
      refine d_S (As := [.ref (1000000 + 9)]) (st := [.int v0]) (st' := [.int r21, .int v0]) (h' := k_ap [] (shM, I, L, Rf)) C hR ⟨Nat.zero_le _, Nat.zero_le _⟩ ms_X11_of lk_X11_227 dX11_isClause_21 (rfl : 21 + 3 = 24) rfl rfl (c_X11_of X.l u 9 (by decide) (k_ap [] (shM, I, L, Rf)) rfl  q21) rfl rfl rfl rfl rfl ?_
      refine r_icmp_eq (tgt := 72) C dX11_isClause_24 (by decide) (rfl : 24 + 3 = 27) (fun c24 => ?_) (fun c24 => ?_)
      · have h := k_t c24 h
        refine r_iconst (v := (1 : Int32)) C dX11_isClause_72 (rfl : 72 + 1 = 73) rfl ?_
        refine r_goto (tgt := 77) C dX11_isClause_73 (by decide) ?_
        cases h
        exact r_zret C hr (Or.inr rfl) dX11_isClause_77
      · have h := k_f c24 h
        refine r_iload_n C dX11_isClause_27 (rfl : 27 + 1 = 28) rfl ?_
        refine r_ldcS (i := 10) C rfl dX11_isClause_28 (rfl : 28 + 2 = 30) ?_
        obtain ⟨r30, q30, h⟩ := k_b_of h
        refine d_S (As := [.ref (1000000 + 10)]) (st := [.int v0]) (st' := [.int r30, .int v0]) (h' := k_ap [] (shM, I, L, Rf)) C hR ⟨Nat.zero_le _, Nat.zero_le _⟩ ms_X11_of lk_X11_227 dX11_isClause_30 (rfl : 30 + 3 = 33) rfl rfl (c_X11_of X.l u 10 (by decide) (k_ap [] (shM, I, L, Rf)) rfl  q30) rfl rfl rfl rfl rfl ?_
        refine r_icmp_eq (tgt := 72) C dX11_isClause_33 (by decide) (rfl : 33 + 3 = 36) (fun c33 => ?_) (fun c33 => ?_)
        · have h := k_t c33 h
          refine r_iconst (v := (1 : Int32)) C dX11_isClause_72 (rfl : 72 + 1 = 73) rfl ?_
          refine r_goto (tgt := 77) C dX11_isClause_73 (by decide) ?_
          cases h
          exact r_zret C hr (Or.inr rfl) dX11_isClause_77
        · have h := k_f c33 h
          refine r_iload_n C dX11_isClause_36 (rfl : 36 + 1 = 37) rfl ?_
          refine r_ldcS (i := 11) C rfl dX11_isClause_37 (rfl : 37 + 2 = 39) ?_
          obtain ⟨r39, q39, h⟩ := k_b_of h
          refine d_S (As := [.ref (1000000 + 11)]) (st := [.int v0]) (st' := [.int r39, .int v0]) (h' := k_ap [] (shM, I, L, Rf)) C hR ⟨Nat.zero_le _, Nat.zero_le _⟩ ms_X11_of lk_X11_227 dX11_isClause_39 (rfl : 39 + 3 = 42) rfl rfl (c_X11_of X.l u 11 (by decide) (k_ap [] (shM, I, L, Rf)) rfl  q39) rfl rfl rfl rfl rfl ?_
          refine r_icmp_eq (tgt := 72) C dX11_isClause_42 (by decide) (rfl : 42 + 3 = 45) (fun c42 => ?_) (fun c42 => ?_)
          · have h := k_t c42 h
            refine r_iconst (v := (1 : Int32)) C dX11_isClause_72 (rfl : 72 + 1 = 73) rfl ?_
            refine r_goto (tgt := 77) C dX11_isClause_73 (by decide) ?_
            cases h
            exact r_zret C hr (Or.inr rfl) dX11_isClause_77
          · have h := k_f c42 h
            refine r_iload_n C dX11_isClause_45 (rfl : 45 + 1 = 46) rfl ?_
            refine r_ldcS (i := 12) C rfl dX11_isClause_46 (rfl : 46 + 2 = 48) ?_
            obtain ⟨r48, q48, h⟩ := k_b_of h
            refine d_S (As := [.ref (1000000 + 12)]) (st := [.int v0]) (st' := [.int r48, .int v0]) (h' := k_ap [] (shM, I, L, Rf)) C hR ⟨Nat.zero_le _, Nat.zero_le _⟩ ms_X11_of lk_X11_227 dX11_isClause_48 (rfl : 48 + 3 = 51) rfl rfl (c_X11_of X.l u 12 (by decide) (k_ap [] (shM, I, L, Rf)) rfl  q48) rfl rfl rfl rfl rfl ?_
            refine r_icmp_eq (tgt := 72) C dX11_isClause_51 (by decide) (rfl : 51 + 3 = 54) (fun c51 => ?_) (fun c51 => ?_)
            · have h := k_t c51 h
              refine r_iconst (v := (1 : Int32)) C dX11_isClause_72 (rfl : 72 + 1 = 73) rfl ?_
              refine r_goto (tgt := 77) C dX11_isClause_73 (by decide) ?_
              cases h
              exact r_zret C hr (Or.inr rfl) dX11_isClause_77
            · have h := k_f c51 h
              refine r_iload_n C dX11_isClause_54 (rfl : 54 + 1 = 55) rfl ?_
              refine r_ldcS (i := 13) C rfl dX11_isClause_55 (rfl : 55 + 2 = 57) ?_
              obtain ⟨r57, q57, h⟩ := k_b_of h
              refine d_S (As := [.ref (1000000 + 13)]) (st := [.int v0]) (st' := [.int r57, .int v0]) (h' := k_ap [] (shM, I, L, Rf)) C hR ⟨Nat.zero_le _, Nat.zero_le _⟩ ms_X11_of lk_X11_227 dX11_isClause_57 (rfl : 57 + 3 = 60) rfl rfl (c_X11_of X.l u 13 (by decide) (k_ap [] (shM, I, L, Rf)) rfl  q57) rfl rfl rfl rfl rfl ?_
              refine r_icmp_eq (tgt := 72) C dX11_isClause_60 (by decide) (rfl : 60 + 3 = 63) (fun c60 => ?_) (fun c60 => ?_)
              · have h := k_t c60 h
                refine r_iconst (v := (1 : Int32)) C dX11_isClause_72 (rfl : 72 + 1 = 73) rfl ?_
                refine r_goto (tgt := 77) C dX11_isClause_73 (by decide) ?_
                cases h
                exact r_zret C hr (Or.inr rfl) dX11_isClause_77
              · have h := k_f c60 h
                refine r_iload_n C dX11_isClause_63 (rfl : 63 + 1 = 64) rfl ?_
                refine r_ldcS (i := 14) C rfl dX11_isClause_64 (rfl : 64 + 2 = 66) ?_
                obtain ⟨r66, q66, h⟩ := k_b_of h
                refine d_S (As := [.ref (1000000 + 14)]) (st := [.int v0]) (st' := [.int r66, .int v0]) (h' := k_ap [] (shM, I, L, Rf)) C hR ⟨Nat.zero_le _, Nat.zero_le _⟩ ms_X11_of lk_X11_227 dX11_isClause_66 (rfl : 66 + 3 = 69) rfl rfl (c_X11_of X.l u 14 (by decide) (k_ap [] (shM, I, L, Rf)) rfl  q66) rfl rfl rfl rfl rfl ?_
                refine r_icmp_ne (tgt := 76) C dX11_isClause_69 (by decide) (rfl : 69 + 3 = 72) (fun c69 => ?_) (fun c69 => ?_)
                · have h := k_f c69 h
                  refine r_iconst (v := (0 : Int32)) C dX11_isClause_76 (rfl : 76 + 1 = 77) rfl ?_
                  cases h
                  exact r_zret C hr (Or.inl rfl) dX11_isClause_77
                · have h := k_t c69 h
                  refine r_iconst (v := (1 : Int32)) C dX11_isClause_72 (rfl : 72 + 1 = 73) rfl ?_
                  refine r_goto (tgt := 77) C dX11_isClause_73 (by decide) ?_
                  cases h
                  exact r_zret C hr (Or.inr rfl) dX11_isClause_77
set_option maxHeartbeats 400000 in
set_option maxRecDepth 100000 in
theorem c_X11_isClause (l : Launch) (u : Nat) (h : k_H) (hsh : h.1 = shM) {x0 : Int32} {out : Int32} (hf : f_X11_isClause u x0 = some out) : k_CT l yX11_isClause cX11_isClause 1 (some .boolean) 5 107 [.int x0] h (some (.int out)) [] := by
  obtain ⟨sh, I, L, Rf⟩ := h
  try dsimp only
  obtain rfl : sh = shM := hsh
  refine k_ofW (by decide) (Nat.le_of_ble_eq_true rfl) ?_
  intro X ad hl hR0 hr C
  have hR : X.R.frames = 5 ∧ X.R.locals = 107 := by rw [hR0]; exact ⟨rfl, rfl⟩
  have h := hf
  unfold f_X11_isClause at h
  refine k_start (us := []) k_ap_0 ?_
  show k_W X 1 0 0 _ ad (k_ap [] (shM, I, L, Rf)) 0 [some (.int x0)] []
  refine k_mask [true] ?_
  exact sX11_isClause_0 u C hr hR x0 h
