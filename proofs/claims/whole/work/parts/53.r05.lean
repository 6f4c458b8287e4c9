/-! LullabyPitModel.bestsOn(IIIJ)V -/
theorem ds_X11_bestsOn : k_ds [(0, 0, 56), (0, 0, 57), (0, 1, 58), (16, 2, 0), (17, 2, 0), (21, 2, 0), (23, 2, 0), (27, 2, 0)] = true := by decide +kernel
set_option maxHeartbeats 400000 in
set_option maxRecDepth 100000 in
theorem sX11_bestsOn_231 (u : Nat) (g : Int32 → Int32 → Int32 → Int32 → Int32 → Int64 → (Nat → Int32) → (Nat → Int32) → (Nat → Int32) → (Nat → Int32) → (Nat → Int32) → (Nat → Int32) → (Nat → Int32) → (Nat → Int32) → (Nat → Int32) → (Nat → Int32) → (Nat → Int32) → Int32 → Int32 → Int32 → Int64 → Option (Int32 × Int32 × Int64 × (Nat → Int32) × (Nat → Int32) × (Nat → Int32) × (Nat → Int32) × (Nat → Int32))) {fg ng : Nat} {X : k_X} {ad : Nat → Nat} (C : k_C X cX11_bestsOn RX11 9 ad) (hr : X.meth.sig.returnType = none) (hR : X.R.frames = (fg + 6) ∧ X.R.locals = (ng + 133)) {I : Nat → Nat → Int32} {L : Nat → Nat → Int64} {Rf : Nat → Nat → Option Nat} (hg : H_X11_bestsOn X.l g fg ng) {c0_25 : Int32} (ec0_25 : I 0 25 = c0_25) {c0_26 : Int32} (ec0_26 : I 0 26 = c0_26) {c0_27 : Int32} (ec0_27 : I 0 27 = c0_27) {a7 : (Nat → Int32)} (ea7 : I 7 = a7) {a8 : (Nat → Int32)} (ea8 : I 8 = a8) {a9 : (Nat → Int32)} (ea9 : I 9 = a9) {a13 : (Nat → Int32)} (ea13 : I 13 = a13) {a14 : (Nat → Int32)} (ea14 : I 14 = a14) {a15 : (Nat → Int32)} (ea15 : I 15 = a15) {out : Int32 × Int32 × Int64 × (Nat → Int32) × (Nat → Int32) × (Nat → Int32) × (Nat → Int32) × (Nat → Int32)} {k84 : Int32 → Int32 → Int64 → (Nat → Int32) → (Nat → Int32) → (Nat → Int32) → (Nat → Int32) → (Nat → Int32) → Int32 → Int32 → Int32 → Int64 → Int32 → Option (Int32 × Int32 × Int64 × (Nat → Int32) × (Nat → Int32) × (Nat → Int32) × (Nat → Int32) × (Nat → Int32))} (hk84 : ∀ (c0_56 : Int32) (c0_57 : Int32) (c0_58 : Int64) (a16 : (Nat → Int32)) (a17 : (Nat → Int32)) (a21 : (Nat → Int32)) (a23 : (Nat → Int32)) (a27 : (Nat → Int32)) (v1 : Int32) (v2 : Int32) (v3 : Int32) (v4 : Int64) (v6 : Int32), k84 c0_56 c0_57 c0_58 a16 a17 a21 a23 a27 v1 v2 v3 v4 v6 = some out → k_W X 9 0 0 (k_Q X ad none (k_ap [(0, .inl (56, out.1)), (0, .inl (57, out.2.1)), (0, .inr (.inl (58, out.2.2.1))), (16, .inr (.inr (.inl out.2.2.2.1))), (17, .inr (.inr (.inl out.2.2.2.2.1))), (21, .inr (.inr (.inl out.2.2.2.2.2.1))), (23, .inr (.inr (.inl out.2.2.2.2.2.2.1))), (27, .inr (.inr (.inl out.2.2.2.2.2.2.2)))] (shM, I, L, Rf))) ad (k_ap [(0, .inl (56, c0_56)), (0, .inl (57, c0_57)), (0, .inr (.inl (58, c0_58))), (16, .inr (.inr (.inl a16))), (17, .inr (.inr (.inl a17))), (21, .inr (.inr (.inl a21))), (23, .inr (.inr (.inl a23))), (27, .inr (.inr (.inl a27)))] (shM, I, L, Rf)) 84 [some (.ref 0), some (.int v1), some (.int v2), some (.int v3), some (.long v4), none, some (.int v6), none, none] []) : ∀ (c0_56 : Int32) (c0_57 : Int32) (c0_58 : Int64) (a16 : (Nat → Int32)) (a17 : (Nat → Int32)) (a21 : (Nat → Int32)) (a23 : (Nat → Int32)) (a27 : (Nat → Int32)) (v1 : Int32) (v2 : Int32) (v3 : Int32) (v4 : Int64) (v6 : Int32), bX11_bestsOn_231 u g c0_25 c0_26 c0_27 a7 a8 a9 a13 a14 a15 k84 c0_56 c0_57 c0_58 a16 a17 a21 a23 a27 v1 v2 v3 v4 v6 = some out → k_W X 9 0 0 (k_Q X ad none (k_ap [(0, .inl (56, out.1)), (0, .inl (57, out.2.1)), (0, .inr (.inl (58, out.2.2.1))), (16, .inr (.inr (.inl out.2.2.2.1))), (17, .inr (.inr (.inl out.2.2.2.2.1))), (21, .inr (.inr (.inl out.2.2.2.2.2.1))), (23, .inr (.inr (.inl out.2.2.2.2.2.2.1))), (27, .inr (.inr (.inl out.2.2.2.2.2.2.2)))] (shM, I, L, Rf))) ad (k_ap [(0, .inl (56, c0_56)), (0, .inl (57, c0_57)), (0, .inr (.inl (58, c0_58))), (16, .inr (.inr (.inl a16))), (17, .inr (.inr (.inl a17))), (21, .inr (.inr (.inl a21))), (23, .inr (.inr (.inl a23))), (27, .inr (.inr (.inl a27)))] (shM, I, L, Rf)) 231 [some (.ref 0), some (.int v1), some (.int v2), some (.int v3), some (.long v4), none, some (.int v6), none, none] [] := by
  intro c0_56 c0_57 c0_58 a16 a17 a21 a23 a27 v1 v2 v3 v4 v6 h
  unfold bX11_bestsOn_231 at h
  refine r_iinc (v := (v6 + (1 : Int32))) C dX11_bestsOn_231 (rfl : 231 + 3 = 234) rfl rfl (by decide) ?_
  show k_W _ _ _ _ _ _ _ _ [some (.ref 0), some (.int v1), some (.int v2), some (.int v3), some (.long v4), none, some (.int (v6 + (1 : Int32))), none, none] _
  refine r_goto (tgt := 84) C dX11_bestsOn_234 (by decide) ?_
  refine k_mask [true, true, true, true, true, false, true, false, false] ?_
  exact hk84 c0_56 c0_57 c0_58 a16 a17 a21 a23 a27 v1 v2 v3 v4 (v6 + (1 : Int32)) h
set_option maxHeartbeats 400000 in
set_option maxRecDepth 100000 in
theorem sX11_bestsOn_199 (u : Nat) (g : Int32 → Int32 → Int32 → Int32 → Int32 → Int64 → (Nat → Int32) → (Nat → Int32) → (Nat → Int32) → (Nat → Int32) → (Nat → Int32) → (Nat → Int32) → (Nat → Int32) → (Nat → Int32) → (Nat → Int32) → (Nat → Int32) → (Nat → Int32) → Int32 → Int32 → Int32 → Int64 → Option (Int32 × Int32 × Int64 × (Nat → Int32) × (Nat → Int32) × (Nat → Int32) × (Nat → Int32) × (Nat → Int32))) {fg ng : Nat} {X : k_X} {ad : Nat → Nat} (C : k_C X cX11_bestsOn RX11 9 ad) (hr : X.meth.sig.returnType = none) (hR : X.R.frames = (fg + 6) ∧ X.R.locals = (ng + 133)) {I : Nat → Nat → Int32} {L : Nat → Nat → Int64} {Rf : Nat → Nat → Option Nat} (hg : H_X11_bestsOn X.l g fg ng) {c0_25 : Int32} (ec0_25 : I 0 25 = c0_25) {c0_26 : Int32} (ec0_26 : I 0 26 = c0_26) {c0_27 : Int32} (ec0_27 : I 0 27 = c0_27) {a7 : (Nat → Int32)} (ea7 : I 7 = a7) {a8 : (Nat → Int32)} (ea8 : I 8 = a8) {a9 : (Nat → Int32)} (ea9 : I 9 = a9) {a13 : (Nat → Int32)} (ea13 : I 13 = a13) {a14 : (Nat → Int32)} (ea14 : I 14 = a14) {a15 : (Nat → Int32)} (ea15 : I 15 = a15) {out : Int32 × Int32 × Int64 × (Nat → Int32) × (Nat → Int32) × (Nat → Int32) × (Nat → Int32) × (Nat → Int32)} {k84 : Int32 → Int32 → Int64 → (Nat → Int32) → (Nat → Int32) → (Nat → Int32) → (Nat → Int32) → (Nat → Int32) → Int32 → Int32 → Int32 → Int64 → Int32 → Option (Int32 × Int32 × Int64 × (Nat → Int32) × (Nat → Int32) × (Nat → Int32) × (Nat → Int32) × (Nat → Int32))} (hk84 : ∀ (c0_56 : Int32) (c0_57 : Int32) (c0_58 : Int64) (a16 : (Nat → Int32)) (a17 : (Nat → Int32)) (a21 : (Nat → Int32)) (a23 : (Nat → Int32)) (a27 : (Nat → Int32)) (v1 : Int32) (v2 : Int32) (v3 : Int32) (v4 : Int64) (v6 : Int32), k84 c0_56 c0_57 c0_58 a16 a17 a21 a23 a27 v1 v2 v3 v4 v6 = some out → k_W X 9 0 0 (k_Q X ad none (k_ap [(0, .inl (56, out.1)), (0, .inl (57, out.2.1)), (0, .inr (.inl (58, out.2.2.1))), (16, .inr (.inr (.inl out.2.2.2.1))), (17, .inr (.inr (.inl out.2.2.2.2.1))), (21, .inr (.inr (.inl out.2.2.2.2.2.1))), (23, .inr (.inr (.inl out.2.2.2.2.2.2.1))), (27, .inr (.inr (.inl out.2.2.2.2.2.2.2)))] (shM, I, L, Rf))) ad (k_ap [(0, .inl (56, c0_56)), (0, .inl (57, c0_57)), (0, .inr (.inl (58, c0_58))), (16, .inr (.inr (.inl a16))), (17, .inr (.inr (.inl a17))), (21, .inr (.inr (.inl a21))), (23, .inr (.inr (.inl a23))), (27, .inr (.inr (.inl a27)))] (shM, I, L, Rf)) 84 [some (.ref 0), some (.int v1), some (.int v2), some (.int v3), some (.long v4), none, some (.int v6), none, none] []) : ∀ (n : Nat) (c0_56 : Int32) (c0_57 : Int32) (c0_58 : Int64) (a16 : (Nat → Int32)) (a17 : (Nat → Int32)) (a21 : (Nat → Int32)) (a23 : (Nat → Int32)) (a27 : (Nat → Int32)) (v1 : Int32) (v2 : Int32) (v3 : Int32) (v4 : Int64) (v6 : Int32) (v8 : Int32), bX11_bestsOn_199 u g c0_25 c0_26 c0_27 a7 a8 a9 a13 a14 a15 k84 n c0_56 c0_57 c0_58 a16 a17 a21 a23 a27 v1 v2 v3 v4 v6 v8 = some out → k_W X 9 0 0 (k_Q X ad none (k_ap [(0, .inl (56, out.1)), (0, .inl (57, out.2.1)), (0, .inr (.inl (58, out.2.2.1))), (16, .inr (.inr (.inl out.2.2.2.1))), (17, .inr (.inr (.inl out.2.2.2.2.1))), (21, .inr (.inr (.inl out.2.2.2.2.2.1))), (23, .inr (.inr (.inl out.2.2.2.2.2.2.1))), (27, .inr (.inr (.inl out.2.2.2.2.2.2.2)))] (shM, I, L, Rf))) ad (k_ap [(0, .inl (56, c0_56)), (0, .inl (57, c0_57)), (0, .inr (.inl (58, c0_58))), (16, .inr (.inr (.inl a16))), (17, .inr (.inr (.inl a17))), (21, .inr (.inr (.inl a21))), (23, .inr (.inr (.inl a23))), (27, .inr (.inr (.inl a27)))] (shM, I, L, Rf)) 199 [some (.ref 0), some (.int v1), some (.int v2), some (.int v3), some (.long v4), none, some (.int v6), none, some (.int v8)] [] := by
  intro n
  induction n with
  | zero => intro c0_56 c0_57 c0_58 a16 a17 a21 a23 a27 v1 v2 v3 v4 v6 v8 h; cases h
  | succ n ih =>
    intro c0_56 c0_57 c0_58 a16 a17 a21 a23 a27 v1 v2 v3 v4 v6 v8 h
    refine r_iload C dX11_bestsOn_199 (rfl : 199 + 2 = 201) rfl ?_
    refine r_bipush (v := (77 : Int32)) C dX11_bestsOn_201 (rfl : 201 + 2 = 203) rfl ?_
    refine r_icmp_ge (tgt := 231) C dX11_bestsOn_203 (by decide) (rfl : 203 + 3 = 206) (fun c203 => ?_) (fun c203 => ?_)
    · have h := k_t c203 h
      refine k_mask [true, true, true, true, true, false, true, false, false] ?_
      exact sX11_bestsOn_231 u g C hr hR hg ec0_25 ec0_26 ec0_27 ea7 ea8 ea9 ea13 ea14 ea15 hk84 c0_56 c0_57 c0_58 a16 a17 a21 a23 a27 v1 v2 v3 v4 v6 h
    · have h := k_f c203 h
      refine r_aload_n C dX11_bestsOn_206 (rfl : 206 + 1 = 207) rfl ?_
      refine r_getR (q := 21) C dX11_bestsOn_207 (rfl : 207 + 3 = 210) fl_X11_77 rfl rfl ?_
      refine r_iload C dX11_bestsOn_210 (rfl : 210 + 2 = 212) rfl ?_
      refine r_aload_n C dX11_bestsOn_212 (rfl : 212 + 1 = 213) rfl ?_
      refine r_getR (q := 27) C dX11_bestsOn_213 (rfl : 213 + 3 = 216) fl_X11_96 rfl rfl ?_
      refine r_bipush (v := (77 : Int32)) C dX11_bestsOn_216 (rfl : 216 + 2 = 218) rfl ?_
      refine r_iload_n C dX11_bestsOn_218 (rfl : 218 + 1 = 219) rfl ?_
      refine r_imul C dX11_bestsOn_219 (rfl : 219 + 1 = 220) ?_
      refine r_iload C dX11_bestsOn_220 (rfl : 220 + 2 = 222) rfl ?_
      refine r_iadd C dX11_bestsOn_222 (rfl : 222 + 1 = 223) ?_
      obtain ⟨hi223, h⟩ := k_i_of h
      refine a_i (j := ((((77 : Int32) * v1) + v8)).toNatClampNeg) (f := a27) C dX11_bestsOn_223 (rfl : 223 + 1 = 224) rfl rfl hi223 rfl ?_
      obtain ⟨hi224, h⟩ := k_i_of h
      refine s_i (j := (v8).toNatClampNeg) (f := a21) (us' := [(0, .inl (56, c0_56)), (0, .inl (57, c0_57)), (0, .inr (.inl (58, c0_58))), (16, .inr (.inr (.inl a16))), (17, .inr (.inr (.inl a17))), (21, .inr (.inr (.inl (upd a21 ((v8).toNatClampNeg) (a27 (((((77 : Int32) * v1) + v8)).toNatClampNeg)))))), (23, .inr (.inr (.inl a23))), (27, .inr (.inr (.inl a27)))]) C dX11_bestsOn_224 (rfl : 224 + 1 = 225) rfl rfl hi224 rfl ds_X11_bestsOn rfl rfl rfl ?_
      refine r_iinc (v := (v8 + (1 : Int32))) C dX11_bestsOn_225 (rfl : 225 + 3 = 228) rfl rfl (by decide) ?_
      show k_W _ _ _ _ _ _ _ _ [some (.ref 0), some (.int v1), some (.int v2), some (.int v3), some (.long v4), none, some (.int v6), none, some (.int (v8 + (1 : Int32)))] _
      refine r_goto (tgt := 199) C dX11_bestsOn_228 (by decide) ?_
      refine k_mask [true, true, true, true, true, false, true, false, true] ?_
      exact ih c0_56 c0_57 c0_58 a16 a17 (upd a21 ((v8).toNatClampNeg) (a27 (((((77 : Int32) * v1) + v8)).toNatClampNeg))) a23 a27 v1 v2 v3 v4 v6 (v8 + (1 : Int32)) h
set_option maxHeartbeats 400000 in
set_option maxRecDepth 100000 in
theorem sX11_bestsOn_164 (u : Nat) (g : Int32 → Int32 → Int32 → Int32 → Int32 → Int64 → (Nat → Int32) → (Nat → Int32) → (Nat → Int32) → (Nat → Int32) → (Nat → Int32) → (Nat → Int32) → (Nat → Int32) → (Nat → Int32) → (Nat → Int32) → (Nat → Int32) → (Nat → Int32) → Int32 → Int32 → Int32 → Int64 → Option (Int32 × Int32 × Int64 × (Nat → Int32) × (Nat → Int32) × (Nat → Int32) × (Nat → Int32) × (Nat → Int32))) {fg ng : Nat} {X : k_X} {ad : Nat → Nat} (C : k_C X cX11_bestsOn RX11 9 ad) (hr : X.meth.sig.returnType = none) (hR : X.R.frames = (fg + 6) ∧ X.R.locals = (ng + 133)) {I : Nat → Nat → Int32} {L : Nat → Nat → Int64} {Rf : Nat → Nat → Option Nat} (hg : H_X11_bestsOn X.l g fg ng) {c0_25 : Int32} (ec0_25 : I 0 25 = c0_25) {c0_26 : Int32} (ec0_26 : I 0 26 = c0_26) {c0_27 : Int32} (ec0_27 : I 0 27 = c0_27) {a7 : (Nat → Int32)} (ea7 : I 7 = a7) {a8 : (Nat → Int32)} (ea8 : I 8 = a8) {a9 : (Nat → Int32)} (ea9 : I 9 = a9) {a13 : (Nat → Int32)} (ea13 : I 13 = a13) {a14 : (Nat → Int32)} (ea14 : I 14 = a14) {a15 : (Nat → Int32)} (ea15 : I 15 = a15) {out : Int32 × Int32 × Int64 × (Nat → Int32) × (Nat → Int32) × (Nat → Int32) × (Nat → Int32) × (Nat → Int32)} {k84 : Int32 → Int32 → Int64 → (Nat → Int32) → (Nat → Int32) → (Nat → Int32) → (Nat → Int32) → (Nat → Int32) → Int32 → Int32 → Int32 → Int64 → Int32 → Option (Int32 × Int32 × Int64 × (Nat → Int32) × (Nat → Int32) × (Nat → Int32) × (Nat → Int32) × (Nat → Int32))} (hk84 : ∀ (c0_56 : Int32) (c0_57 : Int32) (c0_58 : Int64) (a16 : (Nat → Int32)) (a17 : (Nat → Int32)) (a21 : (Nat → Int32)) (a23 : (Nat → Int32)) (a27 : (Nat → Int32)) (v1 : Int32) (v2 : Int32) (v3 : Int32) (v4 : Int64) (v6 : Int32), k84 c0_56 c0_57 c0_58 a16 a17 a21 a23 a27 v1 v2 v3 v4 v6 = some out → k_W X 9 0 0 (k_Q X ad none (k_ap [(0, .inl (56, out.1)), (0, .inl (57, out.2.1)), (0, .inr (.inl (58, out.2.2.1))), (16, .inr (.inr (.inl out.2.2.2.1))), (17, .inr (.inr (.inl out.2.2.2.2.1))), (21, .inr (.inr (.inl out.2.2.2.2.2.1))), (23, .inr (.inr (.inl out.2.2.2.2.2.2.1))), (27, .inr (.inr (.inl out.2.2.2.2.2.2.2)))] (shM, I, L, Rf))) ad (k_ap [(0, .inl (56, c0_56)), (0, .inl (57, c0_57)), (0, .inr (.inl (58, c0_58))), (16, .inr (.inr (.inl a16))), (17, .inr (.inr (.inl a17))), (21, .inr (.inr (.inl a21))), (23, .inr (.inr (.inl a23))), (27, .inr (.inr (.inl a27)))] (shM, I, L, Rf)) 84 [some (.ref 0), some (.int v1), some (.int v2), some (.int v3), some (.long v4), none, some (.int v6), none, none] []) : ∀ (c0_56 : Int32) (c0_57 : Int32) (c0_58 : Int64) (a16 : (Nat → Int32)) (a17 : (Nat → Int32)) (a21 : (Nat → Int32)) (a23 : (Nat → Int32)) (a27 : (Nat → Int32)) (v1 : Int32) (v2 : Int32) (v3 : Int32) (v4 : Int64) (v6 : Int32) (w0 : Int32), bX11_bestsOn_164 u g c0_25 c0_26 c0_27 a7 a8 a9 a13 a14 a15 k84 c0_56 c0_57 c0_58 a16 a17 a21 a23 a27 v1 v2 v3 v4 v6 w0 = some out → k_W X 9 0 0 (k_Q X ad none (k_ap [(0, .inl (56, out.1)), (0, .inl (57, out.2.1)), (0, .inr (.inl (58, out.2.2.1))), (16, .inr (.inr (.inl out.2.2.2.1))), (17, .inr (.inr (.inl out.2.2.2.2.1))), (21, .inr (.inr (.inl out.2.2.2.2.2.1))), (23, .inr (.inr (.inl out.2.2.2.2.2.2.1))), (27, .inr (.inr (.inl out.2.2.2.2.2.2.2)))] (shM, I, L, Rf))) ad (k_ap [(0, .inl (56, c0_56)), (0, .inl (57, c0_57)), (0, .inr (.inl (58, c0_58))), (16, .inr (.inr (.inl a16))), (17, .inr (.inr (.inl a17))), (21, .inr (.inr (.inl a21))), (23, .inr (.inr (.inl a23))), (27, .inr (.inr (.inl a27)))] (shM, I, L, Rf)) 164 [some (.ref 0), some (.int v1), some (.int v2), some (.int v3), some (.long v4), none, some (.int v6), none, none] [.int w0] := by
  intro c0_56 c0_57 c0_58 a16 a17 a21 a23 a27 v1 v2 v3 v4 v6 w0 h
  unfold bX11_bestsOn_164 at h
  refine r_istore C dX11_bestsOn_164 (rfl : 164 + 2 = 166) (by decide) (Nat.le_of_ble_eq_true rfl) ?_
  show k_W _ _ _ _ _ _ _ _ [some (.ref 0), some (.int v1), some (.int v2), some (.int v3), some (.long v4), none, some (.int v6), some (.int w0), none] _
  refine r_aload_n C dX11_bestsOn_166 (rfl : 166 + 1 = 167) rfl ?_
  refine r_iload C dX11_bestsOn_167 (rfl : 167 + 2 = 169) rfl ?_
  obtain ⟨r169, q169, h⟩ := k_b_of h
  refine d_V (As := [.int v6]) (st := []) (st' := []) (h' := k_ap [(0, .inl (56, c0_56)), (0, .inl (57, c0_57)), (0, .inr (.inl (58, c0_58))), (16, .inr (.inr (.inl r169.1))), (17, .inr (.inr (.inl r169.2.1))), (21, .inr (.inr (.inl r169.2.2.1))), (23, .inr (.inr (.inl r169.2.2.2))), (27, .inr (.inr (.inl a27)))] (shM, I, L, Rf)) C hR ⟨Nat.zero_le _, Nat.zero_le _⟩ mv_X11_digs lk_X11_412 dX11_bestsOn_169 (rfl : 169 + 3 = 172) (k_bl (by omega)) (k_bl (by omega)) rfl rfl (c_X11_digs X.l u (k_ap [(0, .inl (56, c0_56)), (0, .inl (57, c0_57)), (0, .inr (.inl (58, c0_58))), (16, .inr (.inr (.inl a16))), (17, .inr (.inr (.inl a17))), (21, .inr (.inr (.inl a21))), (23, .inr (.inr (.inl a23))), (27, .inr (.inr (.inl a27)))] (shM, I, L, Rf)) rfl ec0_25 ec0_26 ea7 ea8 ea13 ea14 ea15 rfl rfl rfl rfl q169) rfl rfl rfl (k_jn (us' := [(0, .inl (56, c0_56)), (0, .inl (57, c0_57)), (0, .inr (.inl (58, c0_58))), (16, .inr (.inr (.inl r169.1))), (17, .inr (.inr (.inl r169.2.1))), (21, .inr (.inr (.inl r169.2.2.1))), (23, .inr (.inr (.inl r169.2.2.2))), (27, .inr (.inr (.inl a27)))]) ds_X11_bestsOn rfl rfl rfl) rfl ?_
  refine r_aload_n C dX11_bestsOn_172 (rfl : 172 + 1 = 173) rfl ?_
  refine r_iload_n C dX11_bestsOn_173 (rfl : 173 + 1 = 174) rfl ?_
  refine r_iconst (v := (1 : Int32)) C dX11_bestsOn_174 (rfl : 174 + 1 = 175) rfl ?_
  refine r_iadd C dX11_bestsOn_175 (rfl : 175 + 1 = 176) ?_
  refine r_iload_n C dX11_bestsOn_176 (rfl : 176 + 1 = 177) rfl ?_
  refine r_iload_n C dX11_bestsOn_177 (rfl : 177 + 1 = 178) rfl ?_
  refine r_iload C dX11_bestsOn_178 (rfl : 178 + 2 = 180) rfl ?_
  refine r_iadd C dX11_bestsOn_180 (rfl : 180 + 1 = 181) ?_
  refine r_ldc2 C dX11_bestsOn_181 (rfl : 181 + 3 = 184) ct_X11_431 ?_
  refine r_lload C dX11_bestsOn_184 (rfl : 184 + 2 = 186) rfl ?_
  refine r_lmul C dX11_bestsOn_186 (rfl : 186 + 1 = 187) ?_
  refine r_iload C dX11_bestsOn_187 (rfl : 187 + 2 = 189) rfl ?_
  refine r_i2l C dX11_bestsOn_189 (rfl : 189 + 1 = 190) ?_
  refine r_ladd C dX11_bestsOn_190 (rfl : 190 + 1 = 191) ?_
  refine r_lconst (v := (1 : Int64)) C dX11_bestsOn_191 (rfl : 191 + 1 = 192) rfl ?_
  refine r_ladd C dX11_bestsOn_192 (rfl : 192 + 1 = 193) ?_
  obtain ⟨r193, q193, h⟩ := k_b_of h
  refine d_V (As := [.int (v1 + (1 : Int32)), .int v2, .int (v3 + w0), .long ((((64 : Int64) * v4) + (v6).toInt64) + (1 : Int64))]) (st := []) (st' := []) (h' := k_ap [(0, .inl (56, r193.1)), (0, .inl (57, r193.2.1)), (0, .inr (.inl (58, r193.2.2.1))), (16, .inr (.inr (.inl r193.2.2.2.1))), (17, .inr (.inr (.inl r193.2.2.2.2.1))), (21, .inr (.inr (.inl r193.2.2.2.2.2.1))), (23, .inr (.inr (.inl r193.2.2.2.2.2.2.1))), (27, .inr (.inr (.inl r193.2.2.2.2.2.2.2)))] (shM, I, L, Rf)) C hR ⟨Nat.zero_le _, Nat.zero_le _⟩ mv_X11_bestsOn lk_X11_433 dX11_bestsOn_193 (rfl : 193 + 3 = 196) (k_bl (by omega)) (k_bl (by omega)) rfl rfl (hg (k_ap [(0, .inl (56, c0_56)), (0, .inl (57, c0_57)), (0, .inr (.inl (58, c0_58))), (16, .inr (.inr (.inl r169.1))), (17, .inr (.inr (.inl r169.2.1))), (21, .inr (.inr (.inl r169.2.2.1))), (23, .inr (.inr (.inl r169.2.2.2))), (27, .inr (.inr (.inl a27)))] (shM, I, L, Rf)) rfl ec0_25 ec0_26 ec0_27 rfl rfl rfl ea7 ea8 ea9 ea13 ea14 ea15 rfl rfl rfl rfl rfl q193) rfl rfl rfl (k_jn (us' := [(0, .inl (56, r193.1)), (0, .inl (57, r193.2.1)), (0, .inr (.inl (58, r193.2.2.1))), (16, .inr (.inr (.inl r193.2.2.2.1))), (17, .inr (.inr (.inl r193.2.2.2.2.1))), (21, .inr (.inr (.inl r193.2.2.2.2.2.1))), (23, .inr (.inr (.inl r193.2.2.2.2.2.2.1))), (27, .inr (.inr (.inl r193.2.2.2.2.2.2.2)))]) ds_X11_bestsOn rfl rfl rfl) rfl ?_
  refine r_iconst (v := (0 : Int32)) C dX11_bestsOn_196 (rfl : 196 + 1 = 197) rfl ?_
  refine r_istore C dX11_bestsOn_197 (rfl : 197 + 2 = 199) (by decide) (Nat.le_of_ble_eq_true rfl) ?_
  show k_W _ _ _ _ _ _ _ _ [some (.ref 0), some (.int v1), some (.int v2), some (.int v3), some (.long v4), none, some (.int v6), some (.int w0), some (.int (0 : Int32))] _
  refine k_mask [true, true, true, true, true, false, true, false, true] ?_
  exact sX11_bestsOn_199 u g C hr hR hg ec0_25 ec0_26 ec0_27 ea7 ea8 ea9 ea13 ea14 ea15 hk84 u r193.1 r193.2.1 r193.2.2.1 r193.2.2.2.1 r193.2.2.2.2.1 r193.2.2.2.2.2.1 r193.2.2.2.2.2.2.1 r193.2.2.2.2.2.2.2 v1 v2 v3 v4 v6 (0 : Int32) h
set_option maxHeartbeats 400000 in
set_option maxRecDepth 100000 in
theorem sX11_bestsOn_163 (u : Nat) (g : Int32 → Int32 → Int32 → Int32 → Int32 → Int64 → (Nat → Int32) → (Nat → Int32) → (Nat → Int32) → (Nat → Int32) → (Nat → Int32) → (Nat → Int32) → (Nat → Int32) → (Nat → Int32) → (Nat → Int32) → (Nat → Int32) → (Nat → Int32) → Int32 → Int32 → Int32 → Int64 → Option (Int32 × Int32 × Int64 × (Nat → Int32) × (Nat → Int32) × (Nat → Int32) × (Nat → Int32) × (Nat → Int32))) {fg ng : Nat} {X : k_X} {ad : Nat → Nat} (C : k_C X cX11_bestsOn RX11 9 ad) (hr : X.meth.sig.returnType = none) (hR : X.R.frames = (fg + 6) ∧ X.R.locals = (ng + 133)) {I : Nat → Nat → Int32} {L : Nat → Nat → Int64} {Rf : Nat → Nat → Option Nat} (hg : H_X11_bestsOn X.l g fg ng) {c0_25 : Int32} (ec0_25 : I 0 25 = c0_25) {c0_26 : Int32} (ec0_26 : I 0 26 = c0_26) {c0_27 : Int32} (ec0_27 : I 0 27 = c0_27) {a7 : (Nat → Int32)} (ea7 : I 7 = a7) {a8 : (Nat → Int32)} (ea8 : I 8 = a8) {a9 : (Nat → Int32)} (ea9 : I 9 = a9) {a13 : (Nat → Int32)} (ea13 : I 13 = a13) {a14 : (Nat → Int32)} (ea14 : I 14 = a14) {a15 : (Nat → Int32)} (ea15 : I 15 = a15) {out : Int32 × Int32 × Int64 × (Nat → Int32) × (Nat → Int32) × (Nat → Int32) × (Nat → Int32) × (Nat → Int32)} {k84 : Int32 → Int32 → Int64 → (Nat → Int32) → (Nat → Int32) → (Nat → Int32) → (Nat → Int32) → (Nat → Int32) → Int32 → Int32 → Int32 → Int64 → Int32 → Option (Int32 × Int32 × Int64 × (Nat → Int32) × (Nat → Int32) × (Nat → Int32) × (Nat → Int32) × (Nat → Int32))} (hk84 : ∀ (c0_56 : Int32) (c0_57 : Int32) (c0_58 : Int64) (a16 : (Nat → Int32)) (a17 : (Nat → Int32)) (a21 : (Nat → Int32)) (a23 : (Nat → Int32)) (a27 : (Nat → Int32)) (v1 : Int32) (v2 : Int32) (v3 : Int32) (v4 : Int64) (v6 : Int32), k84 c0_56 c0_57 c0_58 a16 a17 a21 a23 a27 v1 v2 v3 v4 v6 = some out → k_W X 9 0 0 (k_Q X ad none (k_ap [(0, .inl (56, out.1)), (0, .inl (57, out.2.1)), (0, .inr (.inl (58, out.2.2.1))), (16, .inr (.inr (.inl out.2.2.2.1))), (17, .inr (.inr (.inl out.2.2.2.2.1))), (21, .inr (.inr (.inl out.2.2.2.2.2.1))), (23, .inr (.inr (.inl out.2.2.2.2.2.2.1))), (27, .inr (.inr (.inl out.2.2.2.2.2.2.2)))] (shM, I, L, Rf))) ad (k_ap [(0, .inl (56, c0_56)), (0, .inl (57, c0_57)), (0, .inr (.inl (58, c0_58))), (16, .inr (.inr (.inl a16))), (17, .inr (.inr (.inl a17))), (21, .inr (.inr (.inl a21))), (23, .inr (.inr (.inl a23))), (27, .inr (.inr (.inl a27)))] (shM, I, L, Rf)) 84 [some (.ref 0), some (.int v1), some (.int v2), some (.int v3), some (.long v4), none, some (.int v6), none, none] []) : ∀ (c0_56 : Int32) (c0_57 : Int32) (c0_58 : Int64) (a16 : (Nat → Int32)) (a17 : (Nat → Int32)) (a21 : (Nat → Int32)) (a23 : (Nat → Int32)) (a27 : (Nat → Int32)) (v1 : Int32) (v2 : Int32) (v3 : Int32) (v4 : Int64) (v6 : Int32), bX11_bestsOn_163 u g c0_25 c0_26 c0_27 a7 a8 a9 a13 a14 a15 k84 c0_56 c0_57 c0_58 a16 a17 a21 a23 a27 v1 v2 v3 v4 v6 = some out → k_W X 9 0 0 (k_Q X ad none (k_ap [(0, .inl (56, out.1)), (0, .inl (57, out.2.1)), (0, .inr (.inl (58, out.2.2.1))), (16, .inr (.inr (.inl out.2.2.2.1))), (17, .inr (.inr (.inl out.2.2.2.2.1))), (21, .inr (.inr (.inl out.2.2.2.2.2.1))), (23, .inr (.inr (.inl out.2.2.2.2.2.2.1))), (27, .inr (.inr (.inl out.2.2.2.2.2.2.2)))] (shM, I, L, Rf))) ad (k_ap [(0, .inl (56, c0_56)), (0, .inl (57, c0_57)), (0, .inr (.inl (58, c0_58))), (16, .inr (.inr (.inl a16))), (17, .inr (.inr (.inl a17))), (21, .inr (.inr (.inl a21))), (23, .inr (.inr (.inl a23))), (27, .inr (.inr (.inl a27)))] (shM, I, L, Rf)) 163 [some (.ref 0), some (.int v1), some (.int v2), some (.int v3), some (.long v4), none, some (.int v6), none, none] [] := by
  intro c0_56 c0_57 c0_58 a16 a17 a21 a23 a27 v1 v2 v3 v4 v6 h
  unfold bX11_bestsOn_163 at h
  refine r_iconst (v := (0 : Int32)) C dX11_bestsOn_163 (rfl : 163 + 1 = 164) rfl ?_
  refine k_mask [true, true, true, true, true, false, true, false, false] ?_
  exact sX11_bestsOn_164 u g C hr hR hg ec0_25 ec0_26 ec0_27 ea7 ea8 ea9 ea13 ea14 ea15 hk84 c0_56 c0_57 c0_58 a16 a17 a21 a23 a27 v1 v2 v3 v4 v6 (0 : Int32) h
set_option maxHeartbeats 400000 in
set_option maxRecDepth 100000 in
theorem sX11_bestsOn_84 (u : Nat) (g : Int32 → Int32 → Int32 → Int32 → Int32 → Int64 → (Nat → Int32) → (Nat → Int32) → (Nat → Int32) → (Nat → Int32) → (Nat → Int32) → (Nat → Int32) → (Nat → Int32) → (Nat → Int32) → (Nat → Int32) → (Nat → Int32) → (Nat → Int32) → Int32 → Int32 → Int32 → Int64 → Option (Int32 × Int32 × Int64 × (Nat → Int32) × (Nat → Int32) × (Nat → Int32) × (Nat → Int32) × (Nat → Int32))) {fg ng : Nat} {X : k_X} {ad : Nat → Nat} (C : k_C X cX11_bestsOn RX11 9 ad) (hr : X.meth.sig.returnType = none) (hR : X.R.frames = (fg + 6) ∧ X.R.locals = (ng + 133)) {I : Nat → Nat → Int32} {L : Nat → Nat → Int64} {Rf : Nat → Nat → Option Nat} (hg : H_X11_bestsOn X.l g fg ng) {c0_25 : Int32} (ec0_25 : I 0 25 = c0_25) {c0_26 : Int32} (ec0_26 : I 0 26 = c0_26) {c0_27 : Int32} (ec0_27 : I 0 27 = c0_27) {a7 : (Nat → Int32)} (ea7 : I 7 = a7) {a8 : (Nat → Int32)} (ea8 : I 8 = a8) {a9 : (Nat → Int32)} (ea9 : I 9 = a9) {a13 : (Nat → Int32)} (ea13 : I 13 = a13) {a14 : (Nat → Int32)} (ea14 : I 14 = a14) {a15 : (Nat → Int32)} (ea15 : I 15 = a15) {out : Int32 × Int32 × Int64 × (Nat → Int32) × (Nat → Int32) × (Nat → Int32) × (Nat → Int32) × (Nat → Int32)} : ∀ (n : Nat) (c0_56 : Int32) (c0_57 : Int32) (c0_58 : Int64) (a16 : (Nat → Int32)) (a17 : (Nat → Int32)) (a21 : (Nat → Int32)) (a23 : (Nat → Int32)) (a27 : (Nat → Int32)) (v1 : Int32) (v2 : Int32) (v3 : Int32) (v4 : Int64) (v6 : Int32), bX11_bestsOn_84 u g c0_25 c0_26 c0_27 a7 a8 a9 a13 a14 a15 n c0_56 c0_57 c0_58 a16 a17 a21 a23 a27 v1 v2 v3 v4 v6 = some out → k_W X 9 0 0 (k_Q X ad none (k_ap [(0, .inl (56, out.1)), (0, .inl (57, out.2.1)), (0, .inr (.inl (58, out.2.2.1))), (16, .inr (.inr (.inl out.2.2.2.1))), (17, .inr (.inr (.inl out.2.2.2.2.1))), (21, .inr (.inr (.inl out.2.2.2.2.2.1))), (23, .inr (.inr (.inl out.2.2.2.2.2.2.1))), (27, .inr (.inr (.inl out.2.2.2.2.2.2.2)))] (shM, I, L, Rf))) ad (k_ap [(0, .inl (56, c0_56)), (0, .inl (57, c0_57)), (0, .inr (.inl (58, c0_58))), (16, .inr (.inr (.inl a16))), (17, .inr (.inr (.inl a17))), (21, .inr (.inr (.inl a21))), (23, .inr (.inr (.inl a23))), (27, .inr (.inr (.inl a27)))] (shM, I, L, Rf)) 84 [some (.ref 0), some (.int v1), some (.int v2), some (.int v3), some (.long v4), none, some (.int v6), none, none] [] := by
  intro n
  induction n with
  | zero => intro c0_56 c0_57 c0_58 a16 a17 a21 a23 a27 v1 v2 v3 v4 v6 h; cases h
  | succ n ih =>
    intro c0_56 c0_57 c0_58 a16 a17 a21 a23 a27 v1 v2 v3 v4 v6 h
    refine r_iload C dX11_bestsOn_84 (rfl : 84 + 2 = 86) rfl ?_
    refine r_bipush (v := (48 : Int32)) C dX11_bestsOn_86 (rfl : 86 + 2 = 88) rfl ?_
    refine r_icmp_ge (tgt := 237) C dX11_bestsOn_88 (by decide) (rfl : 88 + 3 = 91) (fun c88 => ?_) (fun c88 => ?_)
    · have h := k_t c88 h
      cases h
      exact r_vret C hr dX11_bestsOn_237
    · have h := k_f c88 h
      refine r_aload_n C dX11_bestsOn_91 (rfl : 91 + 1 = 92) rfl ?_
      refine r_iload C dX11_bestsOn_92 (rfl : 92 + 2 = 94) rfl ?_
      refine r_bipush (v := (8 : Int32)) C dX11_bestsOn_94 (rfl : 94 + 2 = 96) rfl ?_
      refine r_irem C dX11_bestsOn_96 (rfl : 96 + 1 = 97) (by decide) ?_
      refine r_iload C dX11_bestsOn_97 (rfl : 97 + 2 = 99) rfl ?_
      refine r_bipush (v := (8 : Int32)) C dX11_bestsOn_99 (rfl : 99 + 2 = 101) rfl ?_
      refine r_idiv C dX11_bestsOn_101 (rfl : 101 + 1 = 102) (by decide) ?_
      obtain ⟨r102, q102, h⟩ := k_b_of h
      refine d_V (As := [.int (v6 - v6 / (8 : Int32) * (8 : Int32)), .int (v6 / (8 : Int32))]) (st := []) (st' := [.int r102]) (h' := k_ap [(0, .inl (56, c0_56)), (0, .inl (57, c0_57)), (0, .inr (.inl (58, c0_58))), (16, .inr (.inr (.inl a16))), (17, .inr (.inr (.inl a17))), (21, .inr (.inr (.inl a21))), (23, .inr (.inr (.inl a23))), (27, .inr (.inr (.inl a27)))] (shM, I, L, Rf)) C hR ⟨Nat.zero_le _, Nat.zero_le _⟩ mv_X11_isIn lk_X11_363 dX11_bestsOn_102 (rfl : 102 + 3 = 105) (k_bl (by omega)) (k_bl (by omega)) rfl rfl (c_X11_isIn X.l u (k_ap [(0, .inl (56, c0_56)), (0, .inl (57, c0_57)), (0, .inr (.inl (58, c0_58))), (16, .inr (.inr (.inl a16))), (17, .inr (.inr (.inl a17))), (21, .inr (.inr (.inl a21))), (23, .inr (.inr (.inl a23))), (27, .inr (.inr (.inl a27)))] (shM, I, L, Rf)) rfl ec0_25 ec0_26 q102) rfl rfl rfl rfl rfl ?_
      refine r_if_eq (tgt := 231) C dX11_bestsOn_105 (by decide) (rfl : 105 + 3 = 108) (fun c105 => ?_) (fun c105 => ?_)
      · have h := k_t c105 h
        refine k_mask [true, true, true, true, true, false, true, false, false] ?_
        exact sX11_bestsOn_231 u g C hr hR hg ec0_25 ec0_26 ec0_27 ea7 ea8 ea9 ea13 ea14 ea15 ih c0_56 c0_57 c0_58 a16 a17 a21 a23 a27 v1 v2 v3 v4 v6 h
      · have h := k_f c105 h
        refine r_aload_n C dX11_bestsOn_108 (rfl : 108 + 1 = 109) rfl ?_
        refine r_iload C dX11_bestsOn_109 (rfl : 109 + 2 = 111) rfl ?_
        obtain ⟨r111, q111, h⟩ := k_b_of h
        refine d_V (As := [.int v6]) (st := []) (st' := [.int r111]) (h' := k_ap [(0, .inl (56, c0_56)), (0, .inl (57, c0_57)), (0, .inr (.inl (58, c0_58))), (16, .inr (.inr (.inl a16))), (17, .inr (.inr (.inl a17))), (21, .inr (.inr (.inl a21))), (23, .inr (.inr (.inl a23))), (27, .inr (.inr (.inl a27)))] (shM, I, L, Rf)) C hR ⟨Nat.zero_le _, Nat.zero_le _⟩ mv_X11_whyNot lk_X11_409 dX11_bestsOn_111 (rfl : 111 + 3 = 114) (k_bl (by omega)) (k_bl (by omega)) rfl rfl (c_X11_whyNot X.l u (k_ap [(0, .inl (56, c0_56)), (0, .inl (57, c0_57)), (0, .inr (.inl (58, c0_58))), (16, .inr (.inr (.inl a16))), (17, .inr (.inr (.inl a17))), (21, .inr (.inr (.inl a21))), (23, .inr (.inr (.inl a23))), (27, .inr (.inr (.inl a27)))] (shM, I, L, Rf)) rfl ec0_25 ec0_26 ec0_27 rfl q111) rfl rfl rfl rfl rfl ?_
        refine r_if_eq (tgt := 120) C dX11_bestsOn_114 (by decide) (rfl : 114 + 3 = 117) (fun c114 => ?_) (fun c114 => ?_)
        · have h := k_t c114 h
          refine r_aload_n C dX11_bestsOn_120 (rfl : 120 + 1 = 121) rfl ?_
          refine r_getR (q := 21) C dX11_bestsOn_121 (rfl : 121 + 3 = 124) fl_X11_77 rfl rfl ?_
          refine r_iload C dX11_bestsOn_124 (rfl : 124 + 2 = 126) rfl ?_
          obtain ⟨hi126, h⟩ := k_i_of h
          refine a_i (j := (v6).toNatClampNeg) (f := a21) C dX11_bestsOn_126 (rfl : 126 + 1 = 127) rfl rfl hi126 rfl ?_
          refine r_if_ne (tgt := 163) C dX11_bestsOn_127 (by decide) (rfl : 127 + 3 = 130) (fun c127 => ?_) (fun c127 => ?_)
          · have h := k_f c127 h
            refine k_mask [true, true, true, true, true, false, true, false, false] ?_
            exact sX11_bestsOn_163 u g C hr hR hg ec0_25 ec0_26 ec0_27 ea7 ea8 ea9 ea13 ea14 ea15 ih c0_56 c0_57 c0_58 a16 a17 a21 a23 a27 v1 v2 v3 v4 v6 h
          · have h := k_t c127 h
            refine r_aload_n C dX11_bestsOn_130 (rfl : 130 + 1 = 131) rfl ?_
            refine r_getR (q := 8) C dX11_bestsOn_131 (rfl : 131 + 3 = 134) fl_X11_38 rfl rfl ?_
            refine r_iload C dX11_bestsOn_134 (rfl : 134 + 2 = 136) rfl ?_
            obtain ⟨hi136, h⟩ := k_i_of h
            refine a_i (j := (v6).toNatClampNeg) (f := a8) C dX11_bestsOn_136 (rfl : 136 + 1 = 137) rfl ea8 hi136 rfl ?_
            refine r_if_le (tgt := 163) C dX11_bestsOn_137 (by decide) (rfl : 137 + 3 = 140) (fun c137 => ?_) (fun c137 => ?_)
            · have h := k_t c137 h
              refine k_mask [true, true, true, true, true, false, true, false, false] ?_
              exact sX11_bestsOn_163 u g C hr hR hg ec0_25 ec0_26 ec0_27 ea7 ea8 ea9 ea13 ea14 ea15 ih c0_56 c0_57 c0_58 a16 a17 a21 a23 a27 v1 v2 v3 v4 v6 h
            · have h := k_f c137 h
              refine r_aload_n C dX11_bestsOn_140 (rfl : 140 + 1 = 141) rfl ?_
              refine r_getR (q := 8) C dX11_bestsOn_141 (rfl : 141 + 3 = 144) fl_X11_38 rfl rfl ?_
              refine r_iload C dX11_bestsOn_144 (rfl : 144 + 2 = 146) rfl ?_
              obtain ⟨hi146, h⟩ := k_i_of h
              refine a_i (j := (v6).toNatClampNeg) (f := a8) C dX11_bestsOn_146 (rfl : 146 + 1 = 147) rfl ea8 hi146 rfl ?_
              refine r_aload_n C dX11_bestsOn_147 (rfl : 147 + 1 = 148) rfl ?_
              refine r_getR (q := 9) C dX11_bestsOn_148 (rfl : 148 + 3 = 151) fl_X11_41 rfl rfl ?_
              refine r_aload_n C dX11_bestsOn_151 (rfl : 151 + 1 = 152) rfl ?_
              refine r_getR (q := 7) C dX11_bestsOn_152 (rfl : 152 + 3 = 155) fl_X11_35 rfl rfl ?_
              refine r_iload C dX11_bestsOn_155 (rfl : 155 + 2 = 157) rfl ?_
              obtain ⟨hi157, h⟩ := k_i_of h
              refine a_i (j := (v6).toNatClampNeg) (f := a7) C dX11_bestsOn_157 (rfl : 157 + 1 = 158) rfl ea7 hi157 rfl ?_
              obtain ⟨hi158, h⟩ := k_i_of h
              refine a_i (j := ((a7 ((v6).toNatClampNeg))).toNatClampNeg) (f := a9) C dX11_bestsOn_158 (rfl : 158 + 1 = 159) rfl ea9 hi158 rfl ?_
              refine r_imul C dX11_bestsOn_159 (rfl : 159 + 1 = 160) ?_
              refine r_goto (tgt := 164) C dX11_bestsOn_160 (by decide) ?_
              refine k_mask [true, true, true, true, true, false, true, false, false] ?_
              exact sX11_bestsOn_164 u g C hr hR hg ec0_25 ec0_26 ec0_27 ea7 ea8 ea9 ea13 ea14 ea15 ih c0_56 c0_57 c0_58 a16 a17 a21 a23 a27 v1 v2 v3 v4 v6 ((a8 ((v6).toNatClampNeg)) * (a9 (((a7 ((v6).toNatClampNeg))).toNatClampNeg))) h
        · have h := k_f c114 h
          refine r_goto (tgt := 231) C dX11_bestsOn_117 (by decide) ?_
          refine k_mask [true, true, true, true, true, false, true, false, false] ?_
          exact sX11_bestsOn_231 u g C hr hR hg ec0_25 ec0_26 ec0_27 ea7 ea8 ea9 ea13 ea14 ea15 ih c0_56 c0_57 c0_58 a16 a17 a21 a23 a27 v1 v2 v3 v4 v6 h
set_option maxHeartbeats 400000 in
set_option maxRecDepth 100000 in
theorem sX11_bestsOn_49 (u : Nat) (g : Int32 → Int32 → Int32 → Int32 → Int32 → Int64 → (Nat → Int32) → (Nat → Int32) → (Nat → Int32) → (Nat → Int32) → (Nat → Int32) → (Nat → Int32) → (Nat → Int32) → (Nat → Int32) → (Nat → Int32) → (Nat → Int32) → (Nat → Int32) → Int32 → Int32 → Int32 → Int64 → Option (Int32 × Int32 × Int64 × (Nat → Int32) × (Nat → Int32) × (Nat → Int32) × (Nat → Int32) × (Nat → Int32))) {fg ng : Nat} {X : k_X} {ad : Nat → Nat} (C : k_C X cX11_bestsOn RX11 9 ad) (hr : X.meth.sig.returnType = none) (hR : X.R.frames = (fg + 6) ∧ X.R.locals = (ng + 133)) {I : Nat → Nat → Int32} {L : Nat → Nat → Int64} {Rf : Nat → Nat → Option Nat} (hg : H_X11_bestsOn X.l g fg ng) {c0_25 : Int32} (ec0_25 : I 0 25 = c0_25) {c0_26 : Int32} (ec0_26 : I 0 26 = c0_26) {c0_27 : Int32} (ec0_27 : I 0 27 = c0_27) {a7 : (Nat → Int32)} (ea7 : I 7 = a7) {a8 : (Nat → Int32)} (ea8 : I 8 = a8) {a9 : (Nat → Int32)} (ea9 : I 9 = a9) {a13 : (Nat → Int32)} (ea13 : I 13 = a13) {a14 : (Nat → Int32)} (ea14 : I 14 = a14) {a15 : (Nat → Int32)} (ea15 : I 15 = a15) {out : Int32 × Int32 × Int64 × (Nat → Int32) × (Nat → Int32) × (Nat → Int32) × (Nat → Int32) × (Nat → Int32)} : ∀ (n : Nat) (c0_56 : Int32) (c0_57 : Int32) (c0_58 : Int64) (a16 : (Nat → Int32)) (a17 : (Nat → Int32)) (a21 : (Nat → Int32)) (a23 : (Nat → Int32)) (a27 : (Nat → Int32)) (v1 : Int32) (v2 : Int32) (v3 : Int32) (v4 : Int64) (v6 : Int32), bX11_bestsOn_49 u g c0_25 c0_26 c0_27 a7 a8 a9 a13 a14 a15 n c0_56 c0_57 c0_58 a16 a17 a21 a23 a27 v1 v2 v3 v4 v6 = some out → k_W X 9 0 0 (k_Q X ad none (k_ap [(0, .inl (56, out.1)), (0, .inl (57, out.2.1)), (0, .inr (.inl (58, out.2.2.1))), (16, .inr (.inr (.inl out.2.2.2.1))), (17, .inr (.inr (.inl out.2.2.2.2.1))), (21, .inr (.inr (.inl out.2.2.2.2.2.1))), (23, .inr (.inr (.inl out.2.2.2.2.2.2.1))), (27, .inr (.inr (.inl out.2.2.2.2.2.2.2)))] (shM, I, L, Rf))) ad (k_ap [(0, .inl (56, c0_56)), (0, .inl (57, c0_57)), (0, .inr (.inl (58, c0_58))), (16, .inr (.inr (.inl a16))), (17, .inr (.inr (.inl a17))), (21, .inr (.inr (.inl a21))), (23, .inr (.inr (.inl a23))), (27, .inr (.inr (.inl a27)))] (shM, I, L, Rf)) 49 [some (.ref 0), some (.int v1), some (.int v2), some (.int v3), some (.long v4), none, some (.int v6), none, none] [] := by
  intro n
  induction n with
  | zero => intro c0_56 c0_57 c0_58 a16 a17 a21 a23 a27 v1 v2 v3 v4 v6 h; cases h
  | succ n ih =>
    intro c0_56 c0_57 c0_58 a16 a17 a21 a23 a27 v1 v2 v3 v4 v6 h
    refine r_iload C dX11_bestsOn_49 (rfl : 49 + 2 = 51) rfl ?_
    refine r_bipush (v := (77 : Int32)) C dX11_bestsOn_51 (rfl : 51 + 2 = 53) rfl ?_
    refine r_icmp_ge (tgt := 81) C dX11_bestsOn_53 (by decide) (rfl : 53 + 3 = 56) (fun c53 => ?_) (fun c53 => ?_)
    · have h := k_t c53 h
      refine r_iconst (v := (0 : Int32)) C dX11_bestsOn_81 (rfl : 81 + 1 = 82) rfl ?_
      refine r_istore C dX11_bestsOn_82 (rfl : 82 + 2 = 84) (by decide) (Nat.le_of_ble_eq_true rfl) ?_
      show k_W _ _ _ _ _ _ _ _ [some (.ref 0), some (.int v1), some (.int v2), some (.int v3), some (.long v4), none, some (.int (0 : Int32)), none, none] _
      refine k_mask [true, true, true, true, true, false, true, false, false] ?_
      exact sX11_bestsOn_84 u g C hr hR hg ec0_25 ec0_26 ec0_27 ea7 ea8 ea9 ea13 ea14 ea15 u c0_56 c0_57 c0_58 a16 a17 a21 a23 a27 v1 v2 v3 v4 (0 : Int32) h
    · have h := k_f c53 h
      refine r_aload_n C dX11_bestsOn_56 (rfl : 56 + 1 = 57) rfl ?_
      refine r_getR (q := 27) C dX11_bestsOn_57 (rfl : 57 + 3 = 60) fl_X11_96 rfl rfl ?_
      refine r_bipush (v := (77 : Int32)) C dX11_bestsOn_60 (rfl : 60 + 2 = 62) rfl ?_
      refine r_iload_n C dX11_bestsOn_62 (rfl : 62 + 1 = 63) rfl ?_
      refine r_imul C dX11_bestsOn_63 (rfl : 63 + 1 = 64) ?_
      refine r_iload C dX11_bestsOn_64 (rfl : 64 + 2 = 66) rfl ?_
      refine r_iadd C dX11_bestsOn_66 (rfl : 66 + 1 = 67) ?_
      refine r_aload_n C dX11_bestsOn_67 (rfl : 67 + 1 = 68) rfl ?_
      refine r_getR (q := 21) C dX11_bestsOn_68 (rfl : 68 + 3 = 71) fl_X11_77 rfl rfl ?_
      refine r_iload C dX11_bestsOn_71 (rfl : 71 + 2 = 73) rfl ?_
      obtain ⟨hi73, h⟩ := k_i_of h
      refine a_i (j := (v6).toNatClampNeg) (f := a21) C dX11_bestsOn_73 (rfl : 73 + 1 = 74) rfl rfl hi73 rfl ?_
      obtain ⟨hi74, h⟩ := k_i_of h
      refine s_i (j := ((((77 : Int32) * v1) + v6)).toNatClampNeg) (f := a27) (us' := [(0, .inl (56, c0_56)), (0, .inl (57, c0_57)), (0, .inr (.inl (58, c0_58))), (16, .inr (.inr (.inl a16))), (17, .inr (.inr (.inl a17))), (21, .inr (.inr (.inl a21))), (23, .inr (.inr (.inl a23))), (27, .inr (.inr (.inl (upd a27 (((((77 : Int32) * v1) + v6)).toNatClampNeg) (a21 ((v6).toNatClampNeg))))))]) C dX11_bestsOn_74 (rfl : 74 + 1 = 75) rfl rfl hi74 rfl ds_X11_bestsOn rfl rfl rfl ?_
      refine r_iinc (v := (v6 + (1 : Int32))) C dX11_bestsOn_75 (rfl : 75 + 3 = 78) rfl rfl (by decide) ?_
      show k_W _ _ _ _ _ _ _ _ [some (.ref 0), some (.int v1), some (.int v2), some (.int v3), some (.long v4), none, some (.int (v6 + (1 : Int32))), none, none] _
      refine r_goto (tgt := 49) C dX11_bestsOn_78 (by decide) ?_
      refine k_mask [true, true, true, true, true, false, true, false, false] ?_
      exact ih c0_56 c0_57 c0_58 a16 a17 a21 a23 (upd a27 (((((77 : Int32) * v1) + v6)).toNatClampNeg) (a21 ((v6).toNatClampNeg))) v1 v2 v3 v4 (v6 + (1 : Int32)) h
set_option maxHeartbeats 400000 in
set_option maxRecDepth 100000 in
theorem sX11_bestsOn_40 (u : Nat) (g : Int32 → Int32 → Int32 → Int32 → Int32 → Int64 → (Nat → Int32) → (Nat → Int32) → (Nat → Int32) → (Nat → Int32) → (Nat → Int32) → (Nat → Int32) → (Nat → Int32) → (Nat → Int32) → (Nat → Int32) → (Nat → Int32) → (Nat → Int32) → Int32 → Int32 → Int32 → Int64 → Option (Int32 × Int32 × Int64 × (Nat → Int32) × (Nat → Int32) × (Nat → Int32) × (Nat → Int32) × (Nat → Int32))) {fg ng : Nat} {X : k_X} {ad : Nat → Nat} (C : k_C X cX11_bestsOn RX11 9 ad) (hr : X.meth.sig.returnType = none) (hR : X.R.frames = (fg + 6) ∧ X.R.locals = (ng + 133)) {I : Nat → Nat → Int32} {L : Nat → Nat → Int64} {Rf : Nat → Nat → Option Nat} (hg : H_X11_bestsOn X.l g fg ng) {c0_25 : Int32} (ec0_25 : I 0 25 = c0_25) {c0_26 : Int32} (ec0_26 : I 0 26 = c0_26) {c0_27 : Int32} (ec0_27 : I 0 27 = c0_27) {a7 : (Nat → Int32)} (ea7 : I 7 = a7) {a8 : (Nat → Int32)} (ea8 : I 8 = a8) {a9 : (Nat → Int32)} (ea9 : I 9 = a9) {a13 : (Nat → Int32)} (ea13 : I 13 = a13) {a14 : (Nat → Int32)} (ea14 : I 14 = a14) {a15 : (Nat → Int32)} (ea15 : I 15 = a15) {out : Int32 × Int32 × Int64 × (Nat → Int32) × (Nat → Int32) × (Nat → Int32) × (Nat → Int32) × (Nat → Int32)} : ∀ (c0_56 : Int32) (c0_57 : Int32) (c0_58 : Int64) (a16 : (Nat → Int32)) (a17 : (Nat → Int32)) (a21 : (Nat → Int32)) (a23 : (Nat → Int32)) (a27 : (Nat → Int32)) (v1 : Int32) (v2 : Int32) (v3 : Int32) (v4 : Int64), bX11_bestsOn_40 u g c0_25 c0_26 c0_27 a7 a8 a9 a13 a14 a15 c0_56 c0_57 c0_58 a16 a17 a21 a23 a27 v1 v2 v3 v4 = some out → k_W X 9 0 0 (k_Q X ad none (k_ap [(0, .inl (56, out.1)), (0, .inl (57, out.2.1)), (0, .inr (.inl (58, out.2.2.1))), (16, .inr (.inr (.inl out.2.2.2.1))), (17, .inr (.inr (.inl out.2.2.2.2.1))), (21, .inr (.inr (.inl out.2.2.2.2.2.1))), (23, .inr (.inr (.inl out.2.2.2.2.2.2.1))), (27, .inr (.inr (.inl out.2.2.2.2.2.2.2)))] (shM, I, L, Rf))) ad (k_ap [(0, .inl (56, c0_56)), (0, .inl (57, c0_57)), (0, .inr (.inl (58, c0_58))), (16, .inr (.inr (.inl a16))), (17, .inr (.inr (.inl a17))), (21, .inr (.inr (.inl a21))), (23, .inr (.inr (.inl a23))), (27, .inr (.inr (.inl a27)))] (shM, I, L, Rf)) 40 [some (.ref 0), some (.int v1), some (.int v2), some (.int v3), some (.long v4), none, none, none, none] [] := by
  intro c0_56 c0_57 c0_58 a16 a17 a21 a23 a27 v1 v2 v3 v4 h
  unfold bX11_bestsOn_40 at h
  refine r_iload_n C dX11_bestsOn_40 (rfl : 40 + 1 = 41) rfl ?_
  refine r_iload_n C dX11_bestsOn_41 (rfl : 41 + 1 = 42) rfl ?_
  refine r_icmp_ne (tgt := 46) C dX11_bestsOn_42 (by decide) (rfl : 42 + 3 = 45) (fun c42 => ?_) (fun c42 => ?_)
  · have h := k_f c42 h
    refine r_iconst (v := (0 : Int32)) C dX11_bestsOn_46 (rfl : 46 + 1 = 47) rfl ?_
    refine r_istore C dX11_bestsOn_47 (rfl : 47 + 2 = 49) (by decide) (Nat.le_of_ble_eq_true rfl) ?_
    show k_W _ _ _ _ _ _ _ _ [some (.ref 0), some (.int v1), some (.int v2), some (.int v3), some (.long v4), none, some (.int (0 : Int32)), none, none] _
    refine k_mask [true, true, true, true, true, false, true, false, false] ?_
    exact sX11_bestsOn_49 u g C hr hR hg ec0_25 ec0_26 ec0_27 ea7 ea8 ea9 ea13 ea14 ea15 u c0_56 c0_57 c0_58 a16 a17 a21 a23 a27 v1 v2 v3 v4 (0 : Int32) h
  · have h := k_t c42 h
    cases h
    exact r_vret C hr dX11_bestsOn_45
set_option maxHeartbeats 400000 in
set_option maxRecDepth 100000 in
theorem sX11_bestsOn_24 (u : Nat) (g : Int32 → Int32 → Int32 → Int32 → Int32 → Int64 → (Nat → Int32) → (Nat → Int32) → (Nat → Int32) → (Nat → Int32) → (Nat → Int32) → (Nat → Int32) → (Nat → Int32) → (Nat → Int32) → (Nat → Int32) → (Nat → Int32) → (Nat → Int32) → Int32 → Int32 → Int32 → Int64 → Option (Int32 × Int32 × Int64 × (Nat → Int32) × (Nat → Int32) × (Nat → Int32) × (Nat → Int32) × (Nat → Int32))) {fg ng : Nat} {X : k_X} {ad : Nat → Nat} (C : k_C X cX11_bestsOn RX11 9 ad) (hr : X.meth.sig.returnType = none) (hR : X.R.frames = (fg + 6) ∧ X.R.locals = (ng + 133)) {I : Nat → Nat → Int32} {L : Nat → Nat → Int64} {Rf : Nat → Nat → Option Nat} (hg : H_X11_bestsOn X.l g fg ng) {c0_25 : Int32} (ec0_25 : I 0 25 = c0_25) {c0_26 : Int32} (ec0_26 : I 0 26 = c0_26) {c0_27 : Int32} (ec0_27 : I 0 27 = c0_27) {a7 : (Nat → Int32)} (ea7 : I 7 = a7) {a8 : (Nat → Int32)} (ea8 : I 8 = a8) {a9 : (Nat → Int32)} (ea9 : I 9 = a9) {a13 : (Nat → Int32)} (ea13 : I 13 = a13) {a14 : (Nat → Int32)} (ea14 : I 14 = a14) {a15 : (Nat → Int32)} (ea15 : I 15 = a15) {out : Int32 × Int32 × Int64 × (Nat → Int32) × (Nat → Int32) × (Nat → Int32) × (Nat → Int32) × (Nat → Int32)} : ∀ (c0_56 : Int32) (c0_57 : Int32) (c0_58 : Int64) (a16 : (Nat → Int32)) (a17 : (Nat → Int32)) (a21 : (Nat → Int32)) (a23 : (Nat → Int32)) (a27 : (Nat → Int32)) (v1 : Int32) (v2 : Int32) (v3 : Int32) (v4 : Int64), bX11_bestsOn_24 u g c0_25 c0_26 c0_27 a7 a8 a9 a13 a14 a15 c0_56 c0_57 c0_58 a16 a17 a21 a23 a27 v1 v2 v3 v4 = some out → k_W X 9 0 0 (k_Q X ad none (k_ap [(0, .inl (56, out.1)), (0, .inl (57, out.2.1)), (0, .inr (.inl (58, out.2.2.1))), (16, .inr (.inr (.inl out.2.2.2.1))), (17, .inr (.inr (.inl out.2.2.2.2.1))), (21, .inr (.inr (.inl out.2.2.2.2.2.1))), (23, .inr (.inr (.inl out.2.2.2.2.2.2.1))), (27, .inr (.inr (.inl out.2.2.2.2.2.2.2)))] (shM, I, L, Rf))) ad (k_ap [(0, .inl (56, c0_56)), (0, .inl (57, c0_57)), (0, .inr (.inl (58, c0_58))), (16, .inr (.inr (.inl a16))), (17, .inr (.inr (.inl a17))), (21, .inr (.inr (.inl a21))), (23, .inr (.inr (.inl a23))), (27, .inr (.inr (.inl a27)))] (shM, I, L, Rf)) 24 [some (.ref 0), some (.int v1), some (.int v2), some (.int v3), some (.long v4), none, none, none, none] [] := by
  intro c0_56 c0_57 c0_58 a16 a17 a21 a23 a27 v1 v2 v3 v4 h
  unfold bX11_bestsOn_24 at h
  refine r_aload_n C dX11_bestsOn_24 (rfl : 24 + 1 = 25) rfl ?_
  refine r_iload_n C dX11_bestsOn_25 (rfl : 25 + 1 = 26) rfl ?_
  refine p_I (us' := [(0, .inl (56, v3)), (0, .inl (57, c0_57)), (0, .inr (.inl (58, c0_58))), (16, .inr (.inr (.inl a16))), (17, .inr (.inr (.inl a17))), (21, .inr (.inr (.inl a21))), (23, .inr (.inr (.inl a23))), (27, .inr (.inr (.inl a27)))]) C dX11_bestsOn_26 (rfl : 26 + 3 = 29) fp_X11_421 rfl rfl ds_X11_bestsOn rfl rfl rfl ?_
  refine r_aload_n C dX11_bestsOn_29 (rfl : 29 + 1 = 30) rfl ?_
  refine r_iload_n C dX11_bestsOn_30 (rfl : 30 + 1 = 31) rfl ?_
  refine p_I (us' := [(0, .inl (56, v3)), (0, .inl (57, v1)), (0, .inr (.inl (58, c0_58))), (16, .inr (.inr (.inl a16))), (17, .inr (.inr (.inl a17))), (21, .inr (.inr (.inl a21))), (23, .inr (.inr (.inl a23))), (27, .inr (.inr (.inl a27)))]) C dX11_bestsOn_31 (rfl : 31 + 3 = 34) fp_X11_424 rfl rfl ds_X11_bestsOn rfl rfl rfl ?_
  refine r_aload_n C dX11_bestsOn_34 (rfl : 34 + 1 = 35) rfl ?_
  refine r_lload C dX11_bestsOn_35 (rfl : 35 + 2 = 37) rfl ?_
  refine p_L (us' := [(0, .inl (56, v3)), (0, .inl (57, v1)), (0, .inr (.inl (58, v4))), (16, .inr (.inr (.inl a16))), (17, .inr (.inr (.inl a17))), (21, .inr (.inr (.inl a21))), (23, .inr (.inr (.inl a23))), (27, .inr (.inr (.inl a27)))]) C dX11_bestsOn_37 (rfl : 37 + 3 = 40) fp_X11_427 rfl rfl ds_X11_bestsOn rfl rfl rfl ?_
  refine k_mask [true, true, true, true, true, false, false, false, false] ?_
  exact sX11_bestsOn_40 u g C hr hR hg ec0_25 ec0_26 ec0_27 ea7 ea8 ea9 ea13 ea14 ea15 v3 v1 v4 a16 a17 a21 a23 a27 v1 v2 v3 v4 h
set_option maxHeartbeats 400000 in
set_option maxRecDepth 100000 in
theorem sX11_bestsOn_0 (u : Nat) (g : Int32 → Int32 → Int32 → Int32 → Int32 → Int64 → (Nat → Int32) → (Nat → Int32) → (Nat → Int32) → (Nat → Int32) → (Nat → Int32) → (Nat → Int32) → (Nat → Int32) → (Nat → Int32) → (Nat → Int32) → (Nat → Int32) → (Nat → Int32) → Int32 → Int32 → Int32 → Int64 → Option (Int32 × Int32 × Int64 × (Nat → Int32) × (Nat → Int32) × (Nat → Int32) × (Nat → Int32) × (Nat → Int32))) {fg ng : Nat} {X : k_X} {ad : Nat → Nat} (C : k_C X cX11_bestsOn RX11 9 ad) (hr : X.meth.sig.returnType = none) (hR : X.R.frames = (fg + 6) ∧ X.R.locals = (ng + 133)) {I : Nat → Nat → Int32} {L : Nat → Nat → Int64} {Rf : Nat → Nat → Option Nat} (hg : H_X11_bestsOn X.l g fg ng) {c0_25 : Int32} (ec0_25 : I 0 25 = c0_25) {c0_26 : Int32} (ec0_26 : I 0 26 = c0_26) {c0_27 : Int32} (ec0_27 : I 0 27 = c0_27) {a7 : (Nat → Int32)} (ea7 : I 7 = a7) {a8 : (Nat → Int32)} (ea8 : I 8 = a8) {a9 : (Nat → Int32)} (ea9 : I 9 = a9) {a13 : (Nat → Int32)} (ea13 : I 13 = a13) {a14 : (Nat → Int32)} (ea14 : I 14 = a14) {a15 : (Nat → Int32)} (ea15 : I 15 = a15) {out : Int32 × Int32 × Int64 × (Nat → Int32) × (Nat → Int32) × (Nat → Int32) × (Nat → Int32) × (Nat → Int32)} : ∀ (c0_56 : Int32) (c0_57 : Int32) (c0_58 : Int64) (a16 : (Nat → Int32)) (a17 : (Nat → Int32)) (a21 : (Nat → Int32)) (a23 : (Nat → Int32)) (a27 : (Nat → Int32)) (v1 : Int32) (v2 : Int32) (v3 : Int32) (v4 : Int64), bX11_bestsOn_0 u g c0_25 c0_26 c0_27 a7 a8 a9 a13 a14 a15 c0_56 c0_57 c0_58 a16 a17 a21 a23 a27 v1 v2 v3 v4 = some out → k_W X 9 0 0 (k_Q X ad none (k_ap [(0, .inl (56, out.1)), (0, .inl (57, out.2.1)), (0, .inr (.inl (58, out.2.2.1))), (16, .inr (.inr (.inl out.2.2.2.1))), (17, .inr (.inr (.inl out.2.2.2.2.1))), (21, .inr (.inr (.inl out.2.2.2.2.2.1))), (23, .inr (.inr (.inl out.2.2.2.2.2.2.1))), (27, .inr (.inr (.inl out.2.2.2.2.2.2.2)))] (shM, I, L, Rf))) ad (k_ap [(0, .inl (56, c0_56)), (0, .inl (57, c0_57)), (0, .inr (.inl (58, c0_58))), (16, .inr (.inr (.inl a16))), (17, .inr (.inr (.inl a17))), (21, .inr (.inr (.inl a21))), (23, .inr (.inr (.inl a23))), (27, .inr (.inr (.inl a27)))] (shM, I, L, Rf)) 0 [some (.ref 0), some (.int v1), some (.int v2), some (.int v3), some (.long v4), none, none, none, none] [] := by
  intro c0_56 c0_57 c0_58 a16 a17 a21 a23 a27 v1 v2 v3 v4 h
  unfold bX11_bestsOn_0 at h
  refine r_iload_n C dX11_bestsOn_0 (rfl : 0 + 1 = 1) rfl ?_
  refine r_aload_n C dX11_bestsOn_1 (rfl : 1 + 1 = 2) rfl ?_
  refine r_getI (v := c0_56) C dX11_bestsOn_2 (rfl : 2 + 3 = 5) fl_X11_421 rfl rfl rfl ?_
  refine r_icmp_gt (tgt := 24) C dX11_bestsOn_5 (by decide) (rfl : 5 + 3 = 8) (fun c5 => ?_) (fun c5 => ?_)
  · have h := k_t c5 h
    refine k_mask [true, true, true, true, true, false, false, false, false] ?_
    exact sX11_bestsOn_24 u g C hr hR hg ec0_25 ec0_26 ec0_27 ea7 ea8 ea9 ea13 ea14 ea15 c0_56 c0_57 c0_58 a16 a17 a21 a23 a27 v1 v2 v3 v4 h
  · have h := k_f c5 h
    refine r_iload_n C dX11_bestsOn_8 (rfl : 8 + 1 = 9) rfl ?_
    refine r_aload_n C dX11_bestsOn_9 (rfl : 9 + 1 = 10) rfl ?_
    refine r_getI (v := c0_56) C dX11_bestsOn_10 (rfl : 10 + 3 = 13) fl_X11_421 rfl rfl rfl ?_
    refine r_icmp_ne (tgt := 40) C dX11_bestsOn_13 (by decide) (rfl : 13 + 3 = 16) (fun c13 => ?_) (fun c13 => ?_)
    · have h := k_f c13 h
      refine k_mask [true, true, true, true, true, false, false, false, false] ?_
      exact sX11_bestsOn_40 u g C hr hR hg ec0_25 ec0_26 ec0_27 ea7 ea8 ea9 ea13 ea14 ea15 c0_56 c0_57 c0_58 a16 a17 a21 a23 a27 v1 v2 v3 v4 h
    · have h := k_t c13 h
      refine r_iload_n C dX11_bestsOn_16 (rfl : 16 + 1 = 17) rfl ?_
      refine r_aload_n C dX11_bestsOn_17 (rfl : 17 + 1 = 18) rfl ?_
      refine r_getI (v := c0_57) C dX11_bestsOn_18 (rfl : 18 + 3 = 21) fl_X11_424 rfl rfl rfl ?_
      refine r_icmp_ge (tgt := 40) C dX11_bestsOn_21 (by decide) (rfl : 21 + 3 = 24) (fun c21 => ?_) (fun c21 => ?_)
      · have h := k_t c21 h
        refine k_mask [true, true, true, true, true, false, false, false, false] ?_
        exact sX11_bestsOn_40 u g C hr hR hg ec0_25 ec0_26 ec0_27 ea7 ea8 ea9 ea13 ea14 ea15 c0_56 c0_57 c0_58 a16 a17 a21 a23 a27 v1 v2 v3 v4 h
      · have h := k_f c21 h
        refine k_mask [true, true, true, true, true, false, false, false, false] ?_
        exact sX11_bestsOn_24 u g C hr hR hg ec0_25 ec0_26 ec0_27 ea7 ea8 ea9 ea13 ea14 ea15 c0_56 c0_57 c0_58 a16 a17 a21 a23 a27 v1 v2 v3 v4 h
set_option maxHeartbeats 400000 in
set_option maxRecDepth 100000 in
theorem c_X11_bestsOn (l : Launch) (u : Nat) (g : Int32 → Int32 → Int32 → Int32 → Int32 → Int64 → (Nat → Int32) → (Nat → Int32) → (Nat → Int32) → (Nat → Int32) → (Nat → Int32) → (Nat → Int32) → (Nat → Int32) → (Nat → Int32) → (Nat → Int32) → (Nat → Int32) → (Nat → Int32) → Int32 → Int32 → Int32 → Int64 → Option (Int32 × Int32 × Int64 × (Nat → Int32) × (Nat → Int32) × (Nat → Int32) × (Nat → Int32) × (Nat → Int32))) {fg ng : Nat} (hg : H_X11_bestsOn l g fg ng) (h : k_H) (hsh : h.1 = shM) {c0_25 : Int32} (ec0_25 : h.2.1 0 25 = c0_25) {c0_26 : Int32} (ec0_26 : h.2.1 0 26 = c0_26) {c0_27 : Int32} (ec0_27 : h.2.1 0 27 = c0_27) {c0_56 : Int32} (ec0_56 : h.2.1 0 56 = c0_56) {c0_57 : Int32} (ec0_57 : h.2.1 0 57 = c0_57) {c0_58 : Int64} (ec0_58 : h.2.2.1 0 58 = c0_58) {a7 : (Nat → Int32)} (ea7 : h.2.1 7 = a7) {a8 : (Nat → Int32)} (ea8 : h.2.1 8 = a8) {a9 : (Nat → Int32)} (ea9 : h.2.1 9 = a9) {a13 : (Nat → Int32)} (ea13 : h.2.1 13 = a13) {a14 : (Nat → Int32)} (ea14 : h.2.1 14 = a14) {a15 : (Nat → Int32)} (ea15 : h.2.1 15 = a15) {a16 : (Nat → Int32)} (ea16 : h.2.1 16 = a16) {a17 : (Nat → Int32)} (ea17 : h.2.1 17 = a17) {a21 : (Nat → Int32)} (ea21 : h.2.1 21 = a21) {a23 : (Nat → Int32)} (ea23 : h.2.1 23 = a23) {a27 : (Nat → Int32)} (ea27 : h.2.1 27 = a27) {x0 : Int32} {x1 : Int32} {x2 : Int32} {x3 : Int64} {out : Int32 × Int32 × Int64 × (Nat → Int32) × (Nat → Int32) × (Nat → Int32) × (Nat → Int32) × (Nat → Int32)} (hf : f_X11_bestsOn u g c0_25 c0_26 c0_27 c0_56 c0_57 c0_58 a7 a8 a9 a13 a14 a15 a16 a17 a21 a23 a27 x0 x1 x2 x3 = some out) : k_CT l yX11_bestsOn cX11_bestsOn 9 none (fg + 6) (ng + 133) [.ref 0, .int x0, .int x1, .int x2, .long x3] h none [(0, .inl (56, out.1)), (0, .inl (57, out.2.1)), (0, .inr (.inl (58, out.2.2.1))), (16, .inr (.inr (.inl out.2.2.2.1))), (17, .inr (.inr (.inl out.2.2.2.2.1))), (21, .inr (.inr (.inl out.2.2.2.2.2.1))), (23, .inr (.inr (.inl out.2.2.2.2.2.2.1))), (27, .inr (.inr (.inl out.2.2.2.2.2.2.2)))] := by
  obtain ⟨sh, I, L, Rf⟩ := h
  try dsimp only
  obtain rfl : sh = shM := hsh
  refine k_ofW (by decide) (Nat.le_of_ble_eq_true rfl) ?_
  intro X ad hl hR0 hr C
  have hg : H_X11_bestsOn X.l g fg ng := by rw [hl]; exact hg
  have hR : X.R.frames = (fg + 6) ∧ X.R.locals = (ng + 133) := by rw [hR0]; exact ⟨rfl, rfl⟩
  have h := hf
  unfold f_X11_bestsOn at h
  refine k_start (us := [(0, .inl (56, c0_56)), (0, .inl (57, c0_57)), (0, .inr (.inl (58, c0_58))), (16, .inr (.inr (.inl a16))), (17, .inr (.inr (.inl a17))), (21, .inr (.inr (.inl a21))), (23, .inr (.inr (.inl a23))), (27, .inr (.inr (.inl a27)))]) (k_ao_I ec0_56 (k_ao_I ec0_57 (k_ao_L ec0_58 (k_ao_A ea16 (k_ao_A ea17 (k_ao_A ea21 (k_ao_A ea23 (k_ao_A ea27 k_ap_0)))))))) ?_
  show k_W X 9 0 0 _ ad (k_ap [(0, .inl (56, c0_56)), (0, .inl (57, c0_57)), (0, .inr (.inl (58, c0_58))), (16, .inr (.inr (.inl a16))), (17, .inr (.inr (.inl a17))), (21, .inr (.inr (.inl a21))), (23, .inr (.inr (.inl a23))), (27, .inr (.inr (.inl a27)))] (shM, I, L, Rf)) 0 [some (.ref 0), some (.int x0), some (.int x1), some (.int x2), some (.long x3), none, none, none, none] []
  refine k_mask [true, true, true, true, true, false, false, false, false] ?_
  exact sX11_bestsOn_0 u g C hr hR hg ec0_25 ec0_26 ec0_27 ea7 ea8 ea9 ea13 ea14 ea15 c0_56 c0_57 c0_58 a16 a17 a21 a23 a27 x0 x1 x2 x3 h
theorem c_X11_bestsOn_r (l : Launch) (u : Nat) : ∀ d : Nat, H_X11_bestsOn l (f_X11_bestsOn_r u d) (6 * d) (133 * d)
  | 0 => by
    intro h hsh
    intros
    rename_i hf
    cases hf
  | d + 1 => by
    intro h hsh
    intros
    rename_i hf
    exact c_X11_bestsOn l u (f_X11_bestsOn_r u d) (c_X11_bestsOn_r l u d) h hsh (by assumption) (by assumption) (by assumption) (by assumption) (by assumption) (by assumption) (by assumption) (by assumption) (by assumption) (by assumption) (by assumption) (by assumption) (by assumption) (by assumption) (by assumption) (by assumption) (by assumption) hf
def H_X11_holdsOn (l : Launch) (g : Int32 → Int32 → (Nat → Int32) → (Nat → Int32) → (Nat → Int32) → (Nat → Int32) → (Nat → Int32) → (Nat → Int32) → (Nat → Int32) → (Nat → Int32) → (Nat → Int32) → Int32 → Int32 → Int64 → Option (Int64 × (Nat → Int32) × (Nat → Int32) × (Nat → Int32) × (Nat → Int32))) (fg ng : Nat) : Prop := ∀ (h : k_H) (hsh : h.1 = shM) {c0_25 : Int32} (ec0_25 : h.2.1 0 25 = c0_25) {c0_26 : Int32} (ec0_26 : h.2.1 0 26 = c0_26) {a7 : (Nat → Int32)} (ea7 : h.2.1 7 = a7) {a8 : (Nat → Int32)} (ea8 : h.2.1 8 = a8) {a13 : (Nat → Int32)} (ea13 : h.2.1 13 = a13) {a14 : (Nat → Int32)} (ea14 : h.2.1 14 = a14) {a15 : (Nat → Int32)} (ea15 : h.2.1 15 = a15) {a16 : (Nat → Int32)} (ea16 : h.2.1 16 = a16) {a17 : (Nat → Int32)} (ea17 : h.2.1 17 = a17) {a21 : (Nat → Int32)} (ea21 : h.2.1 21 = a21) {a23 : (Nat → Int32)} (ea23 : h.2.1 23 = a23) {x0 : Int32} {x1 : Int32} {x2 : Int64} {out : Int64 × (Nat → Int32) × (Nat → Int32) × (Nat → Int32) × (Nat → Int32)} (hf : g c0_25 c0_26 a7 a8 a13 a14 a15 a16 a17 a21 a23 x0 x1 x2 = some out), k_CT l yX11_holdsOn cX11_holdsOn 8 (some .long) fg ng [.ref 0, .int x0, .int x1, .long x2] h (some (.long out.1)) [(16, .inr (.inr (.inl out.2.1))), (17, .inr (.inr (.inl out.2.2.1))), (21, .inr (.inr (.inl out.2.2.2.1))), (23, .inr (.inr (.inl out.2.2.2.2)))]
