/-! LullabyPitModel.book(I)I -/
theorem ds_X11_book : k_ds [(0, 0, 0), (0, 0, 2), (0, 0, 3), (0, 0, 4), (0, 0, 5), (0, 0, 6), (0, 0, 7), (0, 0, 8), (0, 0, 54), (1, 2, 0), (25, 2, 0), (26, 2, 0)] = true := by decide +kernel
set_option maxHeartbeats 400000 in
set_option maxRecDepth 100000 in
theorem sX11_book_181 (u : Nat) {X : k_X} {ad : Nat → Nat} (C : k_C X cX11_book RX11 7 ad) (hr : X.meth.sig.returnType = (some .int)) (hR : X.R.frames = 2 ∧ X.R.locals = 47) {I : Nat → Nat → Int32} {L : Nat → Nat → Int64} {Rf : Nat → Nat → Option Nat} {a2 : (Nat → Int32)} (ea2 : I 2 = a2) {out : Int32 × Int32 × Int32 × Int32 × Int32 × Int32 × Int32 × Int32 × Int32 × Int32 × (Nat → Int32) × (Nat → Int32) × (Nat → Int32)} : ∀ (c0_0 : Int32) (c0_2 : Int32) (c0_3 : Int32) (c0_4 : Int32) (c0_5 : Int32) (c0_6 : Int32) (c0_7 : Int32) (c0_8 : Int32) (c0_54 : Int32) (a1 : (Nat → Int32)) (a25 : (Nat → Int32)) (a26 : (Nat → Int32)) (v2 : Int32), bX11_book_181 u a2 c0_0 c0_2 c0_3 c0_4 c0_5 c0_6 c0_7 c0_8 c0_54 a1 a25 a26 v2 = some out → k_W X 7 0 0 (k_Q X ad (some (.int out.1)) (k_ap [(0, .inl (0, out.2.1)), (0, .inl (2, out.2.2.1)), (0, .inl (3, out.2.2.2.1)), (0, .inl (4, out.2.2.2.2.1)), (0, .inl (5, out.2.2.2.2.2.1)), (0, .inl (6, out.2.2.2.2.2.2.1)), (0, .inl (7, out.2.2.2.2.2.2.2.1)), (0, .inl (8, out.2.2.2.2.2.2.2.2.1)), (0, .inl (54, out.2.2.2.2.2.2.2.2.2.1)), (1, .inr (.inr (.inl out.2.2.2.2.2.2.2.2.2.2.1))), (25, .inr (.inr (.inl out.2.2.2.2.2.2.2.2.2.2.2.1))), (26, .inr (.inr (.inl out.2.2.2.2.2.2.2.2.2.2.2.2)))] (shM, I, L, Rf))) ad (k_ap [(0, .inl (0, c0_0)), (0, .inl (2, c0_2)), (0, .inl (3, c0_3)), (0, .inl (4, c0_4)), (0, .inl (5, c0_5)), (0, .inl (6, c0_6)), (0, .inl (7, c0_7)), (0, .inl (8, c0_8)), (0, .inl (54, c0_54)), (1, .inr (.inr (.inl a1))), (25, .inr (.inr (.inl a25))), (26, .inr (.inr (.inl a26)))] (shM, I, L, Rf)) 181 [some (.ref 0), none, some (.int v2), none, none, none, none] [] := by
  intro c0_0 c0_2 c0_3 c0_4 c0_5 c0_6 c0_7 c0_8 c0_54 a1 a25 a26 v2 h
  unfold bX11_book_181 at h
  refine r_aload_n C dX11_book_181 (rfl : 181 + 1 = 182) rfl ?_
  refine r_iload_n C dX11_book_182 (rfl : 182 + 1 = 183) rfl ?_
  obtain ⟨r183, q183, h⟩ := k_b_of h
  refine d_V (As := [.int v2]) (st := []) (st' := [.int r183.1]) (h' := k_ap [(0, .inl (0, c0_0)), (0, .inl (2, c0_2)), (0, .inl (3, c0_3)), (0, .inl (4, c0_4)), (0, .inl (5, c0_5)), (0, .inl (6, c0_6)), (0, .inl (7, c0_7)), (0, .inl (8, r183.2)), (0, .inl (54, c0_54)), (1, .inr (.inr (.inl a1))), (25, .inr (.inr (.inl a25))), (26, .inr (.inr (.inl a26)))] (shM, I, L, Rf)) C hR ⟨Nat.zero_le _, Nat.zero_le _⟩ mv_X11_result lk_X11_272 dX11_book_183 (rfl : 183 + 3 = 186) rfl rfl rfl rfl (c_X11_result X.l u (k_ap [(0, .inl (0, c0_0)), (0, .inl (2, c0_2)), (0, .inl (3, c0_3)), (0, .inl (4, c0_4)), (0, .inl (5, c0_5)), (0, .inl (6, c0_6)), (0, .inl (7, c0_7)), (0, .inl (8, c0_8)), (0, .inl (54, c0_54)), (1, .inr (.inr (.inl a1))), (25, .inr (.inr (.inl a25))), (26, .inr (.inr (.inl a26)))] (shM, I, L, Rf)) rfl rfl rfl rfl q183) rfl rfl rfl (k_jn (us' := [(0, .inl (0, c0_0)), (0, .inl (2, c0_2)), (0, .inl (3, c0_3)), (0, .inl (4, c0_4)), (0, .inl (5, c0_5)), (0, .inl (6, c0_6)), (0, .inl (7, c0_7)), (0, .inl (8, r183.2)), (0, .inl (54, c0_54)), (1, .inr (.inr (.inl a1))), (25, .inr (.inr (.inl a25))), (26, .inr (.inr (.inl a26)))]) ds_X11_book rfl rfl rfl) rfl ?_
  refine r_istore C dX11_book_186 (rfl : 186 + 2 = 188) (by decide) (Nat.le_of_ble_eq_true rfl) ?_
  show k_W _ _ _ _ _ _ _ _ [some (.ref 0), none, some (.int v2), none, some (.int r183.1), none, none] _
  refine r_aload_n C dX11_book_188 (rfl : 188 + 1 = 189) rfl ?_
  refine r_getI (v := c0_5) C dX11_book_189 (rfl : 189 + 3 = 192) fl_X11_121 rfl rfl rfl ?_
  refine r_iconst (v := (-1 : Int32)) C dX11_book_192 (rfl : 192 + 1 = 193) rfl ?_
  refine r_icmp_eq (tgt := 199) C dX11_book_193 (by decide) (rfl : 193 + 3 = 196) (fun c193 => ?_) (fun c193 => ?_)
  · have h := k_t c193 h
    refine r_aload_n C dX11_book_199 (rfl : 199 + 1 = 200) rfl ?_
    refine r_iload_n C dX11_book_200 (rfl : 200 + 1 = 201) rfl ?_
    refine p_I (us' := [(0, .inl (0, c0_0)), (0, .inl (2, c0_2)), (0, .inl (3, c0_3)), (0, .inl (4, c0_4)), (0, .inl (5, c0_5)), (0, .inl (6, c0_6)), (0, .inl (7, c0_7)), (0, .inl (8, r183.2)), (0, .inl (54, v2)), (1, .inr (.inr (.inl a1))), (25, .inr (.inr (.inl a25))), (26, .inr (.inr (.inl a26)))]) C dX11_book_201 (rfl : 201 + 3 = 204) fp_X11_206 rfl rfl ds_X11_book rfl rfl rfl ?_
    refine r_aload_n C dX11_book_204 (rfl : 204 + 1 = 205) rfl ?_
    refine r_aload_n C dX11_book_205 (rfl : 205 + 1 = 206) rfl ?_
    refine r_getR (q := 25) C dX11_book_206 (rfl : 206 + 3 = 209) fl_X11_90 rfl rfl ?_
    refine r_aload_n C dX11_book_209 (rfl : 209 + 1 = 210) rfl ?_
    refine r_getR (q := 26) C dX11_book_210 (rfl : 210 + 3 = 213) fl_X11_93 rfl rfl ?_
    refine r_iconst (v := (2 : Int32)) C dX11_book_213 (rfl : 213 + 1 = 214) rfl ?_
    refine r_iload_n C dX11_book_214 (rfl : 214 + 1 = 215) rfl ?_
    refine r_imul C dX11_book_215 (rfl : 215 + 1 = 216) ?_
    obtain ⟨r216, q216, h⟩ := k_b_of h
    refine d_V (As := [.ref 25, .ref 26, .int ((2 : Int32) * v2)]) (st := []) (st' := []) (h' := k_ap [(0, .inl (0, c0_0)), (0, .inl (2, c0_2)), (0, .inl (3, c0_3)), (0, .inl (4, c0_4)), (0, .inl (5, c0_5)), (0, .inl (6, c0_6)), (0, .inl (7, c0_7)), (0, .inl (8, r183.2)), (0, .inl (54, v2)), (1, .inr (.inr (.inl a1))), (25, .inr (.inr (.inl a25))), (26, .inr (.inr (.inl r216)))] (shM, I, L, Rf)) C hR ⟨Nat.zero_le _, Nat.zero_le _⟩ mv_X11_copies lk_X11_202 dX11_book_216 (rfl : 216 + 3 = 219) rfl rfl rfl rfl (c_X11_copies_25_26 X.l u (k_ap [(0, .inl (0, c0_0)), (0, .inl (2, c0_2)), (0, .inl (3, c0_3)), (0, .inl (4, c0_4)), (0, .inl (5, c0_5)), (0, .inl (6, c0_6)), (0, .inl (7, c0_7)), (0, .inl (8, r183.2)), (0, .inl (54, v2)), (1, .inr (.inr (.inl a1))), (25, .inr (.inr (.inl a25))), (26, .inr (.inr (.inl a26)))] (shM, I, L, Rf)) rfl rfl rfl q216) rfl rfl rfl (k_jn (us' := [(0, .inl (0, c0_0)), (0, .inl (2, c0_2)), (0, .inl (3, c0_3)), (0, .inl (4, c0_4)), (0, .inl (5, c0_5)), (0, .inl (6, c0_6)), (0, .inl (7, c0_7)), (0, .inl (8, r183.2)), (0, .inl (54, v2)), (1, .inr (.inr (.inl a1))), (25, .inr (.inr (.inl a25))), (26, .inr (.inr (.inl r216)))]) ds_X11_book rfl rfl rfl) rfl ?_
    refine r_iload C dX11_book_219 (rfl : 219 + 2 = 221) rfl ?_
    cases h
    exact r_iret C hr dX11_book_221
  · have h := k_f c193 h
    refine r_iload C dX11_book_196 (rfl : 196 + 2 = 198) rfl ?_
    cases h
    exact r_iret C hr dX11_book_198
set_option maxHeartbeats 400000 in
set_option maxRecDepth 100000 in
theorem sX11_book_121 (u : Nat) {X : k_X} {ad : Nat → Nat} (C : k_C X cX11_book RX11 7 ad) (hr : X.meth.sig.returnType = (some .int)) (hR : X.R.frames = 2 ∧ X.R.locals = 47) {I : Nat → Nat → Int32} {L : Nat → Nat → Int64} {Rf : Nat → Nat → Option Nat} {a2 : (Nat → Int32)} (ea2 : I 2 = a2) {out : Int32 × Int32 × Int32 × Int32 × Int32 × Int32 × Int32 × Int32 × Int32 × Int32 × (Nat → Int32) × (Nat → Int32) × (Nat → Int32)} {k48 : Int32 → Int32 → Int32 → Int32 → Int32 → Int32 → Int32 → Int32 → Int32 → (Nat → Int32) → (Nat → Int32) → (Nat → Int32) → Int32 → Int32 → Option (Int32 × Int32 × Int32 × Int32 × Int32 × Int32 × Int32 × Int32 × Int32 × Int32 × (Nat → Int32) × (Nat → Int32) × (Nat → Int32))} (hk48 : ∀ (c0_0 : Int32) (c0_2 : Int32) (c0_3 : Int32) (c0_4 : Int32) (c0_5 : Int32) (c0_6 : Int32) (c0_7 : Int32) (c0_8 : Int32) (c0_54 : Int32) (a1 : (Nat → Int32)) (a25 : (Nat → Int32)) (a26 : (Nat → Int32)) (v2 : Int32) (v3 : Int32), k48 c0_0 c0_2 c0_3 c0_4 c0_5 c0_6 c0_7 c0_8 c0_54 a1 a25 a26 v2 v3 = some out → k_W X 7 0 0 (k_Q X ad (some (.int out.1)) (k_ap [(0, .inl (0, out.2.1)), (0, .inl (2, out.2.2.1)), (0, .inl (3, out.2.2.2.1)), (0, .inl (4, out.2.2.2.2.1)), (0, .inl (5, out.2.2.2.2.2.1)), (0, .inl (6, out.2.2.2.2.2.2.1)), (0, .inl (7, out.2.2.2.2.2.2.2.1)), (0, .inl (8, out.2.2.2.2.2.2.2.2.1)), (0, .inl (54, out.2.2.2.2.2.2.2.2.2.1)), (1, .inr (.inr (.inl out.2.2.2.2.2.2.2.2.2.2.1))), (25, .inr (.inr (.inl out.2.2.2.2.2.2.2.2.2.2.2.1))), (26, .inr (.inr (.inl out.2.2.2.2.2.2.2.2.2.2.2.2)))] (shM, I, L, Rf))) ad (k_ap [(0, .inl (0, c0_0)), (0, .inl (2, c0_2)), (0, .inl (3, c0_3)), (0, .inl (4, c0_4)), (0, .inl (5, c0_5)), (0, .inl (6, c0_6)), (0, .inl (7, c0_7)), (0, .inl (8, c0_8)), (0, .inl (54, c0_54)), (1, .inr (.inr (.inl a1))), (25, .inr (.inr (.inl a25))), (26, .inr (.inr (.inl a26)))] (shM, I, L, Rf)) 48 [some (.ref 0), none, some (.int v2), some (.int v3), none, none, none] []) : ∀ (c0_0 : Int32) (c0_2 : Int32) (c0_3 : Int32) (c0_4 : Int32) (c0_5 : Int32) (c0_6 : Int32) (c0_7 : Int32) (c0_8 : Int32) (c0_54 : Int32) (a1 : (Nat → Int32)) (a25 : (Nat → Int32)) (a26 : (Nat → Int32)) (v2 : Int32) (v3 : Int32) (v5 : Int32), bX11_book_121 u a2 k48 c0_0 c0_2 c0_3 c0_4 c0_5 c0_6 c0_7 c0_8 c0_54 a1 a25 a26 v2 v3 v5 = some out → k_W X 7 0 0 (k_Q X ad (some (.int out.1)) (k_ap [(0, .inl (0, out.2.1)), (0, .inl (2, out.2.2.1)), (0, .inl (3, out.2.2.2.1)), (0, .inl (4, out.2.2.2.2.1)), (0, .inl (5, out.2.2.2.2.2.1)), (0, .inl (6, out.2.2.2.2.2.2.1)), (0, .inl (7, out.2.2.2.2.2.2.2.1)), (0, .inl (8, out.2.2.2.2.2.2.2.2.1)), (0, .inl (54, out.2.2.2.2.2.2.2.2.2.1)), (1, .inr (.inr (.inl out.2.2.2.2.2.2.2.2.2.2.1))), (25, .inr (.inr (.inl out.2.2.2.2.2.2.2.2.2.2.2.1))), (26, .inr (.inr (.inl out.2.2.2.2.2.2.2.2.2.2.2.2)))] (shM, I, L, Rf))) ad (k_ap [(0, .inl (0, c0_0)), (0, .inl (2, c0_2)), (0, .inl (3, c0_3)), (0, .inl (4, c0_4)), (0, .inl (5, c0_5)), (0, .inl (6, c0_6)), (0, .inl (7, c0_7)), (0, .inl (8, c0_8)), (0, .inl (54, c0_54)), (1, .inr (.inr (.inl a1))), (25, .inr (.inr (.inl a25))), (26, .inr (.inr (.inl a26)))] (shM, I, L, Rf)) 121 [some (.ref 0), none, some (.int v2), some (.int v3), none, some (.int v5), none] [] := by
  intro c0_0 c0_2 c0_3 c0_4 c0_5 c0_6 c0_7 c0_8 c0_54 a1 a25 a26 v2 v3 v5 h
  unfold bX11_book_121 at h
  refine r_aload_n C dX11_book_121 (rfl : 121 + 1 = 122) rfl ?_
  refine r_iconst (v := (0 : Int32)) C dX11_book_122 (rfl : 122 + 1 = 123) rfl ?_
  refine r_bipush (v := (6 : Int32)) C dX11_book_123 (rfl : 123 + 2 = 125) rfl ?_
  obtain ⟨r125, q125, h⟩ := k_b_of h
  refine d_V (As := [.int (0 : Int32), .int (6 : Int32)]) (st := []) (st' := [.int r125.1]) (h' := k_ap [(0, .inl (0, c0_0)), (0, .inl (2, c0_2)), (0, .inl (3, c0_3)), (0, .inl (4, r125.2.1)), (0, .inl (5, r125.2.2.1)), (0, .inl (6, r125.2.2.2)), (0, .inl (7, c0_7)), (0, .inl (8, c0_8)), (0, .inl (54, c0_54)), (1, .inr (.inr (.inl a1))), (25, .inr (.inr (.inl a25))), (26, .inr (.inr (.inl a26)))] (shM, I, L, Rf)) C hR ⟨Nat.zero_le _, Nat.zero_le _⟩ mv_X11_readNumber lk_X11_218 dX11_book_125 (rfl : 125 + 3 = 128) rfl rfl rfl rfl (c_X11_readNumber X.l u (k_ap [(0, .inl (0, c0_0)), (0, .inl (2, c0_2)), (0, .inl (3, c0_3)), (0, .inl (4, c0_4)), (0, .inl (5, c0_5)), (0, .inl (6, c0_6)), (0, .inl (7, c0_7)), (0, .inl (8, c0_8)), (0, .inl (54, c0_54)), (1, .inr (.inr (.inl a1))), (25, .inr (.inr (.inl a25))), (26, .inr (.inr (.inl a26)))] (shM, I, L, Rf)) rfl rfl rfl rfl rfl ea2 q125) rfl rfl rfl (k_jn (us' := [(0, .inl (0, c0_0)), (0, .inl (2, c0_2)), (0, .inl (3, c0_3)), (0, .inl (4, r125.2.1)), (0, .inl (5, r125.2.2.1)), (0, .inl (6, r125.2.2.2)), (0, .inl (7, c0_7)), (0, .inl (8, c0_8)), (0, .inl (54, c0_54)), (1, .inr (.inr (.inl a1))), (25, .inr (.inr (.inl a25))), (26, .inr (.inr (.inl a26)))]) ds_X11_book rfl rfl rfl) rfl ?_
  refine r_istore C dX11_book_128 (rfl : 128 + 2 = 130) (by decide) (Nat.le_of_ble_eq_true rfl) ?_
  show k_W _ _ _ _ _ _ _ _ [some (.ref 0), none, some (.int v2), some (.int v3), none, some (.int v5), some (.int r125.1)] _
  refine r_aload_n C dX11_book_130 (rfl : 130 + 1 = 131) rfl ?_
  refine r_bipush (v := (59 : Int32)) C dX11_book_131 (rfl : 131 + 2 = 133) rfl ?_
  obtain ⟨r133, q133, h⟩ := k_b_of h
  refine d_V (As := [.int (59 : Int32)]) (st := []) (st' := []) (h' := k_ap [(0, .inl (0, c0_0)), (0, .inl (2, c0_2)), (0, .inl (3, c0_3)), (0, .inl (4, r133.1)), (0, .inl (5, r133.2.1)), (0, .inl (6, r133.2.2)), (0, .inl (7, c0_7)), (0, .inl (8, c0_8)), (0, .inl (54, c0_54)), (1, .inr (.inr (.inl a1))), (25, .inr (.inr (.inl a25))), (26, .inr (.inr (.inl a26)))] (shM, I, L, Rf)) C hR ⟨Nat.zero_le _, Nat.zero_le _⟩ mv_X11_sign lk_X11_269 dX11_book_133 (rfl : 133 + 3 = 136) rfl rfl rfl rfl (c_X11_sign X.l u (k_ap [(0, .inl (0, c0_0)), (0, .inl (2, c0_2)), (0, .inl (3, c0_3)), (0, .inl (4, r125.2.1)), (0, .inl (5, r125.2.2.1)), (0, .inl (6, r125.2.2.2)), (0, .inl (7, c0_7)), (0, .inl (8, c0_8)), (0, .inl (54, c0_54)), (1, .inr (.inr (.inl a1))), (25, .inr (.inr (.inl a25))), (26, .inr (.inr (.inl a26)))] (shM, I, L, Rf)) rfl rfl rfl rfl rfl ea2 q133) rfl rfl rfl (k_jn (us' := [(0, .inl (0, c0_0)), (0, .inl (2, c0_2)), (0, .inl (3, c0_3)), (0, .inl (4, r133.1)), (0, .inl (5, r133.2.1)), (0, .inl (6, r133.2.2)), (0, .inl (7, c0_7)), (0, .inl (8, c0_8)), (0, .inl (54, c0_54)), (1, .inr (.inr (.inl a1))), (25, .inr (.inr (.inl a25))), (26, .inr (.inr (.inl a26)))]) ds_X11_book rfl rfl rfl) rfl ?_
  refine r_aload_n C dX11_book_136 (rfl : 136 + 1 = 137) rfl ?_
  obtain ⟨r137, q137, h⟩ := k_b_of h
  refine d_V (As := []) (st := []) (st' := [.int r137]) (h' := k_ap [(0, .inl (0, c0_0)), (0, .inl (2, c0_2)), (0, .inl (3, c0_3)), (0, .inl (4, r133.1)), (0, .inl (5, r133.2.1)), (0, .inl (6, r133.2.2)), (0, .inl (7, c0_7)), (0, .inl (8, c0_8)), (0, .inl (54, c0_54)), (1, .inr (.inr (.inl a1))), (25, .inr (.inr (.inl a25))), (26, .inr (.inr (.inl a26)))] (shM, I, L, Rf)) C hR ⟨Nat.zero_le _, Nat.zero_le _⟩ mv_X11_fine lk_X11_149 dX11_book_137 (rfl : 137 + 3 = 140) rfl rfl rfl rfl (c_X11_fine X.l u (k_ap [(0, .inl (0, c0_0)), (0, .inl (2, c0_2)), (0, .inl (3, c0_3)), (0, .inl (4, r133.1)), (0, .inl (5, r133.2.1)), (0, .inl (6, r133.2.2)), (0, .inl (7, c0_7)), (0, .inl (8, c0_8)), (0, .inl (54, c0_54)), (1, .inr (.inr (.inl a1))), (25, .inr (.inr (.inl a25))), (26, .inr (.inr (.inl a26)))] (shM, I, L, Rf)) rfl rfl q137) rfl rfl rfl rfl rfl ?_
  refine r_if_ne (tgt := 146) C dX11_book_140 (by decide) (rfl : 140 + 3 = 143) (fun c140 => ?_) (fun c140 => ?_)
  · have h := k_f c140 h
    refine r_iload_n C dX11_book_146 (rfl : 146 + 1 = 147) rfl ?_
    refine r_iconst (v := (1 : Int32)) C dX11_book_147 (rfl : 147 + 1 = 148) rfl ?_
    refine r_iload C dX11_book_148 (rfl : 148 + 2 = 150) rfl ?_
    refine r_ishl C dX11_book_150 (rfl : 150 + 1 = 151) ?_
    refine r_ior C dX11_book_151 (rfl : 151 + 1 = 152) ?_
    refine r_istore_n C dX11_book_152 (rfl : 152 + 1 = 153) (by decide) (Nat.le_of_ble_eq_true rfl) ?_
    show k_W _ _ _ _ _ _ _ _ [some (.ref 0), none, some (.int v2), some (.int (v3 ||| ((1 : Int32) <<< (v5 &&& 31)))), none, some (.int v5), some (.int r125.1)] _
    refine r_aload_n C dX11_book_153 (rfl : 153 + 1 = 154) rfl ?_
    refine r_getR (q := 25) C dX11_book_154 (rfl : 154 + 3 = 157) fl_X11_90 rfl rfl ?_
    refine r_iconst (v := (2 : Int32)) C dX11_book_157 (rfl : 157 + 1 = 158) rfl ?_
    refine r_iload_n C dX11_book_158 (rfl : 158 + 1 = 159) rfl ?_
    refine r_imul C dX11_book_159 (rfl : 159 + 1 = 160) ?_
    refine r_iload C dX11_book_160 (rfl : 160 + 2 = 162) rfl ?_
    obtain ⟨hi162, h⟩ := k_i_of h
    refine s_i (j := (((2 : Int32) * v2)).toNatClampNeg) (f := a25) (us' := [(0, .inl (0, c0_0)), (0, .inl (2, c0_2)), (0, .inl (3, c0_3)), (0, .inl (4, r133.1)), (0, .inl (5, r133.2.1)), (0, .inl (6, r133.2.2)), (0, .inl (7, c0_7)), (0, .inl (8, c0_8)), (0, .inl (54, c0_54)), (1, .inr (.inr (.inl a1))), (25, .inr (.inr (.inl (upd a25 ((((2 : Int32) * v2)).toNatClampNeg) v5)))), (26, .inr (.inr (.inl a26)))]) C dX11_book_162 (rfl : 162 + 1 = 163) rfl rfl hi162 rfl ds_X11_book rfl rfl rfl ?_
    refine r_aload_n C dX11_book_163 (rfl : 163 + 1 = 164) rfl ?_
    refine r_getR (q := 25) C dX11_book_164 (rfl : 164 + 3 = 167) fl_X11_90 rfl rfl ?_
    refine r_iconst (v := (2 : Int32)) C dX11_book_167 (rfl : 167 + 1 = 168) rfl ?_
    refine r_iload_n C dX11_book_168 (rfl : 168 + 1 = 169) rfl ?_
    refine r_imul C dX11_book_169 (rfl : 169 + 1 = 170) ?_
    refine r_iconst (v := (1 : Int32)) C dX11_book_170 (rfl : 170 + 1 = 171) rfl ?_
    refine r_iadd C dX11_book_171 (rfl : 171 + 1 = 172) ?_
    refine r_iload C dX11_book_172 (rfl : 172 + 2 = 174) rfl ?_
    obtain ⟨hi174, h⟩ := k_i_of h
    refine s_i (j := ((((2 : Int32) * v2) + (1 : Int32))).toNatClampNeg) (f := (upd a25 ((((2 : Int32) * v2)).toNatClampNeg) v5)) (us' := [(0, .inl (0, c0_0)), (0, .inl (2, c0_2)), (0, .inl (3, c0_3)), (0, .inl (4, r133.1)), (0, .inl (5, r133.2.1)), (0, .inl (6, r133.2.2)), (0, .inl (7, c0_7)), (0, .inl (8, c0_8)), (0, .inl (54, c0_54)), (1, .inr (.inr (.inl a1))), (25, .inr (.inr (.inl (upd (upd a25 ((((2 : Int32) * v2)).toNatClampNeg) v5) (((((2 : Int32) * v2) + (1 : Int32))).toNatClampNeg) r125.1)))), (26, .inr (.inr (.inl a26)))]) C dX11_book_174 (rfl : 174 + 1 = 175) rfl rfl hi174 rfl ds_X11_book rfl rfl rfl ?_
    refine r_iinc (v := (v2 + (1 : Int32))) C dX11_book_175 (rfl : 175 + 3 = 178) rfl rfl (by decide) ?_
    show k_W _ _ _ _ _ _ _ _ [some (.ref 0), none, some (.int (v2 + (1 : Int32))), some (.int (v3 ||| ((1 : Int32) <<< (v5 &&& 31)))), none, some (.int v5), some (.int r125.1)] _
    refine r_goto (tgt := 48) C dX11_book_178 (by decide) ?_
    refine k_mask [true, false, true, true, false, false, false] ?_
    exact hk48 c0_0 c0_2 c0_3 r133.1 r133.2.1 r133.2.2 c0_7 c0_8 c0_54 a1 (upd (upd a25 ((((2 : Int32) * v2)).toNatClampNeg) v5) (((((2 : Int32) * v2) + (1 : Int32))).toNatClampNeg) r125.1) a26 (v2 + (1 : Int32)) (v3 ||| ((1 : Int32) <<< (v5 &&& 31))) h
  · have h := k_t c140 h
    refine r_goto (tgt := 181) C dX11_book_143 (by decide) ?_
    refine k_mask [true, false, true, false, false, false, false] ?_
    exact sX11_book_181 u C hr hR ea2 c0_0 c0_2 c0_3 r133.1 r133.2.1 r133.2.2 c0_7 c0_8 c0_54 a1 a25 a26 v2 h
set_option maxHeartbeats 400000 in
set_option maxRecDepth 100000 in
theorem sX11_book_101 (u : Nat) {X : k_X} {ad : Nat → Nat} (C : k_C X cX11_book RX11 7 ad) (hr : X.meth.sig.returnType = (some .int)) (hR : X.R.frames = 2 ∧ X.R.locals = 47) {I : Nat → Nat → Int32} {L : Nat → Nat → Int64} {Rf : Nat → Nat → Option Nat} {a2 : (Nat → Int32)} (ea2 : I 2 = a2) {out : Int32 × Int32 × Int32 × Int32 × Int32 × Int32 × Int32 × Int32 × Int32 × Int32 × (Nat → Int32) × (Nat → Int32) × (Nat → Int32)} {k48 : Int32 → Int32 → Int32 → Int32 → Int32 → Int32 → Int32 → Int32 → Int32 → (Nat → Int32) → (Nat → Int32) → (Nat → Int32) → Int32 → Int32 → Option (Int32 × Int32 × Int32 × Int32 × Int32 × Int32 × Int32 × Int32 × Int32 × Int32 × (Nat → Int32) × (Nat → Int32) × (Nat → Int32))} (hk48 : ∀ (c0_0 : Int32) (c0_2 : Int32) (c0_3 : Int32) (c0_4 : Int32) (c0_5 : Int32) (c0_6 : Int32) (c0_7 : Int32) (c0_8 : Int32) (c0_54 : Int32) (a1 : (Nat → Int32)) (a25 : (Nat → Int32)) (a26 : (Nat → Int32)) (v2 : Int32) (v3 : Int32), k48 c0_0 c0_2 c0_3 c0_4 c0_5 c0_6 c0_7 c0_8 c0_54 a1 a25 a26 v2 v3 = some out → k_W X 7 0 0 (k_Q X ad (some (.int out.1)) (k_ap [(0, .inl (0, out.2.1)), (0, .inl (2, out.2.2.1)), (0, .inl (3, out.2.2.2.1)), (0, .inl (4, out.2.2.2.2.1)), (0, .inl (5, out.2.2.2.2.2.1)), (0, .inl (6, out.2.2.2.2.2.2.1)), (0, .inl (7, out.2.2.2.2.2.2.2.1)), (0, .inl (8, out.2.2.2.2.2.2.2.2.1)), (0, .inl (54, out.2.2.2.2.2.2.2.2.2.1)), (1, .inr (.inr (.inl out.2.2.2.2.2.2.2.2.2.2.1))), (25, .inr (.inr (.inl out.2.2.2.2.2.2.2.2.2.2.2.1))), (26, .inr (.inr (.inl out.2.2.2.2.2.2.2.2.2.2.2.2)))] (shM, I, L, Rf))) ad (k_ap [(0, .inl (0, c0_0)), (0, .inl (2, c0_2)), (0, .inl (3, c0_3)), (0, .inl (4, c0_4)), (0, .inl (5, c0_5)), (0, .inl (6, c0_6)), (0, .inl (7, c0_7)), (0, .inl (8, c0_8)), (0, .inl (54, c0_54)), (1, .inr (.inr (.inl a1))), (25, .inr (.inr (.inl a25))), (26, .inr (.inr (.inl a26)))] (shM, I, L, Rf)) 48 [some (.ref 0), none, some (.int v2), some (.int v3), none, none, none] []) : ∀ (c0_0 : Int32) (c0_2 : Int32) (c0_3 : Int32) (c0_4 : Int32) (c0_5 : Int32) (c0_6 : Int32) (c0_7 : Int32) (c0_8 : Int32) (c0_54 : Int32) (a1 : (Nat → Int32)) (a25 : (Nat → Int32)) (a26 : (Nat → Int32)) (v2 : Int32) (v3 : Int32) (v4 : Int32) (v5 : Int32), bX11_book_101 u a2 k48 c0_0 c0_2 c0_3 c0_4 c0_5 c0_6 c0_7 c0_8 c0_54 a1 a25 a26 v2 v3 v4 v5 = some out → k_W X 7 0 0 (k_Q X ad (some (.int out.1)) (k_ap [(0, .inl (0, out.2.1)), (0, .inl (2, out.2.2.1)), (0, .inl (3, out.2.2.2.1)), (0, .inl (4, out.2.2.2.2.1)), (0, .inl (5, out.2.2.2.2.2.1)), (0, .inl (6, out.2.2.2.2.2.2.1)), (0, .inl (7, out.2.2.2.2.2.2.2.1)), (0, .inl (8, out.2.2.2.2.2.2.2.2.1)), (0, .inl (54, out.2.2.2.2.2.2.2.2.2.1)), (1, .inr (.inr (.inl out.2.2.2.2.2.2.2.2.2.2.1))), (25, .inr (.inr (.inl out.2.2.2.2.2.2.2.2.2.2.2.1))), (26, .inr (.inr (.inl out.2.2.2.2.2.2.2.2.2.2.2.2)))] (shM, I, L, Rf))) ad (k_ap [(0, .inl (0, c0_0)), (0, .inl (2, c0_2)), (0, .inl (3, c0_3)), (0, .inl (4, c0_4)), (0, .inl (5, c0_5)), (0, .inl (6, c0_6)), (0, .inl (7, c0_7)), (0, .inl (8, c0_8)), (0, .inl (54, c0_54)), (1, .inr (.inr (.inl a1))), (25, .inr (.inr (.inl a25))), (26, .inr (.inr (.inl a26)))] (shM, I, L, Rf)) 101 [some (.ref 0), none, some (.int v2), some (.int v3), some (.int v4), some (.int v5), none] [] := by
  intro c0_0 c0_2 c0_3 c0_4 c0_5 c0_6 c0_7 c0_8 c0_54 a1 a25 a26 v2 v3 v4 v5 h
  unfold bX11_book_101 at h
  refine r_aload_n C dX11_book_101 (rfl : 101 + 1 = 102) rfl ?_
  obtain ⟨r102, q102, h⟩ := k_b_of h
  refine d_V (As := []) (st := []) (st' := [.int r102]) (h' := k_ap [(0, .inl (0, c0_0)), (0, .inl (2, c0_2)), (0, .inl (3, c0_3)), (0, .inl (4, c0_4)), (0, .inl (5, c0_5)), (0, .inl (6, c0_6)), (0, .inl (7, c0_7)), (0, .inl (8, c0_8)), (0, .inl (54, c0_54)), (1, .inr (.inr (.inl a1))), (25, .inr (.inr (.inl a25))), (26, .inr (.inr (.inl a26)))] (shM, I, L, Rf)) C hR ⟨Nat.zero_le _, Nat.zero_le _⟩ mv_X11_fine lk_X11_149 dX11_book_102 (rfl : 102 + 3 = 105) rfl rfl rfl rfl (c_X11_fine X.l u (k_ap [(0, .inl (0, c0_0)), (0, .inl (2, c0_2)), (0, .inl (3, c0_3)), (0, .inl (4, c0_4)), (0, .inl (5, c0_5)), (0, .inl (6, c0_6)), (0, .inl (7, c0_7)), (0, .inl (8, c0_8)), (0, .inl (54, c0_54)), (1, .inr (.inr (.inl a1))), (25, .inr (.inr (.inl a25))), (26, .inr (.inr (.inl a26)))] (shM, I, L, Rf)) rfl rfl q102) rfl rfl rfl rfl rfl ?_
  refine r_if_eq (tgt := 121) C dX11_book_105 (by decide) (rfl : 105 + 3 = 108) (fun c105 => ?_) (fun c105 => ?_)
  · have h := k_t c105 h
    refine k_mask [true, false, true, true, false, true, false] ?_
    exact sX11_book_121 u C hr hR ea2 hk48 c0_0 c0_2 c0_3 c0_4 c0_5 c0_6 c0_7 c0_8 c0_54 a1 a25 a26 v2 v3 v5 h
  · have h := k_f c105 h
    refine r_iload_n C dX11_book_108 (rfl : 108 + 1 = 109) rfl ?_
    refine r_bipush (v := (8 : Int32)) C dX11_book_109 (rfl : 109 + 2 = 111) rfl ?_
    refine r_icmp_ne (tgt := 121) C dX11_book_111 (by decide) (rfl : 111 + 3 = 114) (fun c111 => ?_) (fun c111 => ?_)
    · have h := k_f c111 h
      refine k_mask [true, false, true, true, false, true, false] ?_
      exact sX11_book_121 u C hr hR ea2 hk48 c0_0 c0_2 c0_3 c0_4 c0_5 c0_6 c0_7 c0_8 c0_54 a1 a25 a26 v2 v3 v5 h
    · have h := k_t c111 h
      refine r_aload_n C dX11_book_114 (rfl : 114 + 1 = 115) rfl ?_
      refine r_iconst (v := (3 : Int32)) C dX11_book_115 (rfl : 115 + 1 = 116) rfl ?_
      refine r_iload C dX11_book_116 (rfl : 116 + 2 = 118) rfl ?_
      obtain ⟨r118, q118, h⟩ := k_b_of h
      refine d_V (As := [.int (3 : Int32), .int v4]) (st := []) (st' := []) (h' := k_ap [(0, .inl (0, c0_0)), (0, .inl (2, c0_2)), (0, .inl (3, c0_3)), (0, .inl (4, c0_4)), (0, .inl (5, r118.1)), (0, .inl (6, r118.2)), (0, .inl (7, c0_7)), (0, .inl (8, c0_8)), (0, .inl (54, c0_54)), (1, .inr (.inr (.inl a1))), (25, .inr (.inr (.inl a25))), (26, .inr (.inr (.inl a26)))] (shM, I, L, Rf)) C hR ⟨Nat.zero_le _, Nat.zero_le _⟩ mv_X11_wrong lk_X11_156 dX11_book_118 (rfl : 118 + 3 = 121) rfl rfl rfl rfl (c_X11_wrong X.l u (k_ap [(0, .inl (0, c0_0)), (0, .inl (2, c0_2)), (0, .inl (3, c0_3)), (0, .inl (4, c0_4)), (0, .inl (5, c0_5)), (0, .inl (6, c0_6)), (0, .inl (7, c0_7)), (0, .inl (8, c0_8)), (0, .inl (54, c0_54)), (1, .inr (.inr (.inl a1))), (25, .inr (.inr (.inl a25))), (26, .inr (.inr (.inl a26)))] (shM, I, L, Rf)) rfl rfl rfl q118) rfl rfl rfl (k_jn (us' := [(0, .inl (0, c0_0)), (0, .inl (2, c0_2)), (0, .inl (3, c0_3)), (0, .inl (4, c0_4)), (0, .inl (5, r118.1)), (0, .inl (6, r118.2)), (0, .inl (7, c0_7)), (0, .inl (8, c0_8)), (0, .inl (54, c0_54)), (1, .inr (.inr (.inl a1))), (25, .inr (.inr (.inl a25))), (26, .inr (.inr (.inl a26)))]) ds_X11_book rfl rfl rfl) rfl ?_
      refine k_mask [true, false, true, true, false, true, false] ?_
      exact sX11_book_121 u C hr hR ea2 hk48 c0_0 c0_2 c0_3 c0_4 r118.1 r118.2 c0_7 c0_8 c0_54 a1 a25 a26 v2 v3 v5 h
set_option maxHeartbeats 400000 in
set_option maxRecDepth 100000 in
theorem sX11_book_48 (u : Nat) {X : k_X} {ad : Nat → Nat} (C : k_C X cX11_book RX11 7 ad) (hr : X.meth.sig.returnType = (some .int)) (hR : X.R.frames = 2 ∧ X.R.locals = 47) {I : Nat → Nat → Int32} {L : Nat → Nat → Int64} {Rf : Nat → Nat → Option Nat} {a2 : (Nat → Int32)} (ea2 : I 2 = a2) {out : Int32 × Int32 × Int32 × Int32 × Int32 × Int32 × Int32 × Int32 × Int32 × Int32 × (Nat → Int32) × (Nat → Int32) × (Nat → Int32)} : ∀ (n : Nat) (c0_0 : Int32) (c0_2 : Int32) (c0_3 : Int32) (c0_4 : Int32) (c0_5 : Int32) (c0_6 : Int32) (c0_7 : Int32) (c0_8 : Int32) (c0_54 : Int32) (a1 : (Nat → Int32)) (a25 : (Nat → Int32)) (a26 : (Nat → Int32)) (v2 : Int32) (v3 : Int32), bX11_book_48 u a2 n c0_0 c0_2 c0_3 c0_4 c0_5 c0_6 c0_7 c0_8 c0_54 a1 a25 a26 v2 v3 = some out → k_W X 7 0 0 (k_Q X ad (some (.int out.1)) (k_ap [(0, .inl (0, out.2.1)), (0, .inl (2, out.2.2.1)), (0, .inl (3, out.2.2.2.1)), (0, .inl (4, out.2.2.2.2.1)), (0, .inl (5, out.2.2.2.2.2.1)), (0, .inl (6, out.2.2.2.2.2.2.1)), (0, .inl (7, out.2.2.2.2.2.2.2.1)), (0, .inl (8, out.2.2.2.2.2.2.2.2.1)), (0, .inl (54, out.2.2.2.2.2.2.2.2.2.1)), (1, .inr (.inr (.inl out.2.2.2.2.2.2.2.2.2.2.1))), (25, .inr (.inr (.inl out.2.2.2.2.2.2.2.2.2.2.2.1))), (26, .inr (.inr (.inl out.2.2.2.2.2.2.2.2.2.2.2.2)))] (shM, I, L, Rf))) ad (k_ap [(0, .inl (0, c0_0)), (0, .inl (2, c0_2)), (0, .inl (3, c0_3)), (0, .inl (4, c0_4)), (0, .inl (5, c0_5)), (0, .inl (6, c0_6)), (0, .inl (7, c0_7)), (0, .inl (8, c0_8)), (0, .inl (54, c0_54)), (1, .inr (.inr (.inl a1))), (25, .inr (.inr (.inl a25))), (26, .inr (.inr (.inl a26)))] (shM, I, L, Rf)) 48 [some (.ref 0), none, some (.int v2), some (.int v3), none, none, none] [] := by
  intro n
  induction n with
  | zero => intro c0_0 c0_2 c0_3 c0_4 c0_5 c0_6 c0_7 c0_8 c0_54 a1 a25 a26 v2 v3 h; cases h
  | succ n ih =>
    intro c0_0 c0_2 c0_3 c0_4 c0_5 c0_6 c0_7 c0_8 c0_54 a1 a25 a26 v2 v3 h
    refine r_aload_n C dX11_book_48 (rfl : 48 + 1 = 49) rfl ?_
    obtain ⟨r49, q49, h⟩ := k_b_of h
    refine d_V (As := []) (st := []) (st' := [.int r49]) (h' := k_ap [(0, .inl (0, c0_0)), (0, .inl (2, c0_2)), (0, .inl (3, c0_3)), (0, .inl (4, c0_4)), (0, .inl (5, c0_5)), (0, .inl (6, c0_6)), (0, .inl (7, c0_7)), (0, .inl (8, c0_8)), (0, .inl (54, c0_54)), (1, .inr (.inr (.inl a1))), (25, .inr (.inr (.inl a25))), (26, .inr (.inr (.inl a26)))] (shM, I, L, Rf)) C hR ⟨Nat.zero_le _, Nat.zero_le _⟩ mv_X11_fine lk_X11_149 dX11_book_49 (rfl : 49 + 3 = 52) rfl rfl rfl rfl (c_X11_fine X.l u (k_ap [(0, .inl (0, c0_0)), (0, .inl (2, c0_2)), (0, .inl (3, c0_3)), (0, .inl (4, c0_4)), (0, .inl (5, c0_5)), (0, .inl (6, c0_6)), (0, .inl (7, c0_7)), (0, .inl (8, c0_8)), (0, .inl (54, c0_54)), (1, .inr (.inr (.inl a1))), (25, .inr (.inr (.inl a25))), (26, .inr (.inr (.inl a26)))] (shM, I, L, Rf)) rfl rfl q49) rfl rfl rfl rfl rfl ?_
    refine r_if_eq (tgt := 181) C dX11_book_52 (by decide) (rfl : 52 + 3 = 55) (fun c52 => ?_) (fun c52 => ?_)
    · have h := k_t c52 h
      refine k_mask [true, false, true, false, false, false, false] ?_
      exact sX11_book_181 u C hr hR ea2 c0_0 c0_2 c0_3 c0_4 c0_5 c0_6 c0_7 c0_8 c0_54 a1 a25 a26 v2 h
    · have h := k_f c52 h
      refine r_aload_n C dX11_book_55 (rfl : 55 + 1 = 56) rfl ?_
      obtain ⟨r56, q56, h⟩ := k_b_of h
      refine d_V (As := []) (st := []) (st' := [.int r56.1]) (h' := k_ap [(0, .inl (0, c0_0)), (0, .inl (2, c0_2)), (0, .inl (3, c0_3)), (0, .inl (4, r56.2)), (0, .inl (5, c0_5)), (0, .inl (6, c0_6)), (0, .inl (7, c0_7)), (0, .inl (8, c0_8)), (0, .inl (54, c0_54)), (1, .inr (.inr (.inl a1))), (25, .inr (.inr (.inl a25))), (26, .inr (.inr (.inl a26)))] (shM, I, L, Rf)) C hR ⟨Nat.zero_le _, Nat.zero_le _⟩ mv_X11_isMore lk_X11_260 dX11_book_56 (rfl : 56 + 3 = 59) rfl rfl rfl rfl (c_X11_isMore X.l u (k_ap [(0, .inl (0, c0_0)), (0, .inl (2, c0_2)), (0, .inl (3, c0_3)), (0, .inl (4, c0_4)), (0, .inl (5, c0_5)), (0, .inl (6, c0_6)), (0, .inl (7, c0_7)), (0, .inl (8, c0_8)), (0, .inl (54, c0_54)), (1, .inr (.inr (.inl a1))), (25, .inr (.inr (.inl a25))), (26, .inr (.inr (.inl a26)))] (shM, I, L, Rf)) rfl rfl rfl ea2 q56) rfl rfl rfl (k_jn (us' := [(0, .inl (0, c0_0)), (0, .inl (2, c0_2)), (0, .inl (3, c0_3)), (0, .inl (4, r56.2)), (0, .inl (5, c0_5)), (0, .inl (6, c0_6)), (0, .inl (7, c0_7)), (0, .inl (8, c0_8)), (0, .inl (54, c0_54)), (1, .inr (.inr (.inl a1))), (25, .inr (.inr (.inl a25))), (26, .inr (.inr (.inl a26)))]) ds_X11_book rfl rfl rfl) rfl ?_
      refine r_if_eq (tgt := 181) C dX11_book_59 (by decide) (rfl : 59 + 3 = 62) (fun c59 => ?_) (fun c59 => ?_)
      · have h := k_t c59 h
        refine k_mask [true, false, true, false, false, false, false] ?_
        exact sX11_book_181 u C hr hR ea2 c0_0 c0_2 c0_3 r56.2 c0_5 c0_6 c0_7 c0_8 c0_54 a1 a25 a26 v2 h
      · have h := k_f c59 h
        refine r_aload_n C dX11_book_62 (rfl : 62 + 1 = 63) rfl ?_
        refine r_getI (v := r56.2) C dX11_book_63 (rfl : 63 + 3 = 66) fl_X11_127 rfl rfl rfl ?_
        refine r_istore C dX11_book_66 (rfl : 66 + 2 = 68) (by decide) (Nat.le_of_ble_eq_true rfl) ?_
        show k_W _ _ _ _ _ _ _ _ [some (.ref 0), none, some (.int v2), some (.int v3), some (.int r56.2), none, none] _
        refine r_aload_n C dX11_book_68 (rfl : 68 + 1 = 69) rfl ?_
        refine r_iconst (v := (0 : Int32)) C dX11_book_69 (rfl : 69 + 1 = 70) rfl ?_
        refine r_bipush (v := (7 : Int32)) C dX11_book_70 (rfl : 70 + 2 = 72) rfl ?_
        obtain ⟨r72, q72, h⟩ := k_b_of h
        refine d_V (As := [.int (0 : Int32), .int (7 : Int32)]) (st := []) (st' := [.int r72.1]) (h' := k_ap [(0, .inl (0, c0_0)), (0, .inl (2, c0_2)), (0, .inl (3, c0_3)), (0, .inl (4, r72.2.1)), (0, .inl (5, r72.2.2.1)), (0, .inl (6, r72.2.2.2)), (0, .inl (7, c0_7)), (0, .inl (8, c0_8)), (0, .inl (54, c0_54)), (1, .inr (.inr (.inl a1))), (25, .inr (.inr (.inl a25))), (26, .inr (.inr (.inl a26)))] (shM, I, L, Rf)) C hR ⟨Nat.zero_le _, Nat.zero_le _⟩ mv_X11_readNumber lk_X11_218 dX11_book_72 (rfl : 72 + 3 = 75) rfl rfl rfl rfl (c_X11_readNumber X.l u (k_ap [(0, .inl (0, c0_0)), (0, .inl (2, c0_2)), (0, .inl (3, c0_3)), (0, .inl (4, r56.2)), (0, .inl (5, c0_5)), (0, .inl (6, c0_6)), (0, .inl (7, c0_7)), (0, .inl (8, c0_8)), (0, .inl (54, c0_54)), (1, .inr (.inr (.inl a1))), (25, .inr (.inr (.inl a25))), (26, .inr (.inr (.inl a26)))] (shM, I, L, Rf)) rfl rfl rfl rfl rfl ea2 q72) rfl rfl rfl (k_jn (us' := [(0, .inl (0, c0_0)), (0, .inl (2, c0_2)), (0, .inl (3, c0_3)), (0, .inl (4, r72.2.1)), (0, .inl (5, r72.2.2.1)), (0, .inl (6, r72.2.2.2)), (0, .inl (7, c0_7)), (0, .inl (8, c0_8)), (0, .inl (54, c0_54)), (1, .inr (.inr (.inl a1))), (25, .inr (.inr (.inl a25))), (26, .inr (.inr (.inl a26)))]) ds_X11_book rfl rfl rfl) rfl ?_
        refine r_istore C dX11_book_75 (rfl : 75 + 2 = 77) (by decide) (Nat.le_of_ble_eq_true rfl) ?_
        show k_W _ _ _ _ _ _ _ _ [some (.ref 0), none, some (.int v2), some (.int v3), some (.int r56.2), some (.int r72.1), none] _
        refine r_aload_n C dX11_book_77 (rfl : 77 + 1 = 78) rfl ?_
        obtain ⟨r78, q78, h⟩ := k_b_of h
        refine d_V (As := []) (st := []) (st' := [.int r78]) (h' := k_ap [(0, .inl (0, c0_0)), (0, .inl (2, c0_2)), (0, .inl (3, c0_3)), (0, .inl (4, r72.2.1)), (0, .inl (5, r72.2.2.1)), (0, .inl (6, r72.2.2.2)), (0, .inl (7, c0_7)), (0, .inl (8, c0_8)), (0, .inl (54, c0_54)), (1, .inr (.inr (.inl a1))), (25, .inr (.inr (.inl a25))), (26, .inr (.inr (.inl a26)))] (shM, I, L, Rf)) C hR ⟨Nat.zero_le _, Nat.zero_le _⟩ mv_X11_fine lk_X11_149 dX11_book_78 (rfl : 78 + 3 = 81) rfl rfl rfl rfl (c_X11_fine X.l u (k_ap [(0, .inl (0, c0_0)), (0, .inl (2, c0_2)), (0, .inl (3, c0_3)), (0, .inl (4, r72.2.1)), (0, .inl (5, r72.2.2.1)), (0, .inl (6, r72.2.2.2)), (0, .inl (7, c0_7)), (0, .inl (8, c0_8)), (0, .inl (54, c0_54)), (1, .inr (.inr (.inl a1))), (25, .inr (.inr (.inl a25))), (26, .inr (.inr (.inl a26)))] (shM, I, L, Rf)) rfl rfl q78) rfl rfl rfl rfl rfl ?_
        refine r_if_eq (tgt := 101) C dX11_book_81 (by decide) (rfl : 81 + 3 = 84) (fun c81 => ?_) (fun c81 => ?_)
        · have h := k_t c81 h
          refine k_mask [true, false, true, true, true, true, false] ?_
          exact sX11_book_101 u C hr hR ea2 ih c0_0 c0_2 c0_3 r72.2.1 r72.2.2.1 r72.2.2.2 c0_7 c0_8 c0_54 a1 a25 a26 v2 v3 r56.2 r72.1 h
        · have h := k_f c81 h
          refine r_iload_n C dX11_book_84 (rfl : 84 + 1 = 85) rfl ?_
          refine r_iload C dX11_book_85 (rfl : 85 + 2 = 87) rfl ?_
          refine r_ishr C dX11_book_87 (rfl : 87 + 1 = 88) ?_
          refine r_iconst (v := (1 : Int32)) C dX11_book_88 (rfl : 88 + 1 = 89) rfl ?_
          refine r_iand C dX11_book_89 (rfl : 89 + 1 = 90) ?_
          refine r_iconst (v := (1 : Int32)) C dX11_book_90 (rfl : 90 + 1 = 91) rfl ?_
          refine r_icmp_ne (tgt := 101) C dX11_book_91 (by decide) (rfl : 91 + 3 = 94) (fun c91 => ?_) (fun c91 => ?_)
          · have h := k_f c91 h
            refine k_mask [true, false, true, true, true, true, false] ?_
            exact sX11_book_101 u C hr hR ea2 ih c0_0 c0_2 c0_3 r72.2.1 r72.2.2.1 r72.2.2.2 c0_7 c0_8 c0_54 a1 a25 a26 v2 v3 r56.2 r72.1 h
          · have h := k_t c91 h
            refine r_aload_n C dX11_book_94 (rfl : 94 + 1 = 95) rfl ?_
            refine r_iconst (v := (2 : Int32)) C dX11_book_95 (rfl : 95 + 1 = 96) rfl ?_
            refine r_iload C dX11_book_96 (rfl : 96 + 2 = 98) rfl ?_
            obtain ⟨r98, q98, h⟩ := k_b_of h
            refine d_V (As := [.int (2 : Int32), .int r56.2]) (st := []) (st' := []) (h' := k_ap [(0, .inl (0, c0_0)), (0, .inl (2, c0_2)), (0, .inl (3, c0_3)), (0, .inl (4, r72.2.1)), (0, .inl (5, r98.1)), (0, .inl (6, r98.2)), (0, .inl (7, c0_7)), (0, .inl (8, c0_8)), (0, .inl (54, c0_54)), (1, .inr (.inr (.inl a1))), (25, .inr (.inr (.inl a25))), (26, .inr (.inr (.inl a26)))] (shM, I, L, Rf)) C hR ⟨Nat.zero_le _, Nat.zero_le _⟩ mv_X11_wrong lk_X11_156 dX11_book_98 (rfl : 98 + 3 = 101) rfl rfl rfl rfl (c_X11_wrong X.l u (k_ap [(0, .inl (0, c0_0)), (0, .inl (2, c0_2)), (0, .inl (3, c0_3)), (0, .inl (4, r72.2.1)), (0, .inl (5, r72.2.2.1)), (0, .inl (6, r72.2.2.2)), (0, .inl (7, c0_7)), (0, .inl (8, c0_8)), (0, .inl (54, c0_54)), (1, .inr (.inr (.inl a1))), (25, .inr (.inr (.inl a25))), (26, .inr (.inr (.inl a26)))] (shM, I, L, Rf)) rfl rfl rfl q98) rfl rfl rfl (k_jn (us' := [(0, .inl (0, c0_0)), (0, .inl (2, c0_2)), (0, .inl (3, c0_3)), (0, .inl (4, r72.2.1)), (0, .inl (5, r98.1)), (0, .inl (6, r98.2)), (0, .inl (7, c0_7)), (0, .inl (8, c0_8)), (0, .inl (54, c0_54)), (1, .inr (.inr (.inl a1))), (25, .inr (.inr (.inl a25))), (26, .inr (.inr (.inl a26)))]) ds_X11_book rfl rfl rfl) rfl ?_
            refine k_mask [true, false, true, true, true, true, false] ?_
            exact sX11_book_101 u C hr hR ea2 ih c0_0 c0_2 c0_3 r72.2.1 r98.1 r98.2 c0_7 c0_8 c0_54 a1 a25 a26 v2 v3 r56.2 r72.1 h
set_option maxHeartbeats 400000 in
set_option maxRecDepth 100000 in
theorem sX11_book_29 (u : Nat) {X : k_X} {ad : Nat → Nat} (C : k_C X cX11_book RX11 7 ad) (hr : X.meth.sig.returnType = (some .int)) (hR : X.R.frames = 2 ∧ X.R.locals = 47) {I : Nat → Nat → Int32} {L : Nat → Nat → Int64} {Rf : Nat → Nat → Option Nat} {a2 : (Nat → Int32)} (ea2 : I 2 = a2) {out : Int32 × Int32 × Int32 × Int32 × Int32 × Int32 × Int32 × Int32 × Int32 × Int32 × (Nat → Int32) × (Nat → Int32) × (Nat → Int32)} : ∀ (c0_0 : Int32) (c0_2 : Int32) (c0_3 : Int32) (c0_4 : Int32) (c0_5 : Int32) (c0_6 : Int32) (c0_7 : Int32) (c0_8 : Int32) (c0_54 : Int32) (a1 : (Nat → Int32)) (a25 : (Nat → Int32)) (a26 : (Nat → Int32)) (v1 : Int32) (w0 : Int32), bX11_book_29 u a2 c0_0 c0_2 c0_3 c0_4 c0_5 c0_6 c0_7 c0_8 c0_54 a1 a25 a26 v1 w0 = some out → k_W X 7 0 0 (k_Q X ad (some (.int out.1)) (k_ap [(0, .inl (0, out.2.1)), (0, .inl (2, out.2.2.1)), (0, .inl (3, out.2.2.2.1)), (0, .inl (4, out.2.2.2.2.1)), (0, .inl (5, out.2.2.2.2.2.1)), (0, .inl (6, out.2.2.2.2.2.2.1)), (0, .inl (7, out.2.2.2.2.2.2.2.1)), (0, .inl (8, out.2.2.2.2.2.2.2.2.1)), (0, .inl (54, out.2.2.2.2.2.2.2.2.2.1)), (1, .inr (.inr (.inl out.2.2.2.2.2.2.2.2.2.2.1))), (25, .inr (.inr (.inl out.2.2.2.2.2.2.2.2.2.2.2.1))), (26, .inr (.inr (.inl out.2.2.2.2.2.2.2.2.2.2.2.2)))] (shM, I, L, Rf))) ad (k_ap [(0, .inl (0, c0_0)), (0, .inl (2, c0_2)), (0, .inl (3, c0_3)), (0, .inl (4, c0_4)), (0, .inl (5, c0_5)), (0, .inl (6, c0_6)), (0, .inl (7, c0_7)), (0, .inl (8, c0_8)), (0, .inl (54, c0_54)), (1, .inr (.inr (.inl a1))), (25, .inr (.inr (.inl a25))), (26, .inr (.inr (.inl a26)))] (shM, I, L, Rf)) 29 [some (.ref 0), some (.int v1), none, none, none, none, none] [.int w0, .ref 0] := by
  intro c0_0 c0_2 c0_3 c0_4 c0_5 c0_6 c0_7 c0_8 c0_54 a1 a25 a26 v1 w0 h
  unfold bX11_book_29 at h
  refine r_iconst (v := (1 : Int32)) C dX11_book_29 (rfl : 29 + 1 = 30) rfl ?_
  refine r_iconst (v := (2 : Int32)) C dX11_book_30 (rfl : 30 + 1 = 31) rfl ?_
  obtain ⟨r31, q31, h⟩ := k_b_of h
  refine d_V (As := [.int w0, .int (1 : Int32), .int (2 : Int32)]) (st := []) (st' := [.int r31.1]) (h' := k_ap [(0, .inl (0, r31.2.1)), (0, .inl (2, c0_2)), (0, .inl (3, c0_3)), (0, .inl (4, c0_4)), (0, .inl (5, c0_5)), (0, .inl (6, c0_6)), (0, .inl (7, c0_7)), (0, .inl (8, c0_8)), (0, .inl (54, c0_54)), (1, .inr (.inr (.inl r31.2.2))), (25, .inr (.inr (.inl a25))), (26, .inr (.inr (.inl a26)))] (shM, I, L, Rf)) C hR ⟨Nat.zero_le _, Nat.zero_le _⟩ mv_X11_may lk_X11_252 dX11_book_31 (rfl : 31 + 3 = 34) rfl rfl rfl rfl (c_X11_may X.l u (k_ap [(0, .inl (0, c0_0)), (0, .inl (2, c0_2)), (0, .inl (3, c0_3)), (0, .inl (4, c0_4)), (0, .inl (5, c0_5)), (0, .inl (6, c0_6)), (0, .inl (7, c0_7)), (0, .inl (8, c0_8)), (0, .inl (54, c0_54)), (1, .inr (.inr (.inl a1))), (25, .inr (.inr (.inl a25))), (26, .inr (.inr (.inl a26)))] (shM, I, L, Rf)) rfl rfl rfl q31) rfl rfl rfl (k_jn (us' := [(0, .inl (0, r31.2.1)), (0, .inl (2, c0_2)), (0, .inl (3, c0_3)), (0, .inl (4, c0_4)), (0, .inl (5, c0_5)), (0, .inl (6, c0_6)), (0, .inl (7, c0_7)), (0, .inl (8, c0_8)), (0, .inl (54, c0_54)), (1, .inr (.inr (.inl r31.2.2))), (25, .inr (.inr (.inl a25))), (26, .inr (.inr (.inl a26)))]) ds_X11_book rfl rfl rfl) rfl ?_
  refine r_if_ne (tgt := 39) C dX11_book_34 (by decide) (rfl : 34 + 3 = 37) (fun c34 => ?_) (fun c34 => ?_)
  · have h := k_f c34 h
    refine r_aload_n C dX11_book_39 (rfl : 39 + 1 = 40) rfl ?_
    refine r_iload_n C dX11_book_40 (rfl : 40 + 1 = 41) rfl ?_
    obtain ⟨r41, q41, h⟩ := k_b_of h
    refine d_V (As := [.int v1]) (st := []) (st' := []) (h' := k_ap [(0, .inl (0, r31.2.1)), (0, .inl (2, r41.1)), (0, .inl (3, r41.2.1)), (0, .inl (4, r41.2.2.1)), (0, .inl (5, r41.2.2.2.1)), (0, .inl (6, c0_6)), (0, .inl (7, r41.2.2.2.2.1)), (0, .inl (8, r41.2.2.2.2.2)), (0, .inl (54, c0_54)), (1, .inr (.inr (.inl r31.2.2))), (25, .inr (.inr (.inl a25))), (26, .inr (.inr (.inl a26)))] (shM, I, L, Rf)) C hR ⟨Nat.zero_le _, Nat.zero_le _⟩ mv_X11_begins lk_X11_256 dX11_book_41 (rfl : 41 + 3 = 44) rfl rfl rfl rfl (c_X11_begins X.l u (k_ap [(0, .inl (0, r31.2.1)), (0, .inl (2, c0_2)), (0, .inl (3, c0_3)), (0, .inl (4, c0_4)), (0, .inl (5, c0_5)), (0, .inl (6, c0_6)), (0, .inl (7, c0_7)), (0, .inl (8, c0_8)), (0, .inl (54, c0_54)), (1, .inr (.inr (.inl r31.2.2))), (25, .inr (.inr (.inl a25))), (26, .inr (.inr (.inl a26)))] (shM, I, L, Rf)) rfl rfl rfl rfl rfl rfl rfl q41) rfl rfl rfl (k_jn (us' := [(0, .inl (0, r31.2.1)), (0, .inl (2, r41.1)), (0, .inl (3, r41.2.1)), (0, .inl (4, r41.2.2.1)), (0, .inl (5, r41.2.2.2.1)), (0, .inl (6, c0_6)), (0, .inl (7, r41.2.2.2.2.1)), (0, .inl (8, r41.2.2.2.2.2)), (0, .inl (54, c0_54)), (1, .inr (.inr (.inl r31.2.2))), (25, .inr (.inr (.inl a25))), (26, .inr (.inr (.inl a26)))]) ds_X11_book rfl rfl rfl) rfl ?_
    refine r_iconst (v := (0 : Int32)) C dX11_book_44 (rfl : 44 + 1 = 45) rfl ?_
    refine r_istore_n C dX11_book_45 (rfl : 45 + 1 = 46) (by decide) (Nat.le_of_ble_eq_true rfl) ?_
    show k_W _ _ _ _ _ _ _ _ [some (.ref 0), some (.int v1), some (.int (0 : Int32)), none, none, none, none] _
    refine r_iconst (v := (0 : Int32)) C dX11_book_46 (rfl : 46 + 1 = 47) rfl ?_
    refine r_istore_n C dX11_book_47 (rfl : 47 + 1 = 48) (by decide) (Nat.le_of_ble_eq_true rfl) ?_
    show k_W _ _ _ _ _ _ _ _ [some (.ref 0), some (.int v1), some (.int (0 : Int32)), some (.int (0 : Int32)), none, none, none] _
    refine k_mask [true, false, true, true, false, false, false] ?_
    exact sX11_book_48 u C hr hR ea2 u r31.2.1 r41.1 r41.2.1 r41.2.2.1 r41.2.2.2.1 c0_6 r41.2.2.2.2.1 r41.2.2.2.2.2 c0_54 r31.2.2 a25 a26 (0 : Int32) (0 : Int32) h
  · have h := k_t c34 h
    refine r_iconst (v := (0 : Int32)) C dX11_book_37 (rfl : 37 + 1 = 38) rfl ?_
    cases h
    exact r_iret C hr dX11_book_38
set_option maxHeartbeats 400000 in
set_option maxRecDepth 100000 in
theorem sX11_book_28 (u : Nat) {X : k_X} {ad : Nat → Nat} (C : k_C X cX11_book RX11 7 ad) (hr : X.meth.sig.returnType = (some .int)) (hR : X.R.frames = 2 ∧ X.R.locals = 47) {I : Nat → Nat → Int32} {L : Nat → Nat → Int64} {Rf : Nat → Nat → Option Nat} {a2 : (Nat → Int32)} (ea2 : I 2 = a2) {out : Int32 × Int32 × Int32 × Int32 × Int32 × Int32 × Int32 × Int32 × Int32 × Int32 × (Nat → Int32) × (Nat → Int32) × (Nat → Int32)} : ∀ (c0_0 : Int32) (c0_2 : Int32) (c0_3 : Int32) (c0_4 : Int32) (c0_5 : Int32) (c0_6 : Int32) (c0_7 : Int32) (c0_8 : Int32) (c0_54 : Int32) (a1 : (Nat → Int32)) (a25 : (Nat → Int32)) (a26 : (Nat → Int32)) (v1 : Int32), bX11_book_28 u a2 c0_0 c0_2 c0_3 c0_4 c0_5 c0_6 c0_7 c0_8 c0_54 a1 a25 a26 v1 = some out → k_W X 7 0 0 (k_Q X ad (some (.int out.1)) (k_ap [(0, .inl (0, out.2.1)), (0, .inl (2, out.2.2.1)), (0, .inl (3, out.2.2.2.1)), (0, .inl (4, out.2.2.2.2.1)), (0, .inl (5, out.2.2.2.2.2.1)), (0, .inl (6, out.2.2.2.2.2.2.1)), (0, .inl (7, out.2.2.2.2.2.2.2.1)), (0, .inl (8, out.2.2.2.2.2.2.2.2.1)), (0, .inl (54, out.2.2.2.2.2.2.2.2.2.1)), (1, .inr (.inr (.inl out.2.2.2.2.2.2.2.2.2.2.1))), (25, .inr (.inr (.inl out.2.2.2.2.2.2.2.2.2.2.2.1))), (26, .inr (.inr (.inl out.2.2.2.2.2.2.2.2.2.2.2.2)))] (shM, I, L, Rf))) ad (k_ap [(0, .inl (0, c0_0)), (0, .inl (2, c0_2)), (0, .inl (3, c0_3)), (0, .inl (4, c0_4)), (0, .inl (5, c0_5)), (0, .inl (6, c0_6)), (0, .inl (7, c0_7)), (0, .inl (8, c0_8)), (0, .inl (54, c0_54)), (1, .inr (.inr (.inl a1))), (25, .inr (.inr (.inl a25))), (26, .inr (.inr (.inl a26)))] (shM, I, L, Rf)) 28 [some (.ref 0), some (.int v1), none, none, none, none, none] [.ref 0] := by
  intro c0_0 c0_2 c0_3 c0_4 c0_5 c0_6 c0_7 c0_8 c0_54 a1 a25 a26 v1 h
  unfold bX11_book_28 at h
  refine r_iconst (v := (0 : Int32)) C dX11_book_28 (rfl : 28 + 1 = 29) rfl ?_
  refine k_mask [true, true, false, false, false, false, false] ?_
  exact sX11_book_29 u C hr hR ea2 c0_0 c0_2 c0_3 c0_4 c0_5 c0_6 c0_7 c0_8 c0_54 a1 a25 a26 v1 (0 : Int32) h
set_option maxHeartbeats 400000 in
set_option maxRecDepth 100000 in
theorem sX11_book_0 (u : Nat) {X : k_X} {ad : Nat → Nat} (C : k_C X cX11_book RX11 7 ad) (hr : X.meth.sig.returnType = (some .int)) (hR : X.R.frames = 2 ∧ X.R.locals = 47) {I : Nat → Nat → Int32} {L : Nat → Nat → Int64} {Rf : Nat → Nat → Option Nat} {a2 : (Nat → Int32)} (ea2 : I 2 = a2) {out : Int32 × Int32 × Int32 × Int32 × Int32 × Int32 × Int32 × Int32 × Int32 × Int32 × (Nat → Int32) × (Nat → Int32) × (Nat → Int32)} : ∀ (c0_0 : Int32) (c0_2 : Int32) (c0_3 : Int32) (c0_4 : Int32) (c0_5 : Int32) (c0_6 : Int32) (c0_7 : Int32) (c0_8 : Int32) (c0_54 : Int32) (a1 : (Nat → Int32)) (a25 : (Nat → Int32)) (a26 : (Nat → Int32)) (v1 : Int32), bX11_book_0 u a2 c0_0 c0_2 c0_3 c0_4 c0_5 c0_6 c0_7 c0_8 c0_54 a1 a25 a26 v1 = some out → k_W X 7 0 0 (k_Q X ad (some (.int out.1)) (k_ap [(0, .inl (0, out.2.1)), (0, .inl (2, out.2.2.1)), (0, .inl (3, out.2.2.2.1)), (0, .inl (4, out.2.2.2.2.1)), (0, .inl (5, out.2.2.2.2.2.1)), (0, .inl (6, out.2.2.2.2.2.2.1)), (0, .inl (7, out.2.2.2.2.2.2.2.1)), (0, .inl (8, out.2.2.2.2.2.2.2.2.1)), (0, .inl (54, out.2.2.2.2.2.2.2.2.2.1)), (1, .inr (.inr (.inl out.2.2.2.2.2.2.2.2.2.2.1))), (25, .inr (.inr (.inl out.2.2.2.2.2.2.2.2.2.2.2.1))), (26, .inr (.inr (.inl out.2.2.2.2.2.2.2.2.2.2.2.2)))] (shM, I, L, Rf))) ad (k_ap [(0, .inl (0, c0_0)), (0, .inl (2, c0_2)), (0, .inl (3, c0_3)), (0, .inl (4, c0_4)), (0, .inl (5, c0_5)), (0, .inl (6, c0_6)), (0, .inl (7, c0_7)), (0, .inl (8, c0_8)), (0, .inl (54, c0_54)), (1, .inr (.inr (.inl a1))), (25, .inr (.inr (.inl a25))), (26, .inr (.inr (.inl a26)))] (shM, I, L, Rf)) 0 [some (.ref 0), some (.int v1), none, none, none, none, none] [] := by
  intro c0_0 c0_2 c0_3 c0_4 c0_5 c0_6 c0_7 c0_8 c0_54 a1 a25 a26 v1 h
  unfold bX11_book_0 at h
  refine r_aload_n C dX11_book_0 (rfl : 0 + 1 = 1) rfl ?_
  refine r_iconst (v := (0 : Int32)) C dX11_book_1 (rfl : 1 + 1 = 2) rfl ?_
  refine p_I (us' := [(0, .inl (0, (0 : Int32))), (0, .inl (2, c0_2)), (0, .inl (3, c0_3)), (0, .inl (4, c0_4)), (0, .inl (5, c0_5)), (0, .inl (6, c0_6)), (0, .inl (7, c0_7)), (0, .inl (8, c0_8)), (0, .inl (54, c0_54)), (1, .inr (.inr (.inl a1))), (25, .inr (.inr (.inl a25))), (26, .inr (.inr (.inl a26)))]) C dX11_book_2 (rfl : 2 + 3 = 5) fp_X11_3 rfl rfl ds_X11_book rfl rfl rfl ?_
  refine r_aload_n C dX11_book_5 (rfl : 5 + 1 = 6) rfl ?_
  refine r_iload_n C dX11_book_6 (rfl : 6 + 1 = 7) rfl ?_
  refine r_if_lt (tgt := 28) C dX11_book_7 (by decide) (rfl : 7 + 3 = 10) (fun c7 => ?_) (fun c7 => ?_)
  · have h := k_t c7 h
    refine k_mask [true, true, false, false, false, false, false] ?_
    exact sX11_book_28 u C hr hR ea2 (0 : Int32) c0_2 c0_3 c0_4 c0_5 c0_6 c0_7 c0_8 c0_54 a1 a25 a26 v1 h
  · have h := k_f c7 h
    refine r_iload_n C dX11_book_10 (rfl : 10 + 1 = 11) rfl ?_
    refine r_aload_n C dX11_book_11 (rfl : 11 + 1 = 12) rfl ?_
    refine r_getI (v := c0_2) C dX11_book_12 (rfl : 12 + 3 = 15) fl_X11_118 rfl rfl rfl ?_
    refine r_icmp_gt (tgt := 28) C dX11_book_15 (by decide) (rfl : 15 + 3 = 18) (fun c15 => ?_) (fun c15 => ?_)
    · have h := k_t c15 h
      refine k_mask [true, true, false, false, false, false, false] ?_
      exact sX11_book_28 u C hr hR ea2 (0 : Int32) c0_2 c0_3 c0_4 c0_5 c0_6 c0_7 c0_8 c0_54 a1 a25 a26 v1 h
    · have h := k_f c15 h
      refine r_iload_n C dX11_book_18 (rfl : 18 + 1 = 19) rfl ?_
      refine r_bipush (v := (100 : Int32)) C dX11_book_19 (rfl : 19 + 2 = 21) rfl ?_
      refine r_icmp_gt (tgt := 28) C dX11_book_21 (by decide) (rfl : 21 + 3 = 24) (fun c21 => ?_) (fun c21 => ?_)
      · have h := k_t c21 h
        refine k_mask [true, true, false, false, false, false, false] ?_
        exact sX11_book_28 u C hr hR ea2 (0 : Int32) c0_2 c0_3 c0_4 c0_5 c0_6 c0_7 c0_8 c0_54 a1 a25 a26 v1 h
      · have h := k_f c21 h
        refine r_iconst (v := (1 : Int32)) C dX11_book_24 (rfl : 24 + 1 = 25) rfl ?_
        refine r_goto (tgt := 29) C dX11_book_25 (by decide) ?_
        refine k_mask [true, true, false, false, false, false, false] ?_
        exact sX11_book_29 u C hr hR ea2 (0 : Int32) c0_2 c0_3 c0_4 c0_5 c0_6 c0_7 c0_8 c0_54 a1 a25 a26 v1 (1 : Int32) h
set_option maxHeartbeats 400000 in
set_option maxRecDepth 100000 in
theorem c_X11_book (l : Launch) (u : Nat) (h : k_H) (hsh : h.1 = shM) {c0_0 : Int32} (ec0_0 : h.2.1 0 0 = c0_0) {c0_2 : Int32} (ec0_2 : h.2.1 0 2 = c0_2) {c0_3 : Int32} (ec0_3 : h.2.1 0 3 = c0_3) {c0_4 : Int32} (ec0_4 : h.2.1 0 4 = c0_4) {c0_5 : Int32} (ec0_5 : h.2.1 0 5 = c0_5) {c0_6 : Int32} (ec0_6 : h.2.1 0 6 = c0_6) {c0_7 : Int32} (ec0_7 : h.2.1 0 7 = c0_7) {c0_8 : Int32} (ec0_8 : h.2.1 0 8 = c0_8) {c0_54 : Int32} (ec0_54 : h.2.1 0 54 = c0_54) {a1 : (Nat → Int32)} (ea1 : h.2.1 1 = a1) {a2 : (Nat → Int32)} (ea2 : h.2.1 2 = a2) {a25 : (Nat → Int32)} (ea25 : h.2.1 25 = a25) {a26 : (Nat → Int32)} (ea26 : h.2.1 26 = a26) {x0 : Int32} {out : Int32 × Int32 × Int32 × Int32 × Int32 × Int32 × Int32 × Int32 × Int32 × Int32 × (Nat → Int32) × (Nat → Int32) × (Nat → Int32)} (hf : f_X11_book u c0_0 c0_2 c0_3 c0_4 c0_5 c0_6 c0_7 c0_8 c0_54 a1 a2 a25 a26 x0 = some out) : k_CT l yX11_book cX11_book 7 (some .int) 2 47 [.ref 0, .int x0] h (some (.int out.1)) [(0, .inl (0, out.2.1)), (0, .inl (2, out.2.2.1)), (0, .inl (3, out.2.2.2.1)), (0, .inl (4, out.2.2.2.2.1)), (0, .inl (5, out.2.2.2.2.2.1)), (0, .inl (6, out.2.2.2.2.2.2.1)), (0, .inl (7, out.2.2.2.2.2.2.2.1)), (0, .inl (8, out.2.2.2.2.2.2.2.2.1)), (0, .inl (54, out.2.2.2.2.2.2.2.2.2.1)), (1, .inr (.inr (.inl out.2.2.2.2.2.2.2.2.2.2.1))), (25, .inr (.inr (.inl out.2.2.2.2.2.2.2.2.2.2.2.1))), (26, .inr (.inr (.inl out.2.2.2.2.2.2.2.2.2.2.2.2)))] := by
  obtain ⟨sh, I, L, Rf⟩ := h
  try dsimp only
  obtain rfl : sh = shM := hsh
  refine k_ofW (by decide) (Nat.le_of_ble_eq_true rfl) ?_
  intro X ad hl hR0 hr C
  have hR : X.R.frames = 2 ∧ X.R.locals = 47 := by rw [hR0]; exact ⟨rfl, rfl⟩
  have h := hf
  unfold f_X11_book at h
  refine k_start (us := [(0, .inl (0, c0_0)), (0, .inl (2, c0_2)), (0, .inl (3, c0_3)), (0, .inl (4, c0_4)), (0, .inl (5, c0_5)), (0, .inl (6, c0_6)), (0, .inl (7, c0_7)), (0, .inl (8, c0_8)), (0, .inl (54, c0_54)), (1, .inr (.inr (.inl a1))), (25, .inr (.inr (.inl a25))), (26, .inr (.inr (.inl a26)))]) (k_ao_I ec0_0 (k_ao_I ec0_2 (k_ao_I ec0_3 (k_ao_I ec0_4 (k_ao_I ec0_5 (k_ao_I ec0_6 (k_ao_I ec0_7 (k_ao_I ec0_8 (k_ao_I ec0_54 (k_ao_A ea1 (k_ao_A ea25 (k_ao_A ea26 k_ap_0)))))))))))) ?_
  show k_W X 7 0 0 _ ad (k_ap [(0, .inl (0, c0_0)), (0, .inl (2, c0_2)), (0, .inl (3, c0_3)), (0, .inl (4, c0_4)), (0, .inl (5, c0_5)), (0, .inl (6, c0_6)), (0, .inl (7, c0_7)), (0, .inl (8, c0_8)), (0, .inl (54, c0_54)), (1, .inr (.inr (.inl a1))), (25, .inr (.inr (.inl a25))), (26, .inr (.inr (.inl a26)))] (shM, I, L, Rf)) 0 [some (.ref 0), some (.int x0), none, none, none, none, none] []
  refine k_mask [true, true, false, false, false, false, false] ?_
  exact sX11_book_0 u C hr hR ea2 c0_0 c0_2 c0_3 c0_4 c0_5 c0_6 c0_7 c0_8 c0_54 a1 a25 a26 x0 h
/-! LullabyPitModel.undo()I -/
theorem ds_X11_undo : k_ds [(0, 0, 0), (0, 0, 42), (0, 0, 43), (20, 2, 0)] = true := by decide +kernel
set_option maxHeartbeats 400000 in
set_option maxRecDepth 100000 in
theorem sX11_undo_26 (u : Nat) {X : k_X} {ad : Nat → Nat} (C : k_C X cX11_undo RX11 2 ad) (hr : X.meth.sig.returnType = (some .int)) (hR : X.R.frames = 0 ∧ X.R.locals = 0) {I : Nat → Nat → Int32} {L : Nat → Nat → Int64} {Rf : Nat → Nat → Option Nat} {a22 : (Nat → Int32)} (ea22 : I 22 = a22) {out : Int32 × Int32 × Int32 × Int32 × (Nat → Int32)} : ∀ (n : Nat) (c0_0 : Int32) (c0_42 : Int32) (c0_43 : Int32) (a20 : (Nat → Int32)) (v1 : Int32), bX11_undo_26 u a22 n c0_0 c0_42 c0_43 a20 v1 = some out → k_W X 2 0 0 (k_Q X ad (some (.int out.1)) (k_ap [(0, .inl (0, out.2.1)), (0, .inl (42, out.2.2.1)), (0, .inl (43, out.2.2.2.1)), (20, .inr (.inr (.inl out.2.2.2.2)))] (shM, I, L, Rf))) ad (k_ap [(0, .inl (0, c0_0)), (0, .inl (42, c0_42)), (0, .inl (43, c0_43)), (20, .inr (.inr (.inl a20)))] (shM, I, L, Rf)) 26 [some (.ref 0), some (.int v1)] [] := by
  intro n
  induction n with
  | zero => intro c0_0 c0_42 c0_43 a20 v1 h; cases h
  | succ n ih =>
    intro c0_0 c0_42 c0_43 a20 v1 h
    refine r_iload_n C dX11_undo_26 (rfl : 26 + 1 = 27) rfl ?_
    refine r_bipush (v := (77 : Int32)) C dX11_undo_27 (rfl : 27 + 2 = 29) rfl ?_
    refine r_icmp_ge (tgt := 58) C dX11_undo_29 (by decide) (rfl : 29 + 3 = 32) (fun c29 => ?_) (fun c29 => ?_)
    · have h := k_t c29 h
      refine r_aload_n C dX11_undo_58 (rfl : 58 + 1 = 59) rfl ?_
      refine r_iconst (v := (0 : Int32)) C dX11_undo_59 (rfl : 59 + 1 = 60) rfl ?_
      refine p_I (us' := [(0, .inl (0, c0_0)), (0, .inl (42, c0_42)), (0, .inl (43, (0 : Int32))), (20, .inr (.inr (.inl a20)))]) C dX11_undo_60 (rfl : 60 + 3 = 63) fp_X11_215 rfl rfl ds_X11_undo rfl rfl rfl ?_
      refine r_aload_n C dX11_undo_63 (rfl : 63 + 1 = 64) rfl ?_
      refine r_getI (v := c0_42) C dX11_undo_64 (rfl : 64 + 3 = 67) fl_X11_209 rfl rfl rfl ?_
      cases h
      exact r_iret C hr dX11_undo_67
    · have h := k_f c29 h
      refine r_aload_n C dX11_undo_32 (rfl : 32 + 1 = 33) rfl ?_
      refine r_getR (q := 20) C dX11_undo_33 (rfl : 33 + 3 = 36) fl_X11_74 rfl rfl ?_
      refine r_iload_n C dX11_undo_36 (rfl : 36 + 1 = 37) rfl ?_
      refine r_aload_n C dX11_undo_37 (rfl : 37 + 1 = 38) rfl ?_
      refine r_getR (q := 22) C dX11_undo_38 (rfl : 38 + 3 = 41) fl_X11_80 rfl rfl ?_
      refine r_bipush (v := (77 : Int32)) C dX11_undo_41 (rfl : 41 + 2 = 43) rfl ?_
      refine r_aload_n C dX11_undo_43 (rfl : 43 + 1 = 44) rfl ?_
      refine r_getI (v := c0_42) C dX11_undo_44 (rfl : 44 + 3 = 47) fl_X11_209 rfl rfl rfl ?_
      refine r_imul C dX11_undo_47 (rfl : 47 + 1 = 48) ?_
      refine r_iload_n C dX11_undo_48 (rfl : 48 + 1 = 49) rfl ?_
      refine r_iadd C dX11_undo_49 (rfl : 49 + 1 = 50) ?_
      obtain ⟨hi50, h⟩ := k_i_of h
      refine a_i (j := ((((77 : Int32) * c0_42) + v1)).toNatClampNeg) (f := a22) C dX11_undo_50 (rfl : 50 + 1 = 51) rfl ea22 hi50 rfl ?_
      obtain ⟨hi51, h⟩ := k_i_of h
      refine s_i (j := (v1).toNatClampNeg) (f := a20) (us' := [(0, .inl (0, c0_0)), (0, .inl (42, c0_42)), (0, .inl (43, c0_43)), (20, .inr (.inr (.inl (upd a20 ((v1).toNatClampNeg) (a22 (((((77 : Int32) * c0_42) + v1)).toNatClampNeg))))))]) C dX11_undo_51 (rfl : 51 + 1 = 52) rfl rfl hi51 rfl ds_X11_undo rfl rfl rfl ?_
      refine r_iinc (v := (v1 + (1 : Int32))) C dX11_undo_52 (rfl : 52 + 3 = 55) rfl rfl (by decide) ?_
      show k_W _ _ _ _ _ _ _ _ [some (.ref 0), some (.int (v1 + (1 : Int32)))] _
      refine r_goto (tgt := 26) C dX11_undo_55 (by decide) ?_
      refine k_mask [true, true] ?_
      exact ih c0_0 c0_42 c0_43 (upd a20 ((v1).toNatClampNeg) (a22 (((((77 : Int32) * c0_42) + v1)).toNatClampNeg))) (v1 + (1 : Int32)) h
set_option maxHeartbeats 400000 in
set_option maxRecDepth 100000 in
theorem sX11_undo_0 (u : Nat) {X : k_X} {ad : Nat → Nat} (C : k_C X cX11_undo RX11 2 ad) (hr : X.meth.sig.returnType = (some .int)) (hR : X.R.frames = 0 ∧ X.R.locals = 0) {I : Nat → Nat → Int32} {L : Nat → Nat → Int64} {Rf : Nat → Nat → Option Nat} {a22 : (Nat → Int32)} (ea22 : I 22 = a22) {out : Int32 × Int32 × Int32 × Int32 × (Nat → Int32)} : ∀ (c0_0 : Int32) (c0_42 : Int32) (c0_43 : Int32) (a20 : (Nat → Int32)), bX11_undo_0 u a22 c0_0 c0_42 c0_43 a20 = some out → k_W X 2 0 0 (k_Q X ad (some (.int out.1)) (k_ap [(0, .inl (0, out.2.1)), (0, .inl (42, out.2.2.1)), (0, .inl (43, out.2.2.2.1)), (20, .inr (.inr (.inl out.2.2.2.2)))] (shM, I, L, Rf))) ad (k_ap [(0, .inl (0, c0_0)), (0, .inl (42, c0_42)), (0, .inl (43, c0_43)), (20, .inr (.inr (.inl a20)))] (shM, I, L, Rf)) 0 [some (.ref 0), none] [] := by
  intro c0_0 c0_42 c0_43 a20 h
  unfold bX11_undo_0 at h
  refine r_aload_n C dX11_undo_0 (rfl : 0 + 1 = 1) rfl ?_
  refine r_iconst (v := (0 : Int32)) C dX11_undo_1 (rfl : 1 + 1 = 2) rfl ?_
  refine p_I (us' := [(0, .inl (0, (0 : Int32))), (0, .inl (42, c0_42)), (0, .inl (43, c0_43)), (20, .inr (.inr (.inl a20)))]) C dX11_undo_2 (rfl : 2 + 3 = 5) fp_X11_3 rfl rfl ds_X11_undo rfl rfl rfl ?_
  refine r_aload_n C dX11_undo_5 (rfl : 5 + 1 = 6) rfl ?_
  refine r_getI (v := c0_42) C dX11_undo_6 (rfl : 6 + 3 = 9) fl_X11_209 rfl rfl rfl ?_
  refine r_if_ne (tgt := 14) C dX11_undo_9 (by decide) (rfl : 9 + 3 = 12) (fun c9 => ?_) (fun c9 => ?_)
  · have h := k_f c9 h
    refine r_aload_n C dX11_undo_14 (rfl : 14 + 1 = 15) rfl ?_
    refine r_dup C dX11_undo_15 (rfl : 15 + 1 = 16) rfl ?_
    refine r_getI (v := c0_42) C dX11_undo_16 (rfl : 16 + 3 = 19) fl_X11_209 rfl rfl rfl ?_
    refine r_iconst (v := (1 : Int32)) C dX11_undo_19 (rfl : 19 + 1 = 20) rfl ?_
    refine r_isub C dX11_undo_20 (rfl : 20 + 1 = 21) ?_
    refine p_I (us' := [(0, .inl (0, (0 : Int32))), (0, .inl (42, (c0_42 - (1 : Int32)))), (0, .inl (43, c0_43)), (20, .inr (.inr (.inl a20)))]) C dX11_undo_21 (rfl : 21 + 3 = 24) fp_X11_209 rfl rfl ds_X11_undo rfl rfl rfl ?_
    refine r_iconst (v := (0 : Int32)) C dX11_undo_24 (rfl : 24 + 1 = 25) rfl ?_
    refine r_istore_n C dX11_undo_25 (rfl : 25 + 1 = 26) (by decide) (Nat.le_of_ble_eq_true rfl) ?_
    show k_W _ _ _ _ _ _ _ _ [some (.ref 0), some (.int (0 : Int32))] _
    refine k_mask [true, true] ?_
    exact sX11_undo_26 u C hr hR ea22 u (0 : Int32) (c0_42 - (1 : Int32)) c0_43 a20 (0 : Int32) h
  · have h := k_t c9 h
    refine r_iconst (v := (-1 : Int32)) C dX11_undo_12 (rfl : 12 + 1 = 13) rfl ?_
    cases h
    exact r_iret C hr dX11_undo_13
set_option maxHeartbeats 400000 in
set_option maxRecDepth 100000 in
theorem c_X11_undo (l : Launch) (u : Nat) (h : k_H) (hsh : h.1 = shM) {c0_0 : Int32} (ec0_0 : h.2.1 0 0 = c0_0) {c0_42 : Int32} (ec0_42 : h.2.1 0 42 = c0_42) {c0_43 : Int32} (ec0_43 : h.2.1 0 43 = c0_43) {a20 : (Nat → Int32)} (ea20 : h.2.1 20 = a20) {a22 : (Nat → Int32)} (ea22 : h.2.1 22 = a22) {out : Int32 × Int32 × Int32 × Int32 × (Nat → Int32)} (hf : f_X11_undo u c0_0 c0_42 c0_43 a20 a22 = some out) : k_CT l yX11_undo cX11_undo 2 (some .int) 0 0 [.ref 0] h (some (.int out.1)) [(0, .inl (0, out.2.1)), (0, .inl (42, out.2.2.1)), (0, .inl (43, out.2.2.2.1)), (20, .inr (.inr (.inl out.2.2.2.2)))] := by
  obtain ⟨sh, I, L, Rf⟩ := h
  try dsimp only
  obtain rfl : sh = shM := hsh
  refine k_ofW (by decide) (Nat.le_of_ble_eq_true rfl) ?_
  intro X ad hl hR0 hr C
  have hR : X.R.frames = 0 ∧ X.R.locals = 0 := by rw [hR0]; exact ⟨rfl, rfl⟩
  have h := hf
  unfold f_X11_undo at h
  refine k_start (us := [(0, .inl (0, c0_0)), (0, .inl (42, c0_42)), (0, .inl (43, c0_43)), (20, .inr (.inr (.inl a20)))]) (k_ao_I ec0_0 (k_ao_I ec0_42 (k_ao_I ec0_43 (k_ao_A ea20 k_ap_0)))) ?_
  show k_W X 2 0 0 _ ad (k_ap [(0, .inl (0, c0_0)), (0, .inl (42, c0_42)), (0, .inl (43, c0_43)), (20, .inr (.inr (.inl a20)))] (shM, I, L, Rf)) 0 [some (.ref 0), none] []
  refine k_mask [true, false] ?_
  exact sX11_undo_0 u C hr hR ea22 c0_0 c0_42 c0_43 a20 h
