/-! LullabyPitModel.owners(III)I -/
theorem ds_X11_owners : k_ds [(0, 0, 0), (1, 2, 0)] = true := by decide +kernel
set_option maxHeartbeats 400000 in
set_option maxRecDepth 100000 in
theorem sX11_owners_126 (u : Nat) {X : k_X} {ad : Nat → Nat} (C : k_C X cX11_owners RX11 8 ad) (hr : X.meth.sig.returnType = (some .int)) (hR : X.R.frames = 2 ∧ X.R.locals = 49) {I : Nat → Nat → Int32} {L : Nat → Nat → Int64} {Rf : Nat → Nat → Option Nat} {a9 : (Nat → Int32)} (ea9 : I 9 = a9) {out : Int32 × Int32 × (Nat → Int32)} {k58 : Int32 → (Nat → Int32) → Int32 → Int32 → Int32 → Int32 → Int32 → Int32 → Option (Int32 × Int32 × (Nat → Int32))} (hk58 : ∀ (c0_0 : Int32) (a1 : (Nat → Int32)) (v1 : Int32) (v2 : Int32) (v3 : Int32) (v4 : Int32) (v5 : Int32) (v6 : Int32), k58 c0_0 a1 v1 v2 v3 v4 v5 v6 = some out → k_W X 8 0 0 (k_Q X ad (some (.int out.1)) (k_ap [(0, .inl (0, out.2.1)), (1, .inr (.inr (.inl out.2.2)))] (shM, I, L, Rf))) ad (k_ap [(0, .inl (0, c0_0)), (1, .inr (.inr (.inl a1)))] (shM, I, L, Rf)) 58 [some (.ref 0), some (.int v1), some (.int v2), some (.int v3), some (.int v4), some (.int v5), some (.int v6), none] []) {k67 : Int32 → (Nat → Int32) → Int32 → Int32 → Int32 → Int32 → Int32 → Int32 → Int32 → Option (Int32 × Int32 × (Nat → Int32))} (hk67 : ∀ (c0_0 : Int32) (a1 : (Nat → Int32)) (v1 : Int32) (v2 : Int32) (v3 : Int32) (v4 : Int32) (v5 : Int32) (v6 : Int32) (v7 : Int32), k67 c0_0 a1 v1 v2 v3 v4 v5 v6 v7 = some out → k_W X 8 0 0 (k_Q X ad (some (.int out.1)) (k_ap [(0, .inl (0, out.2.1)), (1, .inr (.inr (.inl out.2.2)))] (shM, I, L, Rf))) ad (k_ap [(0, .inl (0, c0_0)), (1, .inr (.inr (.inl a1)))] (shM, I, L, Rf)) 67 [some (.ref 0), some (.int v1), some (.int v2), some (.int v3), some (.int v4), some (.int v5), some (.int v6), some (.int v7)] []) : ∀ (c0_0 : Int32) (a1 : (Nat → Int32)) (v1 : Int32) (v2 : Int32) (v3 : Int32) (v4 : Int32) (v5 : Int32) (v6 : Int32) (v7 : Int32), bX11_owners_126 u a9 k58 k67 c0_0 a1 v1 v2 v3 v4 v5 v6 v7 = some out → k_W X 8 0 0 (k_Q X ad (some (.int out.1)) (k_ap [(0, .inl (0, out.2.1)), (1, .inr (.inr (.inl out.2.2)))] (shM, I, L, Rf))) ad (k_ap [(0, .inl (0, c0_0)), (1, .inr (.inr (.inl a1)))] (shM, I, L, Rf)) 126 [some (.ref 0), some (.int v1), some (.int v2), some (.int v3), some (.int v4), some (.int v5), some (.int v6), some (.int v7)] [] := by
  intro c0_0 a1 v1 v2 v3 v4 v5 v6 v7 h
  unfold bX11_owners_126 at h
  refine r_iinc (v := (v7 + (1 : Int32))) C dX11_owners_126 (rfl : 126 + 3 = 129) rfl rfl (by decide) ?_
  show k_W _ _ _ _ _ _ _ _ [some (.ref 0), some (.int v1), some (.int v2), some (.int v3), some (.int v4), some (.int v5), some (.int v6), some (.int (v7 + (1 : Int32)))] _
  refine r_goto (tgt := 67) C dX11_owners_129 (by decide) ?_
  refine k_mask [true, true, true, true, true, true, true, true] ?_
  exact hk67 c0_0 a1 v1 v2 v3 v4 v5 v6 (v7 + (1 : Int32)) h
set_option maxHeartbeats 400000 in
set_option maxRecDepth 100000 in
theorem sX11_owners_124 (u : Nat) {X : k_X} {ad : Nat → Nat} (C : k_C X cX11_owners RX11 8 ad) (hr : X.meth.sig.returnType = (some .int)) (hR : X.R.frames = 2 ∧ X.R.locals = 49) {I : Nat → Nat → Int32} {L : Nat → Nat → Int64} {Rf : Nat → Nat → Option Nat} {a9 : (Nat → Int32)} (ea9 : I 9 = a9) {out : Int32 × Int32 × (Nat → Int32)} {k58 : Int32 → (Nat → Int32) → Int32 → Int32 → Int32 → Int32 → Int32 → Int32 → Option (Int32 × Int32 × (Nat → Int32))} (hk58 : ∀ (c0_0 : Int32) (a1 : (Nat → Int32)) (v1 : Int32) (v2 : Int32) (v3 : Int32) (v4 : Int32) (v5 : Int32) (v6 : Int32), k58 c0_0 a1 v1 v2 v3 v4 v5 v6 = some out → k_W X 8 0 0 (k_Q X ad (some (.int out.1)) (k_ap [(0, .inl (0, out.2.1)), (1, .inr (.inr (.inl out.2.2)))] (shM, I, L, Rf))) ad (k_ap [(0, .inl (0, c0_0)), (1, .inr (.inr (.inl a1)))] (shM, I, L, Rf)) 58 [some (.ref 0), some (.int v1), some (.int v2), some (.int v3), some (.int v4), some (.int v5), some (.int v6), none] []) {k67 : Int32 → (Nat → Int32) → Int32 → Int32 → Int32 → Int32 → Int32 → Int32 → Int32 → Option (Int32 × Int32 × (Nat → Int32))} (hk67 : ∀ (c0_0 : Int32) (a1 : (Nat → Int32)) (v1 : Int32) (v2 : Int32) (v3 : Int32) (v4 : Int32) (v5 : Int32) (v6 : Int32) (v7 : Int32), k67 c0_0 a1 v1 v2 v3 v4 v5 v6 v7 = some out → k_W X 8 0 0 (k_Q X ad (some (.int out.1)) (k_ap [(0, .inl (0, out.2.1)), (1, .inr (.inr (.inl out.2.2)))] (shM, I, L, Rf))) ad (k_ap [(0, .inl (0, c0_0)), (1, .inr (.inr (.inl a1)))] (shM, I, L, Rf)) 67 [some (.ref 0), some (.int v1), some (.int v2), some (.int v3), some (.int v4), some (.int v5), some (.int v6), some (.int v7)] []) : ∀ (c0_0 : Int32) (a1 : (Nat → Int32)) (v1 : Int32) (v2 : Int32) (v3 : Int32) (v4 : Int32) (v6 : Int32) (v7 : Int32) (w0 : Int32), bX11_owners_124 u a9 k58 k67 c0_0 a1 v1 v2 v3 v4 v6 v7 w0 = some out → k_W X 8 0 0 (k_Q X ad (some (.int out.1)) (k_ap [(0, .inl (0, out.2.1)), (1, .inr (.inr (.inl out.2.2)))] (shM, I, L, Rf))) ad (k_ap [(0, .inl (0, c0_0)), (1, .inr (.inr (.inl a1)))] (shM, I, L, Rf)) 124 [some (.ref 0), some (.int v1), some (.int v2), some (.int v3), some (.int v4), none, some (.int v6), some (.int v7)] [.int w0] := by
  intro c0_0 a1 v1 v2 v3 v4 v6 v7 w0 h
  unfold bX11_owners_124 at h
  refine r_istore C dX11_owners_124 (rfl : 124 + 2 = 126) (by decide) (Nat.le_of_ble_eq_true rfl) ?_
  show k_W _ _ _ _ _ _ _ _ [some (.ref 0), some (.int v1), some (.int v2), some (.int v3), some (.int v4), some (.int w0), some (.int v6), some (.int v7)] _
  refine k_mask [true, true, true, true, true, true, true, true] ?_
  exact sX11_owners_126 u C hr hR ea9 hk58 hk67 c0_0 a1 v1 v2 v3 v4 w0 v6 v7 h
set_option maxHeartbeats 400000 in
set_option maxRecDepth 100000 in
theorem sX11_owners_67 (u : Nat) {X : k_X} {ad : Nat → Nat} (C : k_C X cX11_owners RX11 8 ad) (hr : X.meth.sig.returnType = (some .int)) (hR : X.R.frames = 2 ∧ X.R.locals = 49) {I : Nat → Nat → Int32} {L : Nat → Nat → Int64} {Rf : Nat → Nat → Option Nat} {a9 : (Nat → Int32)} (ea9 : I 9 = a9) {out : Int32 × Int32 × (Nat → Int32)} {k58 : Int32 → (Nat → Int32) → Int32 → Int32 → Int32 → Int32 → Int32 → Int32 → Option (Int32 × Int32 × (Nat → Int32))} (hk58 : ∀ (c0_0 : Int32) (a1 : (Nat → Int32)) (v1 : Int32) (v2 : Int32) (v3 : Int32) (v4 : Int32) (v5 : Int32) (v6 : Int32), k58 c0_0 a1 v1 v2 v3 v4 v5 v6 = some out → k_W X 8 0 0 (k_Q X ad (some (.int out.1)) (k_ap [(0, .inl (0, out.2.1)), (1, .inr (.inr (.inl out.2.2)))] (shM, I, L, Rf))) ad (k_ap [(0, .inl (0, c0_0)), (1, .inr (.inr (.inl a1)))] (shM, I, L, Rf)) 58 [some (.ref 0), some (.int v1), some (.int v2), some (.int v3), some (.int v4), some (.int v5), some (.int v6), none] []) : ∀ (n : Nat) (c0_0 : Int32) (a1 : (Nat → Int32)) (v1 : Int32) (v2 : Int32) (v3 : Int32) (v4 : Int32) (v5 : Int32) (v6 : Int32) (v7 : Int32), bX11_owners_67 u a9 k58 n c0_0 a1 v1 v2 v3 v4 v5 v6 v7 = some out → k_W X 8 0 0 (k_Q X ad (some (.int out.1)) (k_ap [(0, .inl (0, out.2.1)), (1, .inr (.inr (.inl out.2.2)))] (shM, I, L, Rf))) ad (k_ap [(0, .inl (0, c0_0)), (1, .inr (.inr (.inl a1)))] (shM, I, L, Rf)) 67 [some (.ref 0), some (.int v1), some (.int v2), some (.int v3), some (.int v4), some (.int v5), some (.int v6), some (.int v7)] [] := by
  intro n
  induction n with
  | zero => intro c0_0 a1 v1 v2 v3 v4 v5 v6 v7 h; cases h
  | succ n ih =>
    intro c0_0 a1 v1 v2 v3 v4 v5 v6 v7 h
    refine r_iload C dX11_owners_67 (rfl : 67 + 2 = 69) rfl ?_
    refine r_iload_n C dX11_owners_69 (rfl : 69 + 1 = 70) rfl ?_
    refine r_icmp_gt (tgt := 132) C dX11_owners_70 (by decide) (rfl : 70 + 3 = 73) (fun c70 => ?_) (fun c70 => ?_)
    · have h := k_t c70 h
      refine r_iinc (v := (v6 + (1 : Int32))) C dX11_owners_132 (rfl : 132 + 3 = 135) rfl rfl (by decide) ?_
      show k_W _ _ _ _ _ _ _ _ [some (.ref 0), some (.int v1), some (.int v2), some (.int v3), some (.int v4), some (.int v5), some (.int (v6 + (1 : Int32))), some (.int v7)] _
      refine r_goto (tgt := 58) C dX11_owners_135 (by decide) ?_
      refine k_mask [true, true, true, true, true, true, true, false] ?_
      exact hk58 c0_0 a1 v1 v2 v3 v4 v5 (v6 + (1 : Int32)) h
    · have h := k_f c70 h
      refine r_aload_n C dX11_owners_73 (rfl : 73 + 1 = 74) rfl ?_
      refine r_iload_n C dX11_owners_74 (rfl : 74 + 1 = 75) rfl ?_
      refine r_iload C dX11_owners_75 (rfl : 75 + 2 = 77) rfl ?_
      refine r_iload C dX11_owners_77 (rfl : 77 + 2 = 79) rfl ?_
      refine r_iload_n C dX11_owners_79 (rfl : 79 + 1 = 80) rfl ?_
      obtain ⟨r80, q80, h⟩ := k_b_of h
      refine d_V (As := [.int v1, .int v6, .int v7, .int v2]) (st := []) (st' := [.int r80]) (h' := k_ap [(0, .inl (0, c0_0)), (1, .inr (.inr (.inl a1)))] (shM, I, L, Rf)) C hR ⟨Nat.zero_le _, Nat.zero_le _⟩ mv_X11_isBest lk_X11_470 dX11_owners_80 (rfl : 80 + 3 = 83) rfl rfl rfl rfl (c_X11_isBest X.l u (k_ap [(0, .inl (0, c0_0)), (1, .inr (.inr (.inl a1)))] (shM, I, L, Rf)) rfl ea9 q80) rfl rfl rfl rfl rfl ?_
      refine r_if_eq (tgt := 126) C dX11_owners_83 (by decide) (rfl : 83 + 3 = 86) (fun c83 => ?_) (fun c83 => ?_)
      · have h := k_t c83 h
        refine k_mask [true, true, true, true, true, true, true, true] ?_
        exact sX11_owners_126 u C hr hR ea9 hk58 ih c0_0 a1 v1 v2 v3 v4 v5 v6 v7 h
      · have h := k_f c83 h
        refine r_aload_n C dX11_owners_86 (rfl : 86 + 1 = 87) rfl ?_
        refine r_iload_n C dX11_owners_87 (rfl : 87 + 1 = 88) rfl ?_
        refine r_iload C dX11_owners_88 (rfl : 88 + 2 = 90) rfl ?_
        refine r_iload C dX11_owners_90 (rfl : 90 + 2 = 92) rfl ?_
        refine r_iload_n C dX11_owners_92 (rfl : 92 + 1 = 93) rfl ?_
        obtain ⟨r93, q93, h⟩ := k_b_of h
        refine d_V (As := [.int v1, .int v7, .int v6, .int v2]) (st := []) (st' := [.int r93]) (h' := k_ap [(0, .inl (0, c0_0)), (1, .inr (.inr (.inl a1)))] (shM, I, L, Rf)) C hR ⟨Nat.zero_le _, Nat.zero_le _⟩ mv_X11_isBest lk_X11_470 dX11_owners_93 (rfl : 93 + 3 = 96) rfl rfl rfl rfl (c_X11_isBest X.l u (k_ap [(0, .inl (0, c0_0)), (1, .inr (.inr (.inl a1)))] (shM, I, L, Rf)) rfl ea9 q93) rfl rfl rfl rfl rfl ?_
        refine r_if_ne (tgt := 102) C dX11_owners_96 (by decide) (rfl : 96 + 3 = 99) (fun c96 => ?_) (fun c96 => ?_)
        · have h := k_f c96 h
          refine r_iinc (v := (v4 + (1 : Int32))) C dX11_owners_102 (rfl : 102 + 3 = 105) rfl rfl (by decide) ?_
          show k_W _ _ _ _ _ _ _ _ [some (.ref 0), some (.int v1), some (.int v2), some (.int v3), some (.int (v4 + (1 : Int32))), some (.int v5), some (.int v6), some (.int v7)] _
          refine r_iload C dX11_owners_105 (rfl : 105 + 2 = 107) rfl ?_
          refine r_iconst (v := (-1 : Int32)) C dX11_owners_107 (rfl : 107 + 1 = 108) rfl ?_
          refine r_icmp_ne (tgt := 122) C dX11_owners_108 (by decide) (rfl : 108 + 3 = 111) (fun c108 => ?_) (fun c108 => ?_)
          · have h := k_f c108 h
            refine r_iload C dX11_owners_122 (rfl : 122 + 2 = 124) rfl ?_
            refine k_mask [true, true, true, true, true, false, true, true] ?_
            exact sX11_owners_124 u C hr hR ea9 hk58 ih c0_0 a1 v1 v2 v3 (v4 + (1 : Int32)) v6 v7 v5 h
          · have h := k_t c108 h
            refine r_bipush (v := (100 : Int32)) C dX11_owners_111 (rfl : 111 + 2 = 113) rfl ?_
            refine r_iload C dX11_owners_113 (rfl : 113 + 2 = 115) rfl ?_
            refine r_imul C dX11_owners_115 (rfl : 115 + 1 = 116) ?_
            refine r_iload C dX11_owners_116 (rfl : 116 + 2 = 118) rfl ?_
            refine r_iadd C dX11_owners_118 (rfl : 118 + 1 = 119) ?_
            refine r_goto (tgt := 124) C dX11_owners_119 (by decide) ?_
            refine k_mask [true, true, true, true, true, false, true, true] ?_
            exact sX11_owners_124 u C hr hR ea9 hk58 ih c0_0 a1 v1 v2 v3 (v4 + (1 : Int32)) v6 v7 (((100 : Int32) * v6) + v7) h
        · have h := k_t c96 h
          refine r_goto (tgt := 126) C dX11_owners_99 (by decide) ?_
          refine k_mask [true, true, true, true, true, true, true, true] ?_
          exact sX11_owners_126 u C hr hR ea9 hk58 ih c0_0 a1 v1 v2 v3 v4 v5 v6 v7 h
set_option maxHeartbeats 400000 in
set_option maxRecDepth 100000 in
theorem sX11_owners_58 (u : Nat) {X : k_X} {ad : Nat → Nat} (C : k_C X cX11_owners RX11 8 ad) (hr : X.meth.sig.returnType = (some .int)) (hR : X.R.frames = 2 ∧ X.R.locals = 49) {I : Nat → Nat → Int32} {L : Nat → Nat → Int64} {Rf : Nat → Nat → Option Nat} {a9 : (Nat → Int32)} (ea9 : I 9 = a9) {out : Int32 × Int32 × (Nat → Int32)} : ∀ (n : Nat) (c0_0 : Int32) (a1 : (Nat → Int32)) (v1 : Int32) (v2 : Int32) (v3 : Int32) (v4 : Int32) (v5 : Int32) (v6 : Int32), bX11_owners_58 u a9 n c0_0 a1 v1 v2 v3 v4 v5 v6 = some out → k_W X 8 0 0 (k_Q X ad (some (.int out.1)) (k_ap [(0, .inl (0, out.2.1)), (1, .inr (.inr (.inl out.2.2)))] (shM, I, L, Rf))) ad (k_ap [(0, .inl (0, c0_0)), (1, .inr (.inr (.inl a1)))] (shM, I, L, Rf)) 58 [some (.ref 0), some (.int v1), some (.int v2), some (.int v3), some (.int v4), some (.int v5), some (.int v6), none] [] := by
  intro n
  induction n with
  | zero => intro c0_0 a1 v1 v2 v3 v4 v5 v6 h; cases h
  | succ n ih =>
    intro c0_0 a1 v1 v2 v3 v4 v5 v6 h
    refine r_iload C dX11_owners_58 (rfl : 58 + 2 = 60) rfl ?_
    refine r_iload_n C dX11_owners_60 (rfl : 60 + 1 = 61) rfl ?_
    refine r_icmp_gt (tgt := 138) C dX11_owners_61 (by decide) (rfl : 61 + 3 = 64) (fun c61 => ?_) (fun c61 => ?_)
    · have h := k_t c61 h
      refine r_iload_n C dX11_owners_138 (rfl : 138 + 1 = 139) rfl ?_
      refine r_if_ne (tgt := 147) C dX11_owners_139 (by decide) (rfl : 139 + 3 = 142) (fun c139 => ?_) (fun c139 => ?_)
      · have h := k_f c139 h
        refine r_iload_n C dX11_owners_147 (rfl : 147 + 1 = 148) rfl ?_
        refine r_iconst (v := (1 : Int32)) C dX11_owners_148 (rfl : 148 + 1 = 149) rfl ?_
        refine r_icmp_ne (tgt := 157) C dX11_owners_149 (by decide) (rfl : 149 + 3 = 152) (fun c149 => ?_) (fun c149 => ?_)
        · have h := k_f c149 h
          refine r_iload C dX11_owners_157 (rfl : 157 + 2 = 159) rfl ?_
          refine r_iconst (v := (-1 : Int32)) C dX11_owners_159 (rfl : 159 + 1 = 160) rfl ?_
          refine r_icmp_ne (tgt := 167) C dX11_owners_160 (by decide) (rfl : 160 + 3 = 163) (fun c160 => ?_) (fun c160 => ?_)
          · have h := k_f c160 h
            refine r_aload_n C dX11_owners_167 (rfl : 167 + 1 = 168) rfl ?_
            refine r_iload_n C dX11_owners_168 (rfl : 168 + 1 = 169) rfl ?_
            refine r_iload C dX11_owners_169 (rfl : 169 + 2 = 171) rfl ?_
            refine r_bipush (v := (100 : Int32)) C dX11_owners_171 (rfl : 171 + 2 = 173) rfl ?_
            refine r_idiv C dX11_owners_173 (rfl : 173 + 1 = 174) (by decide) ?_
            refine r_iload C dX11_owners_174 (rfl : 174 + 2 = 176) rfl ?_
            refine r_bipush (v := (100 : Int32)) C dX11_owners_176 (rfl : 176 + 2 = 178) rfl ?_
            refine r_irem C dX11_owners_178 (rfl : 178 + 1 = 179) (by decide) ?_
            obtain ⟨r179, q179, h⟩ := k_b_of h
            refine d_V (As := [.int v1, .int (v5 / (100 : Int32)), .int (v5 - v5 / (100 : Int32) * (100 : Int32))]) (st := []) (st' := [.int r179]) (h' := k_ap [(0, .inl (0, c0_0)), (1, .inr (.inr (.inl a1)))] (shM, I, L, Rf)) C hR ⟨Nat.zero_le _, Nat.zero_le _⟩ mv_X11_getsOf lk_X11_467 dX11_owners_179 (rfl : 179 + 3 = 182) rfl rfl rfl rfl (c_X11_getsOf X.l u (k_ap [(0, .inl (0, c0_0)), (1, .inr (.inr (.inl a1)))] (shM, I, L, Rf)) rfl ea9 q179) rfl rfl rfl rfl rfl ?_
            cases h
            exact r_iret C hr dX11_owners_182
          · have h := k_t c160 h
            refine r_iconst (v := (0 : Int32)) C dX11_owners_163 (rfl : 163 + 1 = 164) rfl ?_
            refine r_goto (tgt := 182) C dX11_owners_164 (by decide) ?_
            cases h
            exact r_iret C hr dX11_owners_182
        · have h := k_t c149 h
          refine r_iload C dX11_owners_152 (rfl : 152 + 2 = 154) rfl ?_
          refine r_goto (tgt := 182) C dX11_owners_154 (by decide) ?_
          cases h
          exact r_iret C hr dX11_owners_182
      · have h := k_t c139 h
        refine r_iload C dX11_owners_142 (rfl : 142 + 2 = 144) rfl ?_
        refine r_goto (tgt := 182) C dX11_owners_144 (by decide) ?_
        cases h
        exact r_iret C hr dX11_owners_182
    · have h := k_f c61 h
      refine r_iconst (v := (0 : Int32)) C dX11_owners_64 (rfl : 64 + 1 = 65) rfl ?_
      refine r_istore C dX11_owners_65 (rfl : 65 + 2 = 67) (by decide) (Nat.le_of_ble_eq_true rfl) ?_
      show k_W _ _ _ _ _ _ _ _ [some (.ref 0), some (.int v1), some (.int v2), some (.int v3), some (.int v4), some (.int v5), some (.int v6), some (.int (0 : Int32))] _
      refine k_mask [true, true, true, true, true, true, true, true] ?_
      exact sX11_owners_67 u C hr hR ea9 ih u c0_0 a1 v1 v2 v3 v4 v5 v6 (0 : Int32) h
set_option maxHeartbeats 400000 in
set_option maxRecDepth 100000 in
theorem sX11_owners_39 (u : Nat) {X : k_X} {ad : Nat → Nat} (C : k_C X cX11_owners RX11 8 ad) (hr : X.meth.sig.returnType = (some .int)) (hR : X.R.frames = 2 ∧ X.R.locals = 49) {I : Nat → Nat → Int32} {L : Nat → Nat → Int64} {Rf : Nat → Nat → Option Nat} {a9 : (Nat → Int32)} (ea9 : I 9 = a9) {out : Int32 × Int32 × (Nat → Int32)} : ∀ (c0_0 : Int32) (a1 : (Nat → Int32)) (v1 : Int32) (v2 : Int32) (v3 : Int32) (w0 : Int32), bX11_owners_39 u a9 c0_0 a1 v1 v2 v3 w0 = some out → k_W X 8 0 0 (k_Q X ad (some (.int out.1)) (k_ap [(0, .inl (0, out.2.1)), (1, .inr (.inr (.inl out.2.2)))] (shM, I, L, Rf))) ad (k_ap [(0, .inl (0, c0_0)), (1, .inr (.inr (.inl a1)))] (shM, I, L, Rf)) 39 [some (.ref 0), some (.int v1), some (.int v2), some (.int v3), none, none, none, none] [.int w0, .ref 0] := by
  intro c0_0 a1 v1 v2 v3 w0 h
  unfold bX11_owners_39 at h
  refine r_iconst (v := (1 : Int32)) C dX11_owners_39 (rfl : 39 + 1 = 40) rfl ?_
  refine r_iconst (v := (2 : Int32)) C dX11_owners_40 (rfl : 40 + 1 = 41) rfl ?_
  obtain ⟨r41, q41, h⟩ := k_b_of h
  refine d_V (As := [.int w0, .int (1 : Int32), .int (2 : Int32)]) (st := []) (st' := [.int r41.1]) (h' := k_ap [(0, .inl (0, r41.2.1)), (1, .inr (.inr (.inl r41.2.2)))] (shM, I, L, Rf)) C hR ⟨Nat.zero_le _, Nat.zero_le _⟩ mv_X11_may lk_X11_252 dX11_owners_41 (rfl : 41 + 3 = 44) rfl rfl rfl rfl (c_X11_may X.l u (k_ap [(0, .inl (0, c0_0)), (1, .inr (.inr (.inl a1)))] (shM, I, L, Rf)) rfl rfl rfl q41) rfl rfl rfl (k_jn (us' := [(0, .inl (0, r41.2.1)), (1, .inr (.inr (.inl r41.2.2)))]) ds_X11_owners rfl rfl rfl) rfl ?_
  refine r_if_ne (tgt := 49) C dX11_owners_44 (by decide) (rfl : 44 + 3 = 47) (fun c44 => ?_) (fun c44 => ?_)
  · have h := k_f c44 h
    refine r_iconst (v := (0 : Int32)) C dX11_owners_49 (rfl : 49 + 1 = 50) rfl ?_
    refine r_istore C dX11_owners_50 (rfl : 50 + 2 = 52) (by decide) (Nat.le_of_ble_eq_true rfl) ?_
    show k_W _ _ _ _ _ _ _ _ [some (.ref 0), some (.int v1), some (.int v2), some (.int v3), some (.int (0 : Int32)), none, none, none] _
    refine r_iconst (v := (-1 : Int32)) C dX11_owners_52 (rfl : 52 + 1 = 53) rfl ?_
    refine r_istore C dX11_owners_53 (rfl : 53 + 2 = 55) (by decide) (Nat.le_of_ble_eq_true rfl) ?_
    show k_W _ _ _ _ _ _ _ _ [some (.ref 0), some (.int v1), some (.int v2), some (.int v3), some (.int (0 : Int32)), some (.int (-1 : Int32)), none, none] _
    refine r_iconst (v := (0 : Int32)) C dX11_owners_55 (rfl : 55 + 1 = 56) rfl ?_
    refine r_istore C dX11_owners_56 (rfl : 56 + 2 = 58) (by decide) (Nat.le_of_ble_eq_true rfl) ?_
    show k_W _ _ _ _ _ _ _ _ [some (.ref 0), some (.int v1), some (.int v2), some (.int v3), some (.int (0 : Int32)), some (.int (-1 : Int32)), some (.int (0 : Int32)), none] _
    refine k_mask [true, true, true, true, true, true, true, false] ?_
    exact sX11_owners_58 u C hr hR ea9 u r41.2.1 r41.2.2 v1 v2 v3 (0 : Int32) (-1 : Int32) (0 : Int32) h
  · have h := k_t c44 h
    refine r_iconst (v := (0 : Int32)) C dX11_owners_47 (rfl : 47 + 1 = 48) rfl ?_
    cases h
    exact r_iret C hr dX11_owners_48
set_option maxHeartbeats 400000 in
set_option maxRecDepth 100000 in
theorem sX11_owners_38 (u : Nat) {X : k_X} {ad : Nat → Nat} (C : k_C X cX11_owners RX11 8 ad) (hr : X.meth.sig.returnType = (some .int)) (hR : X.R.frames = 2 ∧ X.R.locals = 49) {I : Nat → Nat → Int32} {L : Nat → Nat → Int64} {Rf : Nat → Nat → Option Nat} {a9 : (Nat → Int32)} (ea9 : I 9 = a9) {out : Int32 × Int32 × (Nat → Int32)} : ∀ (c0_0 : Int32) (a1 : (Nat → Int32)) (v1 : Int32) (v2 : Int32) (v3 : Int32), bX11_owners_38 u a9 c0_0 a1 v1 v2 v3 = some out → k_W X 8 0 0 (k_Q X ad (some (.int out.1)) (k_ap [(0, .inl (0, out.2.1)), (1, .inr (.inr (.inl out.2.2)))] (shM, I, L, Rf))) ad (k_ap [(0, .inl (0, c0_0)), (1, .inr (.inr (.inl a1)))] (shM, I, L, Rf)) 38 [some (.ref 0), some (.int v1), some (.int v2), some (.int v3), none, none, none, none] [.ref 0] := by
  intro c0_0 a1 v1 v2 v3 h
  unfold bX11_owners_38 at h
  refine r_iconst (v := (0 : Int32)) C dX11_owners_38 (rfl : 38 + 1 = 39) rfl ?_
  refine k_mask [true, true, true, true, false, false, false, false] ?_
  exact sX11_owners_39 u C hr hR ea9 c0_0 a1 v1 v2 v3 (0 : Int32) h
set_option maxHeartbeats 400000 in
set_option maxRecDepth 100000 in
theorem sX11_owners_0 (u : Nat) {X : k_X} {ad : Nat → Nat} (C : k_C X cX11_owners RX11 8 ad) (hr : X.meth.sig.returnType = (some .int)) (hR : X.R.frames = 2 ∧ X.R.locals = 49) {I : Nat → Nat → Int32} {L : Nat → Nat → Int64} {Rf : Nat → Nat → Option Nat} {a9 : (Nat → Int32)} (ea9 : I 9 = a9) {out : Int32 × Int32 × (Nat → Int32)} : ∀ (c0_0 : Int32) (a1 : (Nat → Int32)) (v1 : Int32) (v2 : Int32) (v3 : Int32), bX11_owners_0 u a9 c0_0 a1 v1 v2 v3 = some out → k_W X 8 0 0 (k_Q X ad (some (.int out.1)) (k_ap [(0, .inl (0, out.2.1)), (1, .inr (.inr (.inl out.2.2)))] (shM, I, L, Rf))) ad (k_ap [(0, .inl (0, c0_0)), (1, .inr (.inr (.inl a1)))] (shM, I, L, Rf)) 0 [some (.ref 0), some (.int v1), some (.int v2), some (.int v3), none, none, none, none] [] := by
  intro c0_0 a1 v1 v2 v3 h
  unfold bX11_owners_0 at h
  refine r_aload_n C dX11_owners_0 (rfl : 0 + 1 = 1) rfl ?_
  refine r_iconst (v := (0 : Int32)) C dX11_owners_1 (rfl : 1 + 1 = 2) rfl ?_
  refine p_I (us' := [(0, .inl (0, (0 : Int32))), (1, .inr (.inr (.inl a1)))]) C dX11_owners_2 (rfl : 2 + 3 = 5) fp_X11_3 rfl rfl ds_X11_owners rfl rfl rfl ?_
  refine r_aload_n C dX11_owners_5 (rfl : 5 + 1 = 6) rfl ?_
  refine r_iload_n C dX11_owners_6 (rfl : 6 + 1 = 7) rfl ?_
  refine r_iconst (v := (1 : Int32)) C dX11_owners_7 (rfl : 7 + 1 = 8) rfl ?_
  refine r_iconst (v := (4 : Int32)) C dX11_owners_8 (rfl : 8 + 1 = 9) rfl ?_
  obtain ⟨r9, q9, h⟩ := k_b_of h
  refine d_S (As := [.int v1, .int (1 : Int32), .int (4 : Int32)]) (st := [.ref 0]) (st' := [.int r9, .ref 0]) (h' := k_ap [(0, .inl (0, (0 : Int32))), (1, .inr (.inr (.inl a1)))] (shM, I, L, Rf)) C hR ⟨Nat.zero_le _, Nat.zero_le _⟩ ms_X11_within lk_X11_317 dX11_owners_9 (rfl : 9 + 3 = 12) rfl rfl (c_X11_within X.l u (k_ap [(0, .inl (0, (0 : Int32))), (1, .inr (.inr (.inl a1)))] (shM, I, L, Rf)) rfl  q9) rfl rfl rfl rfl rfl ?_
  refine r_if_eq (tgt := 38) C dX11_owners_12 (by decide) (rfl : 12 + 3 = 15) (fun c12 => ?_) (fun c12 => ?_)
  · have h := k_t c12 h
    refine k_mask [true, true, true, true, false, false, false, false] ?_
    exact sX11_owners_38 u C hr hR ea9 (0 : Int32) a1 v1 v2 v3 h
  · have h := k_f c12 h
    refine r_iload_n C dX11_owners_15 (rfl : 15 + 1 = 16) rfl ?_
    refine r_iconst (v := (0 : Int32)) C dX11_owners_16 (rfl : 16 + 1 = 17) rfl ?_
    refine r_bipush (v := (20 : Int32)) C dX11_owners_17 (rfl : 17 + 2 = 19) rfl ?_
    obtain ⟨r19, q19, h⟩ := k_b_of h
    refine d_S (As := [.int v2, .int (0 : Int32), .int (20 : Int32)]) (st := [.ref 0]) (st' := [.int r19, .ref 0]) (h' := k_ap [(0, .inl (0, (0 : Int32))), (1, .inr (.inr (.inl a1)))] (shM, I, L, Rf)) C hR ⟨Nat.zero_le _, Nat.zero_le _⟩ ms_X11_within lk_X11_317 dX11_owners_19 (rfl : 19 + 3 = 22) rfl rfl (c_X11_within X.l u (k_ap [(0, .inl (0, (0 : Int32))), (1, .inr (.inr (.inl a1)))] (shM, I, L, Rf)) rfl  q19) rfl rfl rfl rfl rfl ?_
    refine r_if_eq (tgt := 38) C dX11_owners_22 (by decide) (rfl : 22 + 3 = 25) (fun c22 => ?_) (fun c22 => ?_)
    · have h := k_t c22 h
      refine k_mask [true, true, true, true, false, false, false, false] ?_
      exact sX11_owners_38 u C hr hR ea9 (0 : Int32) a1 v1 v2 v3 h
    · have h := k_f c22 h
      refine r_iload_n C dX11_owners_25 (rfl : 25 + 1 = 26) rfl ?_
      refine r_iconst (v := (0 : Int32)) C dX11_owners_26 (rfl : 26 + 1 = 27) rfl ?_
      refine r_iconst (v := (2 : Int32)) C dX11_owners_27 (rfl : 27 + 1 = 28) rfl ?_
      obtain ⟨r28, q28, h⟩ := k_b_of h
      refine d_S (As := [.int v3, .int (0 : Int32), .int (2 : Int32)]) (st := [.ref 0]) (st' := [.int r28, .ref 0]) (h' := k_ap [(0, .inl (0, (0 : Int32))), (1, .inr (.inr (.inl a1)))] (shM, I, L, Rf)) C hR ⟨Nat.zero_le _, Nat.zero_le _⟩ ms_X11_within lk_X11_317 dX11_owners_28 (rfl : 28 + 3 = 31) rfl rfl (c_X11_within X.l u (k_ap [(0, .inl (0, (0 : Int32))), (1, .inr (.inr (.inl a1)))] (shM, I, L, Rf)) rfl  q28) rfl rfl rfl rfl rfl ?_
      refine r_if_eq (tgt := 38) C dX11_owners_31 (by decide) (rfl : 31 + 3 = 34) (fun c31 => ?_) (fun c31 => ?_)
      · have h := k_t c31 h
        refine k_mask [true, true, true, true, false, false, false, false] ?_
        exact sX11_owners_38 u C hr hR ea9 (0 : Int32) a1 v1 v2 v3 h
      · have h := k_f c31 h
        refine r_iconst (v := (1 : Int32)) C dX11_owners_34 (rfl : 34 + 1 = 35) rfl ?_
        refine r_goto (tgt := 39) C dX11_owners_35 (by decide) ?_
        refine k_mask [true, true, true, true, false, false, false, false] ?_
        exact sX11_owners_39 u C hr hR ea9 (0 : Int32) a1 v1 v2 v3 (1 : Int32) h
set_option maxHeartbeats 400000 in
set_option maxRecDepth 100000 in
theorem c_X11_owners (l : Launch) (u : Nat) (h : k_H) (hsh : h.1 = shM) {c0_0 : Int32} (ec0_0 : h.2.1 0 0 = c0_0) {a1 : (Nat → Int32)} (ea1 : h.2.1 1 = a1) {a9 : (Nat → Int32)} (ea9 : h.2.1 9 = a9) {x0 : Int32} {x1 : Int32} {x2 : Int32} {out : Int32 × Int32 × (Nat → Int32)} (hf : f_X11_owners u c0_0 a1 a9 x0 x1 x2 = some out) : k_CT l yX11_owners cX11_owners 8 (some .int) 2 49 [.ref 0, .int x0, .int x1, .int x2] h (some (.int out.1)) [(0, .inl (0, out.2.1)), (1, .inr (.inr (.inl out.2.2)))] := by
  obtain ⟨sh, I, L, Rf⟩ := h
  try dsimp only
  obtain rfl : sh = shM := hsh
  refine k_ofW (by decide) (Nat.le_of_ble_eq_true rfl) ?_
  intro X ad hl hR0 hr C
  have hR : X.R.frames = 2 ∧ X.R.locals = 49 := by rw [hR0]; exact ⟨rfl, rfl⟩
  have h := hf
  unfold f_X11_owners at h
  refine k_start (us := [(0, .inl (0, c0_0)), (1, .inr (.inr (.inl a1)))]) (k_ao_I ec0_0 (k_ao_A ea1 k_ap_0)) ?_
  show k_W X 8 0 0 _ ad (k_ap [(0, .inl (0, c0_0)), (1, .inr (.inr (.inl a1)))] (shM, I, L, Rf)) 0 [some (.ref 0), some (.int x0), some (.int x1), some (.int x2), none, none, none, none] []
  refine k_mask [true, true, true, true, false, false, false, false] ?_
  exact sX11_owners_0 u C hr hR ea9 c0_0 a1 x0 x1 x2 h
/-! LullabyPitModel.face(II)I -/
theorem ds_X11_face : k_ds [(0, 0, 0), (1, 2, 0)] = true := by decide +kernel
set_option maxHeartbeats 400000 in
set_option maxRecDepth 100000 in
theorem sX11_face_134 (u : Nat) {X : k_X} {ad : Nat → Nat} (C : k_C X cX11_face RX11 7 ad) (hr : X.meth.sig.returnType = (some .int)) (hR : X.R.frames = 1 ∧ X.R.locals = 23) {I : Nat → Nat → Int32} {L : Nat → Nat → Int64} {Rf : Nat → Nat → Option Nat} {c0_25 : Int32} (ec0_25 : I 0 25 = c0_25) {c0_26 : Int32} (ec0_26 : I 0 26 = c0_26) {a7 : (Nat → Int32)} (ea7 : I 7 = a7) {a20 : (Nat → Int32)} (ea20 : I 20 = a20) {out : Int32 × Int32 × (Nat → Int32)} {k47 : Int32 → (Nat → Int32) → Int32 → Int32 → Int32 → Int32 → Int32 → Option (Int32 × Int32 × (Nat → Int32))} (hk47 : ∀ (c0_0 : Int32) (a1 : (Nat → Int32)) (v1 : Int32) (v2 : Int32) (v3 : Int32) (v4 : Int32) (v5 : Int32), k47 c0_0 a1 v1 v2 v3 v4 v5 = some out → k_W X 7 0 0 (k_Q X ad (some (.int out.1)) (k_ap [(0, .inl (0, out.2.1)), (1, .inr (.inr (.inl out.2.2)))] (shM, I, L, Rf))) ad (k_ap [(0, .inl (0, c0_0)), (1, .inr (.inr (.inl a1)))] (shM, I, L, Rf)) 47 [some (.ref 0), some (.int v1), some (.int v2), some (.int v3), some (.int v4), some (.int v5), none] []) : ∀ (c0_0 : Int32) (a1 : (Nat → Int32)) (v1 : Int32) (v2 : Int32) (v3 : Int32) (v4 : Int32) (v5 : Int32), bX11_face_134 u c0_25 c0_26 a7 a20 k47 c0_0 a1 v1 v2 v3 v4 v5 = some out → k_W X 7 0 0 (k_Q X ad (some (.int out.1)) (k_ap [(0, .inl (0, out.2.1)), (1, .inr (.inr (.inl out.2.2)))] (shM, I, L, Rf))) ad (k_ap [(0, .inl (0, c0_0)), (1, .inr (.inr (.inl a1)))] (shM, I, L, Rf)) 134 [some (.ref 0), some (.int v1), some (.int v2), some (.int v3), some (.int v4), some (.int v5), none] [] := by
  intro c0_0 a1 v1 v2 v3 v4 v5 h
  unfold bX11_face_134 at h
  refine r_iinc (v := (v5 + (1 : Int32))) C dX11_face_134 (rfl : 134 + 3 = 137) rfl rfl (by decide) ?_
  show k_W _ _ _ _ _ _ _ _ [some (.ref 0), some (.int v1), some (.int v2), some (.int v3), some (.int v4), some (.int (v5 + (1 : Int32))), none] _
  refine r_goto (tgt := 47) C dX11_face_137 (by decide) ?_
  refine k_mask [true, true, true, true, true, true, false] ?_
  exact hk47 c0_0 a1 v1 v2 v3 v4 (v5 + (1 : Int32)) h
set_option maxHeartbeats 400000 in
set_option maxRecDepth 100000 in
theorem sX11_face_117 (u : Nat) {X : k_X} {ad : Nat → Nat} (C : k_C X cX11_face RX11 7 ad) (hr : X.meth.sig.returnType = (some .int)) (hR : X.R.frames = 1 ∧ X.R.locals = 23) {I : Nat → Nat → Int32} {L : Nat → Nat → Int64} {Rf : Nat → Nat → Option Nat} {c0_25 : Int32} (ec0_25 : I 0 25 = c0_25) {c0_26 : Int32} (ec0_26 : I 0 26 = c0_26) {a7 : (Nat → Int32)} (ea7 : I 7 = a7) {a20 : (Nat → Int32)} (ea20 : I 20 = a20) {out : Int32 × Int32 × (Nat → Int32)} {k47 : Int32 → (Nat → Int32) → Int32 → Int32 → Int32 → Int32 → Int32 → Option (Int32 × Int32 × (Nat → Int32))} (hk47 : ∀ (c0_0 : Int32) (a1 : (Nat → Int32)) (v1 : Int32) (v2 : Int32) (v3 : Int32) (v4 : Int32) (v5 : Int32), k47 c0_0 a1 v1 v2 v3 v4 v5 = some out → k_W X 7 0 0 (k_Q X ad (some (.int out.1)) (k_ap [(0, .inl (0, out.2.1)), (1, .inr (.inr (.inl out.2.2)))] (shM, I, L, Rf))) ad (k_ap [(0, .inl (0, c0_0)), (1, .inr (.inr (.inl a1)))] (shM, I, L, Rf)) 47 [some (.ref 0), some (.int v1), some (.int v2), some (.int v3), some (.int v4), some (.int v5), none] []) : ∀ (c0_0 : Int32) (a1 : (Nat → Int32)) (v1 : Int32) (v2 : Int32) (v3 : Int32) (v4 : Int32) (v5 : Int32) (v6 : Int32), bX11_face_117 u c0_25 c0_26 a7 a20 k47 c0_0 a1 v1 v2 v3 v4 v5 v6 = some out → k_W X 7 0 0 (k_Q X ad (some (.int out.1)) (k_ap [(0, .inl (0, out.2.1)), (1, .inr (.inr (.inl out.2.2)))] (shM, I, L, Rf))) ad (k_ap [(0, .inl (0, c0_0)), (1, .inr (.inr (.inl a1)))] (shM, I, L, Rf)) 117 [some (.ref 0), some (.int v1), some (.int v2), some (.int v3), some (.int v4), some (.int v5), some (.int v6)] [] := by
  intro c0_0 a1 v1 v2 v3 v4 v5 v6 h
  unfold bX11_face_117 at h
  refine r_iload C dX11_face_117 (rfl : 117 + 2 = 119) rfl ?_
  refine r_iload C dX11_face_119 (rfl : 119 + 2 = 121) rfl ?_
  refine r_icmp_gt (tgt := 127) C dX11_face_121 (by decide) (rfl : 121 + 3 = 124) (fun c121 => ?_) (fun c121 => ?_)
  · have h := k_t c121 h
    refine r_iload C dX11_face_127 (rfl : 127 + 2 = 129) rfl ?_
    refine r_istore_n C dX11_face_129 (rfl : 129 + 1 = 130) (by decide) (Nat.le_of_ble_eq_true rfl) ?_
    show k_W _ _ _ _ _ _ _ _ [some (.ref 0), some (.int v1), some (.int v2), some (.int v5), some (.int v4), some (.int v5), some (.int v6)] _
    refine r_iload C dX11_face_130 (rfl : 130 + 2 = 132) rfl ?_
    refine r_istore C dX11_face_132 (rfl : 132 + 2 = 134) (by decide) (Nat.le_of_ble_eq_true rfl) ?_
    show k_W _ _ _ _ _ _ _ _ [some (.ref 0), some (.int v1), some (.int v2), some (.int v5), some (.int v6), some (.int v5), some (.int v6)] _
    refine k_mask [true, true, true, true, true, true, false] ?_
    exact sX11_face_134 u C hr hR ec0_25 ec0_26 ea7 ea20 hk47 c0_0 a1 v1 v2 v5 v6 v5 h
  · have h := k_f c121 h
    refine r_goto (tgt := 134) C dX11_face_124 (by decide) ?_
    refine k_mask [true, true, true, true, true, true, false] ?_
    exact sX11_face_134 u C hr hR ec0_25 ec0_26 ea7 ea20 hk47 c0_0 a1 v1 v2 v3 v4 v5 h
set_option maxHeartbeats 400000 in
set_option maxRecDepth 100000 in
theorem sX11_face_57 (u : Nat) {X : k_X} {ad : Nat → Nat} (C : k_C X cX11_face RX11 7 ad) (hr : X.meth.sig.returnType = (some .int)) (hR : X.R.frames = 1 ∧ X.R.locals = 23) {I : Nat → Nat → Int32} {L : Nat → Nat → Int64} {Rf : Nat → Nat → Option Nat} {c0_25 : Int32} (ec0_25 : I 0 25 = c0_25) {c0_26 : Int32} (ec0_26 : I 0 26 = c0_26) {a7 : (Nat → Int32)} (ea7 : I 7 = a7) {a20 : (Nat → Int32)} (ea20 : I 20 = a20) {out : Int32 × Int32 × (Nat → Int32)} {k47 : Int32 → (Nat → Int32) → Int32 → Int32 → Int32 → Int32 → Int32 → Option (Int32 × Int32 × (Nat → Int32))} (hk47 : ∀ (c0_0 : Int32) (a1 : (Nat → Int32)) (v1 : Int32) (v2 : Int32) (v3 : Int32) (v4 : Int32) (v5 : Int32), k47 c0_0 a1 v1 v2 v3 v4 v5 = some out → k_W X 7 0 0 (k_Q X ad (some (.int out.1)) (k_ap [(0, .inl (0, out.2.1)), (1, .inr (.inr (.inl out.2.2)))] (shM, I, L, Rf))) ad (k_ap [(0, .inl (0, c0_0)), (1, .inr (.inr (.inl a1)))] (shM, I, L, Rf)) 47 [some (.ref 0), some (.int v1), some (.int v2), some (.int v3), some (.int v4), some (.int v5), none] []) : ∀ (n : Nat) (c0_0 : Int32) (a1 : (Nat → Int32)) (v1 : Int32) (v2 : Int32) (v3 : Int32) (v4 : Int32) (v5 : Int32) (v6 : Int32), bX11_face_57 u c0_25 c0_26 a7 a20 k47 n c0_0 a1 v1 v2 v3 v4 v5 v6 = some out → k_W X 7 0 0 (k_Q X ad (some (.int out.1)) (k_ap [(0, .inl (0, out.2.1)), (1, .inr (.inr (.inl out.2.2)))] (shM, I, L, Rf))) ad (k_ap [(0, .inl (0, c0_0)), (1, .inr (.inr (.inl a1)))] (shM, I, L, Rf)) 57 [some (.ref 0), some (.int v1), some (.int v2), some (.int v3), some (.int v4), some (.int v5), some (.int v6)] [] := by
  intro n
  induction n with
  | zero => intro c0_0 a1 v1 v2 v3 v4 v5 v6 h; cases h
  | succ n ih =>
    intro c0_0 a1 v1 v2 v3 v4 v5 v6 h
    refine r_iload C dX11_face_57 (rfl : 57 + 2 = 59) rfl ?_
    refine r_bipush (v := (8 : Int32)) C dX11_face_59 (rfl : 59 + 2 = 61) rfl ?_
    refine r_irem C dX11_face_61 (rfl : 61 + 1 = 62) (by decide) ?_
    refine r_iload C dX11_face_62 (rfl : 62 + 2 = 64) rfl ?_
    refine r_iadd C dX11_face_64 (rfl : 64 + 1 = 65) ?_
    refine r_aload_n C dX11_face_65 (rfl : 65 + 1 = 66) rfl ?_
    refine r_getI (v := c0_25) C dX11_face_66 (rfl : 66 + 3 = 69) fl_X11_184 rfl rfl ec0_25 ?_
    refine r_icmp_ge (tgt := 117) C dX11_face_69 (by decide) (rfl : 69 + 3 = 72) (fun c69 => ?_) (fun c69 => ?_)
    · have h := k_t c69 h
      refine k_mask [true, true, true, true, true, true, true] ?_
      exact sX11_face_117 u C hr hR ec0_25 ec0_26 ea7 ea20 hk47 c0_0 a1 v1 v2 v3 v4 v5 v6 h
    · have h := k_f c69 h
      refine r_iload C dX11_face_72 (rfl : 72 + 2 = 74) rfl ?_
      refine r_bipush (v := (8 : Int32)) C dX11_face_74 (rfl : 74 + 2 = 76) rfl ?_
      refine r_idiv C dX11_face_76 (rfl : 76 + 1 = 77) (by decide) ?_
      refine r_aload_n C dX11_face_77 (rfl : 77 + 1 = 78) rfl ?_
      refine r_getI (v := c0_26) C dX11_face_78 (rfl : 78 + 3 = 81) fl_X11_187 rfl rfl ec0_26 ?_
      refine r_icmp_ge (tgt := 117) C dX11_face_81 (by decide) (rfl : 81 + 3 = 84) (fun c81 => ?_) (fun c81 => ?_)
      · have h := k_t c81 h
        refine k_mask [true, true, true, true, true, true, true] ?_
        exact sX11_face_117 u C hr hR ec0_25 ec0_26 ea7 ea20 hk47 c0_0 a1 v1 v2 v3 v4 v5 v6 h
      · have h := k_f c81 h
        refine r_aload_n C dX11_face_84 (rfl : 84 + 1 = 85) rfl ?_
        refine r_getR (q := 7) C dX11_face_85 (rfl : 85 + 3 = 88) fl_X11_35 rfl rfl ?_
        refine r_iload C dX11_face_88 (rfl : 88 + 2 = 90) rfl ?_
        refine r_iload C dX11_face_90 (rfl : 90 + 2 = 92) rfl ?_
        refine r_iadd C dX11_face_92 (rfl : 92 + 1 = 93) ?_
        obtain ⟨hi93, h⟩ := k_i_of h
        refine a_i (j := ((v5 + v6)).toNatClampNeg) (f := a7) C dX11_face_93 (rfl : 93 + 1 = 94) rfl ea7 hi93 rfl ?_
        refine r_iload_n C dX11_face_94 (rfl : 94 + 1 = 95) rfl ?_
        refine r_icmp_ne (tgt := 117) C dX11_face_95 (by decide) (rfl : 95 + 3 = 98) (fun c95 => ?_) (fun c95 => ?_)
        · have h := k_f c95 h
          refine k_mask [true, true, true, true, true, true, true] ?_
          exact sX11_face_117 u C hr hR ec0_25 ec0_26 ea7 ea20 hk47 c0_0 a1 v1 v2 v3 v4 v5 v6 h
        · have h := k_t c95 h
          refine r_aload_n C dX11_face_98 (rfl : 98 + 1 = 99) rfl ?_
          refine r_getR (q := 20) C dX11_face_99 (rfl : 99 + 3 = 102) fl_X11_74 rfl rfl ?_
          refine r_iload C dX11_face_102 (rfl : 102 + 2 = 104) rfl ?_
          refine r_iload C dX11_face_104 (rfl : 104 + 2 = 106) rfl ?_
          refine r_iadd C dX11_face_106 (rfl : 106 + 1 = 107) ?_
          obtain ⟨hi107, h⟩ := k_i_of h
          refine a_i (j := ((v5 + v6)).toNatClampNeg) (f := a20) C dX11_face_107 (rfl : 107 + 1 = 108) rfl ea20 hi107 rfl ?_
          refine r_if_ne (tgt := 117) C dX11_face_108 (by decide) (rfl : 108 + 3 = 111) (fun c108 => ?_) (fun c108 => ?_)
          · have h := k_f c108 h
            refine k_mask [true, true, true, true, true, true, true] ?_
            exact sX11_face_117 u C hr hR ec0_25 ec0_26 ea7 ea20 hk47 c0_0 a1 v1 v2 v3 v4 v5 v6 h
          · have h := k_t c108 h
            refine r_iinc (v := (v6 + (1 : Int32))) C dX11_face_111 (rfl : 111 + 3 = 114) rfl rfl (by decide) ?_
            show k_W _ _ _ _ _ _ _ _ [some (.ref 0), some (.int v1), some (.int v2), some (.int v3), some (.int v4), some (.int v5), some (.int (v6 + (1 : Int32)))] _
            refine r_goto (tgt := 57) C dX11_face_114 (by decide) ?_
            refine k_mask [true, true, true, true, true, true, true] ?_
            exact ih c0_0 a1 v1 v2 v3 v4 v5 (v6 + (1 : Int32)) h
set_option maxHeartbeats 400000 in
set_option maxRecDepth 100000 in
theorem sX11_face_47 (u : Nat) {X : k_X} {ad : Nat → Nat} (C : k_C X cX11_face RX11 7 ad) (hr : X.meth.sig.returnType = (some .int)) (hR : X.R.frames = 1 ∧ X.R.locals = 23) {I : Nat → Nat → Int32} {L : Nat → Nat → Int64} {Rf : Nat → Nat → Option Nat} {c0_25 : Int32} (ec0_25 : I 0 25 = c0_25) {c0_26 : Int32} (ec0_26 : I 0 26 = c0_26) {a7 : (Nat → Int32)} (ea7 : I 7 = a7) {a20 : (Nat → Int32)} (ea20 : I 20 = a20) {out : Int32 × Int32 × (Nat → Int32)} : ∀ (n : Nat) (c0_0 : Int32) (a1 : (Nat → Int32)) (v1 : Int32) (v2 : Int32) (v3 : Int32) (v4 : Int32) (v5 : Int32), bX11_face_47 u c0_25 c0_26 a7 a20 n c0_0 a1 v1 v2 v3 v4 v5 = some out → k_W X 7 0 0 (k_Q X ad (some (.int out.1)) (k_ap [(0, .inl (0, out.2.1)), (1, .inr (.inr (.inl out.2.2)))] (shM, I, L, Rf))) ad (k_ap [(0, .inl (0, c0_0)), (1, .inr (.inr (.inl a1)))] (shM, I, L, Rf)) 47 [some (.ref 0), some (.int v1), some (.int v2), some (.int v3), some (.int v4), some (.int v5), none] [] := by
  intro n
  induction n with
  | zero => intro c0_0 a1 v1 v2 v3 v4 v5 h; cases h
  | succ n ih =>
    intro c0_0 a1 v1 v2 v3 v4 v5 h
    refine r_iload C dX11_face_47 (rfl : 47 + 2 = 49) rfl ?_
    refine r_bipush (v := (48 : Int32)) C dX11_face_49 (rfl : 49 + 2 = 51) rfl ?_
    refine r_icmp_ge (tgt := 140) C dX11_face_51 (by decide) (rfl : 51 + 3 = 54) (fun c51 => ?_) (fun c51 => ?_)
    · have h := k_t c51 h
      refine r_iload_n C dX11_face_140 (rfl : 140 + 1 = 141) rfl ?_
      refine r_if_ne (tgt := 149) C dX11_face_141 (by decide) (rfl : 141 + 3 = 144) (fun c141 => ?_) (fun c141 => ?_)
      · have h := k_f c141 h
        refine r_iload_n C dX11_face_149 (rfl : 149 + 1 = 150) rfl ?_
        cases h
        exact r_iret C hr dX11_face_150
      · have h := k_t c141 h
        refine r_iload C dX11_face_144 (rfl : 144 + 2 = 146) rfl ?_
        refine r_goto (tgt := 150) C dX11_face_146 (by decide) ?_
        cases h
        exact r_iret C hr dX11_face_150
    · have h := k_f c51 h
      refine r_iconst (v := (0 : Int32)) C dX11_face_54 (rfl : 54 + 1 = 55) rfl ?_
      refine r_istore C dX11_face_55 (rfl : 55 + 2 = 57) (by decide) (Nat.le_of_ble_eq_true rfl) ?_
      show k_W _ _ _ _ _ _ _ _ [some (.ref 0), some (.int v1), some (.int v2), some (.int v3), some (.int v4), some (.int v5), some (.int (0 : Int32))] _
      refine k_mask [true, true, true, true, true, true, true] ?_
      exact sX11_face_57 u C hr hR ec0_25 ec0_26 ea7 ea20 ih u c0_0 a1 v1 v2 v3 v4 v5 (0 : Int32) h
set_option maxHeartbeats 400000 in
set_option maxRecDepth 100000 in
theorem sX11_face_29 (u : Nat) {X : k_X} {ad : Nat → Nat} (C : k_C X cX11_face RX11 7 ad) (hr : X.meth.sig.returnType = (some .int)) (hR : X.R.frames = 1 ∧ X.R.locals = 23) {I : Nat → Nat → Int32} {L : Nat → Nat → Int64} {Rf : Nat → Nat → Option Nat} {c0_25 : Int32} (ec0_25 : I 0 25 = c0_25) {c0_26 : Int32} (ec0_26 : I 0 26 = c0_26) {a7 : (Nat → Int32)} (ea7 : I 7 = a7) {a20 : (Nat → Int32)} (ea20 : I 20 = a20) {out : Int32 × Int32 × (Nat → Int32)} : ∀ (c0_0 : Int32) (a1 : (Nat → Int32)) (v1 : Int32) (v2 : Int32) (w0 : Int32), bX11_face_29 u c0_25 c0_26 a7 a20 c0_0 a1 v1 v2 w0 = some out → k_W X 7 0 0 (k_Q X ad (some (.int out.1)) (k_ap [(0, .inl (0, out.2.1)), (1, .inr (.inr (.inl out.2.2)))] (shM, I, L, Rf))) ad (k_ap [(0, .inl (0, c0_0)), (1, .inr (.inr (.inl a1)))] (shM, I, L, Rf)) 29 [some (.ref 0), some (.int v1), some (.int v2), none, none, none, none] [.int w0, .ref 0] := by
  intro c0_0 a1 v1 v2 w0 h
  unfold bX11_face_29 at h
  refine r_iconst (v := (1 : Int32)) C dX11_face_29 (rfl : 29 + 1 = 30) rfl ?_
  refine r_iconst (v := (2 : Int32)) C dX11_face_30 (rfl : 30 + 1 = 31) rfl ?_
  obtain ⟨r31, q31, h⟩ := k_b_of h
  refine d_V (As := [.int w0, .int (1 : Int32), .int (2 : Int32)]) (st := []) (st' := [.int r31.1]) (h' := k_ap [(0, .inl (0, r31.2.1)), (1, .inr (.inr (.inl r31.2.2)))] (shM, I, L, Rf)) C hR ⟨Nat.zero_le _, Nat.zero_le _⟩ mv_X11_may lk_X11_252 dX11_face_31 (rfl : 31 + 3 = 34) rfl rfl rfl rfl (c_X11_may X.l u (k_ap [(0, .inl (0, c0_0)), (1, .inr (.inr (.inl a1)))] (shM, I, L, Rf)) rfl rfl rfl q31) rfl rfl rfl (k_jn (us' := [(0, .inl (0, r31.2.1)), (1, .inr (.inr (.inl r31.2.2)))]) ds_X11_face rfl rfl rfl) rfl ?_
  refine r_if_ne (tgt := 39) C dX11_face_34 (by decide) (rfl : 34 + 3 = 37) (fun c34 => ?_) (fun c34 => ?_)
  · have h := k_f c34 h
    refine r_iconst (v := (-1 : Int32)) C dX11_face_39 (rfl : 39 + 1 = 40) rfl ?_
    refine r_istore_n C dX11_face_40 (rfl : 40 + 1 = 41) (by decide) (Nat.le_of_ble_eq_true rfl) ?_
    show k_W _ _ _ _ _ _ _ _ [some (.ref 0), some (.int v1), some (.int v2), some (.int (-1 : Int32)), none, none, none] _
    refine r_iconst (v := (0 : Int32)) C dX11_face_41 (rfl : 41 + 1 = 42) rfl ?_
    refine r_istore C dX11_face_42 (rfl : 42 + 2 = 44) (by decide) (Nat.le_of_ble_eq_true rfl) ?_
    show k_W _ _ _ _ _ _ _ _ [some (.ref 0), some (.int v1), some (.int v2), some (.int (-1 : Int32)), some (.int (0 : Int32)), none, none] _
    refine r_iconst (v := (0 : Int32)) C dX11_face_44 (rfl : 44 + 1 = 45) rfl ?_
    refine r_istore C dX11_face_45 (rfl : 45 + 2 = 47) (by decide) (Nat.le_of_ble_eq_true rfl) ?_
    show k_W _ _ _ _ _ _ _ _ [some (.ref 0), some (.int v1), some (.int v2), some (.int (-1 : Int32)), some (.int (0 : Int32)), some (.int (0 : Int32)), none] _
    refine k_mask [true, true, true, true, true, true, false] ?_
    exact sX11_face_47 u C hr hR ec0_25 ec0_26 ea7 ea20 u r31.2.1 r31.2.2 v1 v2 (-1 : Int32) (0 : Int32) (0 : Int32) h
  · have h := k_t c34 h
    refine r_iconst (v := (0 : Int32)) C dX11_face_37 (rfl : 37 + 1 = 38) rfl ?_
    cases h
    exact r_iret C hr dX11_face_38
set_option maxHeartbeats 400000 in
set_option maxRecDepth 100000 in
theorem sX11_face_28 (u : Nat) {X : k_X} {ad : Nat → Nat} (C : k_C X cX11_face RX11 7 ad) (hr : X.meth.sig.returnType = (some .int)) (hR : X.R.frames = 1 ∧ X.R.locals = 23) {I : Nat → Nat → Int32} {L : Nat → Nat → Int64} {Rf : Nat → Nat → Option Nat} {c0_25 : Int32} (ec0_25 : I 0 25 = c0_25) {c0_26 : Int32} (ec0_26 : I 0 26 = c0_26) {a7 : (Nat → Int32)} (ea7 : I 7 = a7) {a20 : (Nat → Int32)} (ea20 : I 20 = a20) {out : Int32 × Int32 × (Nat → Int32)} : ∀ (c0_0 : Int32) (a1 : (Nat → Int32)) (v1 : Int32) (v2 : Int32), bX11_face_28 u c0_25 c0_26 a7 a20 c0_0 a1 v1 v2 = some out → k_W X 7 0 0 (k_Q X ad (some (.int out.1)) (k_ap [(0, .inl (0, out.2.1)), (1, .inr (.inr (.inl out.2.2)))] (shM, I, L, Rf))) ad (k_ap [(0, .inl (0, c0_0)), (1, .inr (.inr (.inl a1)))] (shM, I, L, Rf)) 28 [some (.ref 0), some (.int v1), some (.int v2), none, none, none, none] [.ref 0] := by
  intro c0_0 a1 v1 v2 h
  unfold bX11_face_28 at h
  refine r_iconst (v := (0 : Int32)) C dX11_face_28 (rfl : 28 + 1 = 29) rfl ?_
  refine k_mask [true, true, true, false, false, false, false] ?_
  exact sX11_face_29 u C hr hR ec0_25 ec0_26 ea7 ea20 c0_0 a1 v1 v2 (0 : Int32) h
set_option maxHeartbeats 400000 in
set_option maxRecDepth 100000 in
theorem sX11_face_0 (u : Nat) {X : k_X} {ad : Nat → Nat} (C : k_C X cX11_face RX11 7 ad) (hr : X.meth.sig.returnType = (some .int)) (hR : X.R.frames = 1 ∧ X.R.locals = 23) {I : Nat → Nat → Int32} {L : Nat → Nat → Int64} {Rf : Nat → Nat → Option Nat} {c0_25 : Int32} (ec0_25 : I 0 25 = c0_25) {c0_26 : Int32} (ec0_26 : I 0 26 = c0_26) {a7 : (Nat → Int32)} (ea7 : I 7 = a7) {a20 : (Nat → Int32)} (ea20 : I 20 = a20) {out : Int32 × Int32 × (Nat → Int32)} : ∀ (c0_0 : Int32) (a1 : (Nat → Int32)) (v1 : Int32) (v2 : Int32), bX11_face_0 u c0_25 c0_26 a7 a20 c0_0 a1 v1 v2 = some out → k_W X 7 0 0 (k_Q X ad (some (.int out.1)) (k_ap [(0, .inl (0, out.2.1)), (1, .inr (.inr (.inl out.2.2)))] (shM, I, L, Rf))) ad (k_ap [(0, .inl (0, c0_0)), (1, .inr (.inr (.inl a1)))] (shM, I, L, Rf)) 0 [some (.ref 0), some (.int v1), some (.int v2), none, none, none, none] [] := by
  intro c0_0 a1 v1 v2 h
  unfold bX11_face_0 at h
  refine r_aload_n C dX11_face_0 (rfl : 0 + 1 = 1) rfl ?_
  refine r_iconst (v := (0 : Int32)) C dX11_face_1 (rfl : 1 + 1 = 2) rfl ?_
  refine p_I (us' := [(0, .inl (0, (0 : Int32))), (1, .inr (.inr (.inl a1)))]) C dX11_face_2 (rfl : 2 + 3 = 5) fp_X11_3 rfl rfl ds_X11_face rfl rfl rfl ?_
  refine r_aload_n C dX11_face_5 (rfl : 5 + 1 = 6) rfl ?_
  refine r_iload_n C dX11_face_6 (rfl : 6 + 1 = 7) rfl ?_
  refine r_iconst (v := (1 : Int32)) C dX11_face_7 (rfl : 7 + 1 = 8) rfl ?_
  refine r_iconst (v := (4 : Int32)) C dX11_face_8 (rfl : 8 + 1 = 9) rfl ?_
  obtain ⟨r9, q9, h⟩ := k_b_of h
  refine d_S (As := [.int v1, .int (1 : Int32), .int (4 : Int32)]) (st := [.ref 0]) (st' := [.int r9, .ref 0]) (h' := k_ap [(0, .inl (0, (0 : Int32))), (1, .inr (.inr (.inl a1)))] (shM, I, L, Rf)) C hR ⟨Nat.zero_le _, Nat.zero_le _⟩ ms_X11_within lk_X11_317 dX11_face_9 (rfl : 9 + 3 = 12) rfl rfl (c_X11_within X.l u (k_ap [(0, .inl (0, (0 : Int32))), (1, .inr (.inr (.inl a1)))] (shM, I, L, Rf)) rfl  q9) rfl rfl rfl rfl rfl ?_
  refine r_if_eq (tgt := 28) C dX11_face_12 (by decide) (rfl : 12 + 3 = 15) (fun c12 => ?_) (fun c12 => ?_)
  · have h := k_t c12 h
    refine k_mask [true, true, true, false, false, false, false] ?_
    exact sX11_face_28 u C hr hR ec0_25 ec0_26 ea7 ea20 (0 : Int32) a1 v1 v2 h
  · have h := k_f c12 h
    refine r_iload_n C dX11_face_15 (rfl : 15 + 1 = 16) rfl ?_
    refine r_iconst (v := (0 : Int32)) C dX11_face_16 (rfl : 16 + 1 = 17) rfl ?_
    refine r_iconst (v := (1 : Int32)) C dX11_face_17 (rfl : 17 + 1 = 18) rfl ?_
    obtain ⟨r18, q18, h⟩ := k_b_of h
    refine d_S (As := [.int v2, .int (0 : Int32), .int (1 : Int32)]) (st := [.ref 0]) (st' := [.int r18, .ref 0]) (h' := k_ap [(0, .inl (0, (0 : Int32))), (1, .inr (.inr (.inl a1)))] (shM, I, L, Rf)) C hR ⟨Nat.zero_le _, Nat.zero_le _⟩ ms_X11_within lk_X11_317 dX11_face_18 (rfl : 18 + 3 = 21) rfl rfl (c_X11_within X.l u (k_ap [(0, .inl (0, (0 : Int32))), (1, .inr (.inr (.inl a1)))] (shM, I, L, Rf)) rfl  q18) rfl rfl rfl rfl rfl ?_
    refine r_if_eq (tgt := 28) C dX11_face_21 (by decide) (rfl : 21 + 3 = 24) (fun c21 => ?_) (fun c21 => ?_)
    · have h := k_t c21 h
      refine k_mask [true, true, true, false, false, false, false] ?_
      exact sX11_face_28 u C hr hR ec0_25 ec0_26 ea7 ea20 (0 : Int32) a1 v1 v2 h
    · have h := k_f c21 h
      refine r_iconst (v := (1 : Int32)) C dX11_face_24 (rfl : 24 + 1 = 25) rfl ?_
      refine r_goto (tgt := 29) C dX11_face_25 (by decide) ?_
      refine k_mask [true, true, true, false, false, false, false] ?_
      exact sX11_face_29 u C hr hR ec0_25 ec0_26 ea7 ea20 (0 : Int32) a1 v1 v2 (1 : Int32) h
set_option maxHeartbeats 400000 in
set_option maxRecDepth 100000 in
theorem c_X11_face (l : Launch) (u : Nat) (h : k_H) (hsh : h.1 = shM) {c0_0 : Int32} (ec0_0 : h.2.1 0 0 = c0_0) {c0_25 : Int32} (ec0_25 : h.2.1 0 25 = c0_25) {c0_26 : Int32} (ec0_26 : h.2.1 0 26 = c0_26) {a1 : (Nat → Int32)} (ea1 : h.2.1 1 = a1) {a7 : (Nat → Int32)} (ea7 : h.2.1 7 = a7) {a20 : (Nat → Int32)} (ea20 : h.2.1 20 = a20) {x0 : Int32} {x1 : Int32} {out : Int32 × Int32 × (Nat → Int32)} (hf : f_X11_face u c0_0 c0_25 c0_26 a1 a7 a20 x0 x1 = some out) : k_CT l yX11_face cX11_face 7 (some .int) 1 23 [.ref 0, .int x0, .int x1] h (some (.int out.1)) [(0, .inl (0, out.2.1)), (1, .inr (.inr (.inl out.2.2)))] := by
  obtain ⟨sh, I, L, Rf⟩ := h
  try dsimp only
  obtain rfl : sh = shM := hsh
  refine k_ofW (by decide) (Nat.le_of_ble_eq_true rfl) ?_
  intro X ad hl hR0 hr C
  have hR : X.R.frames = 1 ∧ X.R.locals = 23 := by rw [hR0]; exact ⟨rfl, rfl⟩
  have h := hf
  unfold f_X11_face at h
  refine k_start (us := [(0, .inl (0, c0_0)), (1, .inr (.inr (.inl a1)))]) (k_ao_I ec0_0 (k_ao_A ea1 k_ap_0)) ?_
  show k_W X 7 0 0 _ ad (k_ap [(0, .inl (0, c0_0)), (1, .inr (.inr (.inl a1)))] (shM, I, L, Rf)) 0 [some (.ref 0), some (.int x0), some (.int x1), none, none, none, none] []
  refine k_mask [true, true, true, false, false, false, false] ?_
  exact sX11_face_0 u C hr hR ec0_25 ec0_26 ea7 ea20 c0_0 a1 x0 x1 h
