/-! LullabyPit$Market.findRests(II)V -/
theorem ds_X2_findRests : k_ds [(0, 0, 1), (0, 0, 2), (0, 0, 3), (1, 2, 0)] = true := by decide +kernel
set_option maxHeartbeats 400000 in
set_option maxRecDepth 100000 in
theorem sX2_findRests_42 (u : Nat) {X : k_X} {ad : Nat → Nat} (C : k_C X cX2_findRests RX2 6 ad) (hr : X.meth.sig.returnType = none) (hR : X.R.frames = 3 ∧ X.R.locals = 66) {I : Nat → Nat → Int32} {L : Nat → Nat → Int64} {Rf : Nat → Nat → Option Nat} {out : Int32 × Int32 × Int32 × (Nat → Int32)} {k25 : Int32 → Int32 → Int32 → (Nat → Int32) → Int32 → Int32 → Int32 → Option (Int32 × Int32 × Int32 × (Nat → Int32))} (hk25 : ∀ (c0_1 : Int32) (c0_2 : Int32) (c0_3 : Int32) (a1 : (Nat → Int32)) (v1 : Int32) (v3 : Int32) (v4 : Int32), k25 c0_1 c0_2 c0_3 a1 v1 v3 v4 = some out → k_W X 6 0 0 (k_Q X ad none (k_ap [(0, .inl (1, out.1)), (0, .inl (2, out.2.1)), (0, .inl (3, out.2.2.1)), (1, .inr (.inr (.inl out.2.2.2)))] (shMkt, I, L, Rf))) ad (k_ap [(0, .inl (1, c0_1)), (0, .inl (2, c0_2)), (0, .inl (3, c0_3)), (1, .inr (.inr (.inl a1)))] (shMkt, I, L, Rf)) 25 [some (.ref 0), some (.int v1), none, some (.int v3), some (.int v4), none] []) : ∀ (n : Nat) (c0_1 : Int32) (c0_2 : Int32) (c0_3 : Int32) (a1 : (Nat → Int32)) (v1 : Int32) (v3 : Int32) (v4 : Int32) (v5 : Int32), bX2_findRests_42 u k25 n c0_1 c0_2 c0_3 a1 v1 v3 v4 v5 = some out → k_W X 6 0 0 (k_Q X ad none (k_ap [(0, .inl (1, out.1)), (0, .inl (2, out.2.1)), (0, .inl (3, out.2.2.1)), (1, .inr (.inr (.inl out.2.2.2)))] (shMkt, I, L, Rf))) ad (k_ap [(0, .inl (1, c0_1)), (0, .inl (2, c0_2)), (0, .inl (3, c0_3)), (1, .inr (.inr (.inl a1)))] (shMkt, I, L, Rf)) 42 [some (.ref 0), some (.int v1), none, some (.int v3), some (.int v4), some (.int v5)] [] := by
  intro n
  induction n with
  | zero => intro c0_1 c0_2 c0_3 a1 v1 v3 v4 v5 h; cases h
  | succ n ih =>
    intro c0_1 c0_2 c0_3 a1 v1 v3 v4 v5 h
    refine r_iload C dX2_findRests_42 (rfl : 42 + 2 = 44) rfl ?_
    refine r_iload_n C dX2_findRests_44 (rfl : 44 + 1 = 45) rfl ?_
    refine r_icmp_gt (tgt := 79) C dX2_findRests_45 (by decide) (rfl : 45 + 3 = 48) (fun c45 => ?_) (fun c45 => ?_)
    · have h := k_t c45 h
      refine r_iinc (v := (v4 + (1 : Int32))) C dX2_findRests_79 (rfl : 79 + 3 = 82) rfl rfl (by decide) ?_
      show k_W _ _ _ _ _ _ _ _ [some (.ref 0), some (.int v1), none, some (.int v3), some (.int (v4 + (1 : Int32))), some (.int v5)] _
      refine r_goto (tgt := 25) C dX2_findRests_82 (by decide) ?_
      refine k_mask [true, true, false, true, true, false] ?_
      exact hk25 c0_1 c0_2 c0_3 a1 v1 v3 (v4 + (1 : Int32)) h
    · have h := k_f c45 h
      refine r_aload_n C dX2_findRests_48 (rfl : 48 + 1 = 49) rfl ?_
      refine r_getR (q := 1) C dX2_findRests_49 (rfl : 49 + 3 = 52) fl_X2_9 rfl rfl ?_
      refine r_iload C dX2_findRests_52 (rfl : 52 + 2 = 54) rfl ?_
      refine r_aload_n C dX2_findRests_54 (rfl : 54 + 1 = 55) rfl ?_
      refine r_getR (q := 1) C dX2_findRests_55 (rfl : 55 + 3 = 58) fl_X2_9 rfl rfl ?_
      refine r_iload C dX2_findRests_58 (rfl : 58 + 2 = 60) rfl ?_
      obtain ⟨hi60, h⟩ := k_i_of h
      refine a_i (j := (v4).toNatClampNeg) (f := a1) C dX2_findRests_60 (rfl : 60 + 1 = 61) rfl rfl hi60 rfl ?_
      refine r_iload_n C dX2_findRests_61 (rfl : 61 + 1 = 62) rfl ?_
      refine r_iload C dX2_findRests_62 (rfl : 62 + 2 = 64) rfl ?_
      refine r_iload C dX2_findRests_64 (rfl : 64 + 2 = 66) rfl ?_
      obtain ⟨r66, q66, h⟩ := k_b_of h
      refine d_S (As := [.int v1, .int v5, .int v4]) (st := [.int (a1 ((v4).toNatClampNeg)), .int v4, .ref 1]) (st' := [.int r66, .int (a1 ((v4).toNatClampNeg)), .int v4, .ref 1]) (h' := k_ap [(0, .inl (1, c0_1)), (0, .inl (2, c0_2)), (0, .inl (3, c0_3)), (1, .inr (.inr (.inl a1)))] (shMkt, I, L, Rf)) C hR ⟨Nat.zero_le _, Nat.zero_le _⟩ ms_X2_gets lk_X2_31 dX2_findRests_66 (rfl : 66 + 3 = 69) rfl rfl (c_X2_gets X.l u (k_ap [(0, .inl (1, c0_1)), (0, .inl (2, c0_2)), (0, .inl (3, c0_3)), (1, .inr (.inr (.inl a1)))] (shMkt, I, L, Rf))  q66) rfl rfl rfl rfl rfl ?_
      refine r_max C hR dX2_findRests_69 (rfl : 69 + 3 = 72) lm_X2_35 rfl rfl rfl ?_
      obtain ⟨hi72, h⟩ := k_i_of h
      refine s_i (j := (v4).toNatClampNeg) (f := a1) (us' := [(0, .inl (1, c0_1)), (0, .inl (2, c0_2)), (0, .inl (3, c0_3)), (1, .inr (.inr (.inl (upd a1 ((v4).toNatClampNeg) (if (a1 ((v4).toNatClampNeg)) < r66 then r66 else (a1 ((v4).toNatClampNeg)))))))]) C dX2_findRests_72 (rfl : 72 + 1 = 73) rfl rfl hi72 rfl ds_X2_findRests rfl rfl rfl ?_
      refine r_iinc (v := (v5 + (1 : Int32))) C dX2_findRests_73 (rfl : 73 + 3 = 76) rfl rfl (by decide) ?_
      show k_W _ _ _ _ _ _ _ _ [some (.ref 0), some (.int v1), none, some (.int v3), some (.int v4), some (.int (v5 + (1 : Int32)))] _
      refine r_goto (tgt := 42) C dX2_findRests_76 (by decide) ?_
      refine k_mask [true, true, false, true, true, true] ?_
      exact ih c0_1 c0_2 c0_3 (upd a1 ((v4).toNatClampNeg) (if (a1 ((v4).toNatClampNeg)) < r66 then r66 else (a1 ((v4).toNatClampNeg)))) v1 v3 v4 (v5 + (1 : Int32)) h
set_option maxHeartbeats 400000 in
set_option maxRecDepth 100000 in
theorem sX2_findRests_148 (u : Nat) {X : k_X} {ad : Nat → Nat} (C : k_C X cX2_findRests RX2 6 ad) (hr : X.meth.sig.returnType = none) (hR : X.R.frames = 3 ∧ X.R.locals = 66) {I : Nat → Nat → Int32} {L : Nat → Nat → Int64} {Rf : Nat → Nat → Option Nat} {out : Int32 × Int32 × Int32 × (Nat → Int32)} {k88 : Int32 → Int32 → Int32 → (Nat → Int32) → Int32 → Int32 → Int32 → Option (Int32 × Int32 × Int32 × (Nat → Int32))} (hk88 : ∀ (c0_1 : Int32) (c0_2 : Int32) (c0_3 : Int32) (a1 : (Nat → Int32)) (v1 : Int32) (v3 : Int32) (v4 : Int32), k88 c0_1 c0_2 c0_3 a1 v1 v3 v4 = some out → k_W X 6 0 0 (k_Q X ad none (k_ap [(0, .inl (1, out.1)), (0, .inl (2, out.2.1)), (0, .inl (3, out.2.2.1)), (1, .inr (.inr (.inl out.2.2.2)))] (shMkt, I, L, Rf))) ad (k_ap [(0, .inl (1, c0_1)), (0, .inl (2, c0_2)), (0, .inl (3, c0_3)), (1, .inr (.inr (.inl a1)))] (shMkt, I, L, Rf)) 88 [some (.ref 0), some (.int v1), none, some (.int v3), some (.int v4), none] []) {k97 : Int32 → Int32 → Int32 → (Nat → Int32) → Int32 → Int32 → Int32 → Int32 → Option (Int32 × Int32 × Int32 × (Nat → Int32))} (hk97 : ∀ (c0_1 : Int32) (c0_2 : Int32) (c0_3 : Int32) (a1 : (Nat → Int32)) (v1 : Int32) (v3 : Int32) (v4 : Int32) (v5 : Int32), k97 c0_1 c0_2 c0_3 a1 v1 v3 v4 v5 = some out → k_W X 6 0 0 (k_Q X ad none (k_ap [(0, .inl (1, out.1)), (0, .inl (2, out.2.1)), (0, .inl (3, out.2.2.1)), (1, .inr (.inr (.inl out.2.2.2)))] (shMkt, I, L, Rf))) ad (k_ap [(0, .inl (1, c0_1)), (0, .inl (2, c0_2)), (0, .inl (3, c0_3)), (1, .inr (.inr (.inl a1)))] (shMkt, I, L, Rf)) 97 [some (.ref 0), some (.int v1), none, some (.int v3), some (.int v4), some (.int v5)] []) : ∀ (c0_1 : Int32) (c0_2 : Int32) (c0_3 : Int32) (a1 : (Nat → Int32)) (v1 : Int32) (v3 : Int32) (v4 : Int32) (v5 : Int32), bX2_findRests_148 u k88 k97 c0_1 c0_2 c0_3 a1 v1 v3 v4 v5 = some out → k_W X 6 0 0 (k_Q X ad none (k_ap [(0, .inl (1, out.1)), (0, .inl (2, out.2.1)), (0, .inl (3, out.2.2.1)), (1, .inr (.inr (.inl out.2.2.2)))] (shMkt, I, L, Rf))) ad (k_ap [(0, .inl (1, c0_1)), (0, .inl (2, c0_2)), (0, .inl (3, c0_3)), (1, .inr (.inr (.inl a1)))] (shMkt, I, L, Rf)) 148 [some (.ref 0), some (.int v1), none, some (.int v3), some (.int v4), some (.int v5)] [] := by
  intro c0_1 c0_2 c0_3 a1 v1 v3 v4 v5 h
  unfold bX2_findRests_148 at h
  refine r_iinc (v := (v5 + (1 : Int32))) C dX2_findRests_148 (rfl : 148 + 3 = 151) rfl rfl (by decide) ?_
  show k_W _ _ _ _ _ _ _ _ [some (.ref 0), some (.int v1), none, some (.int v3), some (.int v4), some (.int (v5 + (1 : Int32)))] _
  refine r_goto (tgt := 97) C dX2_findRests_151 (by decide) ?_
  refine k_mask [true, true, false, true, true, true] ?_
  exact hk97 c0_1 c0_2 c0_3 a1 v1 v3 v4 (v5 + (1 : Int32)) h
set_option maxHeartbeats 400000 in
set_option maxRecDepth 100000 in
theorem sX2_findRests_97 (u : Nat) {X : k_X} {ad : Nat → Nat} (C : k_C X cX2_findRests RX2 6 ad) (hr : X.meth.sig.returnType = none) (hR : X.R.frames = 3 ∧ X.R.locals = 66) {I : Nat → Nat → Int32} {L : Nat → Nat → Int64} {Rf : Nat → Nat → Option Nat} {out : Int32 × Int32 × Int32 × (Nat → Int32)} {k88 : Int32 → Int32 → Int32 → (Nat → Int32) → Int32 → Int32 → Int32 → Option (Int32 × Int32 × Int32 × (Nat → Int32))} (hk88 : ∀ (c0_1 : Int32) (c0_2 : Int32) (c0_3 : Int32) (a1 : (Nat → Int32)) (v1 : Int32) (v3 : Int32) (v4 : Int32), k88 c0_1 c0_2 c0_3 a1 v1 v3 v4 = some out → k_W X 6 0 0 (k_Q X ad none (k_ap [(0, .inl (1, out.1)), (0, .inl (2, out.2.1)), (0, .inl (3, out.2.2.1)), (1, .inr (.inr (.inl out.2.2.2)))] (shMkt, I, L, Rf))) ad (k_ap [(0, .inl (1, c0_1)), (0, .inl (2, c0_2)), (0, .inl (3, c0_3)), (1, .inr (.inr (.inl a1)))] (shMkt, I, L, Rf)) 88 [some (.ref 0), some (.int v1), none, some (.int v3), some (.int v4), none] []) : ∀ (n : Nat) (c0_1 : Int32) (c0_2 : Int32) (c0_3 : Int32) (a1 : (Nat → Int32)) (v1 : Int32) (v3 : Int32) (v4 : Int32) (v5 : Int32), bX2_findRests_97 u k88 n c0_1 c0_2 c0_3 a1 v1 v3 v4 v5 = some out → k_W X 6 0 0 (k_Q X ad none (k_ap [(0, .inl (1, out.1)), (0, .inl (2, out.2.1)), (0, .inl (3, out.2.2.1)), (1, .inr (.inr (.inl out.2.2.2)))] (shMkt, I, L, Rf))) ad (k_ap [(0, .inl (1, c0_1)), (0, .inl (2, c0_2)), (0, .inl (3, c0_3)), (1, .inr (.inr (.inl a1)))] (shMkt, I, L, Rf)) 97 [some (.ref 0), some (.int v1), none, some (.int v3), some (.int v4), some (.int v5)] [] := by
  intro n
  induction n with
  | zero => intro c0_1 c0_2 c0_3 a1 v1 v3 v4 v5 h; cases h
  | succ n ih =>
    intro c0_1 c0_2 c0_3 a1 v1 v3 v4 v5 h
    refine r_iload C dX2_findRests_97 (rfl : 97 + 2 = 99) rfl ?_
    refine r_iload_n C dX2_findRests_99 (rfl : 99 + 1 = 100) rfl ?_
    refine r_icmp_gt (tgt := 154) C dX2_findRests_100 (by decide) (rfl : 100 + 3 = 103) (fun c100 => ?_) (fun c100 => ?_)
    · have h := k_t c100 h
      refine r_iinc (v := (v4 + (1 : Int32))) C dX2_findRests_154 (rfl : 154 + 3 = 157) rfl rfl (by decide) ?_
      show k_W _ _ _ _ _ _ _ _ [some (.ref 0), some (.int v1), none, some (.int v3), some (.int (v4 + (1 : Int32))), some (.int v5)] _
      refine r_goto (tgt := 88) C dX2_findRests_157 (by decide) ?_
      refine k_mask [true, true, false, true, true, false] ?_
      exact hk88 c0_1 c0_2 c0_3 a1 v1 v3 (v4 + (1 : Int32)) h
    · have h := k_f c100 h
      refine r_iload_n C dX2_findRests_103 (rfl : 103 + 1 = 104) rfl ?_
      refine r_iload C dX2_findRests_104 (rfl : 104 + 2 = 106) rfl ?_
      refine r_iload C dX2_findRests_106 (rfl : 106 + 2 = 108) rfl ?_
      obtain ⟨r108, q108, h⟩ := k_b_of h
      refine d_S (As := [.int v1, .int v4, .int v5]) (st := []) (st' := [.int r108]) (h' := k_ap [(0, .inl (1, c0_1)), (0, .inl (2, c0_2)), (0, .inl (3, c0_3)), (1, .inr (.inr (.inl a1)))] (shMkt, I, L, Rf)) C hR ⟨Nat.zero_le _, Nat.zero_le _⟩ ms_X2_gets lk_X2_31 dX2_findRests_108 (rfl : 108 + 3 = 111) rfl rfl (c_X2_gets X.l u (k_ap [(0, .inl (1, c0_1)), (0, .inl (2, c0_2)), (0, .inl (3, c0_3)), (1, .inr (.inr (.inl a1)))] (shMkt, I, L, Rf))  q108) rfl rfl rfl rfl rfl ?_
      refine r_aload_n C dX2_findRests_111 (rfl : 111 + 1 = 112) rfl ?_
      refine r_getR (q := 1) C dX2_findRests_112 (rfl : 112 + 3 = 115) fl_X2_9 rfl rfl ?_
      refine r_iload C dX2_findRests_115 (rfl : 115 + 2 = 117) rfl ?_
      obtain ⟨hi117, h⟩ := k_i_of h
      refine a_i (j := (v5).toNatClampNeg) (f := a1) C dX2_findRests_117 (rfl : 117 + 1 = 118) rfl rfl hi117 rfl ?_
      refine r_icmp_ne (tgt := 148) C dX2_findRests_118 (by decide) (rfl : 118 + 3 = 121) (fun c118 => ?_) (fun c118 => ?_)
      · have h := k_f c118 h
        refine k_mask [true, true, false, true, true, true] ?_
        exact sX2_findRests_148 u C hr hR hk88 ih c0_1 c0_2 c0_3 a1 v1 v3 v4 v5 h
      · have h := k_t c118 h
        refine r_iload_n C dX2_findRests_121 (rfl : 121 + 1 = 122) rfl ?_
        refine r_iload C dX2_findRests_122 (rfl : 122 + 2 = 124) rfl ?_
        refine r_iload C dX2_findRests_124 (rfl : 124 + 2 = 126) rfl ?_
        obtain ⟨r126, q126, h⟩ := k_b_of h
        refine d_S (As := [.int v1, .int v5, .int v4]) (st := []) (st' := [.int r126]) (h' := k_ap [(0, .inl (1, c0_1)), (0, .inl (2, c0_2)), (0, .inl (3, c0_3)), (1, .inr (.inr (.inl a1)))] (shMkt, I, L, Rf)) C hR ⟨Nat.zero_le _, Nat.zero_le _⟩ ms_X2_gets lk_X2_31 dX2_findRests_126 (rfl : 126 + 3 = 129) rfl rfl (c_X2_gets X.l u (k_ap [(0, .inl (1, c0_1)), (0, .inl (2, c0_2)), (0, .inl (3, c0_3)), (1, .inr (.inr (.inl a1)))] (shMkt, I, L, Rf))  q126) rfl rfl rfl rfl rfl ?_
        refine r_aload_n C dX2_findRests_129 (rfl : 129 + 1 = 130) rfl ?_
        refine r_getR (q := 1) C dX2_findRests_130 (rfl : 130 + 3 = 133) fl_X2_9 rfl rfl ?_
        refine r_iload C dX2_findRests_133 (rfl : 133 + 2 = 135) rfl ?_
        obtain ⟨hi135, h⟩ := k_i_of h
        refine a_i (j := (v4).toNatClampNeg) (f := a1) C dX2_findRests_135 (rfl : 135 + 1 = 136) rfl rfl hi135 rfl ?_
        refine r_icmp_ne (tgt := 148) C dX2_findRests_136 (by decide) (rfl : 136 + 3 = 139) (fun c136 => ?_) (fun c136 => ?_)
        · have h := k_f c136 h
          refine k_mask [true, true, false, true, true, true] ?_
          exact sX2_findRests_148 u C hr hR hk88 ih c0_1 c0_2 c0_3 a1 v1 v3 v4 v5 h
        · have h := k_t c136 h
          refine r_aload_n C dX2_findRests_139 (rfl : 139 + 1 = 140) rfl ?_
          refine r_iload_n C dX2_findRests_140 (rfl : 140 + 1 = 141) rfl ?_
          refine r_iload C dX2_findRests_141 (rfl : 141 + 2 = 143) rfl ?_
          refine r_iload C dX2_findRests_143 (rfl : 143 + 2 = 145) rfl ?_
          obtain ⟨r145, q145, h⟩ := k_b_of h
          refine d_V (As := [.int v1, .int v4, .int v5]) (st := []) (st' := []) (h' := k_ap [(0, .inl (1, r145.1)), (0, .inl (2, r145.2.1)), (0, .inl (3, r145.2.2)), (1, .inr (.inr (.inl a1)))] (shMkt, I, L, Rf)) C hR ⟨Nat.zero_le _, Nat.zero_le _⟩ mv_X2_countRest lk_X2_38 dX2_findRests_145 (rfl : 145 + 3 = 148) rfl rfl rfl rfl (c_X2_countRest X.l u (k_ap [(0, .inl (1, c0_1)), (0, .inl (2, c0_2)), (0, .inl (3, c0_3)), (1, .inr (.inr (.inl a1)))] (shMkt, I, L, Rf)) rfl rfl rfl rfl q145) rfl rfl rfl (k_jn (us' := [(0, .inl (1, r145.1)), (0, .inl (2, r145.2.1)), (0, .inl (3, r145.2.2)), (1, .inr (.inr (.inl a1)))]) ds_X2_findRests rfl rfl rfl) rfl ?_
          refine k_mask [true, true, false, true, true, true] ?_
          exact sX2_findRests_148 u C hr hR hk88 ih r145.1 r145.2.1 r145.2.2 a1 v1 v3 v4 v5 h
set_option maxHeartbeats 400000 in
set_option maxRecDepth 100000 in
theorem sX2_findRests_88 (u : Nat) {X : k_X} {ad : Nat → Nat} (C : k_C X cX2_findRests RX2 6 ad) (hr : X.meth.sig.returnType = none) (hR : X.R.frames = 3 ∧ X.R.locals = 66) {I : Nat → Nat → Int32} {L : Nat → Nat → Int64} {Rf : Nat → Nat → Option Nat} {out : Int32 × Int32 × Int32 × (Nat → Int32)} : ∀ (n : Nat) (c0_1 : Int32) (c0_2 : Int32) (c0_3 : Int32) (a1 : (Nat → Int32)) (v1 : Int32) (v3 : Int32) (v4 : Int32), bX2_findRests_88 u n c0_1 c0_2 c0_3 a1 v1 v3 v4 = some out → k_W X 6 0 0 (k_Q X ad none (k_ap [(0, .inl (1, out.1)), (0, .inl (2, out.2.1)), (0, .inl (3, out.2.2.1)), (1, .inr (.inr (.inl out.2.2.2)))] (shMkt, I, L, Rf))) ad (k_ap [(0, .inl (1, c0_1)), (0, .inl (2, c0_2)), (0, .inl (3, c0_3)), (1, .inr (.inr (.inl a1)))] (shMkt, I, L, Rf)) 88 [some (.ref 0), some (.int v1), none, some (.int v3), some (.int v4), none] [] := by
  intro n
  induction n with
  | zero => intro c0_1 c0_2 c0_3 a1 v1 v3 v4 h; cases h
  | succ n ih =>
    intro c0_1 c0_2 c0_3 a1 v1 v3 v4 h
    refine r_iload C dX2_findRests_88 (rfl : 88 + 2 = 90) rfl ?_
    refine r_iload_n C dX2_findRests_90 (rfl : 90 + 1 = 91) rfl ?_
    refine r_icmp_gt (tgt := 160) C dX2_findRests_91 (by decide) (rfl : 91 + 3 = 94) (fun c91 => ?_) (fun c91 => ?_)
    · have h := k_t c91 h
      cases h
      exact r_vret C hr dX2_findRests_160
    · have h := k_f c91 h
      refine r_iconst (v := (0 : Int32)) C dX2_findRests_94 (rfl : 94 + 1 = 95) rfl ?_
      refine r_istore C dX2_findRests_95 (rfl : 95 + 2 = 97) (by decide) (Nat.le_of_ble_eq_true rfl) ?_
      show k_W _ _ _ _ _ _ _ _ [some (.ref 0), some (.int v1), none, some (.int v3), some (.int v4), some (.int (0 : Int32))] _
      refine k_mask [true, true, false, true, true, true] ?_
      exact sX2_findRests_97 u C hr hR ih u c0_1 c0_2 c0_3 a1 v1 v3 v4 (0 : Int32) h
set_option maxHeartbeats 400000 in
set_option maxRecDepth 100000 in
theorem sX2_findRests_25 (u : Nat) {X : k_X} {ad : Nat → Nat} (C : k_C X cX2_findRests RX2 6 ad) (hr : X.meth.sig.returnType = none) (hR : X.R.frames = 3 ∧ X.R.locals = 66) {I : Nat → Nat → Int32} {L : Nat → Nat → Int64} {Rf : Nat → Nat → Option Nat} {out : Int32 × Int32 × Int32 × (Nat → Int32)} : ∀ (n : Nat) (c0_1 : Int32) (c0_2 : Int32) (c0_3 : Int32) (a1 : (Nat → Int32)) (v1 : Int32) (v3 : Int32) (v4 : Int32), bX2_findRests_25 u n c0_1 c0_2 c0_3 a1 v1 v3 v4 = some out → k_W X 6 0 0 (k_Q X ad none (k_ap [(0, .inl (1, out.1)), (0, .inl (2, out.2.1)), (0, .inl (3, out.2.2.1)), (1, .inr (.inr (.inl out.2.2.2)))] (shMkt, I, L, Rf))) ad (k_ap [(0, .inl (1, c0_1)), (0, .inl (2, c0_2)), (0, .inl (3, c0_3)), (1, .inr (.inr (.inl a1)))] (shMkt, I, L, Rf)) 25 [some (.ref 0), some (.int v1), none, some (.int v3), some (.int v4), none] [] := by
  intro n
  induction n with
  | zero => intro c0_1 c0_2 c0_3 a1 v1 v3 v4 h; cases h
  | succ n ih =>
    intro c0_1 c0_2 c0_3 a1 v1 v3 v4 h
    refine r_iload C dX2_findRests_25 (rfl : 25 + 2 = 27) rfl ?_
    refine r_iload_n C dX2_findRests_27 (rfl : 27 + 1 = 28) rfl ?_
    refine r_icmp_gt (tgt := 85) C dX2_findRests_28 (by decide) (rfl : 28 + 3 = 31) (fun c28 => ?_) (fun c28 => ?_)
    · have h := k_t c28 h
      refine r_iconst (v := (0 : Int32)) C dX2_findRests_85 (rfl : 85 + 1 = 86) rfl ?_
      refine r_istore C dX2_findRests_86 (rfl : 86 + 2 = 88) (by decide) (Nat.le_of_ble_eq_true rfl) ?_
      show k_W _ _ _ _ _ _ _ _ [some (.ref 0), some (.int v1), none, some (.int v3), some (.int (0 : Int32)), none] _
      refine k_mask [true, true, false, true, true, false] ?_
      exact sX2_findRests_88 u C hr hR u c0_1 c0_2 c0_3 a1 v1 v3 (0 : Int32) h
    · have h := k_f c28 h
      refine r_aload_n C dX2_findRests_31 (rfl : 31 + 1 = 32) rfl ?_
      refine r_getR (q := 1) C dX2_findRests_32 (rfl : 32 + 3 = 35) fl_X2_9 rfl rfl ?_
      refine r_iload C dX2_findRests_35 (rfl : 35 + 2 = 37) rfl ?_
      refine r_iconst (v := (0 : Int32)) C dX2_findRests_37 (rfl : 37 + 1 = 38) rfl ?_
      obtain ⟨hi38, h⟩ := k_i_of h
      refine s_i (j := (v4).toNatClampNeg) (f := a1) (us' := [(0, .inl (1, c0_1)), (0, .inl (2, c0_2)), (0, .inl (3, c0_3)), (1, .inr (.inr (.inl (upd a1 ((v4).toNatClampNeg) (0 : Int32)))))]) C dX2_findRests_38 (rfl : 38 + 1 = 39) rfl rfl hi38 rfl ds_X2_findRests rfl rfl rfl ?_
      refine r_iconst (v := (0 : Int32)) C dX2_findRests_39 (rfl : 39 + 1 = 40) rfl ?_
      refine r_istore C dX2_findRests_40 (rfl : 40 + 2 = 42) (by decide) (Nat.le_of_ble_eq_true rfl) ?_
      show k_W _ _ _ _ _ _ _ _ [some (.ref 0), some (.int v1), none, some (.int v3), some (.int v4), some (.int (0 : Int32))] _
      refine k_mask [true, true, false, true, true, true] ?_
      exact sX2_findRests_42 u C hr hR ih u c0_1 c0_2 c0_3 (upd a1 ((v4).toNatClampNeg) (0 : Int32)) v1 v3 v4 (0 : Int32) h
set_option maxHeartbeats 400000 in
set_option maxRecDepth 100000 in
theorem sX2_findRests_0 (u : Nat) {X : k_X} {ad : Nat → Nat} (C : k_C X cX2_findRests RX2 6 ad) (hr : X.meth.sig.returnType = none) (hR : X.R.frames = 3 ∧ X.R.locals = 66) {I : Nat → Nat → Int32} {L : Nat → Nat → Int64} {Rf : Nat → Nat → Option Nat} {out : Int32 × Int32 × Int32 × (Nat → Int32)} : ∀ (c0_1 : Int32) (c0_2 : Int32) (c0_3 : Int32) (a1 : (Nat → Int32)) (v1 : Int32) (v2 : Int32), bX2_findRests_0 u c0_1 c0_2 c0_3 a1 v1 v2 = some out → k_W X 6 0 0 (k_Q X ad none (k_ap [(0, .inl (1, out.1)), (0, .inl (2, out.2.1)), (0, .inl (3, out.2.2.1)), (1, .inr (.inr (.inl out.2.2.2)))] (shMkt, I, L, Rf))) ad (k_ap [(0, .inl (1, c0_1)), (0, .inl (2, c0_2)), (0, .inl (3, c0_3)), (1, .inr (.inr (.inl a1)))] (shMkt, I, L, Rf)) 0 [some (.ref 0), some (.int v1), some (.int v2), none, none, none] [] := by
  intro c0_1 c0_2 c0_3 a1 v1 v2 h
  unfold bX2_findRests_0 at h
  refine r_aload_n C dX2_findRests_0 (rfl : 0 + 1 = 1) rfl ?_
  refine r_iconst (v := (0 : Int32)) C dX2_findRests_1 (rfl : 1 + 1 = 2) rfl ?_
  refine p_I (us' := [(0, .inl (1, (0 : Int32))), (0, .inl (2, c0_2)), (0, .inl (3, c0_3)), (1, .inr (.inr (.inl a1)))]) C dX2_findRests_2 (rfl : 2 + 3 = 5) fp_X2_15 rfl rfl ds_X2_findRests rfl rfl rfl ?_
  refine r_aload_n C dX2_findRests_5 (rfl : 5 + 1 = 6) rfl ?_
  refine r_iconst (v := (-1 : Int32)) C dX2_findRests_6 (rfl : 6 + 1 = 7) rfl ?_
  refine p_I (us' := [(0, .inl (1, (0 : Int32))), (0, .inl (2, (-1 : Int32))), (0, .inl (3, c0_3)), (1, .inr (.inr (.inl a1)))]) C dX2_findRests_7 (rfl : 7 + 3 = 10) fp_X2_19 rfl rfl ds_X2_findRests rfl rfl rfl ?_
  refine r_aload_n C dX2_findRests_10 (rfl : 10 + 1 = 11) rfl ?_
  refine r_iconst (v := (0 : Int32)) C dX2_findRests_11 (rfl : 11 + 1 = 12) rfl ?_
  refine p_I (us' := [(0, .inl (1, (0 : Int32))), (0, .inl (2, (-1 : Int32))), (0, .inl (3, (0 : Int32))), (1, .inr (.inr (.inl a1)))]) C dX2_findRests_12 (rfl : 12 + 3 = 15) fp_X2_22 rfl rfl ds_X2_findRests rfl rfl rfl ?_
  refine r_iload_n C dX2_findRests_15 (rfl : 15 + 1 = 16) rfl ?_
  refine r_bipush (v := (20 : Int32)) C dX2_findRests_16 (rfl : 16 + 2 = 18) rfl ?_
  refine r_min C hR dX2_findRests_18 (rfl : 18 + 3 = 21) lm_X2_25 rfl rfl rfl ?_
  refine r_istore_n C dX2_findRests_21 (rfl : 21 + 1 = 22) (by decide) (Nat.le_of_ble_eq_true rfl) ?_
  show k_W _ _ _ _ _ _ _ _ [some (.ref 0), some (.int v1), some (.int v2), some (.int (if (20 : Int32) < v2 then (20 : Int32) else v2)), none, none] _
  refine r_iconst (v := (0 : Int32)) C dX2_findRests_22 (rfl : 22 + 1 = 23) rfl ?_
  refine r_istore C dX2_findRests_23 (rfl : 23 + 2 = 25) (by decide) (Nat.le_of_ble_eq_true rfl) ?_
  show k_W _ _ _ _ _ _ _ _ [some (.ref 0), some (.int v1), some (.int v2), some (.int (if (20 : Int32) < v2 then (20 : Int32) else v2)), some (.int (0 : Int32)), none] _
  refine k_mask [true, true, false, true, true, false] ?_
  exact sX2_findRests_25 u C hr hR u (0 : Int32) (-1 : Int32) (0 : Int32) a1 v1 (if (20 : Int32) < v2 then (20 : Int32) else v2) (0 : Int32) h
set_option maxHeartbeats 400000 in
set_option maxRecDepth 100000 in
theorem c_X2_findRests (l : Launch) (u : Nat) (h : k_H) (hsh : h.1 = shMkt) {c0_1 : Int32} (ec0_1 : h.2.1 0 1 = c0_1) {c0_2 : Int32} (ec0_2 : h.2.1 0 2 = c0_2) {c0_3 : Int32} (ec0_3 : h.2.1 0 3 = c0_3) {a1 : (Nat → Int32)} (ea1 : h.2.1 1 = a1) {x0 : Int32} {x1 : Int32} {out : Int32 × Int32 × Int32 × (Nat → Int32)} (hf : f_X2_findRests u c0_1 c0_2 c0_3 a1 x0 x1 = some out) : k_CT l yX2_findRests cX2_findRests 6 none 3 66 [.ref 0, .int x0, .int x1] h none [(0, .inl (1, out.1)), (0, .inl (2, out.2.1)), (0, .inl (3, out.2.2.1)), (1, .inr (.inr (.inl out.2.2.2)))] := by
  obtain ⟨sh, I, L, Rf⟩ := h
  try dsimp only
  obtain rfl : sh = shMkt := hsh
  refine k_ofW (by decide) (Nat.le_of_ble_eq_true rfl) ?_
  intro X ad hl hR0 hr C
  have hR : X.R.frames = 3 ∧ X.R.locals = 66 := by rw [hR0]; exact ⟨rfl, rfl⟩
  have h := hf
  unfold f_X2_findRests at h
  refine k_start (us := [(0, .inl (1, c0_1)), (0, .inl (2, c0_2)), (0, .inl (3, c0_3)), (1, .inr (.inr (.inl a1)))]) (k_ao_I ec0_1 (k_ao_I ec0_2 (k_ao_I ec0_3 (k_ao_A ea1 k_ap_0)))) ?_
  show k_W X 6 0 0 _ ad (k_ap [(0, .inl (1, c0_1)), (0, .inl (2, c0_2)), (0, .inl (3, c0_3)), (1, .inr (.inr (.inl a1)))] (shMkt, I, L, Rf)) 0 [some (.ref 0), some (.int x0), some (.int x1), none, none, none] []
  refine k_mask [true, true, true, false, false, false] ?_
  exact sX2_findRests_0 u C hr hR c0_1 c0_2 c0_3 a1 x0 x1 h
/-! LullabyPit.isEither(I)Z -/
theorem ds_X10_isEither : k_ds [] = true := by decide +kernel
set_option maxHeartbeats 400000 in
set_option maxRecDepth 100000 in
theorem sX10_isEither_0 (u : Nat) {X : k_X} {ad : Nat → Nat} {sh : List k_Sh} (C : k_C X cX10_isEither RX10 1 ad) (hr : X.meth.sig.returnType = (some .boolean)) (hR : X.R.frames = 0 ∧ X.R.locals = 0) {I : Nat → Nat → Int32} {L : Nat → Nat → Int64} {Rf : Nat → Nat → Option Nat} {out : Int32} : ∀ (v0 : Int32), bX10_isEither_0 u v0 = some out → k_W X 1 0 0 (k_Q X ad (some (.int out)) (k_ap [] (sh, I, L, Rf))) ad (k_ap [] (sh, I, L, Rf)) 0 [some (.int v0)] [] := by
  intro v0 h
  unfold bX10_isEither_0 at h
  refine r_iload_n C dX10_isEither_0 (rfl : 0 + 1 = 1) rfl ?_
  refine r_if_eq (tgt := 9) C dX10_isEither_1 (by decide) (rfl : 1 + 3 = 4) (fun c1 => ?_) (fun c1 => ?_)
  · have h := k_t c1 h
    refine r_iconst (v := (1 : Int32)) C dX10_isEither_9 (rfl : 9 + 1 = 10) rfl ?_
    refine r_goto (tgt := 14) C dX10_isEither_10 (by decide) ?_
    cases h
    exact r_zret C hr (Or.inr rfl) dX10_isEither_14
  · have h := k_f c1 h
    refine r_iload_n C dX10_isEither_4 (rfl : 4 + 1 = 5) rfl ?_
    refine r_iconst (v := (1 : Int32)) C dX10_isEither_5 (rfl : 5 + 1 = 6) rfl ?_
    refine r_icmp_ne (tgt := 13) C dX10_isEither_6 (by decide) (rfl : 6 + 3 = 9) (fun c6 => ?_) (fun c6 => ?_)
    · have h := k_f c6 h
      refine r_iconst (v := (0 : Int32)) C dX10_isEither_13 (rfl : 13 + 1 = 14) rfl ?_
      cases h
      exact r_zret C hr (Or.inl rfl) dX10_isEither_14
    · have h := k_t c6 h
      refine r_iconst (v := (1 : Int32)) C dX10_isEither_9 (rfl : 9 + 1 = 10) rfl ?_
      refine r_goto (tgt := 14) C dX10_isEither_10 (by decide) ?_
      cases h
      exact r_zret C hr (Or.inr rfl) dX10_isEither_14
set_option maxHeartbeats 400000 in
set_option maxRecDepth 100000 in
theorem c_X10_isEither (l : Launch) (u : Nat) (h : k_H)  {x0 : Int32} {out : Int32} (hf : f_X10_isEither u x0 = some out) : k_CT l yX10_isEither cX10_isEither 1 (some .boolean) 0 0 [.int x0] h (some (.int out)) [] := by
  obtain ⟨sh, I, L, Rf⟩ := h
  try dsimp only
  refine k_ofW (by decide) (Nat.le_of_ble_eq_true rfl) ?_
  intro X ad hl hR0 hr C
  have hR : X.R.frames = 0 ∧ X.R.locals = 0 := by rw [hR0]; exact ⟨rfl, rfl⟩
  have h := hf
  unfold f_X10_isEither at h
  refine k_start (us := []) k_ap_0 ?_
  show k_W X 1 0 0 _ ad (k_ap [] (sh, I, L, Rf)) 0 [some (.int x0)] []
  refine k_mask [true] ?_
  exact sX10_isEither_0 u C hr hR x0 h
/-! LullabyPit.isDecade(II)Z -/
theorem ds_X10_isDecade : k_ds [] = true := by decide +kernel
set_option maxHeartbeats 400000 in
set_option maxRecDepth 100000 in
theorem sX10_isDecade_0 (u : Nat) {X : k_X} {ad : Nat → Nat} {sh : List k_Sh} (C : k_C X cX10_isDecade RX10 2 ad) (hr : X.meth.sig.returnType = (some .boolean)) (hR : X.R.frames = 0 ∧ X.R.locals = 0) {I : Nat → Nat → Int32} {L : Nat → Nat → Int64} {Rf : Nat → Nat → Option Nat} {out : Int32} : ∀ (v0 : Int32) (v1 : Int32), bX10_isDecade_0 u v0 v1 = some out → k_W X 2 0 0 (k_Q X ad (some (.int out)) (k_ap [] (sh, I, L, Rf))) ad (k_ap [] (sh, I, L, Rf)) 0 [some (.int v0), some (.int v1)] [] := by
  intro v0 v1 h
  unfold bX10_isDecade_0 at h
  refine r_iload_n C dX10_isDecade_0 (rfl : 0 + 1 = 1) rfl ?_
  refine r_if_lt (tgt := 25) C dX10_isDecade_1 (by decide) (rfl : 1 + 3 = 4) (fun c1 => ?_) (fun c1 => ?_)
  · have h := k_t c1 h
    refine r_iconst (v := (0 : Int32)) C dX10_isDecade_25 (rfl : 25 + 1 = 26) rfl ?_
    cases h
    exact r_zret C hr (Or.inl rfl) dX10_isDecade_26
  · have h := k_f c1 h
    refine r_iload_n C dX10_isDecade_4 (rfl : 4 + 1 = 5) rfl ?_
    refine r_bipush (v := (16 : Int32)) C dX10_isDecade_5 (rfl : 5 + 2 = 7) rfl ?_
    refine r_icmp_gt (tgt := 25) C dX10_isDecade_7 (by decide) (rfl : 7 + 3 = 10) (fun c7 => ?_) (fun c7 => ?_)
    · have h := k_t c7 h
      refine r_iconst (v := (0 : Int32)) C dX10_isDecade_25 (rfl : 25 + 1 = 26) rfl ?_
      cases h
      exact r_zret C hr (Or.inl rfl) dX10_isDecade_26
    · have h := k_f c7 h
      refine r_iload_n C dX10_isDecade_10 (rfl : 10 + 1 = 11) rfl ?_
      refine r_iconst (v := (1 : Int32)) C dX10_isDecade_11 (rfl : 11 + 1 = 12) rfl ?_
      refine r_icmp_lt (tgt := 25) C dX10_isDecade_12 (by decide) (rfl : 12 + 3 = 15) (fun c12 => ?_) (fun c12 => ?_)
      · have h := k_t c12 h
        refine r_iconst (v := (0 : Int32)) C dX10_isDecade_25 (rfl : 25 + 1 = 26) rfl ?_
        cases h
        exact r_zret C hr (Or.inl rfl) dX10_isDecade_26
      · have h := k_f c12 h
        refine r_iload_n C dX10_isDecade_15 (rfl : 15 + 1 = 16) rfl ?_
        refine r_bipush (v := (40 : Int32)) C dX10_isDecade_16 (rfl : 16 + 2 = 18) rfl ?_
        refine r_icmp_gt (tgt := 25) C dX10_isDecade_18 (by decide) (rfl : 18 + 3 = 21) (fun c18 => ?_) (fun c18 => ?_)
        · have h := k_t c18 h
          refine r_iconst (v := (0 : Int32)) C dX10_isDecade_25 (rfl : 25 + 1 = 26) rfl ?_
          cases h
          exact r_zret C hr (Or.inl rfl) dX10_isDecade_26
        · have h := k_f c18 h
          refine r_iconst (v := (1 : Int32)) C dX10_isDecade_21 (rfl : 21 + 1 = 22) rfl ?_
          refine r_goto (tgt := 26) C dX10_isDecade_22 (by decide) ?_
          cases h
          exact r_zret C hr (Or.inr rfl) dX10_isDecade_26
set_option maxHeartbeats 400000 in
set_option maxRecDepth 100000 in
theorem c_X10_isDecade (l : Launch) (u : Nat) (h : k_H)  {x0 : Int32} {x1 : Int32} {out : Int32} (hf : f_X10_isDecade u x0 x1 = some out) : k_CT l yX10_isDecade cX10_isDecade 2 (some .boolean) 0 0 [.int x0, .int x1] h (some (.int out)) [] := by
  obtain ⟨sh, I, L, Rf⟩ := h
  try dsimp only
  refine k_ofW (by decide) (Nat.le_of_ble_eq_true rfl) ?_
  intro X ad hl hR0 hr C
  have hR : X.R.frames = 0 ∧ X.R.locals = 0 := by rw [hR0]; exact ⟨rfl, rfl⟩
  have h := hf
  unfold f_X10_isDecade at h
  refine k_start (us := []) k_ap_0 ?_
  show k_W X 2 0 0 _ ad (k_ap [] (sh, I, L, Rf)) 0 [some (.int x0), some (.int x1)] []
  refine k_mask [true, true] ?_
  exact sX10_isDecade_0 u C hr hR x0 x1 h
/-! LullabyPit$Survey.risksOf(LLullabyPit$Mine;I)I -/
theorem ds_X7_risksOf : k_ds [(19, 2, 0), (43, 0, 10), (43, 0, 11), (43, 0, 12), (43, 0, 13), (43, 0, 14), (43, 0, 15), (43, 0, 16), (43, 0, 17), (43, 1, 3), (43, 1, 4), (43, 1, 5), (44, 2, 0), (45, 2, 0), (46, 2, 0), (47, 2, 0)] = true := by decide +kernel
set_option maxHeartbeats 1000000 in
set_option maxRecDepth 100000 in
theorem sX7_risksOf_0 (u : Nat) {X : k_X} {ad : Nat → Nat} {rest : List k_Sh} (C : k_C X cX7_risksOf RX7 4 ad) (hr : X.meth.sig.returnType = (some .int)) (hR : X.R.frames = 4 ∧ X.R.locals = 96) {I : Nat → Nat → Int32} {L : Nat → Nat → Int64} {Rf : Nat → Nat → Option Nat} (eR41_0 : Rf 41 0 = some 43) {a4 : (Nat → Int32)} (ea4 : I 4 = a4) {a5 : (Nat → Int32)} (ea5 : I 5 = a5) {c17_2 : Int32} (ec17_2 : I 17 2 = c17_2) {a18 : (Nat → Int32)} (ea18 : I 18 = a18) {c26_10 : Int32} (ec26_10 : I 26 10 = c26_10) {c26_11 : Int32} (ec26_11 : I 26 11 = c26_11) {c26_12 : Int32} (ec26_12 : I 26 12 = c26_12) {c26_13 : Int32} (ec26_13 : I 26 13 = c26_13) {c26_14 : Int32} (ec26_14 : I 26 14 = c26_14) {c26_15 : Int32} (ec26_15 : I 26 15 = c26_15) {c26_16 : Int32} (ec26_16 : I 26 16 = c26_16) {c26_17 : Int32} (ec26_17 : I 26 17 = c26_17) {c26_3 : Int64} (ec26_3 : L 26 3 = c26_3) {c26_4 : Int64} (ec26_4 : L 26 4 = c26_4) {c26_5 : Int64} (ec26_5 : L 26 5 = c26_5) {a27 : (Nat → Int32)} (ea27 : I 27 = a27) {a28 : (Nat → Int32)} (ea28 : I 28 = a28) {a29 : (Nat → Int32)} (ea29 : I 29 = a29) {a30 : (Nat → Int32)} (ea30 : I 30 = a30) {out : Int32 × (Nat → Int32) × Int32 × Int32 × Int32 × Int32 × Int32 × Int32 × Int32 × Int32 × Int64 × Int64 × Int64 × (Nat → Int32) × (Nat → Int32) × (Nat → Int32) × (Nat → Int32)} : ∀ (a19 : (Nat → Int32)) (c43_10 : Int32) (c43_11 : Int32) (c43_12 : Int32) (c43_13 : Int32) (c43_14 : Int32) (c43_15 : Int32) (c43_16 : Int32) (c43_17 : Int32) (c43_3 : Int64) (c43_4 : Int64) (c43_5 : Int64) (a44 : (Nat → Int32)) (a45 : (Nat → Int32)) (a46 : (Nat → Int32)) (a47 : (Nat → Int32)) (v2 : Int32), bX7_risksOf_0 u a4 a5 c17_2 a18 c26_10 c26_11 c26_12 c26_13 c26_14 c26_15 c26_16 c26_17 c26_3 c26_4 c26_5 a27 a28 a29 a30 a19 c43_10 c43_11 c43_12 c43_13 c43_14 c43_15 c43_16 c43_17 c43_3 c43_4 c43_5 a44 a45 a46 a47 v2 = some out → k_W X 4 0 0 (k_Q X ad (some (.int out.1)) (k_ap [(19, .inr (.inr (.inl out.2.1))), (43, .inl (10, out.2.2.1)), (43, .inl (11, out.2.2.2.1)), (43, .inl (12, out.2.2.2.2.1)), (43, .inl (13, out.2.2.2.2.2.1)), (43, .inl (14, out.2.2.2.2.2.2.1)), (43, .inl (15, out.2.2.2.2.2.2.2.1)), (43, .inl (16, out.2.2.2.2.2.2.2.2.1)), (43, .inl (17, out.2.2.2.2.2.2.2.2.2.1)), (43, .inr (.inl (3, out.2.2.2.2.2.2.2.2.2.2.1))), (43, .inr (.inl (4, out.2.2.2.2.2.2.2.2.2.2.2.1))), (43, .inr (.inl (5, out.2.2.2.2.2.2.2.2.2.2.2.2.1))), (44, .inr (.inr (.inl out.2.2.2.2.2.2.2.2.2.2.2.2.2.1))), (45, .inr (.inr (.inl out.2.2.2.2.2.2.2.2.2.2.2.2.2.2.1))), (46, .inr (.inr (.inl out.2.2.2.2.2.2.2.2.2.2.2.2.2.2.2.1))), (47, .inr (.inr (.inl out.2.2.2.2.2.2.2.2.2.2.2.2.2.2.2.2)))] ((shX ++ rest), I, L, Rf))) ad (k_ap [(19, .inr (.inr (.inl a19))), (43, .inl (10, c43_10)), (43, .inl (11, c43_11)), (43, .inl (12, c43_12)), (43, .inl (13, c43_13)), (43, .inl (14, c43_14)), (43, .inl (15, c43_15)), (43, .inl (16, c43_16)), (43, .inl (17, c43_17)), (43, .inr (.inl (3, c43_3))), (43, .inr (.inl (4, c43_4))), (43, .inr (.inl (5, c43_5))), (44, .inr (.inr (.inl a44))), (45, .inr (.inr (.inl a45))), (46, .inr (.inr (.inl a46))), (47, .inr (.inr (.inl a47)))] ((shX ++ rest), I, L, Rf)) 0 [some (.ref 40), some (.ref 26), some (.int v2), none] [] := by
  intro a19 c43_10 c43_11 c43_12 c43_13 c43_14 c43_15 c43_16 c43_17 c43_3 c43_4 c43_5 a44 a45 a46 a47 v2 h
  unfold bX7_risksOf_0 at h
  refine r_aload_n C dX7_risksOf_0 (rfl : 0 + 1 = 1) rfl ?_
  refine r_getR (q := 41) C dX7_risksOf_1 (rfl : 1 + 3 = 4) fl_X7_13 (k_gS rfl) rfl ?_
  refine r_iconst (v := (0 : Int32)) C dX7_risksOf_4 (rfl : 4 + 1 = 5) rfl ?_
  refine r_aald (q := 43) (j := 0) C dX7_risksOf_5 (rfl : 5 + 1 = 6) rfl (show ¬ ((0 : Int32) < 0 ∨ 3 ≤ ((0 : Int32)).toNatClampNeg) by decide) rfl eR41_0 ?_
  refine r_astore_n C dX7_risksOf_6 (rfl : 6 + 1 = 7) (by decide) (Nat.le_of_ble_eq_true rfl) ?_
  show k_W _ _ _ _ _ _ _ _ [some (.ref 40), some (.ref 26), some (.int v2), some (.ref 43)] _
  refine r_aload_n C dX7_risksOf_7 (rfl : 7 + 1 = 8) rfl ?_
  refine r_aload_n C dX7_risksOf_8 (rfl : 8 + 1 = 9) rfl ?_
  obtain ⟨r9, q9, h⟩ := k_b_of h
  refine d_Vp (pi := [43, 44, 45, 46, 47, 3, 4, 5, 6, 7, 8, 9, 17, 18, 19, 20, 21, 22, 26, 27, 28, 29, 30]) (shl := shMine2) (bl := 0) (As := [.ref 26]) (Al := [.ref 18]) (st := []) (st' := []) (h' := k_ap [(19, .inr (.inr (.inl a19))), (43, .inl (10, r9.1)), (43, .inl (11, r9.2.1)), (43, .inl (12, r9.2.2.1)), (43, .inl (13, r9.2.2.2.1)), (43, .inl (14, r9.2.2.2.2.1)), (43, .inl (15, r9.2.2.2.2.2.1)), (43, .inl (16, r9.2.2.2.2.2.2.1)), (43, .inl (17, r9.2.2.2.2.2.2.2.1)), (43, .inr (.inl (3, r9.2.2.2.2.2.2.2.2.1))), (43, .inr (.inl (4, r9.2.2.2.2.2.2.2.2.2.1))), (43, .inr (.inl (5, r9.2.2.2.2.2.2.2.2.2.2.1))), (44, .inr (.inr (.inl r9.2.2.2.2.2.2.2.2.2.2.2.1))), (45, .inr (.inr (.inl r9.2.2.2.2.2.2.2.2.2.2.2.2.1))), (46, .inr (.inr (.inl r9.2.2.2.2.2.2.2.2.2.2.2.2.2.1))), (47, .inr (.inr (.inl r9.2.2.2.2.2.2.2.2.2.2.2.2.2.2)))] ((shX ++ rest), I, L, Rf)) C hR ⟨Nat.zero_le _, Nat.zero_le _⟩ mv_X3_copyFrom lk_X7_29 dX7_risksOf_9 (rfl : 9 + 3 = 12) rfl rfl (k_ckS ck_shX_shMine2_43_3) rfl rfl (c_X3_copyFrom X.l u (k_pl [43, 44, 45, 46, 47, 3, 4, 5, 6, 7, 8, 9, 17, 18, 19, 20, 21, 22, 26, 27, 28, 29, 30] shMine2 (k_ap [(19, .inr (.inr (.inl a19))), (43, .inl (10, c43_10)), (43, .inl (11, c43_11)), (43, .inl (12, c43_12)), (43, .inl (13, c43_13)), (43, .inl (14, c43_14)), (43, .inl (15, c43_15)), (43, .inl (16, c43_16)), (43, .inl (17, c43_17)), (43, .inr (.inl (3, c43_3))), (43, .inr (.inl (4, c43_4))), (43, .inr (.inl (5, c43_5))), (44, .inr (.inr (.inl a44))), (45, .inr (.inr (.inl a45))), (46, .inr (.inr (.inl a46))), (47, .inr (.inr (.inl a47)))] ((shX ++ rest), I, L, Rf))) rfl (k_plI rfl (k_gI ds_X7_risksOf rfl 1 rfl)) (k_plI rfl (k_gI ds_X7_risksOf rfl 2 rfl)) (k_plI rfl (k_gI ds_X7_risksOf rfl 3 rfl)) (k_plI rfl (k_gI ds_X7_risksOf rfl 4 rfl)) (k_plI rfl (k_gI ds_X7_risksOf rfl 5 rfl)) (k_plI rfl (k_gI ds_X7_risksOf rfl 6 rfl)) (k_plI rfl (k_gI ds_X7_risksOf rfl 7 rfl)) (k_plI rfl (k_gI ds_X7_risksOf rfl 8 rfl)) (k_plL rfl (k_gL ds_X7_risksOf rfl 9 rfl)) (k_plL rfl (k_gL ds_X7_risksOf rfl 10 rfl)) (k_plL rfl (k_gL ds_X7_risksOf rfl 11 rfl)) (k_plA rfl (k_gA ds_X7_risksOf rfl 12 rfl)) (k_plA rfl (k_gA ds_X7_risksOf rfl 13 rfl)) (k_plA rfl (k_gA ds_X7_risksOf rfl 14 rfl)) (k_plA rfl (k_gA ds_X7_risksOf rfl 15 rfl)) (k_plI rfl (k_gOI (ks := [(19, 2, 0), (43, 0, 10), (43, 0, 11), (43, 0, 12), (43, 0, 13), (43, 0, 14), (43, 0, 15), (43, 0, 16), (43, 0, 17), (43, 1, 3), (43, 1, 4), (43, 1, 5), (44, 2, 0), (45, 2, 0), (46, 2, 0), (47, 2, 0)]) rfl (by decide +kernel) ec26_10)) (k_plI rfl (k_gOI (ks := [(19, 2, 0), (43, 0, 10), (43, 0, 11), (43, 0, 12), (43, 0, 13), (43, 0, 14), (43, 0, 15), (43, 0, 16), (43, 0, 17), (43, 1, 3), (43, 1, 4), (43, 1, 5), (44, 2, 0), (45, 2, 0), (46, 2, 0), (47, 2, 0)]) rfl (by decide +kernel) ec26_11)) (k_plI rfl (k_gOI (ks := [(19, 2, 0), (43, 0, 10), (43, 0, 11), (43, 0, 12), (43, 0, 13), (43, 0, 14), (43, 0, 15), (43, 0, 16), (43, 0, 17), (43, 1, 3), (43, 1, 4), (43, 1, 5), (44, 2, 0), (45, 2, 0), (46, 2, 0), (47, 2, 0)]) rfl (by decide +kernel) ec26_12)) (k_plI rfl (k_gOI (ks := [(19, 2, 0), (43, 0, 10), (43, 0, 11), (43, 0, 12), (43, 0, 13), (43, 0, 14), (43, 0, 15), (43, 0, 16), (43, 0, 17), (43, 1, 3), (43, 1, 4), (43, 1, 5), (44, 2, 0), (45, 2, 0), (46, 2, 0), (47, 2, 0)]) rfl (by decide +kernel) ec26_13)) (k_plI rfl (k_gOI (ks := [(19, 2, 0), (43, 0, 10), (43, 0, 11), (43, 0, 12), (43, 0, 13), (43, 0, 14), (43, 0, 15), (43, 0, 16), (43, 0, 17), (43, 1, 3), (43, 1, 4), (43, 1, 5), (44, 2, 0), (45, 2, 0), (46, 2, 0), (47, 2, 0)]) rfl (by decide +kernel) ec26_14)) (k_plI rfl (k_gOI (ks := [(19, 2, 0), (43, 0, 10), (43, 0, 11), (43, 0, 12), (43, 0, 13), (43, 0, 14), (43, 0, 15), (43, 0, 16), (43, 0, 17), (43, 1, 3), (43, 1, 4), (43, 1, 5), (44, 2, 0), (45, 2, 0), (46, 2, 0), (47, 2, 0)]) rfl (by decide +kernel) ec26_15)) (k_plI rfl (k_gOI (ks := [(19, 2, 0), (43, 0, 10), (43, 0, 11), (43, 0, 12), (43, 0, 13), (43, 0, 14), (43, 0, 15), (43, 0, 16), (43, 0, 17), (43, 1, 3), (43, 1, 4), (43, 1, 5), (44, 2, 0), (45, 2, 0), (46, 2, 0), (47, 2, 0)]) rfl (by decide +kernel) ec26_16)) (k_plI rfl (k_gOI (ks := [(19, 2, 0), (43, 0, 10), (43, 0, 11), (43, 0, 12), (43, 0, 13), (43, 0, 14), (43, 0, 15), (43, 0, 16), (43, 0, 17), (43, 1, 3), (43, 1, 4), (43, 1, 5), (44, 2, 0), (45, 2, 0), (46, 2, 0), (47, 2, 0)]) rfl (by decide +kernel) ec26_17)) (k_plL rfl (k_gOL (ks := [(19, 2, 0), (43, 0, 10), (43, 0, 11), (43, 0, 12), (43, 0, 13), (43, 0, 14), (43, 0, 15), (43, 0, 16), (43, 0, 17), (43, 1, 3), (43, 1, 4), (43, 1, 5), (44, 2, 0), (45, 2, 0), (46, 2, 0), (47, 2, 0)]) rfl (by decide +kernel) ec26_3)) (k_plL rfl (k_gOL (ks := [(19, 2, 0), (43, 0, 10), (43, 0, 11), (43, 0, 12), (43, 0, 13), (43, 0, 14), (43, 0, 15), (43, 0, 16), (43, 0, 17), (43, 1, 3), (43, 1, 4), (43, 1, 5), (44, 2, 0), (45, 2, 0), (46, 2, 0), (47, 2, 0)]) rfl (by decide +kernel) ec26_4)) (k_plL rfl (k_gOL (ks := [(19, 2, 0), (43, 0, 10), (43, 0, 11), (43, 0, 12), (43, 0, 13), (43, 0, 14), (43, 0, 15), (43, 0, 16), (43, 0, 17), (43, 1, 3), (43, 1, 4), (43, 1, 5), (44, 2, 0), (45, 2, 0), (46, 2, 0), (47, 2, 0)]) rfl (by decide +kernel) ec26_5)) (k_plA rfl (k_gOA (ks := [(19, 2, 0), (43, 0, 10), (43, 0, 11), (43, 0, 12), (43, 0, 13), (43, 0, 14), (43, 0, 15), (43, 0, 16), (43, 0, 17), (43, 1, 3), (43, 1, 4), (43, 1, 5), (44, 2, 0), (45, 2, 0), (46, 2, 0), (47, 2, 0)]) rfl (by decide +kernel) ea27)) (k_plA rfl (k_gOA (ks := [(19, 2, 0), (43, 0, 10), (43, 0, 11), (43, 0, 12), (43, 0, 13), (43, 0, 14), (43, 0, 15), (43, 0, 16), (43, 0, 17), (43, 1, 3), (43, 1, 4), (43, 1, 5), (44, 2, 0), (45, 2, 0), (46, 2, 0), (47, 2, 0)]) rfl (by decide +kernel) ea28)) (k_plA rfl (k_gOA (ks := [(19, 2, 0), (43, 0, 10), (43, 0, 11), (43, 0, 12), (43, 0, 13), (43, 0, 14), (43, 0, 15), (43, 0, 16), (43, 0, 17), (43, 1, 3), (43, 1, 4), (43, 1, 5), (44, 2, 0), (45, 2, 0), (46, 2, 0), (47, 2, 0)]) rfl (by decide +kernel) ea29)) (k_plA rfl (k_gOA (ks := [(19, 2, 0), (43, 0, 10), (43, 0, 11), (43, 0, 12), (43, 0, 13), (43, 0, 14), (43, 0, 15), (43, 0, 16), (43, 0, 17), (43, 1, 3), (43, 1, 4), (43, 1, 5), (44, 2, 0), (45, 2, 0), (46, 2, 0), (47, 2, 0)]) rfl (by decide +kernel) ea30)) q9) rfl (fun _ => rfl) rfl (fun _ => rfl) rfl rfl rfl (k_jn2 (us' := [(19, .inr (.inr (.inl a19))), (43, .inl (10, r9.1)), (43, .inl (11, r9.2.1)), (43, .inl (12, r9.2.2.1)), (43, .inl (13, r9.2.2.2.1)), (43, .inl (14, r9.2.2.2.2.1)), (43, .inl (15, r9.2.2.2.2.2.1)), (43, .inl (16, r9.2.2.2.2.2.2.1)), (43, .inl (17, r9.2.2.2.2.2.2.2.1)), (43, .inr (.inl (3, r9.2.2.2.2.2.2.2.2.1))), (43, .inr (.inl (4, r9.2.2.2.2.2.2.2.2.2.1))), (43, .inr (.inl (5, r9.2.2.2.2.2.2.2.2.2.2.1))), (44, .inr (.inr (.inl r9.2.2.2.2.2.2.2.2.2.2.2.1))), (45, .inr (.inr (.inl r9.2.2.2.2.2.2.2.2.2.2.2.2.1))), (46, .inr (.inr (.inl r9.2.2.2.2.2.2.2.2.2.2.2.2.2.1))), (47, .inr (.inr (.inl r9.2.2.2.2.2.2.2.2.2.2.2.2.2.2)))]) (vks := [(43, 0, 10), (43, 0, 11), (43, 0, 12), (43, 0, 13), (43, 0, 14), (43, 0, 15), (43, 0, 16), (43, 0, 17), (43, 1, 3), (43, 1, 4), (43, 1, 5), (44, 2, 0), (45, 2, 0), (46, 2, 0), (47, 2, 0)]) (js := [1, 2, 3, 4, 5, 6, 7, 8, 9, 10, 11, 12, 13, 14, 15]) ds_X7_risksOf rfl rfl (by decide +kernel) rfl) rfl ?_
  refine r_aload_n C dX7_risksOf_12 (rfl : 12 + 1 = 13) rfl ?_
  refine r_dup C dX7_risksOf_13 (rfl : 13 + 1 = 14) rfl ?_
  refine r_getL (v := r9.2.2.2.2.2.2.2.2.1) C dX7_risksOf_14 (rfl : 14 + 3 = 17) fl_X7_33 (k_gS rfl) rfl (k_gL ds_X7_risksOf rfl 9 rfl) ?_
  refine r_lconst (v := (1 : Int64)) C dX7_risksOf_17 (rfl : 17 + 1 = 18) rfl ?_
  refine r_iload_n C dX7_risksOf_18 (rfl : 18 + 1 = 19) rfl ?_
  refine r_lshl C dX7_risksOf_19 (rfl : 19 + 1 = 20) ?_
  refine r_lor C dX7_risksOf_20 (rfl : 20 + 1 = 21) ?_
  refine p_L (us' := [(19, .inr (.inr (.inl a19))), (43, .inl (10, r9.1)), (43, .inl (11, r9.2.1)), (43, .inl (12, r9.2.2.1)), (43, .inl (13, r9.2.2.2.1)), (43, .inl (14, r9.2.2.2.2.1)), (43, .inl (15, r9.2.2.2.2.2.1)), (43, .inl (16, r9.2.2.2.2.2.2.1)), (43, .inl (17, r9.2.2.2.2.2.2.2.1)), (43, .inr (.inl (3, (r9.2.2.2.2.2.2.2.2.1 ||| ((1 : Int64) <<< ((v2).toInt64 &&& 63)))))), (43, .inr (.inl (4, r9.2.2.2.2.2.2.2.2.2.1))), (43, .inr (.inl (5, r9.2.2.2.2.2.2.2.2.2.2.1))), (44, .inr (.inr (.inl r9.2.2.2.2.2.2.2.2.2.2.2.1))), (45, .inr (.inr (.inl r9.2.2.2.2.2.2.2.2.2.2.2.2.1))), (46, .inr (.inr (.inl r9.2.2.2.2.2.2.2.2.2.2.2.2.2.1))), (47, .inr (.inr (.inl r9.2.2.2.2.2.2.2.2.2.2.2.2.2.2)))]) C dX7_risksOf_21 (rfl : 21 + 3 = 24) fp_X7_33 rfl rfl ds_X7_risksOf rfl rfl rfl ?_
  refine r_aload_n C dX7_risksOf_24 (rfl : 24 + 1 = 25) rfl ?_
  obtain ⟨r25, q25, h⟩ := k_b_of h
  refine d_Vp (pi := [43, 44, 45, 46, 47, 3, 4, 5, 6, 7, 8, 9, 17, 18, 19, 20, 21, 22]) (shl := shMine) (bl := 0) (As := []) (Al := []) (st := []) (st' := [.long r25.1]) (h' := k_ap [(19, .inr (.inr (.inl r25.2))), (43, .inl (10, r9.1)), (43, .inl (11, r9.2.1)), (43, .inl (12, r9.2.2.1)), (43, .inl (13, r9.2.2.2.1)), (43, .inl (14, r9.2.2.2.2.1)), (43, .inl (15, r9.2.2.2.2.2.1)), (43, .inl (16, r9.2.2.2.2.2.2.1)), (43, .inl (17, r9.2.2.2.2.2.2.2.1)), (43, .inr (.inl (3, (r9.2.2.2.2.2.2.2.2.1 ||| ((1 : Int64) <<< ((v2).toInt64 &&& 63)))))), (43, .inr (.inl (4, r9.2.2.2.2.2.2.2.2.2.1))), (43, .inr (.inl (5, r9.2.2.2.2.2.2.2.2.2.2.1))), (44, .inr (.inr (.inl r9.2.2.2.2.2.2.2.2.2.2.2.1))), (45, .inr (.inr (.inl r9.2.2.2.2.2.2.2.2.2.2.2.2.1))), (46, .inr (.inr (.inl r9.2.2.2.2.2.2.2.2.2.2.2.2.2.1))), (47, .inr (.inr (.inl r9.2.2.2.2.2.2.2.2.2.2.2.2.2.2)))] ((shX ++ rest), I, L, Rf)) C hR ⟨Nat.zero_le _, Nat.zero_le _⟩ mv_X3_doomedCells lk_X7_37 dX7_risksOf_25 (rfl : 25 + 3 = 28) rfl rfl (k_ckS ck_shX_shMine_43_3) rfl rfl (c_X3_doomedCells X.l u (k_pl [43, 44, 45, 46, 47, 3, 4, 5, 6, 7, 8, 9, 17, 18, 19, 20, 21, 22] shMine (k_ap [(19, .inr (.inr (.inl a19))), (43, .inl (10, r9.1)), (43, .inl (11, r9.2.1)), (43, .inl (12, r9.2.2.1)), (43, .inl (13, r9.2.2.2.1)), (43, .inl (14, r9.2.2.2.2.1)), (43, .inl (15, r9.2.2.2.2.2.1)), (43, .inl (16, r9.2.2.2.2.2.2.1)), (43, .inl (17, r9.2.2.2.2.2.2.2.1)), (43, .inr (.inl (3, (r9.2.2.2.2.2.2.2.2.1 ||| ((1 : Int64) <<< ((v2).toInt64 &&& 63)))))), (43, .inr (.inl (4, r9.2.2.2.2.2.2.2.2.2.1))), (43, .inr (.inl (5, r9.2.2.2.2.2.2.2.2.2.2.1))), (44, .inr (.inr (.inl r9.2.2.2.2.2.2.2.2.2.2.2.1))), (45, .inr (.inr (.inl r9.2.2.2.2.2.2.2.2.2.2.2.2.1))), (46, .inr (.inr (.inl r9.2.2.2.2.2.2.2.2.2.2.2.2.2.1))), (47, .inr (.inr (.inl r9.2.2.2.2.2.2.2.2.2.2.2.2.2.2)))] ((shX ++ rest), I, L, Rf))) rfl (k_plI rfl (k_gI ds_X7_risksOf rfl 1 rfl)) (k_plL rfl (k_gL ds_X7_risksOf rfl 9 rfl)) (k_plL rfl (k_gL ds_X7_risksOf rfl 10 rfl)) (k_plA rfl (k_gOA (ks := [(19, 2, 0), (43, 0, 10), (43, 0, 11), (43, 0, 12), (43, 0, 13), (43, 0, 14), (43, 0, 15), (43, 0, 16), (43, 0, 17), (43, 1, 3), (43, 1, 4), (43, 1, 5), (44, 2, 0), (45, 2, 0), (46, 2, 0), (47, 2, 0)]) rfl (by decide +kernel) ea4)) (k_plA rfl (k_gOA (ks := [(19, 2, 0), (43, 0, 10), (43, 0, 11), (43, 0, 12), (43, 0, 13), (43, 0, 14), (43, 0, 15), (43, 0, 16), (43, 0, 17), (43, 1, 3), (43, 1, 4), (43, 1, 5), (44, 2, 0), (45, 2, 0), (46, 2, 0), (47, 2, 0)]) rfl (by decide +kernel) ea5)) (k_plI rfl (k_gOI (ks := [(19, 2, 0), (43, 0, 10), (43, 0, 11), (43, 0, 12), (43, 0, 13), (43, 0, 14), (43, 0, 15), (43, 0, 16), (43, 0, 17), (43, 1, 3), (43, 1, 4), (43, 1, 5), (44, 2, 0), (45, 2, 0), (46, 2, 0), (47, 2, 0)]) rfl (by decide +kernel) ec17_2)) (k_plA rfl (k_gOA (ks := [(19, 2, 0), (43, 0, 10), (43, 0, 11), (43, 0, 12), (43, 0, 13), (43, 0, 14), (43, 0, 15), (43, 0, 16), (43, 0, 17), (43, 1, 3), (43, 1, 4), (43, 1, 5), (44, 2, 0), (45, 2, 0), (46, 2, 0), (47, 2, 0)]) rfl (by decide +kernel) ea18)) (k_plA rfl (k_gA ds_X7_risksOf rfl 0 rfl)) q25) rfl (fun _ => rfl) rfl (fun _ => rfl) rfl rfl rfl (k_jn2 (us' := [(19, .inr (.inr (.inl r25.2))), (43, .inl (10, r9.1)), (43, .inl (11, r9.2.1)), (43, .inl (12, r9.2.2.1)), (43, .inl (13, r9.2.2.2.1)), (43, .inl (14, r9.2.2.2.2.1)), (43, .inl (15, r9.2.2.2.2.2.1)), (43, .inl (16, r9.2.2.2.2.2.2.1)), (43, .inl (17, r9.2.2.2.2.2.2.2.1)), (43, .inr (.inl (3, (r9.2.2.2.2.2.2.2.2.1 ||| ((1 : Int64) <<< ((v2).toInt64 &&& 63)))))), (43, .inr (.inl (4, r9.2.2.2.2.2.2.2.2.2.1))), (43, .inr (.inl (5, r9.2.2.2.2.2.2.2.2.2.2.1))), (44, .inr (.inr (.inl r9.2.2.2.2.2.2.2.2.2.2.2.1))), (45, .inr (.inr (.inl r9.2.2.2.2.2.2.2.2.2.2.2.2.1))), (46, .inr (.inr (.inl r9.2.2.2.2.2.2.2.2.2.2.2.2.2.1))), (47, .inr (.inr (.inl r9.2.2.2.2.2.2.2.2.2.2.2.2.2.2)))]) (vks := [(19, 2, 0)]) (js := [0]) ds_X7_risksOf rfl rfl (by decide +kernel) rfl) rfl ?_
  obtain ⟨r28, q28, h⟩ := k_b_of h
  refine d_S (As := [.long r25.1]) (st := []) (st' := [.int r28]) (h' := k_ap [(19, .inr (.inr (.inl r25.2))), (43, .inl (10, r9.1)), (43, .inl (11, r9.2.1)), (43, .inl (12, r9.2.2.1)), (43, .inl (13, r9.2.2.2.1)), (43, .inl (14, r9.2.2.2.2.1)), (43, .inl (15, r9.2.2.2.2.2.1)), (43, .inl (16, r9.2.2.2.2.2.2.1)), (43, .inl (17, r9.2.2.2.2.2.2.2.1)), (43, .inr (.inl (3, (r9.2.2.2.2.2.2.2.2.1 ||| ((1 : Int64) <<< ((v2).toInt64 &&& 63)))))), (43, .inr (.inl (4, r9.2.2.2.2.2.2.2.2.2.1))), (43, .inr (.inl (5, r9.2.2.2.2.2.2.2.2.2.2.1))), (44, .inr (.inr (.inl r9.2.2.2.2.2.2.2.2.2.2.2.1))), (45, .inr (.inr (.inl r9.2.2.2.2.2.2.2.2.2.2.2.2.1))), (46, .inr (.inr (.inl r9.2.2.2.2.2.2.2.2.2.2.2.2.2.1))), (47, .inr (.inr (.inl r9.2.2.2.2.2.2.2.2.2.2.2.2.2.2)))] ((shX ++ rest), I, L, Rf)) C hR ⟨Nat.zero_le _, Nat.zero_le _⟩ ms_J13_bitCount_95d88 lk_X7_41 dX7_risksOf_28 (rfl : 28 + 3 = 31) rfl rfl (c_J13_bitCount_95d88 X.l u (k_ap [(19, .inr (.inr (.inl r25.2))), (43, .inl (10, r9.1)), (43, .inl (11, r9.2.1)), (43, .inl (12, r9.2.2.1)), (43, .inl (13, r9.2.2.2.1)), (43, .inl (14, r9.2.2.2.2.1)), (43, .inl (15, r9.2.2.2.2.2.1)), (43, .inl (16, r9.2.2.2.2.2.2.1)), (43, .inl (17, r9.2.2.2.2.2.2.2.1)), (43, .inr (.inl (3, (r9.2.2.2.2.2.2.2.2.1 ||| ((1 : Int64) <<< ((v2).toInt64 &&& 63)))))), (43, .inr (.inl (4, r9.2.2.2.2.2.2.2.2.2.1))), (43, .inr (.inl (5, r9.2.2.2.2.2.2.2.2.2.2.1))), (44, .inr (.inr (.inl r9.2.2.2.2.2.2.2.2.2.2.2.1))), (45, .inr (.inr (.inl r9.2.2.2.2.2.2.2.2.2.2.2.2.1))), (46, .inr (.inr (.inl r9.2.2.2.2.2.2.2.2.2.2.2.2.2.1))), (47, .inr (.inr (.inl r9.2.2.2.2.2.2.2.2.2.2.2.2.2.2)))] ((shX ++ rest), I, L, Rf))  q28) rfl rfl rfl rfl rfl ?_
  cases h
  exact r_iret C hr dX7_risksOf_31
set_option maxHeartbeats 1000000 in
set_option maxRecDepth 100000 in
theorem c_X7_risksOf (l : Launch) (u : Nat) (h : k_H) {rest : List k_Sh} (hsh : h.1 = (shX ++ rest)) (eR41_0 : h.2.2.2 41 0 = some 43) {a4 : (Nat → Int32)} (ea4 : h.2.1 4 = a4) {a5 : (Nat → Int32)} (ea5 : h.2.1 5 = a5) {c17_2 : Int32} (ec17_2 : h.2.1 17 2 = c17_2) {a18 : (Nat → Int32)} (ea18 : h.2.1 18 = a18) {a19 : (Nat → Int32)} (ea19 : h.2.1 19 = a19) {c26_10 : Int32} (ec26_10 : h.2.1 26 10 = c26_10) {c26_11 : Int32} (ec26_11 : h.2.1 26 11 = c26_11) {c26_12 : Int32} (ec26_12 : h.2.1 26 12 = c26_12) {c26_13 : Int32} (ec26_13 : h.2.1 26 13 = c26_13) {c26_14 : Int32} (ec26_14 : h.2.1 26 14 = c26_14) {c26_15 : Int32} (ec26_15 : h.2.1 26 15 = c26_15) {c26_16 : Int32} (ec26_16 : h.2.1 26 16 = c26_16) {c26_17 : Int32} (ec26_17 : h.2.1 26 17 = c26_17) {c26_3 : Int64} (ec26_3 : h.2.2.1 26 3 = c26_3) {c26_4 : Int64} (ec26_4 : h.2.2.1 26 4 = c26_4) {c26_5 : Int64} (ec26_5 : h.2.2.1 26 5 = c26_5) {a27 : (Nat → Int32)} (ea27 : h.2.1 27 = a27) {a28 : (Nat → Int32)} (ea28 : h.2.1 28 = a28) {a29 : (Nat → Int32)} (ea29 : h.2.1 29 = a29) {a30 : (Nat → Int32)} (ea30 : h.2.1 30 = a30) {c43_10 : Int32} (ec43_10 : h.2.1 43 10 = c43_10) {c43_11 : Int32} (ec43_11 : h.2.1 43 11 = c43_11) {c43_12 : Int32} (ec43_12 : h.2.1 43 12 = c43_12) {c43_13 : Int32} (ec43_13 : h.2.1 43 13 = c43_13) {c43_14 : Int32} (ec43_14 : h.2.1 43 14 = c43_14) {c43_15 : Int32} (ec43_15 : h.2.1 43 15 = c43_15) {c43_16 : Int32} (ec43_16 : h.2.1 43 16 = c43_16) {c43_17 : Int32} (ec43_17 : h.2.1 43 17 = c43_17) {c43_3 : Int64} (ec43_3 : h.2.2.1 43 3 = c43_3) {c43_4 : Int64} (ec43_4 : h.2.2.1 43 4 = c43_4) {c43_5 : Int64} (ec43_5 : h.2.2.1 43 5 = c43_5) {a44 : (Nat → Int32)} (ea44 : h.2.1 44 = a44) {a45 : (Nat → Int32)} (ea45 : h.2.1 45 = a45) {a46 : (Nat → Int32)} (ea46 : h.2.1 46 = a46) {a47 : (Nat → Int32)} (ea47 : h.2.1 47 = a47) {x1 : Int32} {out : Int32 × (Nat → Int32) × Int32 × Int32 × Int32 × Int32 × Int32 × Int32 × Int32 × Int32 × Int64 × Int64 × Int64 × (Nat → Int32) × (Nat → Int32) × (Nat → Int32) × (Nat → Int32)} (hf : f_X7_risksOf u a4 a5 c17_2 a18 a19 c26_10 c26_11 c26_12 c26_13 c26_14 c26_15 c26_16 c26_17 c26_3 c26_4 c26_5 a27 a28 a29 a30 c43_10 c43_11 c43_12 c43_13 c43_14 c43_15 c43_16 c43_17 c43_3 c43_4 c43_5 a44 a45 a46 a47 x1 = some out) : k_CT l yX7_risksOf cX7_risksOf 4 (some .int) 4 96 [.ref 40, .ref 26, .int x1] h (some (.int out.1)) [(19, .inr (.inr (.inl out.2.1))), (43, .inl (10, out.2.2.1)), (43, .inl (11, out.2.2.2.1)), (43, .inl (12, out.2.2.2.2.1)), (43, .inl (13, out.2.2.2.2.2.1)), (43, .inl (14, out.2.2.2.2.2.2.1)), (43, .inl (15, out.2.2.2.2.2.2.2.1)), (43, .inl (16, out.2.2.2.2.2.2.2.2.1)), (43, .inl (17, out.2.2.2.2.2.2.2.2.2.1)), (43, .inr (.inl (3, out.2.2.2.2.2.2.2.2.2.2.1))), (43, .inr (.inl (4, out.2.2.2.2.2.2.2.2.2.2.2.1))), (43, .inr (.inl (5, out.2.2.2.2.2.2.2.2.2.2.2.2.1))), (44, .inr (.inr (.inl out.2.2.2.2.2.2.2.2.2.2.2.2.2.1))), (45, .inr (.inr (.inl out.2.2.2.2.2.2.2.2.2.2.2.2.2.2.1))), (46, .inr (.inr (.inl out.2.2.2.2.2.2.2.2.2.2.2.2.2.2.2.1))), (47, .inr (.inr (.inl out.2.2.2.2.2.2.2.2.2.2.2.2.2.2.2.2)))] := by
  obtain ⟨sh, I, L, Rf⟩ := h
  try dsimp only
  obtain rfl : sh = (shX ++ rest) := hsh
  refine k_ofW (by decide) (Nat.le_of_ble_eq_true rfl) ?_
  intro X ad hl hR0 hr C
  have hR : X.R.frames = 4 ∧ X.R.locals = 96 := by rw [hR0]; exact ⟨rfl, rfl⟩
  have h := hf
  unfold f_X7_risksOf at h
  refine k_start (us := [(19, .inr (.inr (.inl a19))), (43, .inl (10, c43_10)), (43, .inl (11, c43_11)), (43, .inl (12, c43_12)), (43, .inl (13, c43_13)), (43, .inl (14, c43_14)), (43, .inl (15, c43_15)), (43, .inl (16, c43_16)), (43, .inl (17, c43_17)), (43, .inr (.inl (3, c43_3))), (43, .inr (.inl (4, c43_4))), (43, .inr (.inl (5, c43_5))), (44, .inr (.inr (.inl a44))), (45, .inr (.inr (.inl a45))), (46, .inr (.inr (.inl a46))), (47, .inr (.inr (.inl a47)))]) (k_ao_A ea19 (k_ao_I ec43_10 (k_ao_I ec43_11 (k_ao_I ec43_12 (k_ao_I ec43_13 (k_ao_I ec43_14 (k_ao_I ec43_15 (k_ao_I ec43_16 (k_ao_I ec43_17 (k_ao_L ec43_3 (k_ao_L ec43_4 (k_ao_L ec43_5 (k_ao_A ea44 (k_ao_A ea45 (k_ao_A ea46 (k_ao_A ea47 k_ap_0)))))))))))))))) ?_
  show k_W X 4 0 0 _ ad (k_ap [(19, .inr (.inr (.inl a19))), (43, .inl (10, c43_10)), (43, .inl (11, c43_11)), (43, .inl (12, c43_12)), (43, .inl (13, c43_13)), (43, .inl (14, c43_14)), (43, .inl (15, c43_15)), (43, .inl (16, c43_16)), (43, .inl (17, c43_17)), (43, .inr (.inl (3, c43_3))), (43, .inr (.inl (4, c43_4))), (43, .inr (.inl (5, c43_5))), (44, .inr (.inr (.inl a44))), (45, .inr (.inr (.inl a45))), (46, .inr (.inr (.inl a46))), (47, .inr (.inr (.inl a47)))] ((shX ++ rest), I, L, Rf)) 0 [some (.ref 40), some (.ref 26), some (.int x1), none] []
  refine k_mask [true, true, true, false] ?_
  exact sX7_risksOf_0 u C hr hR eR41_0 ea4 ea5 ec17_2 ea18 ec26_10 ec26_11 ec26_12 ec26_13 ec26_14 ec26_15 ec26_16 ec26_17 ec26_3 ec26_4 ec26_5 ea27 ea28 ea29 ea30 a19 c43_10 c43_11 c43_12 c43_13 c43_14 c43_15 c43_16 c43_17 c43_3 c43_4 c43_5 a44 a45 a46 a47 x1 h
/-! LullabyPit$Survey.consider(IIJ)V -/
theorem ds_X7_consider : k_ds [(40, 0, 3), (40, 0, 4), (40, 1, 5)] = true := by decide +kernel
set_option maxHeartbeats 400000 in
set_option maxRecDepth 100000 in
theorem sX7_consider_24 (u : Nat) {X : k_X} {ad : Nat → Nat} {rest : List k_Sh} (C : k_C X cX7_consider RX7 5 ad) (hr : X.meth.sig.returnType = none) (hR : X.R.frames = 0 ∧ X.R.locals = 0) {I : Nat → Nat → Int32} {L : Nat → Nat → Int64} {Rf : Nat → Nat → Option Nat} {out : Int32 × Int32 × Int64} : ∀ (c40_3 : Int32) (c40_4 : Int32) (c40_5 : Int64) (v1 : Int32) (v2 : Int32) (v3 : Int64), bX7_consider_24 u c40_3 c40_4 c40_5 v1 v2 v3 = some out → k_W X 5 0 0 (k_Q X ad none (k_ap [(40, .inl (3, out.1)), (40, .inl (4, out.2.1)), (40, .inr (.inl (5, out.2.2)))] ((shX ++ rest), I, L, Rf))) ad (k_ap [(40, .inl (3, c40_3)), (40, .inl (4, c40_4)), (40, .inr (.inl (5, c40_5)))] ((shX ++ rest), I, L, Rf)) 24 [some (.ref 40), some (.int v1), some (.int v2), some (.long v3), none] [] := by
  intro c40_3 c40_4 c40_5 v1 v2 v3 h
  unfold bX7_consider_24 at h
  refine r_aload_n C dX7_consider_24 (rfl : 24 + 1 = 25) rfl ?_
  refine r_iload_n C dX7_consider_25 (rfl : 25 + 1 = 26) rfl ?_
  refine p_I (us' := [(40, .inl (3, v1)), (40, .inl (4, c40_4)), (40, .inr (.inl (5, c40_5)))]) C dX7_consider_26 (rfl : 26 + 3 = 29) fp_X7_47 rfl rfl ds_X7_consider rfl rfl rfl ?_
  refine r_aload_n C dX7_consider_29 (rfl : 29 + 1 = 30) rfl ?_
  refine r_iload_n C dX7_consider_30 (rfl : 30 + 1 = 31) rfl ?_
  refine p_I (us' := [(40, .inl (3, v1)), (40, .inl (4, v2)), (40, .inr (.inl (5, c40_5)))]) C dX7_consider_31 (rfl : 31 + 3 = 34) fp_X7_51 rfl rfl ds_X7_consider rfl rfl rfl ?_
  refine r_aload_n C dX7_consider_34 (rfl : 34 + 1 = 35) rfl ?_
  refine r_lload_n C dX7_consider_35 (rfl : 35 + 1 = 36) rfl ?_
  refine p_L (us' := [(40, .inl (3, v1)), (40, .inl (4, v2)), (40, .inr (.inl (5, v3)))]) C dX7_consider_36 (rfl : 36 + 3 = 39) fp_X7_54 rfl rfl ds_X7_consider rfl rfl rfl ?_
  cases h
  exact r_vret C hr dX7_consider_39
set_option maxHeartbeats 400000 in
set_option maxRecDepth 100000 in
theorem sX7_consider_0 (u : Nat) {X : k_X} {ad : Nat → Nat} {rest : List k_Sh} (C : k_C X cX7_consider RX7 5 ad) (hr : X.meth.sig.returnType = none) (hR : X.R.frames = 0 ∧ X.R.locals = 0) {I : Nat → Nat → Int32} {L : Nat → Nat → Int64} {Rf : Nat → Nat → Option Nat} {out : Int32 × Int32 × Int64} : ∀ (c40_3 : Int32) (c40_4 : Int32) (c40_5 : Int64) (v1 : Int32) (v2 : Int32) (v3 : Int64), bX7_consider_0 u c40_3 c40_4 c40_5 v1 v2 v3 = some out → k_W X 5 0 0 (k_Q X ad none (k_ap [(40, .inl (3, out.1)), (40, .inl (4, out.2.1)), (40, .inr (.inl (5, out.2.2)))] ((shX ++ rest), I, L, Rf))) ad (k_ap [(40, .inl (3, c40_3)), (40, .inl (4, c40_4)), (40, .inr (.inl (5, c40_5)))] ((shX ++ rest), I, L, Rf)) 0 [some (.ref 40), some (.int v1), some (.int v2), some (.long v3), none] [] := by
  intro c40_3 c40_4 c40_5 v1 v2 v3 h
  unfold bX7_consider_0 at h
  refine r_iload_n C dX7_consider_0 (rfl : 0 + 1 = 1) rfl ?_
  refine r_aload_n C dX7_consider_1 (rfl : 1 + 1 = 2) rfl ?_
  refine r_getI (v := c40_3) C dX7_consider_2 (rfl : 2 + 3 = 5) fl_X7_47 rfl rfl rfl ?_
  refine r_icmp_gt (tgt := 24) C dX7_consider_5 (by decide) (rfl : 5 + 3 = 8) (fun c5 => ?_) (fun c5 => ?_)
  · have h := k_t c5 h
    refine k_mask [true, true, true, true, false] ?_
    exact sX7_consider_24 u C hr hR c40_3 c40_4 c40_5 v1 v2 v3 h
  · have h := k_f c5 h
    refine r_iload_n C dX7_consider_8 (rfl : 8 + 1 = 9) rfl ?_
    refine r_aload_n C dX7_consider_9 (rfl : 9 + 1 = 10) rfl ?_
    refine r_getI (v := c40_3) C dX7_consider_10 (rfl : 10 + 3 = 13) fl_X7_47 rfl rfl rfl ?_
    refine r_icmp_ne (tgt := 39) C dX7_consider_13 (by decide) (rfl : 13 + 3 = 16) (fun c13 => ?_) (fun c13 => ?_)
    · have h := k_f c13 h
      cases h
      exact r_vret C hr dX7_consider_39
    · have h := k_t c13 h
      refine r_iload_n C dX7_consider_16 (rfl : 16 + 1 = 17) rfl ?_
      refine r_aload_n C dX7_consider_17 (rfl : 17 + 1 = 18) rfl ?_
      refine r_getI (v := c40_4) C dX7_consider_18 (rfl : 18 + 3 = 21) fl_X7_51 rfl rfl rfl ?_
      refine r_icmp_ge (tgt := 39) C dX7_consider_21 (by decide) (rfl : 21 + 3 = 24) (fun c21 => ?_) (fun c21 => ?_)
      · have h := k_t c21 h
        cases h
        exact r_vret C hr dX7_consider_39
      · have h := k_f c21 h
        refine k_mask [true, true, true, true, false] ?_
        exact sX7_consider_24 u C hr hR c40_3 c40_4 c40_5 v1 v2 v3 h
set_option maxHeartbeats 400000 in
set_option maxRecDepth 100000 in
theorem c_X7_consider (l : Launch) (u : Nat) (h : k_H) {rest : List k_Sh} (hsh : h.1 = (shX ++ rest)) {c40_3 : Int32} (ec40_3 : h.2.1 40 3 = c40_3) {c40_4 : Int32} (ec40_4 : h.2.1 40 4 = c40_4) {c40_5 : Int64} (ec40_5 : h.2.2.1 40 5 = c40_5) {x0 : Int32} {x1 : Int32} {x2 : Int64} {out : Int32 × Int32 × Int64} (hf : f_X7_consider u c40_3 c40_4 c40_5 x0 x1 x2 = some out) : k_CT l yX7_consider cX7_consider 5 none 0 0 [.ref 40, .int x0, .int x1, .long x2] h none [(40, .inl (3, out.1)), (40, .inl (4, out.2.1)), (40, .inr (.inl (5, out.2.2)))] := by
  obtain ⟨sh, I, L, Rf⟩ := h
  try dsimp only
  obtain rfl : sh = (shX ++ rest) := hsh
  refine k_ofW (by decide) (Nat.le_of_ble_eq_true rfl) ?_
  intro X ad hl hR0 hr C
  have hR : X.R.frames = 0 ∧ X.R.locals = 0 := by rw [hR0]; exact ⟨rfl, rfl⟩
  have h := hf
  unfold f_X7_consider at h
  refine k_start (us := [(40, .inl (3, c40_3)), (40, .inl (4, c40_4)), (40, .inr (.inl (5, c40_5)))]) (k_ao_I ec40_3 (k_ao_I ec40_4 (k_ao_L ec40_5 k_ap_0))) ?_
  show k_W X 5 0 0 _ ad (k_ap [(40, .inl (3, c40_3)), (40, .inl (4, c40_4)), (40, .inr (.inl (5, c40_5)))] ((shX ++ rest), I, L, Rf)) 0 [some (.ref 40), some (.int x0), some (.int x1), some (.long x2), none] []
  refine k_mask [true, true, true, true, false] ?_
  exact sX7_consider_0 u C hr hR c40_3 c40_4 c40_5 x0 x1 x2 h
/-! LullabyPit$Survey.search(LLullabyPit$Survey;LLullabyPit$Mine;IIIJ)V -/
theorem ds_X7_search_3 : k_ds [] = true := by decide +kernel
set_option maxHeartbeats 400000 in
set_option maxRecDepth 100000 in
theorem sX7_search_3_0 (u : Nat) {X : k_X} {ad : Nat → Nat} {rest : List k_Sh} (C : k_C X cX7_search RX7 14 ad) (hr : X.meth.sig.returnType = none) (hR : X.R.frames = 0 ∧ X.R.locals = 0) {I : Nat → Nat → Int32} {L : Nat → Nat → Int64} {Rf : Nat → Nat → Option Nat} {out : Unit} : ∀ (v3 : Int32) (v4 : Int32) (v5 : Int64), bX7_search_3_0 u v3 v4 v5 = some out → k_W X 14 0 0 (k_Q X ad none (k_ap [] ((shX ++ rest), I, L, Rf))) ad (k_ap [] ((shX ++ rest), I, L, Rf)) 0 [some (.ref 40), some (.ref 53), some (.int (3 : Int32)), some (.int v3), some (.int v4), some (.long v5), none, none, none, none, none, none, none, none] [] := by
  intro v3 v4 v5 h
  unfold bX7_search_3_0 at h
  refine r_iload_n C dX7_search_0 (rfl : 0 + 1 = 1) rfl ?_
  refine r_iload_n C dX7_search_1 (rfl : 1 + 1 = 2) rfl ?_
  refine r_icmp_ge (tgt := 10) C dX7_search_2 (by decide) (rfl : 2 + 3 = 5) (fun c2 => ?_) (fun c2 => ?_)
  · have h := k_t c2 h
    cases h
    exact r_vret C hr dX7_search_10
  · have h := k_f c2 h
    refine r_iload_n C dX7_search_5 (rfl : 5 + 1 = 6) rfl ?_
    refine r_iconst (v := (3 : Int32)) C dX7_search_6 (rfl : 6 + 1 = 7) rfl ?_
    refine r_icmp_lt (tgt := 11) C dX7_search_7 (by decide) (rfl : 7 + 3 = 10) (fun c7 => absurd c7 (by decide)) (fun _ => ?_)
    cases h
    exact r_vret C hr dX7_search_10
set_option maxHeartbeats 400000 in
set_option maxRecDepth 100000 in
theorem c_X7_search_3 (l : Launch) (u : Nat) (h : k_H) {rest : List k_Sh} (hsh : h.1 = (shX ++ rest)) {x3 : Int32} {x4 : Int32} {x5 : Int64} {out : Unit} (hf : f_X7_search_3 u x3 x4 x5 = some out) : k_CT l yX7_search cX7_search 14 none 0 0 [.ref 40, .ref 53, .int (3 : Int32), .int x3, .int x4, .long x5] h none [] := by
  obtain ⟨sh, I, L, Rf⟩ := h
  try dsimp only
  obtain rfl : sh = (shX ++ rest) := hsh
  refine k_ofW (by decide) (Nat.le_of_ble_eq_true rfl) ?_
  intro X ad hl hR0 hr C
  have hR : X.R.frames = 0 ∧ X.R.locals = 0 := by rw [hR0]; exact ⟨rfl, rfl⟩
  have h := hf
  unfold f_X7_search_3 at h
  refine k_start (us := []) k_ap_0 ?_
  show k_W X 14 0 0 _ ad (k_ap [] ((shX ++ rest), I, L, Rf)) 0 [some (.ref 40), some (.ref 53), some (.int (3 : Int32)), some (.int x3), some (.int x4), some (.long x5), none, none, none, none, none, none, none, none] []
  refine k_mask [true, true, true, true, true, true, false, false, false, false, false, false, false, false] ?_
  exact sX7_search_3_0 u C hr hR x3 x4 x5 h
