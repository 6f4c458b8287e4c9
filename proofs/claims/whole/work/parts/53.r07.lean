/-! LullabyPit$Law.readProduct(LLullabyPit$Tape;I)V -/
theorem ds_X1_readProduct : k_ds [(0, 0, 2), (1, 2, 0), (3, 0, 3), (3, 0, 4), (3, 0, 5), (3, 0, 6)] = true := by decide +kernel
set_option maxHeartbeats 400000 in
set_option maxRecDepth 100000 in
theorem sX1_readProduct_80 (u : Nat) (g : Int32 → (Nat → Int32) → Int32 → Int32 → Int32 → Int32 → Int32 → (Nat → Int32) → Int32 → Option (Int32 × (Nat → Int32) × Int32 × Int32 × Int32 × Int32)) {fg ng : Nat} {X : k_X} {ad : Nat → Nat} (C : k_C X cX1_readProduct RX1 5 ad) (hr : X.meth.sig.returnType = none) (hR : X.R.frames = (fg + 7) ∧ X.R.locals = (ng + 156)) {I : Nat → Nat → Int32} {L : Nat → Nat → Int64} {Rf : Nat → Nat → Option Nat} (hg : H_X1_readSum X.l g fg ng) {c3_2 : Int32} (ec3_2 : I 3 2 = c3_2) {a4 : (Nat → Int32)} (ea4 : I 4 = a4) {out : Int32 × (Nat → Int32) × Int32 × Int32 × Int32 × Int32} {k8 : Int32 → (Nat → Int32) → Int32 → Int32 → Int32 → Int32 → Int32 → Int32 → Option (Int32 × (Nat → Int32) × Int32 × Int32 × Int32 × Int32)} (hk8 : ∀ (c0_2 : Int32) (a1 : (Nat → Int32)) (c3_3 : Int32) (c3_4 : Int32) (c3_5 : Int32) (c3_6 : Int32) (v2 : Int32) (v3 : Int32), k8 c0_2 a1 c3_3 c3_4 c3_5 c3_6 v2 v3 = some out → k_W X 5 0 0 (k_Q X ad none (k_ap [(0, .inl (2, out.1)), (1, .inr (.inr (.inl out.2.1))), (3, .inl (3, out.2.2.1)), (3, .inl (4, out.2.2.2.1)), (3, .inl (5, out.2.2.2.2.1)), (3, .inl (6, out.2.2.2.2.2))] (shLawTape, I, L, Rf))) ad (k_ap [(0, .inl (2, c0_2)), (1, .inr (.inr (.inl a1))), (3, .inl (3, c3_3)), (3, .inl (4, c3_4)), (3, .inl (5, c3_5)), (3, .inl (6, c3_6))] (shLawTape, I, L, Rf)) 8 [some (.ref 0), some (.ref 3), some (.int v2), some (.int v3), none] []) : ∀ (c0_2 : Int32) (a1 : (Nat → Int32)) (c3_3 : Int32) (c3_4 : Int32) (c3_5 : Int32) (c3_6 : Int32) (v2 : Int32) (v3 : Int32) (w0 : Int32), bX1_readProduct_80 u g c3_2 a4 k8 c0_2 a1 c3_3 c3_4 c3_5 c3_6 v2 v3 w0 = some out → k_W X 5 0 0 (k_Q X ad none (k_ap [(0, .inl (2, out.1)), (1, .inr (.inr (.inl out.2.1))), (3, .inl (3, out.2.2.1)), (3, .inl (4, out.2.2.2.1)), (3, .inl (5, out.2.2.2.2.1)), (3, .inl (6, out.2.2.2.2.2))] (shLawTape, I, L, Rf))) ad (k_ap [(0, .inl (2, c0_2)), (1, .inr (.inr (.inl a1))), (3, .inl (3, c3_3)), (3, .inl (4, c3_4)), (3, .inl (5, c3_5)), (3, .inl (6, c3_6))] (shLawTape, I, L, Rf)) 80 [some (.ref 0), some (.ref 3), some (.int v2), some (.int v3), none] [.int w0, .ref 0] := by
  intro c0_2 a1 c3_3 c3_4 c3_5 c3_6 v2 v3 w0 h
  unfold bX1_readProduct_80 at h
  obtain ⟨r80, q80, h⟩ := k_b_of h
  refine d_Vp (pi := [0, 1, 2]) (shl := shLaw) (bl := 0) (As := [.int w0]) (Al := [.int w0]) (st := []) (st' := []) (h' := k_ap [(0, .inl (2, r80.1)), (1, .inr (.inr (.inl r80.2))), (3, .inl (3, c3_3)), (3, .inl (4, c3_4)), (3, .inl (5, c3_5)), (3, .inl (6, c3_6))] (shLawTape, I, L, Rf)) C hR ⟨Nat.zero_le _, Nat.zero_le _⟩ mv_X1_put lk_X1_22 dX1_readProduct_80 (rfl : 80 + 3 = 83) (k_bl (by omega)) (k_bl (by omega)) ck_shLawTape_shLaw_0 rfl rfl (c_X1_put X.l u (k_pl [0, 1, 2] shLaw (k_ap [(0, .inl (2, c0_2)), (1, .inr (.inr (.inl a1))), (3, .inl (3, c3_3)), (3, .inl (4, c3_4)), (3, .inl (5, c3_5)), (3, .inl (6, c3_6))] (shLawTape, I, L, Rf))) rfl rfl rfl q80) rfl (fun _ => rfl) rfl (fun _ => rfl) rfl rfl rfl (k_jn (us' := [(0, .inl (2, r80.1)), (1, .inr (.inr (.inl r80.2))), (3, .inl (3, c3_3)), (3, .inl (4, c3_4)), (3, .inl (5, c3_5)), (3, .inl (6, c3_6))]) ds_X1_readProduct rfl rfl rfl) rfl ?_
  refine r_iinc (v := (v3 + (1 : Int32))) C dX1_readProduct_83 (rfl : 83 + 3 = 86) rfl rfl (by decide) ?_
  show k_W _ _ _ _ _ _ _ _ [some (.ref 0), some (.ref 3), some (.int v2), some (.int (v3 + (1 : Int32))), none] _
  refine r_goto (tgt := 8) C dX1_readProduct_86 (by decide) ?_
  refine k_mask [true, true, true, true, false] ?_
  exact hk8 r80.1 r80.2 c3_3 c3_4 c3_5 c3_6 v2 (v3 + (1 : Int32)) h
set_option maxHeartbeats 400000 in
set_option maxRecDepth 100000 in
theorem sX1_readProduct_58 (u : Nat) (g : Int32 → (Nat → Int32) → Int32 → Int32 → Int32 → Int32 → Int32 → (Nat → Int32) → Int32 → Option (Int32 × (Nat → Int32) × Int32 × Int32 × Int32 × Int32)) {fg ng : Nat} {X : k_X} {ad : Nat → Nat} (C : k_C X cX1_readProduct RX1 5 ad) (hr : X.meth.sig.returnType = none) (hR : X.R.frames = (fg + 7) ∧ X.R.locals = (ng + 156)) {I : Nat → Nat → Int32} {L : Nat → Nat → Int64} {Rf : Nat → Nat → Option Nat} (hg : H_X1_readSum X.l g fg ng) {c3_2 : Int32} (ec3_2 : I 3 2 = c3_2) {a4 : (Nat → Int32)} (ea4 : I 4 = a4) {out : Int32 × (Nat → Int32) × Int32 × Int32 × Int32 × Int32} {k8 : Int32 → (Nat → Int32) → Int32 → Int32 → Int32 → Int32 → Int32 → Int32 → Option (Int32 × (Nat → Int32) × Int32 × Int32 × Int32 × Int32)} (hk8 : ∀ (c0_2 : Int32) (a1 : (Nat → Int32)) (c3_3 : Int32) (c3_4 : Int32) (c3_5 : Int32) (c3_6 : Int32) (v2 : Int32) (v3 : Int32), k8 c0_2 a1 c3_3 c3_4 c3_5 c3_6 v2 v3 = some out → k_W X 5 0 0 (k_Q X ad none (k_ap [(0, .inl (2, out.1)), (1, .inr (.inr (.inl out.2.1))), (3, .inl (3, out.2.2.1)), (3, .inl (4, out.2.2.2.1)), (3, .inl (5, out.2.2.2.2.1)), (3, .inl (6, out.2.2.2.2.2))] (shLawTape, I, L, Rf))) ad (k_ap [(0, .inl (2, c0_2)), (1, .inr (.inr (.inl a1))), (3, .inl (3, c3_3)), (3, .inl (4, c3_4)), (3, .inl (5, c3_5)), (3, .inl (6, c3_6))] (shLawTape, I, L, Rf)) 8 [some (.ref 0), some (.ref 3), some (.int v2), some (.int v3), none] []) : ∀ (c0_2 : Int32) (a1 : (Nat → Int32)) (c3_3 : Int32) (c3_4 : Int32) (c3_5 : Int32) (c3_6 : Int32) (v2 : Int32) (v3 : Int32) (v4 : Int32) (w0 : Int32), bX1_readProduct_58 u g c3_2 a4 k8 c0_2 a1 c3_3 c3_4 c3_5 c3_6 v2 v3 v4 w0 = some out → k_W X 5 0 0 (k_Q X ad none (k_ap [(0, .inl (2, out.1)), (1, .inr (.inr (.inl out.2.1))), (3, .inl (3, out.2.2.1)), (3, .inl (4, out.2.2.2.1)), (3, .inl (5, out.2.2.2.2.1)), (3, .inl (6, out.2.2.2.2.2))] (shLawTape, I, L, Rf))) ad (k_ap [(0, .inl (2, c0_2)), (1, .inr (.inr (.inl a1))), (3, .inl (3, c3_3)), (3, .inl (4, c3_4)), (3, .inl (5, c3_5)), (3, .inl (6, c3_6))] (shLawTape, I, L, Rf)) 58 [some (.ref 0), some (.ref 3), some (.int v2), some (.int v3), some (.int v4)] [.int w0, .ref 3] := by
  intro c0_2 a1 c3_3 c3_4 c3_5 c3_6 v2 v3 v4 w0 h
  unfold bX1_readProduct_58 at h
  obtain ⟨r58, q58, h⟩ := k_b_of h
  refine d_Vp (pi := [3, 4]) (shl := shTape) (bl := 0) (As := [.int w0]) (Al := [.int w0]) (st := []) (st' := []) (h' := k_ap [(0, .inl (2, c0_2)), (1, .inr (.inr (.inl a1))), (3, .inl (3, r58.1)), (3, .inl (4, c3_4)), (3, .inl (5, r58.2.1)), (3, .inl (6, r58.2.2))] (shLawTape, I, L, Rf)) C hR ⟨Nat.zero_le _, Nat.zero_le _⟩ mv_X8_sign lk_X1_52 dX1_readProduct_58 (rfl : 58 + 3 = 61) (k_bl (by omega)) (k_bl (by omega)) ck_shLawTape_shTape_3 rfl rfl (c_X8_sign X.l u (k_pl [3, 4] shTape (k_ap [(0, .inl (2, c0_2)), (1, .inr (.inr (.inl a1))), (3, .inl (3, c3_3)), (3, .inl (4, c3_4)), (3, .inl (5, c3_5)), (3, .inl (6, c3_6))] (shLawTape, I, L, Rf))) rfl ec3_2 rfl rfl rfl ea4 q58) rfl (fun _ => rfl) rfl (fun _ => rfl) rfl rfl rfl (k_jn (us' := [(0, .inl (2, c0_2)), (1, .inr (.inr (.inl a1))), (3, .inl (3, r58.1)), (3, .inl (4, c3_4)), (3, .inl (5, r58.2.1)), (3, .inl (6, r58.2.2))]) ds_X1_readProduct rfl rfl rfl) rfl ?_
  refine r_aload_n C dX1_readProduct_61 (rfl : 61 + 1 = 62) rfl ?_
  refine r_aload_n C dX1_readProduct_62 (rfl : 62 + 1 = 63) rfl ?_
  refine r_iload_n C dX1_readProduct_63 (rfl : 63 + 1 = 64) rfl ?_
  obtain ⟨r64, q64, h⟩ := k_b_of h
  refine d_V (As := [.ref 3, .int v2]) (st := []) (st' := []) (h' := k_ap [(0, .inl (2, r64.1)), (1, .inr (.inr (.inl r64.2.1))), (3, .inl (3, r64.2.2.1)), (3, .inl (4, r64.2.2.2.1)), (3, .inl (5, r64.2.2.2.2.1)), (3, .inl (6, r64.2.2.2.2.2))] (shLawTape, I, L, Rf)) C hR ⟨Nat.zero_le _, Nat.zero_le _⟩ mv_X1_readUnit lk_X1_56 dX1_readProduct_64 (rfl : 64 + 3 = 67) (k_bl (by omega)) (k_bl (by omega)) rfl rfl (c_X1_readUnit X.l u g hg (k_ap [(0, .inl (2, c0_2)), (1, .inr (.inr (.inl a1))), (3, .inl (3, r58.1)), (3, .inl (4, c3_4)), (3, .inl (5, r58.2.1)), (3, .inl (6, r58.2.2))] (shLawTape, I, L, Rf)) rfl rfl rfl ec3_2 rfl rfl rfl rfl ea4 q64) rfl rfl rfl (k_jn (us' := [(0, .inl (2, r64.1)), (1, .inr (.inr (.inl r64.2.1))), (3, .inl (3, r64.2.2.1)), (3, .inl (4, r64.2.2.2.1)), (3, .inl (5, r64.2.2.2.2.1)), (3, .inl (6, r64.2.2.2.2.2))]) ds_X1_readProduct rfl rfl rfl) rfl ?_
  refine r_aload_n C dX1_readProduct_67 (rfl : 67 + 1 = 68) rfl ?_
  refine r_iload C dX1_readProduct_68 (rfl : 68 + 2 = 70) rfl ?_
  refine r_if_eq (tgt := 78) C dX1_readProduct_70 (by decide) (rfl : 70 + 3 = 73) (fun c70 => ?_) (fun c70 => ?_)
  · have h := k_t c70 h
    refine r_bipush (v := (-14 : Int32)) C dX1_readProduct_78 (rfl : 78 + 2 = 80) rfl ?_
    refine k_mask [true, true, true, true, false] ?_
    exact sX1_readProduct_80 u g C hr hR hg ec3_2 ea4 hk8 r64.1 r64.2.1 r64.2.2.1 r64.2.2.2.1 r64.2.2.2.2.1 r64.2.2.2.2.2 v2 v3 (-14 : Int32) h
  · have h := k_f c70 h
    refine r_bipush (v := (-13 : Int32)) C dX1_readProduct_73 (rfl : 73 + 2 = 75) rfl ?_
    refine r_goto (tgt := 80) C dX1_readProduct_75 (by decide) ?_
    refine k_mask [true, true, true, true, false] ?_
    exact sX1_readProduct_80 u g C hr hR hg ec3_2 ea4 hk8 r64.1 r64.2.1 r64.2.2.1 r64.2.2.2.1 r64.2.2.2.2.1 r64.2.2.2.2.2 v2 v3 (-13 : Int32) h
set_option maxHeartbeats 400000 in
set_option maxRecDepth 100000 in
theorem sX1_readProduct_45 (u : Nat) (g : Int32 → (Nat → Int32) → Int32 → Int32 → Int32 → Int32 → Int32 → (Nat → Int32) → Int32 → Option (Int32 × (Nat → Int32) × Int32 × Int32 × Int32 × Int32)) {fg ng : Nat} {X : k_X} {ad : Nat → Nat} (C : k_C X cX1_readProduct RX1 5 ad) (hr : X.meth.sig.returnType = none) (hR : X.R.frames = (fg + 7) ∧ X.R.locals = (ng + 156)) {I : Nat → Nat → Int32} {L : Nat → Nat → Int64} {Rf : Nat → Nat → Option Nat} (hg : H_X1_readSum X.l g fg ng) {c3_2 : Int32} (ec3_2 : I 3 2 = c3_2) {a4 : (Nat → Int32)} (ea4 : I 4 = a4) {out : Int32 × (Nat → Int32) × Int32 × Int32 × Int32 × Int32} {k8 : Int32 → (Nat → Int32) → Int32 → Int32 → Int32 → Int32 → Int32 → Int32 → Option (Int32 × (Nat → Int32) × Int32 × Int32 × Int32 × Int32)} (hk8 : ∀ (c0_2 : Int32) (a1 : (Nat → Int32)) (c3_3 : Int32) (c3_4 : Int32) (c3_5 : Int32) (c3_6 : Int32) (v2 : Int32) (v3 : Int32), k8 c0_2 a1 c3_3 c3_4 c3_5 c3_6 v2 v3 = some out → k_W X 5 0 0 (k_Q X ad none (k_ap [(0, .inl (2, out.1)), (1, .inr (.inr (.inl out.2.1))), (3, .inl (3, out.2.2.1)), (3, .inl (4, out.2.2.2.1)), (3, .inl (5, out.2.2.2.2.1)), (3, .inl (6, out.2.2.2.2.2))] (shLawTape, I, L, Rf))) ad (k_ap [(0, .inl (2, c0_2)), (1, .inr (.inr (.inl a1))), (3, .inl (3, c3_3)), (3, .inl (4, c3_4)), (3, .inl (5, c3_5)), (3, .inl (6, c3_6))] (shLawTape, I, L, Rf)) 8 [some (.ref 0), some (.ref 3), some (.int v2), some (.int v3), none] []) : ∀ (c0_2 : Int32) (a1 : (Nat → Int32)) (c3_3 : Int32) (c3_4 : Int32) (c3_5 : Int32) (c3_6 : Int32) (v2 : Int32) (v3 : Int32) (v4 : Int32), bX1_readProduct_45 u g c3_2 a4 k8 c0_2 a1 c3_3 c3_4 c3_5 c3_6 v2 v3 v4 = some out → k_W X 5 0 0 (k_Q X ad none (k_ap [(0, .inl (2, out.1)), (1, .inr (.inr (.inl out.2.1))), (3, .inl (3, out.2.2.1)), (3, .inl (4, out.2.2.2.1)), (3, .inl (5, out.2.2.2.2.1)), (3, .inl (6, out.2.2.2.2.2))] (shLawTape, I, L, Rf))) ad (k_ap [(0, .inl (2, c0_2)), (1, .inr (.inr (.inl a1))), (3, .inl (3, c3_3)), (3, .inl (4, c3_4)), (3, .inl (5, c3_5)), (3, .inl (6, c3_6))] (shLawTape, I, L, Rf)) 45 [some (.ref 0), some (.ref 3), some (.int v2), some (.int v3), some (.int v4)] [] := by
  intro c0_2 a1 c3_3 c3_4 c3_5 c3_6 v2 v3 v4 h
  unfold bX1_readProduct_45 at h
  refine r_aload_n C dX1_readProduct_45 (rfl : 45 + 1 = 46) rfl ?_
  refine r_iload C dX1_readProduct_46 (rfl : 46 + 2 = 48) rfl ?_
  refine r_if_eq (tgt := 56) C dX1_readProduct_48 (by decide) (rfl : 48 + 3 = 51) (fun c48 => ?_) (fun c48 => ?_)
  · have h := k_t c48 h
    refine r_bipush (v := (47 : Int32)) C dX1_readProduct_56 (rfl : 56 + 2 = 58) rfl ?_
    refine k_mask [true, true, true, true, true] ?_
    exact sX1_readProduct_58 u g C hr hR hg ec3_2 ea4 hk8 c0_2 a1 c3_3 c3_4 c3_5 c3_6 v2 v3 v4 (47 : Int32) h
  · have h := k_f c48 h
    refine r_bipush (v := (42 : Int32)) C dX1_readProduct_51 (rfl : 51 + 2 = 53) rfl ?_
    refine r_goto (tgt := 58) C dX1_readProduct_53 (by decide) ?_
    refine k_mask [true, true, true, true, true] ?_
    exact sX1_readProduct_58 u g C hr hR hg ec3_2 ea4 hk8 c0_2 a1 c3_3 c3_4 c3_5 c3_6 v2 v3 v4 (42 : Int32) h
set_option maxHeartbeats 400000 in
set_option maxRecDepth 100000 in
theorem sX1_readProduct_8 (u : Nat) (g : Int32 → (Nat → Int32) → Int32 → Int32 → Int32 → Int32 → Int32 → (Nat → Int32) → Int32 → Option (Int32 × (Nat → Int32) × Int32 × Int32 × Int32 × Int32)) {fg ng : Nat} {X : k_X} {ad : Nat → Nat} (C : k_C X cX1_readProduct RX1 5 ad) (hr : X.meth.sig.returnType = none) (hR : X.R.frames = (fg + 7) ∧ X.R.locals = (ng + 156)) {I : Nat → Nat → Int32} {L : Nat → Nat → Int64} {Rf : Nat → Nat → Option Nat} (hg : H_X1_readSum X.l g fg ng) {c3_2 : Int32} (ec3_2 : I 3 2 = c3_2) {a4 : (Nat → Int32)} (ea4 : I 4 = a4) {out : Int32 × (Nat → Int32) × Int32 × Int32 × Int32 × Int32} : ∀ (n : Nat) (c0_2 : Int32) (a1 : (Nat → Int32)) (c3_3 : Int32) (c3_4 : Int32) (c3_5 : Int32) (c3_6 : Int32) (v2 : Int32) (v3 : Int32), bX1_readProduct_8 u g c3_2 a4 n c0_2 a1 c3_3 c3_4 c3_5 c3_6 v2 v3 = some out → k_W X 5 0 0 (k_Q X ad none (k_ap [(0, .inl (2, out.1)), (1, .inr (.inr (.inl out.2.1))), (3, .inl (3, out.2.2.1)), (3, .inl (4, out.2.2.2.1)), (3, .inl (5, out.2.2.2.2.1)), (3, .inl (6, out.2.2.2.2.2))] (shLawTape, I, L, Rf))) ad (k_ap [(0, .inl (2, c0_2)), (1, .inr (.inr (.inl a1))), (3, .inl (3, c3_3)), (3, .inl (4, c3_4)), (3, .inl (5, c3_5)), (3, .inl (6, c3_6))] (shLawTape, I, L, Rf)) 8 [some (.ref 0), some (.ref 3), some (.int v2), some (.int v3), none] [] := by
  intro n
  induction n with
  | zero => intro c0_2 a1 c3_3 c3_4 c3_5 c3_6 v2 v3 h; cases h
  | succ n ih =>
    intro c0_2 a1 c3_3 c3_4 c3_5 c3_6 v2 v3 h
    refine r_iload_n C dX1_readProduct_8 (rfl : 8 + 1 = 9) rfl ?_
    refine r_sipush (v := (150 : Int32)) C dX1_readProduct_9 (rfl : 9 + 3 = 12) rfl ?_
    refine r_icmp_ge (tgt := 89) C dX1_readProduct_12 (by decide) (rfl : 12 + 3 = 15) (fun c12 => ?_) (fun c12 => ?_)
    · have h := k_t c12 h
      cases h
      exact r_vret C hr dX1_readProduct_89
    · have h := k_f c12 h
      refine r_aload_n C dX1_readProduct_15 (rfl : 15 + 1 = 16) rfl ?_
      obtain ⟨r16, q16, h⟩ := k_b_of h
      refine d_Vp (pi := [3, 4]) (shl := shTape) (bl := 0) (As := []) (Al := []) (st := []) (st' := [.int r16]) (h' := k_ap [(0, .inl (2, c0_2)), (1, .inr (.inr (.inl a1))), (3, .inl (3, c3_3)), (3, .inl (4, c3_4)), (3, .inl (5, c3_5)), (3, .inl (6, c3_6))] (shLawTape, I, L, Rf)) C hR ⟨Nat.zero_le _, Nat.zero_le _⟩ mv_X8_good lk_X1_44 dX1_readProduct_16 (rfl : 16 + 3 = 19) (k_bl (by omega)) (k_bl (by omega)) ck_shLawTape_shTape_3 rfl rfl (c_X8_good X.l u (k_pl [3, 4] shTape (k_ap [(0, .inl (2, c0_2)), (1, .inr (.inr (.inl a1))), (3, .inl (3, c3_3)), (3, .inl (4, c3_4)), (3, .inl (5, c3_5)), (3, .inl (6, c3_6))] (shLawTape, I, L, Rf))) rfl rfl q16) rfl (fun _ => rfl) rfl (fun _ => rfl) rfl rfl rfl rfl rfl ?_
      refine r_if_eq (tgt := 89) C dX1_readProduct_19 (by decide) (rfl : 19 + 3 = 22) (fun c19 => ?_) (fun c19 => ?_)
      · have h := k_t c19 h
        cases h
        exact r_vret C hr dX1_readProduct_89
      · have h := k_f c19 h
        refine r_aload_n C dX1_readProduct_22 (rfl : 22 + 1 = 23) rfl ?_
        refine r_bipush (v := (42 : Int32)) C dX1_readProduct_23 (rfl : 23 + 2 = 25) rfl ?_
        obtain ⟨r25, q25, h⟩ := k_b_of h
        refine d_Vp (pi := [3, 4]) (shl := shTape) (bl := 0) (As := [.int (42 : Int32)]) (Al := [.int (42 : Int32)]) (st := []) (st' := [.int r25.1]) (h' := k_ap [(0, .inl (2, c0_2)), (1, .inr (.inr (.inl a1))), (3, .inl (3, r25.2)), (3, .inl (4, c3_4)), (3, .inl (5, c3_5)), (3, .inl (6, c3_6))] (shLawTape, I, L, Rf)) C hR ⟨Nat.zero_le _, Nat.zero_le _⟩ mv_X8_isNext lk_X1_48 dX1_readProduct_25 (rfl : 25 + 3 = 28) (k_bl (by omega)) (k_bl (by omega)) ck_shLawTape_shTape_3 rfl rfl (c_X8_isNext X.l u (k_pl [3, 4] shTape (k_ap [(0, .inl (2, c0_2)), (1, .inr (.inr (.inl a1))), (3, .inl (3, c3_3)), (3, .inl (4, c3_4)), (3, .inl (5, c3_5)), (3, .inl (6, c3_6))] (shLawTape, I, L, Rf))) rfl ec3_2 rfl ea4 q25) rfl (fun _ => rfl) rfl (fun _ => rfl) rfl rfl rfl (k_jn (us' := [(0, .inl (2, c0_2)), (1, .inr (.inr (.inl a1))), (3, .inl (3, r25.2)), (3, .inl (4, c3_4)), (3, .inl (5, c3_5)), (3, .inl (6, c3_6))]) ds_X1_readProduct rfl rfl rfl) rfl ?_
        refine r_istore C dX1_readProduct_28 (rfl : 28 + 2 = 30) (by decide) (Nat.le_of_ble_eq_true rfl) ?_
        show k_W _ _ _ _ _ _ _ _ [some (.ref 0), some (.ref 3), some (.int v2), some (.int v3), some (.int r25.1)] _
        refine r_iload C dX1_readProduct_30 (rfl : 30 + 2 = 32) rfl ?_
        refine r_if_ne (tgt := 45) C dX1_readProduct_32 (by decide) (rfl : 32 + 3 = 35) (fun c32 => ?_) (fun c32 => ?_)
        · have h := k_f c32 h
          refine k_mask [true, true, true, true, true] ?_
          exact sX1_readProduct_45 u g C hr hR hg ec3_2 ea4 ih c0_2 a1 r25.2 c3_4 c3_5 c3_6 v2 v3 r25.1 h
        · have h := k_t c32 h
          refine r_aload_n C dX1_readProduct_35 (rfl : 35 + 1 = 36) rfl ?_
          refine r_bipush (v := (47 : Int32)) C dX1_readProduct_36 (rfl : 36 + 2 = 38) rfl ?_
          obtain ⟨r38, q38, h⟩ := k_b_of h
          refine d_Vp (pi := [3, 4]) (shl := shTape) (bl := 0) (As := [.int (47 : Int32)]) (Al := [.int (47 : Int32)]) (st := []) (st' := [.int r38.1]) (h' := k_ap [(0, .inl (2, c0_2)), (1, .inr (.inr (.inl a1))), (3, .inl (3, r38.2)), (3, .inl (4, c3_4)), (3, .inl (5, c3_5)), (3, .inl (6, c3_6))] (shLawTape, I, L, Rf)) C hR ⟨Nat.zero_le _, Nat.zero_le _⟩ mv_X8_isNext lk_X1_48 dX1_readProduct_38 (rfl : 38 + 3 = 41) (k_bl (by omega)) (k_bl (by omega)) ck_shLawTape_shTape_3 rfl rfl (c_X8_isNext X.l u (k_pl [3, 4] shTape (k_ap [(0, .inl (2, c0_2)), (1, .inr (.inr (.inl a1))), (3, .inl (3, r25.2)), (3, .inl (4, c3_4)), (3, .inl (5, c3_5)), (3, .inl (6, c3_6))] (shLawTape, I, L, Rf))) rfl ec3_2 rfl ea4 q38) rfl (fun _ => rfl) rfl (fun _ => rfl) rfl rfl rfl (k_jn (us' := [(0, .inl (2, c0_2)), (1, .inr (.inr (.inl a1))), (3, .inl (3, r38.2)), (3, .inl (4, c3_4)), (3, .inl (5, c3_5)), (3, .inl (6, c3_6))]) ds_X1_readProduct rfl rfl rfl) rfl ?_
          refine r_if_ne (tgt := 45) C dX1_readProduct_41 (by decide) (rfl : 41 + 3 = 44) (fun c41 => ?_) (fun c41 => ?_)
          · have h := k_f c41 h
            refine k_mask [true, true, true, true, true] ?_
            exact sX1_readProduct_45 u g C hr hR hg ec3_2 ea4 ih c0_2 a1 r38.2 c3_4 c3_5 c3_6 v2 v3 r25.1 h
          · have h := k_t c41 h
            cases h
            exact r_vret C hr dX1_readProduct_44
set_option maxHeartbeats 400000 in
set_option maxRecDepth 100000 in
theorem sX1_readProduct_0 (u : Nat) (g : Int32 → (Nat → Int32) → Int32 → Int32 → Int32 → Int32 → Int32 → (Nat → Int32) → Int32 → Option (Int32 × (Nat → Int32) × Int32 × Int32 × Int32 × Int32)) {fg ng : Nat} {X : k_X} {ad : Nat → Nat} (C : k_C X cX1_readProduct RX1 5 ad) (hr : X.meth.sig.returnType = none) (hR : X.R.frames = (fg + 7) ∧ X.R.locals = (ng + 156)) {I : Nat → Nat → Int32} {L : Nat → Nat → Int64} {Rf : Nat → Nat → Option Nat} (hg : H_X1_readSum X.l g fg ng) {c3_2 : Int32} (ec3_2 : I 3 2 = c3_2) {a4 : (Nat → Int32)} (ea4 : I 4 = a4) {out : Int32 × (Nat → Int32) × Int32 × Int32 × Int32 × Int32} : ∀ (c0_2 : Int32) (a1 : (Nat → Int32)) (c3_3 : Int32) (c3_4 : Int32) (c3_5 : Int32) (c3_6 : Int32) (v2 : Int32), bX1_readProduct_0 u g c3_2 a4 c0_2 a1 c3_3 c3_4 c3_5 c3_6 v2 = some out → k_W X 5 0 0 (k_Q X ad none (k_ap [(0, .inl (2, out.1)), (1, .inr (.inr (.inl out.2.1))), (3, .inl (3, out.2.2.1)), (3, .inl (4, out.2.2.2.1)), (3, .inl (5, out.2.2.2.2.1)), (3, .inl (6, out.2.2.2.2.2))] (shLawTape, I, L, Rf))) ad (k_ap [(0, .inl (2, c0_2)), (1, .inr (.inr (.inl a1))), (3, .inl (3, c3_3)), (3, .inl (4, c3_4)), (3, .inl (5, c3_5)), (3, .inl (6, c3_6))] (shLawTape, I, L, Rf)) 0 [some (.ref 0), some (.ref 3), some (.int v2), none, none] [] := by
  intro c0_2 a1 c3_3 c3_4 c3_5 c3_6 v2 h
  unfold bX1_readProduct_0 at h
  refine r_aload_n C dX1_readProduct_0 (rfl : 0 + 1 = 1) rfl ?_
  refine r_aload_n C dX1_readProduct_1 (rfl : 1 + 1 = 2) rfl ?_
  refine r_iload_n C dX1_readProduct_2 (rfl : 2 + 1 = 3) rfl ?_
  obtain ⟨r3, q3, h⟩ := k_b_of h
  refine d_V (As := [.ref 3, .int v2]) (st := []) (st' := []) (h' := k_ap [(0, .inl (2, r3.1)), (1, .inr (.inr (.inl r3.2.1))), (3, .inl (3, r3.2.2.1)), (3, .inl (4, r3.2.2.2.1)), (3, .inl (5, r3.2.2.2.2.1)), (3, .inl (6, r3.2.2.2.2.2))] (shLawTape, I, L, Rf)) C hR ⟨Nat.zero_le _, Nat.zero_le _⟩ mv_X1_readUnit lk_X1_56 dX1_readProduct_3 (rfl : 3 + 3 = 6) (k_bl (by omega)) (k_bl (by omega)) rfl rfl (c_X1_readUnit X.l u g hg (k_ap [(0, .inl (2, c0_2)), (1, .inr (.inr (.inl a1))), (3, .inl (3, c3_3)), (3, .inl (4, c3_4)), (3, .inl (5, c3_5)), (3, .inl (6, c3_6))] (shLawTape, I, L, Rf)) rfl rfl rfl ec3_2 rfl rfl rfl rfl ea4 q3) rfl rfl rfl (k_jn (us' := [(0, .inl (2, r3.1)), (1, .inr (.inr (.inl r3.2.1))), (3, .inl (3, r3.2.2.1)), (3, .inl (4, r3.2.2.2.1)), (3, .inl (5, r3.2.2.2.2.1)), (3, .inl (6, r3.2.2.2.2.2))]) ds_X1_readProduct rfl rfl rfl) rfl ?_
  refine r_iconst (v := (0 : Int32)) C dX1_readProduct_6 (rfl : 6 + 1 = 7) rfl ?_
  refine r_istore_n C dX1_readProduct_7 (rfl : 7 + 1 = 8) (by decide) (Nat.le_of_ble_eq_true rfl) ?_
  show k_W _ _ _ _ _ _ _ _ [some (.ref 0), some (.ref 3), some (.int v2), some (.int (0 : Int32)), none] _
  refine k_mask [true, true, true, true, false] ?_
  exact sX1_readProduct_8 u g C hr hR hg ec3_2 ea4 u r3.1 r3.2.1 r3.2.2.1 r3.2.2.2.1 r3.2.2.2.2.1 r3.2.2.2.2.2 v2 (0 : Int32) h
set_option maxHeartbeats 400000 in
set_option maxRecDepth 100000 in
theorem c_X1_readProduct (l : Launch) (u : Nat) (g : Int32 → (Nat → Int32) → Int32 → Int32 → Int32 → Int32 → Int32 → (Nat → Int32) → Int32 → Option (Int32 × (Nat → Int32) × Int32 × Int32 × Int32 × Int32)) {fg ng : Nat} (hg : H_X1_readSum l g fg ng) (h : k_H) (hsh : h.1 = shLawTape) {c0_2 : Int32} (ec0_2 : h.2.1 0 2 = c0_2) {a1 : (Nat → Int32)} (ea1 : h.2.1 1 = a1) {c3_2 : Int32} (ec3_2 : h.2.1 3 2 = c3_2) {c3_3 : Int32} (ec3_3 : h.2.1 3 3 = c3_3) {c3_4 : Int32} (ec3_4 : h.2.1 3 4 = c3_4) {c3_5 : Int32} (ec3_5 : h.2.1 3 5 = c3_5) {c3_6 : Int32} (ec3_6 : h.2.1 3 6 = c3_6) {a4 : (Nat → Int32)} (ea4 : h.2.1 4 = a4) {x1 : Int32} {out : Int32 × (Nat → Int32) × Int32 × Int32 × Int32 × Int32} (hf : f_X1_readProduct u g c0_2 a1 c3_2 c3_3 c3_4 c3_5 c3_6 a4 x1 = some out) : k_CT l yX1_readProduct cX1_readProduct 5 none (fg + 7) (ng + 156) [.ref 0, .ref 3, .int x1] h none [(0, .inl (2, out.1)), (1, .inr (.inr (.inl out.2.1))), (3, .inl (3, out.2.2.1)), (3, .inl (4, out.2.2.2.1)), (3, .inl (5, out.2.2.2.2.1)), (3, .inl (6, out.2.2.2.2.2))] := by
  obtain ⟨sh, I, L, Rf⟩ := h
  try dsimp only
  obtain rfl : sh = shLawTape := hsh
  refine k_ofW (by decide) (Nat.le_of_ble_eq_true rfl) ?_
  intro X ad hl hR0 hr C
  have hg : H_X1_readSum X.l g fg ng := by rw [hl]; exact hg
  have hR : X.R.frames = (fg + 7) ∧ X.R.locals = (ng + 156) := by rw [hR0]; exact ⟨rfl, rfl⟩
  have h := hf
  unfold f_X1_readProduct at h
  refine k_start (us := [(0, .inl (2, c0_2)), (1, .inr (.inr (.inl a1))), (3, .inl (3, c3_3)), (3, .inl (4, c3_4)), (3, .inl (5, c3_5)), (3, .inl (6, c3_6))]) (k_ao_I ec0_2 (k_ao_A ea1 (k_ao_I ec3_3 (k_ao_I ec3_4 (k_ao_I ec3_5 (k_ao_I ec3_6 k_ap_0)))))) ?_
  show k_W X 5 0 0 _ ad (k_ap [(0, .inl (2, c0_2)), (1, .inr (.inr (.inl a1))), (3, .inl (3, c3_3)), (3, .inl (4, c3_4)), (3, .inl (5, c3_5)), (3, .inl (6, c3_6))] (shLawTape, I, L, Rf)) 0 [some (.ref 0), some (.ref 3), some (.int x1), none, none] []
  refine k_mask [true, true, true, false, false] ?_
  exact sX1_readProduct_0 u g C hr hR hg ec3_2 ea4 c0_2 a1 c3_3 c3_4 c3_5 c3_6 x1 h
/-! LullabyPit$Law.readSum(LLullabyPit$Tape;I)V -/
theorem ds_X1_readSum : k_ds [(0, 0, 2), (1, 2, 0), (3, 0, 3), (3, 0, 4), (3, 0, 5), (3, 0, 6)] = true := by decide +kernel
set_option maxHeartbeats 400000 in
set_option maxRecDepth 100000 in
theorem sX1_readSum_80 (u : Nat) (g : Int32 → (Nat → Int32) → Int32 → Int32 → Int32 → Int32 → Int32 → (Nat → Int32) → Int32 → Option (Int32 × (Nat → Int32) × Int32 × Int32 × Int32 × Int32)) {fg ng : Nat} {X : k_X} {ad : Nat → Nat} (C : k_C X cX1_readSum RX1 5 ad) (hr : X.meth.sig.returnType = none) (hR : X.R.frames = (fg + 8) ∧ X.R.locals = (ng + 180)) {I : Nat → Nat → Int32} {L : Nat → Nat → Int64} {Rf : Nat → Nat → Option Nat} (hg : H_X1_readSum X.l g fg ng) {c3_2 : Int32} (ec3_2 : I 3 2 = c3_2) {a4 : (Nat → Int32)} (ea4 : I 4 = a4) {out : Int32 × (Nat → Int32) × Int32 × Int32 × Int32 × Int32} {k8 : Int32 → (Nat → Int32) → Int32 → Int32 → Int32 → Int32 → Int32 → Int32 → Option (Int32 × (Nat → Int32) × Int32 × Int32 × Int32 × Int32)} (hk8 : ∀ (c0_2 : Int32) (a1 : (Nat → Int32)) (c3_3 : Int32) (c3_4 : Int32) (c3_5 : Int32) (c3_6 : Int32) (v2 : Int32) (v3 : Int32), k8 c0_2 a1 c3_3 c3_4 c3_5 c3_6 v2 v3 = some out → k_W X 5 0 0 (k_Q X ad none (k_ap [(0, .inl (2, out.1)), (1, .inr (.inr (.inl out.2.1))), (3, .inl (3, out.2.2.1)), (3, .inl (4, out.2.2.2.1)), (3, .inl (5, out.2.2.2.2.1)), (3, .inl (6, out.2.2.2.2.2))] (shLawTape, I, L, Rf))) ad (k_ap [(0, .inl (2, c0_2)), (1, .inr (.inr (.inl a1))), (3, .inl (3, c3_3)), (3, .inl (4, c3_4)), (3, .inl (5, c3_5)), (3, .inl (6, c3_6))] (shLawTape, I, L, Rf)) 8 [some (.ref 0), some (.ref 3), some (.int v2), some (.int v3), none] []) : ∀ (c0_2 : Int32) (a1 : (Nat → Int32)) (c3_3 : Int32) (c3_4 : Int32) (c3_5 : Int32) (c3_6 : Int32) (v2 : Int32) (v3 : Int32) (w0 : Int32), bX1_readSum_80 u g c3_2 a4 k8 c0_2 a1 c3_3 c3_4 c3_5 c3_6 v2 v3 w0 = some out → k_W X 5 0 0 (k_Q X ad none (k_ap [(0, .inl (2, out.1)), (1, .inr (.inr (.inl out.2.1))), (3, .inl (3, out.2.2.1)), (3, .inl (4, out.2.2.2.1)), (3, .inl (5, out.2.2.2.2.1)), (3, .inl (6, out.2.2.2.2.2))] (shLawTape, I, L, Rf))) ad (k_ap [(0, .inl (2, c0_2)), (1, .inr (.inr (.inl a1))), (3, .inl (3, c3_3)), (3, .inl (4, c3_4)), (3, .inl (5, c3_5)), (3, .inl (6, c3_6))] (shLawTape, I, L, Rf)) 80 [some (.ref 0), some (.ref 3), some (.int v2), some (.int v3), none] [.int w0, .ref 0] := by
  intro c0_2 a1 c3_3 c3_4 c3_5 c3_6 v2 v3 w0 h
  unfold bX1_readSum_80 at h
  obtain ⟨r80, q80, h⟩ := k_b_of h
  refine d_Vp (pi := [0, 1, 2]) (shl := shLaw) (bl := 0) (As := [.int w0]) (Al := [.int w0]) (st := []) (st' := []) (h' := k_ap [(0, .inl (2, r80.1)), (1, .inr (.inr (.inl r80.2))), (3, .inl (3, c3_3)), (3, .inl (4, c3_4)), (3, .inl (5, c3_5)), (3, .inl (6, c3_6))] (shLawTape, I, L, Rf)) C hR ⟨Nat.zero_le _, Nat.zero_le _⟩ mv_X1_put lk_X1_22 dX1_readSum_80 (rfl : 80 + 3 = 83) (k_bl (by omega)) (k_bl (by omega)) ck_shLawTape_shLaw_0 rfl rfl (c_X1_put X.l u (k_pl [0, 1, 2] shLaw (k_ap [(0, .inl (2, c0_2)), (1, .inr (.inr (.inl a1))), (3, .inl (3, c3_3)), (3, .inl (4, c3_4)), (3, .inl (5, c3_5)), (3, .inl (6, c3_6))] (shLawTape, I, L, Rf))) rfl rfl rfl q80) rfl (fun _ => rfl) rfl (fun _ => rfl) rfl rfl rfl (k_jn (us' := [(0, .inl (2, r80.1)), (1, .inr (.inr (.inl r80.2))), (3, .inl (3, c3_3)), (3, .inl (4, c3_4)), (3, .inl (5, c3_5)), (3, .inl (6, c3_6))]) ds_X1_readSum rfl rfl rfl) rfl ?_
  refine r_iinc (v := (v3 + (1 : Int32))) C dX1_readSum_83 (rfl : 83 + 3 = 86) rfl rfl (by decide) ?_
  show k_W _ _ _ _ _ _ _ _ [some (.ref 0), some (.ref 3), some (.int v2), some (.int (v3 + (1 : Int32))), none] _
  refine r_goto (tgt := 8) C dX1_readSum_86 (by decide) ?_
  refine k_mask [true, true, true, true, false] ?_
  exact hk8 r80.1 r80.2 c3_3 c3_4 c3_5 c3_6 v2 (v3 + (1 : Int32)) h
set_option maxHeartbeats 400000 in
set_option maxRecDepth 100000 in
theorem sX1_readSum_58 (u : Nat) (g : Int32 → (Nat → Int32) → Int32 → Int32 → Int32 → Int32 → Int32 → (Nat → Int32) → Int32 → Option (Int32 × (Nat → Int32) × Int32 × Int32 × Int32 × Int32)) {fg ng : Nat} {X : k_X} {ad : Nat → Nat} (C : k_C X cX1_readSum RX1 5 ad) (hr : X.meth.sig.returnType = none) (hR : X.R.frames = (fg + 8) ∧ X.R.locals = (ng + 180)) {I : Nat → Nat → Int32} {L : Nat → Nat → Int64} {Rf : Nat → Nat → Option Nat} (hg : H_X1_readSum X.l g fg ng) {c3_2 : Int32} (ec3_2 : I 3 2 = c3_2) {a4 : (Nat → Int32)} (ea4 : I 4 = a4) {out : Int32 × (Nat → Int32) × Int32 × Int32 × Int32 × Int32} {k8 : Int32 → (Nat → Int32) → Int32 → Int32 → Int32 → Int32 → Int32 → Int32 → Option (Int32 × (Nat → Int32) × Int32 × Int32 × Int32 × Int32)} (hk8 : ∀ (c0_2 : Int32) (a1 : (Nat → Int32)) (c3_3 : Int32) (c3_4 : Int32) (c3_5 : Int32) (c3_6 : Int32) (v2 : Int32) (v3 : Int32), k8 c0_2 a1 c3_3 c3_4 c3_5 c3_6 v2 v3 = some out → k_W X 5 0 0 (k_Q X ad none (k_ap [(0, .inl (2, out.1)), (1, .inr (.inr (.inl out.2.1))), (3, .inl (3, out.2.2.1)), (3, .inl (4, out.2.2.2.1)), (3, .inl (5, out.2.2.2.2.1)), (3, .inl (6, out.2.2.2.2.2))] (shLawTape, I, L, Rf))) ad (k_ap [(0, .inl (2, c0_2)), (1, .inr (.inr (.inl a1))), (3, .inl (3, c3_3)), (3, .inl (4, c3_4)), (3, .inl (5, c3_5)), (3, .inl (6, c3_6))] (shLawTape, I, L, Rf)) 8 [some (.ref 0), some (.ref 3), some (.int v2), some (.int v3), none] []) : ∀ (c0_2 : Int32) (a1 : (Nat → Int32)) (c3_3 : Int32) (c3_4 : Int32) (c3_5 : Int32) (c3_6 : Int32) (v2 : Int32) (v3 : Int32) (v4 : Int32) (w0 : Int32), bX1_readSum_58 u g c3_2 a4 k8 c0_2 a1 c3_3 c3_4 c3_5 c3_6 v2 v3 v4 w0 = some out → k_W X 5 0 0 (k_Q X ad none (k_ap [(0, .inl (2, out.1)), (1, .inr (.inr (.inl out.2.1))), (3, .inl (3, out.2.2.1)), (3, .inl (4, out.2.2.2.1)), (3, .inl (5, out.2.2.2.2.1)), (3, .inl (6, out.2.2.2.2.2))] (shLawTape, I, L, Rf))) ad (k_ap [(0, .inl (2, c0_2)), (1, .inr (.inr (.inl a1))), (3, .inl (3, c3_3)), (3, .inl (4, c3_4)), (3, .inl (5, c3_5)), (3, .inl (6, c3_6))] (shLawTape, I, L, Rf)) 58 [some (.ref 0), some (.ref 3), some (.int v2), some (.int v3), some (.int v4)] [.int w0, .ref 3] := by
  intro c0_2 a1 c3_3 c3_4 c3_5 c3_6 v2 v3 v4 w0 h
  unfold bX1_readSum_58 at h
  obtain ⟨r58, q58, h⟩ := k_b_of h
  refine d_Vp (pi := [3, 4]) (shl := shTape) (bl := 0) (As := [.int w0]) (Al := [.int w0]) (st := []) (st' := []) (h' := k_ap [(0, .inl (2, c0_2)), (1, .inr (.inr (.inl a1))), (3, .inl (3, r58.1)), (3, .inl (4, c3_4)), (3, .inl (5, r58.2.1)), (3, .inl (6, r58.2.2))] (shLawTape, I, L, Rf)) C hR ⟨Nat.zero_le _, Nat.zero_le _⟩ mv_X8_sign lk_X1_52 dX1_readSum_58 (rfl : 58 + 3 = 61) (k_bl (by omega)) (k_bl (by omega)) ck_shLawTape_shTape_3 rfl rfl (c_X8_sign X.l u (k_pl [3, 4] shTape (k_ap [(0, .inl (2, c0_2)), (1, .inr (.inr (.inl a1))), (3, .inl (3, c3_3)), (3, .inl (4, c3_4)), (3, .inl (5, c3_5)), (3, .inl (6, c3_6))] (shLawTape, I, L, Rf))) rfl ec3_2 rfl rfl rfl ea4 q58) rfl (fun _ => rfl) rfl (fun _ => rfl) rfl rfl rfl (k_jn (us' := [(0, .inl (2, c0_2)), (1, .inr (.inr (.inl a1))), (3, .inl (3, r58.1)), (3, .inl (4, c3_4)), (3, .inl (5, r58.2.1)), (3, .inl (6, r58.2.2))]) ds_X1_readSum rfl rfl rfl) rfl ?_
  refine r_aload_n C dX1_readSum_61 (rfl : 61 + 1 = 62) rfl ?_
  refine r_aload_n C dX1_readSum_62 (rfl : 62 + 1 = 63) rfl ?_
  refine r_iload_n C dX1_readSum_63 (rfl : 63 + 1 = 64) rfl ?_
  obtain ⟨r64, q64, h⟩ := k_b_of h
  refine d_V (As := [.ref 3, .int v2]) (st := []) (st' := []) (h' := k_ap [(0, .inl (2, r64.1)), (1, .inr (.inr (.inl r64.2.1))), (3, .inl (3, r64.2.2.1)), (3, .inl (4, r64.2.2.2.1)), (3, .inl (5, r64.2.2.2.2.1)), (3, .inl (6, r64.2.2.2.2.2))] (shLawTape, I, L, Rf)) C hR ⟨Nat.zero_le _, Nat.zero_le _⟩ mv_X1_readProduct lk_X1_41 dX1_readSum_64 (rfl : 64 + 3 = 67) (k_bl (by omega)) (k_bl (by omega)) rfl rfl (c_X1_readProduct X.l u g hg (k_ap [(0, .inl (2, c0_2)), (1, .inr (.inr (.inl a1))), (3, .inl (3, r58.1)), (3, .inl (4, c3_4)), (3, .inl (5, r58.2.1)), (3, .inl (6, r58.2.2))] (shLawTape, I, L, Rf)) rfl rfl rfl ec3_2 rfl rfl rfl rfl ea4 q64) rfl rfl rfl (k_jn (us' := [(0, .inl (2, r64.1)), (1, .inr (.inr (.inl r64.2.1))), (3, .inl (3, r64.2.2.1)), (3, .inl (4, r64.2.2.2.1)), (3, .inl (5, r64.2.2.2.2.1)), (3, .inl (6, r64.2.2.2.2.2))]) ds_X1_readSum rfl rfl rfl) rfl ?_
  refine r_aload_n C dX1_readSum_67 (rfl : 67 + 1 = 68) rfl ?_
  refine r_iload C dX1_readSum_68 (rfl : 68 + 2 = 70) rfl ?_
  refine r_if_eq (tgt := 78) C dX1_readSum_70 (by decide) (rfl : 70 + 3 = 73) (fun c70 => ?_) (fun c70 => ?_)
  · have h := k_t c70 h
    refine r_bipush (v := (-12 : Int32)) C dX1_readSum_78 (rfl : 78 + 2 = 80) rfl ?_
    refine k_mask [true, true, true, true, false] ?_
    exact sX1_readSum_80 u g C hr hR hg ec3_2 ea4 hk8 r64.1 r64.2.1 r64.2.2.1 r64.2.2.2.1 r64.2.2.2.2.1 r64.2.2.2.2.2 v2 v3 (-12 : Int32) h
  · have h := k_f c70 h
    refine r_bipush (v := (-11 : Int32)) C dX1_readSum_73 (rfl : 73 + 2 = 75) rfl ?_
    refine r_goto (tgt := 80) C dX1_readSum_75 (by decide) ?_
    refine k_mask [true, true, true, true, false] ?_
    exact sX1_readSum_80 u g C hr hR hg ec3_2 ea4 hk8 r64.1 r64.2.1 r64.2.2.1 r64.2.2.2.1 r64.2.2.2.2.1 r64.2.2.2.2.2 v2 v3 (-11 : Int32) h
set_option maxHeartbeats 400000 in
set_option maxRecDepth 100000 in
theorem sX1_readSum_45 (u : Nat) (g : Int32 → (Nat → Int32) → Int32 → Int32 → Int32 → Int32 → Int32 → (Nat → Int32) → Int32 → Option (Int32 × (Nat → Int32) × Int32 × Int32 × Int32 × Int32)) {fg ng : Nat} {X : k_X} {ad : Nat → Nat} (C : k_C X cX1_readSum RX1 5 ad) (hr : X.meth.sig.returnType = none) (hR : X.R.frames = (fg + 8) ∧ X.R.locals = (ng + 180)) {I : Nat → Nat → Int32} {L : Nat → Nat → Int64} {Rf : Nat → Nat → Option Nat} (hg : H_X1_readSum X.l g fg ng) {c3_2 : Int32} (ec3_2 : I 3 2 = c3_2) {a4 : (Nat → Int32)} (ea4 : I 4 = a4) {out : Int32 × (Nat → Int32) × Int32 × Int32 × Int32 × Int32} {k8 : Int32 → (Nat → Int32) → Int32 → Int32 → Int32 → Int32 → Int32 → Int32 → Option (Int32 × (Nat → Int32) × Int32 × Int32 × Int32 × Int32)} (hk8 : ∀ (c0_2 : Int32) (a1 : (Nat → Int32)) (c3_3 : Int32) (c3_4 : Int32) (c3_5 : Int32) (c3_6 : Int32) (v2 : Int32) (v3 : Int32), k8 c0_2 a1 c3_3 c3_4 c3_5 c3_6 v2 v3 = some out → k_W X 5 0 0 (k_Q X ad none (k_ap [(0, .inl (2, out.1)), (1, .inr (.inr (.inl out.2.1))), (3, .inl (3, out.2.2.1)), (3, .inl (4, out.2.2.2.1)), (3, .inl (5, out.2.2.2.2.1)), (3, .inl (6, out.2.2.2.2.2))] (shLawTape, I, L, Rf))) ad (k_ap [(0, .inl (2, c0_2)), (1, .inr (.inr (.inl a1))), (3, .inl (3, c3_3)), (3, .inl (4, c3_4)), (3, .inl (5, c3_5)), (3, .inl (6, c3_6))] (shLawTape, I, L, Rf)) 8 [some (.ref 0), some (.ref 3), some (.int v2), some (.int v3), none] []) : ∀ (c0_2 : Int32) (a1 : (Nat → Int32)) (c3_3 : Int32) (c3_4 : Int32) (c3_5 : Int32) (c3_6 : Int32) (v2 : Int32) (v3 : Int32) (v4 : Int32), bX1_readSum_45 u g c3_2 a4 k8 c0_2 a1 c3_3 c3_4 c3_5 c3_6 v2 v3 v4 = some out → k_W X 5 0 0 (k_Q X ad none (k_ap [(0, .inl (2, out.1)), (1, .inr (.inr (.inl out.2.1))), (3, .inl (3, out.2.2.1)), (3, .inl (4, out.2.2.2.1)), (3, .inl (5, out.2.2.2.2.1)), (3, .inl (6, out.2.2.2.2.2))] (shLawTape, I, L, Rf))) ad (k_ap [(0, .inl (2, c0_2)), (1, .inr (.inr (.inl a1))), (3, .inl (3, c3_3)), (3, .inl (4, c3_4)), (3, .inl (5, c3_5)), (3, .inl (6, c3_6))] (shLawTape, I, L, Rf)) 45 [some (.ref 0), some (.ref 3), some (.int v2), some (.int v3), some (.int v4)] [] := by
  intro c0_2 a1 c3_3 c3_4 c3_5 c3_6 v2 v3 v4 h
  unfold bX1_readSum_45 at h
  refine r_aload_n C dX1_readSum_45 (rfl : 45 + 1 = 46) rfl ?_
  refine r_iload C dX1_readSum_46 (rfl : 46 + 2 = 48) rfl ?_
  refine r_if_eq (tgt := 56) C dX1_readSum_48 (by decide) (rfl : 48 + 3 = 51) (fun c48 => ?_) (fun c48 => ?_)
  · have h := k_t c48 h
    refine r_bipush (v := (45 : Int32)) C dX1_readSum_56 (rfl : 56 + 2 = 58) rfl ?_
    refine k_mask [true, true, true, true, true] ?_
    exact sX1_readSum_58 u g C hr hR hg ec3_2 ea4 hk8 c0_2 a1 c3_3 c3_4 c3_5 c3_6 v2 v3 v4 (45 : Int32) h
  · have h := k_f c48 h
    refine r_bipush (v := (43 : Int32)) C dX1_readSum_51 (rfl : 51 + 2 = 53) rfl ?_
    refine r_goto (tgt := 58) C dX1_readSum_53 (by decide) ?_
    refine k_mask [true, true, true, true, true] ?_
    exact sX1_readSum_58 u g C hr hR hg ec3_2 ea4 hk8 c0_2 a1 c3_3 c3_4 c3_5 c3_6 v2 v3 v4 (43 : Int32) h
set_option maxHeartbeats 400000 in
set_option maxRecDepth 100000 in
theorem sX1_readSum_8 (u : Nat) (g : Int32 → (Nat → Int32) → Int32 → Int32 → Int32 → Int32 → Int32 → (Nat → Int32) → Int32 → Option (Int32 × (Nat → Int32) × Int32 × Int32 × Int32 × Int32)) {fg ng : Nat} {X : k_X} {ad : Nat → Nat} (C : k_C X cX1_readSum RX1 5 ad) (hr : X.meth.sig.returnType = none) (hR : X.R.frames = (fg + 8) ∧ X.R.locals = (ng + 180)) {I : Nat → Nat → Int32} {L : Nat → Nat → Int64} {Rf : Nat → Nat → Option Nat} (hg : H_X1_readSum X.l g fg ng) {c3_2 : Int32} (ec3_2 : I 3 2 = c3_2) {a4 : (Nat → Int32)} (ea4 : I 4 = a4) {out : Int32 × (Nat → Int32) × Int32 × Int32 × Int32 × Int32} : ∀ (n : Nat) (c0_2 : Int32) (a1 : (Nat → Int32)) (c3_3 : Int32) (c3_4 : Int32) (c3_5 : Int32) (c3_6 : Int32) (v2 : Int32) (v3 : Int32), bX1_readSum_8 u g c3_2 a4 n c0_2 a1 c3_3 c3_4 c3_5 c3_6 v2 v3 = some out → k_W X 5 0 0 (k_Q X ad none (k_ap [(0, .inl (2, out.1)), (1, .inr (.inr (.inl out.2.1))), (3, .inl (3, out.2.2.1)), (3, .inl (4, out.2.2.2.1)), (3, .inl (5, out.2.2.2.2.1)), (3, .inl (6, out.2.2.2.2.2))] (shLawTape, I, L, Rf))) ad (k_ap [(0, .inl (2, c0_2)), (1, .inr (.inr (.inl a1))), (3, .inl (3, c3_3)), (3, .inl (4, c3_4)), (3, .inl (5, c3_5)), (3, .inl (6, c3_6))] (shLawTape, I, L, Rf)) 8 [some (.ref 0), some (.ref 3), some (.int v2), some (.int v3), none] [] := by
  intro n
  induction n with
  | zero => intro c0_2 a1 c3_3 c3_4 c3_5 c3_6 v2 v3 h; cases h
  | succ n ih =>
    intro c0_2 a1 c3_3 c3_4 c3_5 c3_6 v2 v3 h
    refine r_iload_n C dX1_readSum_8 (rfl : 8 + 1 = 9) rfl ?_
    refine r_sipush (v := (150 : Int32)) C dX1_readSum_9 (rfl : 9 + 3 = 12) rfl ?_
    refine r_icmp_ge (tgt := 89) C dX1_readSum_12 (by decide) (rfl : 12 + 3 = 15) (fun c12 => ?_) (fun c12 => ?_)
    · have h := k_t c12 h
      cases h
      exact r_vret C hr dX1_readSum_89
    · have h := k_f c12 h
      refine r_aload_n C dX1_readSum_15 (rfl : 15 + 1 = 16) rfl ?_
      obtain ⟨r16, q16, h⟩ := k_b_of h
      refine d_Vp (pi := [3, 4]) (shl := shTape) (bl := 0) (As := []) (Al := []) (st := []) (st' := [.int r16]) (h' := k_ap [(0, .inl (2, c0_2)), (1, .inr (.inr (.inl a1))), (3, .inl (3, c3_3)), (3, .inl (4, c3_4)), (3, .inl (5, c3_5)), (3, .inl (6, c3_6))] (shLawTape, I, L, Rf)) C hR ⟨Nat.zero_le _, Nat.zero_le _⟩ mv_X8_good lk_X1_44 dX1_readSum_16 (rfl : 16 + 3 = 19) (k_bl (by omega)) (k_bl (by omega)) ck_shLawTape_shTape_3 rfl rfl (c_X8_good X.l u (k_pl [3, 4] shTape (k_ap [(0, .inl (2, c0_2)), (1, .inr (.inr (.inl a1))), (3, .inl (3, c3_3)), (3, .inl (4, c3_4)), (3, .inl (5, c3_5)), (3, .inl (6, c3_6))] (shLawTape, I, L, Rf))) rfl rfl q16) rfl (fun _ => rfl) rfl (fun _ => rfl) rfl rfl rfl rfl rfl ?_
      refine r_if_eq (tgt := 89) C dX1_readSum_19 (by decide) (rfl : 19 + 3 = 22) (fun c19 => ?_) (fun c19 => ?_)
      · have h := k_t c19 h
        cases h
        exact r_vret C hr dX1_readSum_89
      · have h := k_f c19 h
        refine r_aload_n C dX1_readSum_22 (rfl : 22 + 1 = 23) rfl ?_
        refine r_bipush (v := (43 : Int32)) C dX1_readSum_23 (rfl : 23 + 2 = 25) rfl ?_
        obtain ⟨r25, q25, h⟩ := k_b_of h
        refine d_Vp (pi := [3, 4]) (shl := shTape) (bl := 0) (As := [.int (43 : Int32)]) (Al := [.int (43 : Int32)]) (st := []) (st' := [.int r25.1]) (h' := k_ap [(0, .inl (2, c0_2)), (1, .inr (.inr (.inl a1))), (3, .inl (3, r25.2)), (3, .inl (4, c3_4)), (3, .inl (5, c3_5)), (3, .inl (6, c3_6))] (shLawTape, I, L, Rf)) C hR ⟨Nat.zero_le _, Nat.zero_le _⟩ mv_X8_isNext lk_X1_48 dX1_readSum_25 (rfl : 25 + 3 = 28) (k_bl (by omega)) (k_bl (by omega)) ck_shLawTape_shTape_3 rfl rfl (c_X8_isNext X.l u (k_pl [3, 4] shTape (k_ap [(0, .inl (2, c0_2)), (1, .inr (.inr (.inl a1))), (3, .inl (3, c3_3)), (3, .inl (4, c3_4)), (3, .inl (5, c3_5)), (3, .inl (6, c3_6))] (shLawTape, I, L, Rf))) rfl ec3_2 rfl ea4 q25) rfl (fun _ => rfl) rfl (fun _ => rfl) rfl rfl rfl (k_jn (us' := [(0, .inl (2, c0_2)), (1, .inr (.inr (.inl a1))), (3, .inl (3, r25.2)), (3, .inl (4, c3_4)), (3, .inl (5, c3_5)), (3, .inl (6, c3_6))]) ds_X1_readSum rfl rfl rfl) rfl ?_
        refine r_istore C dX1_readSum_28 (rfl : 28 + 2 = 30) (by decide) (Nat.le_of_ble_eq_true rfl) ?_
        show k_W _ _ _ _ _ _ _ _ [some (.ref 0), some (.ref 3), some (.int v2), some (.int v3), some (.int r25.1)] _
        refine r_iload C dX1_readSum_30 (rfl : 30 + 2 = 32) rfl ?_
        refine r_if_ne (tgt := 45) C dX1_readSum_32 (by decide) (rfl : 32 + 3 = 35) (fun c32 => ?_) (fun c32 => ?_)
        · have h := k_f c32 h
          refine k_mask [true, true, true, true, true] ?_
          exact sX1_readSum_45 u g C hr hR hg ec3_2 ea4 ih c0_2 a1 r25.2 c3_4 c3_5 c3_6 v2 v3 r25.1 h
        · have h := k_t c32 h
          refine r_aload_n C dX1_readSum_35 (rfl : 35 + 1 = 36) rfl ?_
          refine r_bipush (v := (45 : Int32)) C dX1_readSum_36 (rfl : 36 + 2 = 38) rfl ?_
          obtain ⟨r38, q38, h⟩ := k_b_of h
          refine d_Vp (pi := [3, 4]) (shl := shTape) (bl := 0) (As := [.int (45 : Int32)]) (Al := [.int (45 : Int32)]) (st := []) (st' := [.int r38.1]) (h' := k_ap [(0, .inl (2, c0_2)), (1, .inr (.inr (.inl a1))), (3, .inl (3, r38.2)), (3, .inl (4, c3_4)), (3, .inl (5, c3_5)), (3, .inl (6, c3_6))] (shLawTape, I, L, Rf)) C hR ⟨Nat.zero_le _, Nat.zero_le _⟩ mv_X8_isNext lk_X1_48 dX1_readSum_38 (rfl : 38 + 3 = 41) (k_bl (by omega)) (k_bl (by omega)) ck_shLawTape_shTape_3 rfl rfl (c_X8_isNext X.l u (k_pl [3, 4] shTape (k_ap [(0, .inl (2, c0_2)), (1, .inr (.inr (.inl a1))), (3, .inl (3, r25.2)), (3, .inl (4, c3_4)), (3, .inl (5, c3_5)), (3, .inl (6, c3_6))] (shLawTape, I, L, Rf))) rfl ec3_2 rfl ea4 q38) rfl (fun _ => rfl) rfl (fun _ => rfl) rfl rfl rfl (k_jn (us' := [(0, .inl (2, c0_2)), (1, .inr (.inr (.inl a1))), (3, .inl (3, r38.2)), (3, .inl (4, c3_4)), (3, .inl (5, c3_5)), (3, .inl (6, c3_6))]) ds_X1_readSum rfl rfl rfl) rfl ?_
          refine r_if_ne (tgt := 45) C dX1_readSum_41 (by decide) (rfl : 41 + 3 = 44) (fun c41 => ?_) (fun c41 => ?_)
          · have h := k_f c41 h
            refine k_mask [true, true, true, true, true] ?_
            exact sX1_readSum_45 u g C hr hR hg ec3_2 ea4 ih c0_2 a1 r38.2 c3_4 c3_5 c3_6 v2 v3 r25.1 h
          · have h := k_t c41 h
            cases h
            exact r_vret C hr dX1_readSum_44
set_option maxHeartbeats 400000 in
set_option maxRecDepth 100000 in
theorem sX1_readSum_0 (u : Nat) (g : Int32 → (Nat → Int32) → Int32 → Int32 → Int32 → Int32 → Int32 → (Nat → Int32) → Int32 → Option (Int32 × (Nat → Int32) × Int32 × Int32 × Int32 × Int32)) {fg ng : Nat} {X : k_X} {ad : Nat → Nat} (C : k_C X cX1_readSum RX1 5 ad) (hr : X.meth.sig.returnType = none) (hR : X.R.frames = (fg + 8) ∧ X.R.locals = (ng + 180)) {I : Nat → Nat → Int32} {L : Nat → Nat → Int64} {Rf : Nat → Nat → Option Nat} (hg : H_X1_readSum X.l g fg ng) {c3_2 : Int32} (ec3_2 : I 3 2 = c3_2) {a4 : (Nat → Int32)} (ea4 : I 4 = a4) {out : Int32 × (Nat → Int32) × Int32 × Int32 × Int32 × Int32} : ∀ (c0_2 : Int32) (a1 : (Nat → Int32)) (c3_3 : Int32) (c3_4 : Int32) (c3_5 : Int32) (c3_6 : Int32) (v2 : Int32), bX1_readSum_0 u g c3_2 a4 c0_2 a1 c3_3 c3_4 c3_5 c3_6 v2 = some out → k_W X 5 0 0 (k_Q X ad none (k_ap [(0, .inl (2, out.1)), (1, .inr (.inr (.inl out.2.1))), (3, .inl (3, out.2.2.1)), (3, .inl (4, out.2.2.2.1)), (3, .inl (5, out.2.2.2.2.1)), (3, .inl (6, out.2.2.2.2.2))] (shLawTape, I, L, Rf))) ad (k_ap [(0, .inl (2, c0_2)), (1, .inr (.inr (.inl a1))), (3, .inl (3, c3_3)), (3, .inl (4, c3_4)), (3, .inl (5, c3_5)), (3, .inl (6, c3_6))] (shLawTape, I, L, Rf)) 0 [some (.ref 0), some (.ref 3), some (.int v2), none, none] [] := by
  intro c0_2 a1 c3_3 c3_4 c3_5 c3_6 v2 h
  unfold bX1_readSum_0 at h
  refine r_aload_n C dX1_readSum_0 (rfl : 0 + 1 = 1) rfl ?_
  refine r_aload_n C dX1_readSum_1 (rfl : 1 + 1 = 2) rfl ?_
  refine r_iload_n C dX1_readSum_2 (rfl : 2 + 1 = 3) rfl ?_
  obtain ⟨r3, q3, h⟩ := k_b_of h
  refine d_V (As := [.ref 3, .int v2]) (st := []) (st' := []) (h' := k_ap [(0, .inl (2, r3.1)), (1, .inr (.inr (.inl r3.2.1))), (3, .inl (3, r3.2.2.1)), (3, .inl (4, r3.2.2.2.1)), (3, .inl (5, r3.2.2.2.2.1)), (3, .inl (6, r3.2.2.2.2.2))] (shLawTape, I, L, Rf)) C hR ⟨Nat.zero_le _, Nat.zero_le _⟩ mv_X1_readProduct lk_X1_41 dX1_readSum_3 (rfl : 3 + 3 = 6) (k_bl (by omega)) (k_bl (by omega)) rfl rfl (c_X1_readProduct X.l u g hg (k_ap [(0, .inl (2, c0_2)), (1, .inr (.inr (.inl a1))), (3, .inl (3, c3_3)), (3, .inl (4, c3_4)), (3, .inl (5, c3_5)), (3, .inl (6, c3_6))] (shLawTape, I, L, Rf)) rfl rfl rfl ec3_2 rfl rfl rfl rfl ea4 q3) rfl rfl rfl (k_jn (us' := [(0, .inl (2, r3.1)), (1, .inr (.inr (.inl r3.2.1))), (3, .inl (3, r3.2.2.1)), (3, .inl (4, r3.2.2.2.1)), (3, .inl (5, r3.2.2.2.2.1)), (3, .inl (6, r3.2.2.2.2.2))]) ds_X1_readSum rfl rfl rfl) rfl ?_
  refine r_iconst (v := (0 : Int32)) C dX1_readSum_6 (rfl : 6 + 1 = 7) rfl ?_
  refine r_istore_n C dX1_readSum_7 (rfl : 7 + 1 = 8) (by decide) (Nat.le_of_ble_eq_true rfl) ?_
  show k_W _ _ _ _ _ _ _ _ [some (.ref 0), some (.ref 3), some (.int v2), some (.int (0 : Int32)), none] _
  refine k_mask [true, true, true, true, false] ?_
  exact sX1_readSum_8 u g C hr hR hg ec3_2 ea4 u r3.1 r3.2.1 r3.2.2.1 r3.2.2.2.1 r3.2.2.2.2.1 r3.2.2.2.2.2 v2 (0 : Int32) h
set_option maxHeartbeats 400000 in
set_option maxRecDepth 100000 in
theorem c_X1_readSum (l : Launch) (u : Nat) (g : Int32 → (Nat → Int32) → Int32 → Int32 → Int32 → Int32 → Int32 → (Nat → Int32) → Int32 → Option (Int32 × (Nat → Int32) × Int32 × Int32 × Int32 × Int32)) {fg ng : Nat} (hg : H_X1_readSum l g fg ng) (h : k_H) (hsh : h.1 = shLawTape) {c0_2 : Int32} (ec0_2 : h.2.1 0 2 = c0_2) {a1 : (Nat → Int32)} (ea1 : h.2.1 1 = a1) {c3_2 : Int32} (ec3_2 : h.2.1 3 2 = c3_2) {c3_3 : Int32} (ec3_3 : h.2.1 3 3 = c3_3) {c3_4 : Int32} (ec3_4 : h.2.1 3 4 = c3_4) {c3_5 : Int32} (ec3_5 : h.2.1 3 5 = c3_5) {c3_6 : Int32} (ec3_6 : h.2.1 3 6 = c3_6) {a4 : (Nat → Int32)} (ea4 : h.2.1 4 = a4) {x1 : Int32} {out : Int32 × (Nat → Int32) × Int32 × Int32 × Int32 × Int32} (hf : f_X1_readSum u g c0_2 a1 c3_2 c3_3 c3_4 c3_5 c3_6 a4 x1 = some out) : k_CT l yX1_readSum cX1_readSum 5 none (fg + 8) (ng + 180) [.ref 0, .ref 3, .int x1] h none [(0, .inl (2, out.1)), (1, .inr (.inr (.inl out.2.1))), (3, .inl (3, out.2.2.1)), (3, .inl (4, out.2.2.2.1)), (3, .inl (5, out.2.2.2.2.1)), (3, .inl (6, out.2.2.2.2.2))] := by
  obtain ⟨sh, I, L, Rf⟩ := h
  try dsimp only
  obtain rfl : sh = shLawTape := hsh
  refine k_ofW (by decide) (Nat.le_of_ble_eq_true rfl) ?_
  intro X ad hl hR0 hr C
  have hg : H_X1_readSum X.l g fg ng := by rw [hl]; exact hg
  have hR : X.R.frames = (fg + 8) ∧ X.R.locals = (ng + 180) := by rw [hR0]; exact ⟨rfl, rfl⟩
  have h := hf
  unfold f_X1_readSum at h
  refine k_start (us := [(0, .inl (2, c0_2)), (1, .inr (.inr (.inl a1))), (3, .inl (3, c3_3)), (3, .inl (4, c3_4)), (3, .inl (5, c3_5)), (3, .inl (6, c3_6))]) (k_ao_I ec0_2 (k_ao_A ea1 (k_ao_I ec3_3 (k_ao_I ec3_4 (k_ao_I ec3_5 (k_ao_I ec3_6 k_ap_0)))))) ?_
  show k_W X 5 0 0 _ ad (k_ap [(0, .inl (2, c0_2)), (1, .inr (.inr (.inl a1))), (3, .inl (3, c3_3)), (3, .inl (4, c3_4)), (3, .inl (5, c3_5)), (3, .inl (6, c3_6))] (shLawTape, I, L, Rf)) 0 [some (.ref 0), some (.ref 3), some (.int x1), none, none] []
  refine k_mask [true, true, true, false, false] ?_
  exact sX1_readSum_0 u g C hr hR hg ec3_2 ea4 c0_2 a1 c3_3 c3_4 c3_5 c3_6 x1 h
theorem c_X1_readSum_r (l : Launch) (u : Nat) : ∀ d : Nat, H_X1_readSum l (f_X1_readSum_r u d) (8 * d) (180 * d)
  | 0 => by
    intro h hsh
    intros
    rename_i hf
    cases hf
  | d + 1 => by
    intro h hsh
    intros
    rename_i hf
    exact c_X1_readSum l u (f_X1_readSum_r u d) (c_X1_readSum_r l u d) h hsh (by assumption) (by assumption) (by assumption) (by assumption) (by assumption) (by assumption) (by assumption) (by assumption) hf
def H_X6_readSteps (l : Launch) (g : Int32 → (Nat → Int32) → (Nat → Int32) → (Nat → Int32) → Int32 → Int32 → Int32 → Int32 → Int32 → (Nat → Int32) → Int32 → Int32 → Int32 → Option (Int32 × (Nat → Int32) × (Nat → Int32) × (Nat → Int32) × Int32 × Int32 × Int32 × Int32)) (fg ng : Nat) : Prop := ∀ (h : k_H) (hsh : h.1 = shProg) {c0_3 : Int32} (ec0_3 : h.2.1 0 3 = c0_3) {a1 : (Nat → Int32)} (ea1 : h.2.1 1 = a1) {a2 : (Nat → Int32)} (ea2 : h.2.1 2 = a2) {a3 : (Nat → Int32)} (ea3 : h.2.1 3 = a3) {c4_2 : Int32} (ec4_2 : h.2.1 4 2 = c4_2) {c4_3 : Int32} (ec4_3 : h.2.1 4 3 = c4_3) {c4_4 : Int32} (ec4_4 : h.2.1 4 4 = c4_4) {c4_5 : Int32} (ec4_5 : h.2.1 4 5 = c4_5) {c4_6 : Int32} (ec4_6 : h.2.1 4 6 = c4_6) {a5 : (Nat → Int32)} (ea5 : h.2.1 5 = a5) {c6_0 : Int32} (ec6_0 : h.2.1 6 0 = c6_0) {c6_1 : Int32} (ec6_1 : h.2.1 6 1 = c6_1) {x2 : Int32} {out : Int32 × (Nat → Int32) × (Nat → Int32) × (Nat → Int32) × Int32 × Int32 × Int32 × Int32} (hf : g c0_3 a1 a2 a3 c4_2 c4_3 c4_4 c4_5 c4_6 a5 c6_0 c6_1 x2 = some out), k_CT l yX6_readSteps cX6_readSteps 5 none fg ng [.ref 0, .ref 4, .ref 6, .int x2] h none [(0, .inl (3, out.1)), (1, .inr (.inr (.inl out.2.1))), (2, .inr (.inr (.inl out.2.2.1))), (3, .inr (.inr (.inl out.2.2.2.1))), (4, .inl (3, out.2.2.2.2.1)), (4, .inl (4, out.2.2.2.2.2.1)), (4, .inl (5, out.2.2.2.2.2.2.1)), (4, .inl (6, out.2.2.2.2.2.2.2))]
