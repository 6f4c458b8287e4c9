/-! LullabyPit$Pit.clear()V -/
theorem ds_X5_clear : k_ds [(0, 0, 0), (0, 0, 1), (0, 0, 7), (0, 0, 8), (0, 0, 9), (0, 0, 10), (0, 1, 6), (1, 2, 0), (2, 2, 0), (3, 2, 0)] = true := by decide
def f_X5_clear (u : Nat) (c0_0 : Int32) (c0_1 : Int32) (c0_7 : Int32) (c0_8 : Int32) (c0_9 : Int32) (c0_10 : Int32) (c0_6 : Int64) (a1 : (Nat → Int32)) (a2 : (Nat → Int32)) (a3 : (Nat → Int32)) : Option (Int32 × Int32 × Int32 × Int32 × Int32 × Int32 × Int64 × (Nat → Int32) × (Nat → Int32) × (Nat → Int32)) := k_b (f_J7_fill_53178 u 48 a1 (0 : Int32)) (fun r16 => k_b (f_J7_fill_53178 u 48 a2 (0 : Int32)) (fun r24 => k_b (f_J7_fill_53178 u 6 a3 (1 : Int32)) (fun r32 => some ((6 : Int32), (4 : Int32), (0 : Int32), (4 : Int32), (5 : Int32), (0 : Int32), (0 : Int64), r16, r24, r32))))
set_option maxHeartbeats 400000 in
set_option maxRecDepth 100000 in
theorem c_X5_clear (l : Launch) (u : Nat) (h : k_H) (hsh : h.1 = shPit) {c0_0 : Int32} (ec0_0 : h.2.1 0 0 = c0_0) {c0_1 : Int32} (ec0_1 : h.2.1 0 1 = c0_1) {c0_7 : Int32} (ec0_7 : h.2.1 0 7 = c0_7) {c0_8 : Int32} (ec0_8 : h.2.1 0 8 = c0_8) {c0_9 : Int32} (ec0_9 : h.2.1 0 9 = c0_9) {c0_10 : Int32} (ec0_10 : h.2.1 0 10 = c0_10) {c0_6 : Int64} (ec0_6 : h.2.2.1 0 6 = c0_6) {a1 : (Nat → Int32)} (ea1 : h.2.1 1 = a1) {a2 : (Nat → Int32)} (ea2 : h.2.1 2 = a2) {a3 : (Nat → Int32)} (ea3 : h.2.1 3 = a3) {out : Int32 × Int32 × Int32 × Int32 × Int32 × Int32 × Int64 × (Nat → Int32) × (Nat → Int32) × (Nat → Int32)} (hf : f_X5_clear u c0_0 c0_1 c0_7 c0_8 c0_9 c0_10 c0_6 a1 a2 a3 = some out) : k_CT l yX5_clear cX5_clear 1 none 1 23 [.ref 0] h none [(0, .inl (0, out.1)), (0, .inl (1, out.2.1)), (0, .inl (7, out.2.2.1)), (0, .inl (8, out.2.2.2.1)), (0, .inl (9, out.2.2.2.2.1)), (0, .inl (10, out.2.2.2.2.2.1)), (0, .inr (.inl (6, out.2.2.2.2.2.2.1))), (1, .inr (.inr (.inl out.2.2.2.2.2.2.2.1))), (2, .inr (.inr (.inl out.2.2.2.2.2.2.2.2.1))), (3, .inr (.inr (.inl out.2.2.2.2.2.2.2.2.2)))] := by
  obtain ⟨sh, I, L, Rf⟩ := h
  try dsimp only
  obtain rfl : sh = shPit := hsh
  obtain rfl := ec0_0
  obtain rfl := ec0_1
  obtain rfl := ec0_7
  obtain rfl := ec0_8
  obtain rfl := ec0_9
  obtain rfl := ec0_10
  obtain rfl := ec0_6
  obtain rfl := ea1
  obtain rfl := ea2
  obtain rfl := ea3
  refine k_ofW (by decide) (Nat.le_of_ble_eq_true rfl) ?_
  intro X ad hl hR0 hr C
  have hR : X.R.frames = 1 ∧ X.R.locals = 23 := by rw [hR0]; exact ⟨rfl, rfl⟩
  have h := hf
  unfold f_X5_clear at h
  refine k_start (us := [(0, .inl (0, I 0 0)), (0, .inl (1, I 0 1)), (0, .inl (7, I 0 7)), (0, .inl (8, I 0 8)), (0, .inl (9, I 0 9)), (0, .inl (10, I 0 10)), (0, .inr (.inl (6, L 0 6))), (1, .inr (.inr (.inl (I 1)))), (2, .inr (.inr (.inl (I 2)))), (3, .inr (.inr (.inl (I 3))))]) (k_ap_I (k_ap_I (k_ap_I (k_ap_I (k_ap_I (k_ap_I (k_ap_L (k_ap_A (k_ap_A (k_ap_A k_ap_0)))))))))) ?_
  show k_W X 1 0 0 _ ad (k_ap [(0, .inl (0, I 0 0)), (0, .inl (1, I 0 1)), (0, .inl (7, I 0 7)), (0, .inl (8, I 0 8)), (0, .inl (9, I 0 9)), (0, .inl (10, I 0 10)), (0, .inr (.inl (6, L 0 6))), (1, .inr (.inr (.inl (I 1)))), (2, .inr (.inr (.inl (I 2)))), (3, .inr (.inr (.inl (I 3))))] (shPit, I, L, Rf)) 0 [some (.ref 0)] []
  refine r_aload_n C dX5_clear_0 (rfl : 0 + 1 = 1) rfl ?_
  refine r_bipush (v := (6 : Int32)) C dX5_clear_1 (rfl : 1 + 2 = 3) rfl ?_
  refine p_I (us' := [(0, .inl (0, (6 : Int32))), (0, .inl (1, (I 0 1))), (0, .inl (7, (I 0 7))), (0, .inl (8, (I 0 8))), (0, .inl (9, (I 0 9))), (0, .inl (10, (I 0 10))), (0, .inr (.inl (6, (L 0 6)))), (1, .inr (.inr (.inl (I 1)))), (2, .inr (.inr (.inl (I 2)))), (3, .inr (.inr (.inl (I 3))))]) C dX5_clear_3 (rfl : 3 + 3 = 6) fp_X5_36 rfl rfl ds_X5_clear rfl rfl rfl ?_
  refine r_aload_n C dX5_clear_6 (rfl : 6 + 1 = 7) rfl ?_
  refine r_iconst (v := (4 : Int32)) C dX5_clear_7 (rfl : 7 + 1 = 8) rfl ?_
  refine p_I (us' := [(0, .inl (0, (6 : Int32))), (0, .inl (1, (4 : Int32))), (0, .inl (7, (I 0 7))), (0, .inl (8, (I 0 8))), (0, .inl (9, (I 0 9))), (0, .inl (10, (I 0 10))), (0, .inr (.inl (6, (L 0 6)))), (1, .inr (.inr (.inl (I 1)))), (2, .inr (.inr (.inl (I 2)))), (3, .inr (.inr (.inl (I 3))))]) C dX5_clear_8 (rfl : 8 + 3 = 11) fp_X5_40 rfl rfl ds_X5_clear rfl rfl rfl ?_
  refine r_aload_n C dX5_clear_11 (rfl : 11 + 1 = 12) rfl ?_
  refine r_getR (q := 1) C dX5_clear_12 (rfl : 12 + 3 = 15) fl_X5_9 rfl rfl ?_
  refine r_iconst (v := (0 : Int32)) C dX5_clear_15 (rfl : 15 + 1 = 16) rfl ?_
  obtain ⟨r16, q16, h⟩ := k_b_of h
  refine d_Sp (pi := [1]) (shl := (shArr 48)) (As := [.ref 1, .int (0 : Int32)]) (Al := [.ref 0, .int (0 : Int32)]) (st := []) (st' := []) (h' := k_ap [(0, .inl (0, (6 : Int32))), (0, .inl (1, (4 : Int32))), (0, .inl (7, (I 0 7))), (0, .inl (8, (I 0 8))), (0, .inl (9, (I 0 9))), (0, .inl (10, (I 0 10))), (0, .inr (.inl (6, (L 0 6)))), (1, .inr (.inr (.inl r16))), (2, .inr (.inr (.inl (I 2)))), (3, .inr (.inr (.inl (I 3))))] (shPit, I, L, Rf)) C hR ⟨Nat.zero_le _, Nat.zero_le _⟩ ms_J7_fill_53178 lk_X5_43 dX5_clear_16 (rfl : 16 + 3 = 19) rfl rfl ck_shPit_shArr_1_48 (c_J7_fill_53178 X.l u 48 (k_pl [1] (shArr 48) (k_ap [(0, .inl (0, (6 : Int32))), (0, .inl (1, (4 : Int32))), (0, .inl (7, (I 0 7))), (0, .inl (8, (I 0 8))), (0, .inl (9, (I 0 9))), (0, .inl (10, (I 0 10))), (0, .inr (.inl (6, (L 0 6)))), (1, .inr (.inr (.inl (I 1)))), (2, .inr (.inr (.inl (I 2)))), (3, .inr (.inr (.inl (I 3))))] (shPit, I, L, Rf))) rfl rfl q16) (fun _ => rfl) rfl (fun _ => rfl) rfl rfl rfl (k_jn (us' := [(0, .inl (0, (6 : Int32))), (0, .inl (1, (4 : Int32))), (0, .inl (7, (I 0 7))), (0, .inl (8, (I 0 8))), (0, .inl (9, (I 0 9))), (0, .inl (10, (I 0 10))), (0, .inr (.inl (6, (L 0 6)))), (1, .inr (.inr (.inl r16))), (2, .inr (.inr (.inl (I 2)))), (3, .inr (.inr (.inl (I 3))))]) ds_X5_clear rfl rfl rfl) rfl ?_
  refine r_aload_n C dX5_clear_19 (rfl : 19 + 1 = 20) rfl ?_
  refine r_getR (q := 2) C dX5_clear_20 (rfl : 20 + 3 = 23) fl_X5_15 rfl rfl ?_
  refine r_iconst (v := (0 : Int32)) C dX5_clear_23 (rfl : 23 + 1 = 24) rfl ?_
  obtain ⟨r24, q24, h⟩ := k_b_of h
  refine d_Sp (pi := [2]) (shl := (shArr 48)) (As := [.ref 2, .int (0 : Int32)]) (Al := [.ref 0, .int (0 : Int32)]) (st := []) (st' := []) (h' := k_ap [(0, .inl (0, (6 : Int32))), (0, .inl (1, (4 : Int32))), (0, .inl (7, (I 0 7))), (0, .inl (8, (I 0 8))), (0, .inl (9, (I 0 9))), (0, .inl (10, (I 0 10))), (0, .inr (.inl (6, (L 0 6)))), (1, .inr (.inr (.inl r16))), (2, .inr (.inr (.inl r24))), (3, .inr (.inr (.inl (I 3))))] (shPit, I, L, Rf)) C hR ⟨Nat.zero_le _, Nat.zero_le _⟩ ms_J7_fill_53178 lk_X5_43 dX5_clear_24 (rfl : 24 + 3 = 27) rfl rfl ck_shPit_shArr_2_48 (c_J7_fill_53178 X.l u 48 (k_pl [2] (shArr 48) (k_ap [(0, .inl (0, (6 : Int32))), (0, .inl (1, (4 : Int32))), (0, .inl (7, (I 0 7))), (0, .inl (8, (I 0 8))), (0, .inl (9, (I 0 9))), (0, .inl (10, (I 0 10))), (0, .inr (.inl (6, (L 0 6)))), (1, .inr (.inr (.inl r16))), (2, .inr (.inr (.inl (I 2)))), (3, .inr (.inr (.inl (I 3))))] (shPit, I, L, Rf))) rfl rfl q24) (fun _ => rfl) rfl (fun _ => rfl) rfl rfl rfl (k_jn (us' := [(0, .inl (0, (6 : Int32))), (0, .inl (1, (4 : Int32))), (0, .inl (7, (I 0 7))), (0, .inl (8, (I 0 8))), (0, .inl (9, (I 0 9))), (0, .inl (10, (I 0 10))), (0, .inr (.inl (6, (L 0 6)))), (1, .inr (.inr (.inl r16))), (2, .inr (.inr (.inl r24))), (3, .inr (.inr (.inl (I 3))))]) ds_X5_clear rfl rfl rfl) rfl ?_
  refine r_aload_n C dX5_clear_27 (rfl : 27 + 1 = 28) rfl ?_
  refine r_getR (q := 3) C dX5_clear_28 (rfl : 28 + 3 = 31) fl_X5_18 rfl rfl ?_
  refine r_iconst (v := (1 : Int32)) C dX5_clear_31 (rfl : 31 + 1 = 32) rfl ?_
  obtain ⟨r32, q32, h⟩ := k_b_of h
  refine d_Sp (pi := [3]) (shl := (shArr 6)) (As := [.ref 3, .int (1 : Int32)]) (Al := [.ref 0, .int (1 : Int32)]) (st := []) (st' := []) (h' := k_ap [(0, .inl (0, (6 : Int32))), (0, .inl (1, (4 : Int32))), (0, .inl (7, (I 0 7))), (0, .inl (8, (I 0 8))), (0, .inl (9, (I 0 9))), (0, .inl (10, (I 0 10))), (0, .inr (.inl (6, (L 0 6)))), (1, .inr (.inr (.inl r16))), (2, .inr (.inr (.inl r24))), (3, .inr (.inr (.inl r32)))] (shPit, I, L, Rf)) C hR ⟨Nat.zero_le _, Nat.zero_le _⟩ ms_J7_fill_53178 lk_X5_43 dX5_clear_32 (rfl : 32 + 3 = 35) rfl rfl ck_shPit_shArr_3_6 (c_J7_fill_53178 X.l u 6 (k_pl [3] (shArr 6) (k_ap [(0, .inl (0, (6 : Int32))), (0, .inl (1, (4 : Int32))), (0, .inl (7, (I 0 7))), (0, .inl (8, (I 0 8))), (0, .inl (9, (I 0 9))), (0, .inl (10, (I 0 10))), (0, .inr (.inl (6, (L 0 6)))), (1, .inr (.inr (.inl r16))), (2, .inr (.inr (.inl r24))), (3, .inr (.inr (.inl (I 3))))] (shPit, I, L, Rf))) rfl rfl q32) (fun _ => rfl) rfl (fun _ => rfl) rfl rfl rfl (k_jn (us' := [(0, .inl (0, (6 : Int32))), (0, .inl (1, (4 : Int32))), (0, .inl (7, (I 0 7))), (0, .inl (8, (I 0 8))), (0, .inl (9, (I 0 9))), (0, .inl (10, (I 0 10))), (0, .inr (.inl (6, (L 0 6)))), (1, .inr (.inr (.inl r16))), (2, .inr (.inr (.inl r24))), (3, .inr (.inr (.inl r32)))]) ds_X5_clear rfl rfl rfl) rfl ?_
  refine r_aload_n C dX5_clear_35 (rfl : 35 + 1 = 36) rfl ?_
  refine r_lconst (v := (0 : Int64)) C dX5_clear_36 (rfl : 36 + 1 = 37) rfl ?_
  refine p_L (us' := [(0, .inl (0, (6 : Int32))), (0, .inl (1, (4 : Int32))), (0, .inl (7, (I 0 7))), (0, .inl (8, (I 0 8))), (0, .inl (9, (I 0 9))), (0, .inl (10, (I 0 10))), (0, .inr (.inl (6, (0 : Int64)))), (1, .inr (.inr (.inl r16))), (2, .inr (.inr (.inl r24))), (3, .inr (.inr (.inl r32)))]) C dX5_clear_37 (rfl : 37 + 3 = 40) fp_X5_49 rfl rfl ds_X5_clear rfl rfl rfl ?_
  refine r_aload_n C dX5_clear_40 (rfl : 40 + 1 = 41) rfl ?_
  refine r_iconst (v := (0 : Int32)) C dX5_clear_41 (rfl : 41 + 1 = 42) rfl ?_
  refine p_I (us' := [(0, .inl (0, (6 : Int32))), (0, .inl (1, (4 : Int32))), (0, .inl (7, (0 : Int32))), (0, .inl (8, (I 0 8))), (0, .inl (9, (I 0 9))), (0, .inl (10, (I 0 10))), (0, .inr (.inl (6, (0 : Int64)))), (1, .inr (.inr (.inl r16))), (2, .inr (.inr (.inl r24))), (3, .inr (.inr (.inl r32)))]) C dX5_clear_42 (rfl : 42 + 3 = 45) fp_X5_53 rfl rfl ds_X5_clear rfl rfl rfl ?_
  refine r_aload_n C dX5_clear_45 (rfl : 45 + 1 = 46) rfl ?_
  refine r_iconst (v := (4 : Int32)) C dX5_clear_46 (rfl : 46 + 1 = 47) rfl ?_
  refine p_I (us' := [(0, .inl (0, (6 : Int32))), (0, .inl (1, (4 : Int32))), (0, .inl (7, (0 : Int32))), (0, .inl (8, (4 : Int32))), (0, .inl (9, (I 0 9))), (0, .inl (10, (I 0 10))), (0, .inr (.inl (6, (0 : Int64)))), (1, .inr (.inr (.inl r16))), (2, .inr (.inr (.inl r24))), (3, .inr (.inr (.inl r32)))]) C dX5_clear_47 (rfl : 47 + 3 = 50) fp_X5_56 rfl rfl ds_X5_clear rfl rfl rfl ?_
  refine r_aload_n C dX5_clear_50 (rfl : 50 + 1 = 51) rfl ?_
  refine r_iconst (v := (5 : Int32)) C dX5_clear_51 (rfl : 51 + 1 = 52) rfl ?_
  refine p_I (us' := [(0, .inl (0, (6 : Int32))), (0, .inl (1, (4 : Int32))), (0, .inl (7, (0 : Int32))), (0, .inl (8, (4 : Int32))), (0, .inl (9, (5 : Int32))), (0, .inl (10, (I 0 10))), (0, .inr (.inl (6, (0 : Int64)))), (1, .inr (.inr (.inl r16))), (2, .inr (.inr (.inl r24))), (3, .inr (.inr (.inl r32)))]) C dX5_clear_52 (rfl : 52 + 3 = 55) fp_X5_59 rfl rfl ds_X5_clear rfl rfl rfl ?_
  refine r_aload_n C dX5_clear_55 (rfl : 55 + 1 = 56) rfl ?_
  refine r_iconst (v := (0 : Int32)) C dX5_clear_56 (rfl : 56 + 1 = 57) rfl ?_
  refine p_I (us' := [(0, .inl (0, (6 : Int32))), (0, .inl (1, (4 : Int32))), (0, .inl (7, (0 : Int32))), (0, .inl (8, (4 : Int32))), (0, .inl (9, (5 : Int32))), (0, .inl (10, (0 : Int32))), (0, .inr (.inl (6, (0 : Int64)))), (1, .inr (.inr (.inl r16))), (2, .inr (.inr (.inl r24))), (3, .inr (.inr (.inl r32)))]) C dX5_clear_57 (rfl : 57 + 3 = 60) fp_X5_62 rfl rfl ds_X5_clear rfl rfl rfl ?_
  cases h
  exact r_vret C hr dX5_clear_60
/-! LullabyPit$Pit.tellAll()V -/
theorem ds_X5_tellAll : k_ds [(0, 1, 5)] = true := by decide
def bX5_tellAll_7 (u : Nat) (c0_0 : Int32) (c0_1 : Int32) : Nat → Int64 → Int32 → Option (Int64)
  | 0, _, _ => none
  | n + 1, c0_5, v1 => (if c0_1 ≤ v1 then some c0_5 else (bX5_tellAll_7 u c0_0 c0_1 n (c0_5 ||| ((((1 : Int64) <<< ((c0_0).toInt64 &&& 63)) - (1 : Int64)) <<< ((((8 : Int32) * v1)).toInt64 &&& 63))) (v1 + (1 : Int32))))
set_option maxHeartbeats 400000 in
set_option maxRecDepth 100000 in
theorem sX5_tellAll_7 (u : Nat) {X : k_X} {ad : Nat → Nat} (C : k_C X cX5_tellAll RX5 2 ad) (hr : X.meth.sig.returnType = none) (hR : X.R.frames = 0 ∧ X.R.locals = 0) {I : Nat → Nat → Int32} {L : Nat → Nat → Int64} {Rf : Nat → Nat → Option Nat} {c0_0 : Int32} (ec0_0 : I 0 0 = c0_0) {c0_1 : Int32} (ec0_1 : I 0 1 = c0_1) {out : Int64} : ∀ (n : Nat) (c0_5 : Int64) (v1 : Int32), bX5_tellAll_7 u c0_0 c0_1 n c0_5 v1 = some out → k_W X 2 0 0 (k_Q X ad none (k_ap [(0, .inr (.inl (5, out)))] (shPit, I, L, Rf))) ad (k_ap [(0, .inr (.inl (5, c0_5)))] (shPit, I, L, Rf)) 7 [some (.ref 0), some (.int v1)] [] := by
  intro n
  induction n with
  | zero => intro c0_5 v1 h; cases h
  | succ n ih =>
    intro c0_5 v1 h
    refine r_iload_n C dX5_tellAll_7 (rfl : 7 + 1 = 8) rfl ?_
    refine r_aload_n C dX5_tellAll_8 (rfl : 8 + 1 = 9) rfl ?_
    refine r_getI (v := c0_1) C dX5_tellAll_9 (rfl : 9 + 3 = 12) fl_X5_40 rfl rfl ec0_1 ?_
    refine r_icmp_ge (tgt := 43) C dX5_tellAll_12 (by decide) (rfl : 12 + 3 = 15) (fun c12 => ?_) (fun c12 => ?_)
    · have h := k_t c12 h
      cases h
      exact r_vret C hr dX5_tellAll_43
    · have h := k_f c12 h
      refine r_aload_n C dX5_tellAll_15 (rfl : 15 + 1 = 16) rfl ?_
      refine r_dup C dX5_tellAll_16 (rfl : 16 + 1 = 17) rfl ?_
      refine r_getL (v := c0_5) C dX5_tellAll_17 (rfl : 17 + 3 = 20) fl_X5_65 rfl rfl rfl ?_
      refine r_lconst (v := (1 : Int64)) C dX5_tellAll_20 (rfl : 20 + 1 = 21) rfl ?_
      refine r_aload_n C dX5_tellAll_21 (rfl : 21 + 1 = 22) rfl ?_
      refine r_getI (v := c0_0) C dX5_tellAll_22 (rfl : 22 + 3 = 25) fl_X5_36 rfl rfl ec0_0 ?_
      refine r_lshl C dX5_tellAll_25 (rfl : 25 + 1 = 26) ?_
      refine r_lconst (v := (1 : Int64)) C dX5_tellAll_26 (rfl : 26 + 1 = 27) rfl ?_
      refine r_lsub C dX5_tellAll_27 (rfl : 27 + 1 = 28) ?_
      refine r_bipush (v := (8 : Int32)) C dX5_tellAll_28 (rfl : 28 + 2 = 30) rfl ?_
      refine r_iload_n C dX5_tellAll_30 (rfl : 30 + 1 = 31) rfl ?_
      refine r_imul C dX5_tellAll_31 (rfl : 31 + 1 = 32) ?_
      refine r_lshl C dX5_tellAll_32 (rfl : 32 + 1 = 33) ?_
      refine r_lor C dX5_tellAll_33 (rfl : 33 + 1 = 34) ?_
      refine p_L (us' := [(0, .inr (.inl (5, (c0_5 ||| ((((1 : Int64) <<< ((c0_0).toInt64 &&& 63)) - (1 : Int64)) <<< ((((8 : Int32) * v1)).toInt64 &&& 63))))))]) C dX5_tellAll_34 (rfl : 34 + 3 = 37) fp_X5_65 rfl rfl ds_X5_tellAll rfl rfl rfl ?_
      refine r_iinc (v := (v1 + (1 : Int32))) C dX5_tellAll_37 (rfl : 37 + 3 = 40) rfl rfl (by decide) ?_
      show k_W _ _ _ _ _ _ _ _ [some (.ref 0), some (.int (v1 + (1 : Int32)))] _
      refine r_goto (tgt := 7) C dX5_tellAll_40 (by decide) ?_
      refine k_mask [true, true] ?_
      exact ih (c0_5 ||| ((((1 : Int64) <<< ((c0_0).toInt64 &&& 63)) - (1 : Int64)) <<< ((((8 : Int32) * v1)).toInt64 &&& 63))) (v1 + (1 : Int32)) h
def f_X5_tellAll (u : Nat) (c0_0 : Int32) (c0_1 : Int32) (c0_5 : Int64) : Option (Int64) := (bX5_tellAll_7 u c0_0 c0_1 u (0 : Int64) (0 : Int32))
set_option maxHeartbeats 400000 in
set_option maxRecDepth 100000 in
theorem c_X5_tellAll (l : Launch) (u : Nat) (h : k_H) (hsh : h.1 = shPit) {c0_0 : Int32} (ec0_0 : h.2.1 0 0 = c0_0) {c0_1 : Int32} (ec0_1 : h.2.1 0 1 = c0_1) {c0_5 : Int64} (ec0_5 : h.2.2.1 0 5 = c0_5) {out : Int64} (hf : f_X5_tellAll u c0_0 c0_1 c0_5 = some out) : k_CT l yX5_tellAll cX5_tellAll 2 none 0 0 [.ref 0] h none [(0, .inr (.inl (5, out)))] := by
  obtain ⟨sh, I, L, Rf⟩ := h
  try dsimp only
  obtain rfl : sh = shPit := hsh
  obtain rfl := ec0_5
  refine k_ofW (by decide) (Nat.le_of_ble_eq_true rfl) ?_
  intro X ad hl hR0 hr C
  have hR : X.R.frames = 0 ∧ X.R.locals = 0 := by rw [hR0]; exact ⟨rfl, rfl⟩
  have h := hf
  unfold f_X5_tellAll at h
  refine k_start (us := [(0, .inr (.inl (5, L 0 5)))]) (k_ap_L k_ap_0) ?_
  show k_W X 2 0 0 _ ad (k_ap [(0, .inr (.inl (5, L 0 5)))] (shPit, I, L, Rf)) 0 [some (.ref 0), none] []
  refine r_aload_n C dX5_tellAll_0 (rfl : 0 + 1 = 1) rfl ?_
  refine r_lconst (v := (0 : Int64)) C dX5_tellAll_1 (rfl : 1 + 1 = 2) rfl ?_
  refine p_L (us' := [(0, .inr (.inl (5, (0 : Int64))))]) C dX5_tellAll_2 (rfl : 2 + 3 = 5) fp_X5_65 rfl rfl ds_X5_tellAll rfl rfl rfl ?_
  refine r_iconst (v := (0 : Int32)) C dX5_tellAll_5 (rfl : 5 + 1 = 6) rfl ?_
  refine r_istore_n C dX5_tellAll_6 (rfl : 6 + 1 = 7) (by decide) (Nat.le_of_ble_eq_true rfl) ?_
  show k_W _ _ _ _ _ _ _ _ [some (.ref 0), some (.int (0 : Int32))] _
  refine k_mask [true, true] ?_
  exact sX5_tellAll_7 u C hr hR ec0_0 ec0_1 u (0 : Int64) (0 : Int32) h
/-! LullabyPit$Pit.lay(IIII)V -/
theorem ds_X5_lay : k_ds [(1, 2, 0), (2, 2, 0)] = true := by decide
def f_X5_lay (u : Nat) (a1 : (Nat → Int32)) (a2 : (Nat → Int32)) (x0 : Int32) (x1 : Int32) (x2 : Int32) (x3 : Int32) : Option ((Nat → Int32) × (Nat → Int32)) := (if (((8 : Int32) * x1) + x0) < (0 : Int32) then some (a1, a2) else (if (48 : Int32) ≤ (((8 : Int32) * x1) + x0) then some (a1, a2) else k_i 48 (((8 : Int32) * x1) + x0) (k_i 48 (((8 : Int32) * x1) + x0) (some ((upd a1 (((((8 : Int32) * x1) + x0)).toNatClampNeg) x2), (upd a2 (((((8 : Int32) * x1) + x0)).toNatClampNeg) x3))))))
set_option maxHeartbeats 400000 in
set_option maxRecDepth 100000 in
theorem c_X5_lay (l : Launch) (u : Nat) (h : k_H) (hsh : h.1 = shPit) {a1 : (Nat → Int32)} (ea1 : h.2.1 1 = a1) {a2 : (Nat → Int32)} (ea2 : h.2.1 2 = a2) {x0 : Int32} {x1 : Int32} {x2 : Int32} {x3 : Int32} {out : (Nat → Int32) × (Nat → Int32)} (hf : f_X5_lay u a1 a2 x0 x1 x2 x3 = some out) : k_CT l yX5_lay cX5_lay 6 none 0 0 [.ref 0, .int x0, .int x1, .int x2, .int x3] h none [(1, .inr (.inr (.inl out.1))), (2, .inr (.inr (.inl out.2)))] := by
  obtain ⟨sh, I, L, Rf⟩ := h
  try dsimp only
  obtain rfl : sh = shPit := hsh
  obtain rfl := ea1
  obtain rfl := ea2
  refine k_ofW (by decide) (Nat.le_of_ble_eq_true rfl) ?_
  intro X ad hl hR0 hr C
  have hR : X.R.frames = 0 ∧ X.R.locals = 0 := by rw [hR0]; exact ⟨rfl, rfl⟩
  have h := hf
  unfold f_X5_lay at h
  refine k_start (us := [(1, .inr (.inr (.inl (I 1)))), (2, .inr (.inr (.inl (I 2))))]) (k_ap_A (k_ap_A k_ap_0)) ?_
  show k_W X 6 0 0 _ ad (k_ap [(1, .inr (.inr (.inl (I 1)))), (2, .inr (.inr (.inl (I 2))))] (shPit, I, L, Rf)) 0 [some (.ref 0), some (.int x0), some (.int x1), some (.int x2), some (.int x3), none] []
  refine r_bipush (v := (8 : Int32)) C dX5_lay_0 (rfl : 0 + 2 = 2) rfl ?_
  refine r_iload_n C dX5_lay_2 (rfl : 2 + 1 = 3) rfl ?_
  refine r_imul C dX5_lay_3 (rfl : 3 + 1 = 4) ?_
  refine r_iload_n C dX5_lay_4 (rfl : 4 + 1 = 5) rfl ?_
  refine r_iadd C dX5_lay_5 (rfl : 5 + 1 = 6) ?_
  refine r_istore C dX5_lay_6 (rfl : 6 + 2 = 8) (by decide) (Nat.le_of_ble_eq_true rfl) ?_
  show k_W _ _ _ _ _ _ _ _ [some (.ref 0), some (.int x0), some (.int x1), some (.int x2), some (.int x3), some (.int (((8 : Int32) * x1) + x0))] _
  refine r_iload C dX5_lay_8 (rfl : 8 + 2 = 10) rfl ?_
  refine r_if_lt (tgt := 37) C dX5_lay_10 (by decide) (rfl : 10 + 3 = 13) (fun c10 => ?_) (fun c10 => ?_)
  · have h := k_t c10 h
    cases h
    exact r_vret C hr dX5_lay_37
  · have h := k_f c10 h
    refine r_iload C dX5_lay_13 (rfl : 13 + 2 = 15) rfl ?_
    refine r_bipush (v := (48 : Int32)) C dX5_lay_15 (rfl : 15 + 2 = 17) rfl ?_
    refine r_icmp_ge (tgt := 37) C dX5_lay_17 (by decide) (rfl : 17 + 3 = 20) (fun c17 => ?_) (fun c17 => ?_)
    · have h := k_t c17 h
      cases h
      exact r_vret C hr dX5_lay_37
    · have h := k_f c17 h
      refine r_aload_n C dX5_lay_20 (rfl : 20 + 1 = 21) rfl ?_
      refine r_getR (q := 1) C dX5_lay_21 (rfl : 21 + 3 = 24) fl_X5_9 rfl rfl ?_
      refine r_iload C dX5_lay_24 (rfl : 24 + 2 = 26) rfl ?_
      refine r_iload_n C dX5_lay_26 (rfl : 26 + 1 = 27) rfl ?_
      obtain ⟨hi27, h⟩ := k_i_of h
      refine s_i (j := ((((8 : Int32) * x1) + x0)).toNatClampNeg) (f := (I 1)) (us' := [(1, .inr (.inr (.inl (upd (I 1) (((((8 : Int32) * x1) + x0)).toNatClampNeg) x2)))), (2, .inr (.inr (.inl (I 2))))]) C dX5_lay_27 (rfl : 27 + 1 = 28) rfl rfl hi27 rfl ds_X5_lay rfl rfl rfl ?_
      refine r_aload_n C dX5_lay_28 (rfl : 28 + 1 = 29) rfl ?_
      refine r_getR (q := 2) C dX5_lay_29 (rfl : 29 + 3 = 32) fl_X5_15 rfl rfl ?_
      refine r_iload C dX5_lay_32 (rfl : 32 + 2 = 34) rfl ?_
      refine r_iload C dX5_lay_34 (rfl : 34 + 2 = 36) rfl ?_
      obtain ⟨hi36, h⟩ := k_i_of h
      refine s_i (j := ((((8 : Int32) * x1) + x0)).toNatClampNeg) (f := (I 2)) (us' := [(1, .inr (.inr (.inl (upd (I 1) (((((8 : Int32) * x1) + x0)).toNatClampNeg) x2)))), (2, .inr (.inr (.inl (upd (I 2) (((((8 : Int32) * x1) + x0)).toNatClampNeg) x3))))]) C dX5_lay_36 (rfl : 36 + 1 = 37) rfl rfl hi36 rfl ds_X5_lay rfl rfl rfl ?_
      cases h
      exact r_vret C hr dX5_lay_37
/-! LullabyPit$Pit.allBars()I -/
theorem ds_X5_allBars : k_ds [] = true := by decide
def bX5_allBars_4 (u : Nat) (a2 : (Nat → Int32)) : Nat → Int32 → Int32 → Option (Int32)
  | 0, _, _ => none
  | n + 1, v1, v2 => (if (48 : Int32) ≤ v2 then some v1 else k_i 48 v2 ((bX5_allBars_4 u a2 n (v1 + (a2 ((v2).toNatClampNeg))) (v2 + (1 : Int32)))))
set_option maxHeartbeats 400000 in
set_option maxRecDepth 100000 in
theorem sX5_allBars_4 (u : Nat) {X : k_X} {ad : Nat → Nat} (C : k_C X cX5_allBars RX5 3 ad) (hr : X.meth.sig.returnType = (some .int)) (hR : X.R.frames = 0 ∧ X.R.locals = 0) {I : Nat → Nat → Int32} {L : Nat → Nat → Int64} {Rf : Nat → Nat → Option Nat} {a2 : (Nat → Int32)} (ea2 : I 2 = a2) {out : Int32} : ∀ (n : Nat) (v1 : Int32) (v2 : Int32), bX5_allBars_4 u a2 n v1 v2 = some out → k_W X 3 0 0 (k_Q X ad (some (.int out)) (k_ap [] (shPit, I, L, Rf))) ad (k_ap [] (shPit, I, L, Rf)) 4 [some (.ref 0), some (.int v1), some (.int v2)] [] := by
  intro n
  induction n with
  | zero => intro v1 v2 h; cases h
  | succ n ih =>
    intro v1 v2 h
    refine r_iload_n C dX5_allBars_4 (rfl : 4 + 1 = 5) rfl ?_
    refine r_bipush (v := (48 : Int32)) C dX5_allBars_5 (rfl : 5 + 2 = 7) rfl ?_
    refine r_icmp_ge (tgt := 25) C dX5_allBars_7 (by decide) (rfl : 7 + 3 = 10) (fun c7 => ?_) (fun c7 => ?_)
    · have h := k_t c7 h
      refine r_iload_n C dX5_allBars_25 (rfl : 25 + 1 = 26) rfl ?_
      cases h
      exact r_iret C hr dX5_allBars_26
    · have h := k_f c7 h
      refine r_iload_n C dX5_allBars_10 (rfl : 10 + 1 = 11) rfl ?_
      refine r_aload_n C dX5_allBars_11 (rfl : 11 + 1 = 12) rfl ?_
      refine r_getR (q := 2) C dX5_allBars_12 (rfl : 12 + 3 = 15) fl_X5_15 rfl rfl ?_
      refine r_iload_n C dX5_allBars_15 (rfl : 15 + 1 = 16) rfl ?_
      obtain ⟨hi16, h⟩ := k_i_of h
      refine a_i (j := (v2).toNatClampNeg) (f := a2) C dX5_allBars_16 (rfl : 16 + 1 = 17) rfl ea2 hi16 rfl ?_
      refine r_iadd C dX5_allBars_17 (rfl : 17 + 1 = 18) ?_
      refine r_istore_n C dX5_allBars_18 (rfl : 18 + 1 = 19) (by decide) (Nat.le_of_ble_eq_true rfl) ?_
      show k_W _ _ _ _ _ _ _ _ [some (.ref 0), some (.int (v1 + (a2 ((v2).toNatClampNeg)))), some (.int v2)] _
      refine r_iinc (v := (v2 + (1 : Int32))) C dX5_allBars_19 (rfl : 19 + 3 = 22) rfl rfl (by decide) ?_
      show k_W _ _ _ _ _ _ _ _ [some (.ref 0), some (.int (v1 + (a2 ((v2).toNatClampNeg)))), some (.int (v2 + (1 : Int32)))] _
      refine r_goto (tgt := 4) C dX5_allBars_22 (by decide) ?_
      refine k_mask [true, true, true] ?_
      exact ih (v1 + (a2 ((v2).toNatClampNeg))) (v2 + (1 : Int32)) h
def f_X5_allBars (u : Nat) (a2 : (Nat → Int32)) : Option (Int32) := (bX5_allBars_4 u a2 u (0 : Int32) (0 : Int32))
set_option maxHeartbeats 400000 in
set_option maxRecDepth 100000 in
theorem c_X5_allBars (l : Launch) (u : Nat) (h : k_H) (hsh : h.1 = shPit) {a2 : (Nat → Int32)} (ea2 : h.2.1 2 = a2) {out : Int32} (hf : f_X5_allBars u a2 = some out) : k_CT l yX5_allBars cX5_allBars 3 (some .int) 0 0 [.ref 0] h (some (.int out)) [] := by
  obtain ⟨sh, I, L, Rf⟩ := h
  try dsimp only
  obtain rfl : sh = shPit := hsh
  refine k_ofW (by decide) (Nat.le_of_ble_eq_true rfl) ?_
  intro X ad hl hR0 hr C
  have hR : X.R.frames = 0 ∧ X.R.locals = 0 := by rw [hR0]; exact ⟨rfl, rfl⟩
  have h := hf
  unfold f_X5_allBars at h
  refine k_start (us := []) k_ap_0 ?_
  show k_W X 3 0 0 _ ad (k_ap [] (shPit, I, L, Rf)) 0 [some (.ref 0), none, none] []
  refine r_iconst (v := (0 : Int32)) C dX5_allBars_0 (rfl : 0 + 1 = 1) rfl ?_
  refine r_istore_n C dX5_allBars_1 (rfl : 1 + 1 = 2) (by decide) (Nat.le_of_ble_eq_true rfl) ?_
  show k_W _ _ _ _ _ _ _ _ [some (.ref 0), some (.int (0 : Int32)), none] _
  refine r_iconst (v := (0 : Int32)) C dX5_allBars_2 (rfl : 2 + 1 = 3) rfl ?_
  refine r_istore_n C dX5_allBars_3 (rfl : 3 + 1 = 4) (by decide) (Nat.le_of_ble_eq_true rfl) ?_
  show k_W _ _ _ _ _ _ _ _ [some (.ref 0), some (.int (0 : Int32)), some (.int (0 : Int32))] _
  refine k_mask [true, true, true] ?_
  exact sX5_allBars_4 u C hr hR ea2 u (0 : Int32) (0 : Int32) h
/-! LullabyPit$Pit.wanted(II)I -/
theorem ds_X5_wanted : k_ds [] = true := by decide
def bX5_wanted_50 (u : Nat) (c0_10 : Int32) (a5 : (Nat → Int32)) (a6 : (Nat → Int32)) (k17 : Int32 → Int32 → Int32 → Int32 → Option (Int32)) (v1 : Int32) (v2 : Int32) (v4 : Int32) (w0 : Int32) (w1 : Int32) : Option (Int32) := (k17 v1 v2 (w1 + w0) (v4 + (1 : Int32)))
set_option maxHeartbeats 400000 in
set_option maxRecDepth 100000 in
theorem sX5_wanted_50 (u : Nat) {X : k_X} {ad : Nat → Nat} (C : k_C X cX5_wanted RX5 5 ad) (hr : X.meth.sig.returnType = (some .int)) (hR : X.R.frames = 0 ∧ X.R.locals = 0) {I : Nat → Nat → Int32} {L : Nat → Nat → Int64} {Rf : Nat → Nat → Option Nat} {c0_10 : Int32} (ec0_10 : I 0 10 = c0_10) {a5 : (Nat → Int32)} (ea5 : I 5 = a5) {a6 : (Nat → Int32)} (ea6 : I 6 = a6) {out : Int32} {k17 : Int32 → Int32 → Int32 → Int32 → Option (Int32)} (hk17 : ∀ (v1 : Int32) (v2 : Int32) (v3 : Int32) (v4 : Int32), k17 v1 v2 v3 v4 = some out → k_W X 5 0 0 (k_Q X ad (some (.int out)) (k_ap [] (shPit, I, L, Rf))) ad (k_ap [] (shPit, I, L, Rf)) 17 [some (.ref 0), some (.int v1), some (.int v2), some (.int v3), some (.int v4)] []) : ∀ (v1 : Int32) (v2 : Int32) (v4 : Int32) (w0 : Int32) (w1 : Int32), bX5_wanted_50 u c0_10 a5 a6 k17 v1 v2 v4 w0 w1 = some out → k_W X 5 0 0 (k_Q X ad (some (.int out)) (k_ap [] (shPit, I, L, Rf))) ad (k_ap [] (shPit, I, L, Rf)) 50 [some (.ref 0), some (.int v1), some (.int v2), none, some (.int v4)] [.int w0, .int w1] := by
  intro v1 v2 v4 w0 w1 h
  unfold bX5_wanted_50 at h
  refine r_iadd C dX5_wanted_50 (rfl : 50 + 1 = 51) ?_
  refine r_istore_n C dX5_wanted_51 (rfl : 51 + 1 = 52) (by decide) (Nat.le_of_ble_eq_true rfl) ?_
  show k_W _ _ _ _ _ _ _ _ [some (.ref 0), some (.int v1), some (.int v2), some (.int (w1 + w0)), some (.int v4)] _
  refine r_iinc (v := (v4 + (1 : Int32))) C dX5_wanted_52 (rfl : 52 + 3 = 55) rfl rfl (by decide) ?_
  show k_W _ _ _ _ _ _ _ _ [some (.ref 0), some (.int v1), some (.int v2), some (.int (w1 + w0)), some (.int (v4 + (1 : Int32)))] _
  refine r_goto (tgt := 17) C dX5_wanted_55 (by decide) ?_
  refine k_mask [true, true, true, true, true] ?_
  exact hk17 v1 v2 (w1 + w0) (v4 + (1 : Int32)) h
def bX5_wanted_17 (u : Nat) (c0_10 : Int32) (a5 : (Nat → Int32)) (a6 : (Nat → Int32)) : Nat → Int32 → Int32 → Int32 → Int32 → Option (Int32)
  | 0, _, _, _, _ => none
  | n + 1, v1, v2, v3, v4 => k_i 6 v1 ((if (a5 ((v1).toNatClampNeg)) ≤ v4 then some v3 else k_i 48 ((v1 * (8 : Int32)) + v4) ((if (a6 ((((v1 * (8 : Int32)) + v4)).toNatClampNeg)) = v2 then (bX5_wanted_50 u c0_10 a5 a6 (bX5_wanted_17 u c0_10 a5 a6 n) v1 v2 v4 (1 : Int32) v3) else (bX5_wanted_50 u c0_10 a5 a6 (bX5_wanted_17 u c0_10 a5 a6 n) v1 v2 v4 (0 : Int32) v3)))))
set_option maxHeartbeats 400000 in
set_option maxRecDepth 100000 in
theorem sX5_wanted_17 (u : Nat) {X : k_X} {ad : Nat → Nat} (C : k_C X cX5_wanted RX5 5 ad) (hr : X.meth.sig.returnType = (some .int)) (hR : X.R.frames = 0 ∧ X.R.locals = 0) {I : Nat → Nat → Int32} {L : Nat → Nat → Int64} {Rf : Nat → Nat → Option Nat} {c0_10 : Int32} (ec0_10 : I 0 10 = c0_10) {a5 : (Nat → Int32)} (ea5 : I 5 = a5) {a6 : (Nat → Int32)} (ea6 : I 6 = a6) {out : Int32} : ∀ (n : Nat) (v1 : Int32) (v2 : Int32) (v3 : Int32) (v4 : Int32), bX5_wanted_17 u c0_10 a5 a6 n v1 v2 v3 v4 = some out → k_W X 5 0 0 (k_Q X ad (some (.int out)) (k_ap [] (shPit, I, L, Rf))) ad (k_ap [] (shPit, I, L, Rf)) 17 [some (.ref 0), some (.int v1), some (.int v2), some (.int v3), some (.int v4)] [] := by
  intro n
  induction n with
  | zero => intro v1 v2 v3 v4 h; cases h
  | succ n ih =>
    intro v1 v2 v3 v4 h
    refine r_iload C dX5_wanted_17 (rfl : 17 + 2 = 19) rfl ?_
    refine r_aload_n C dX5_wanted_19 (rfl : 19 + 1 = 20) rfl ?_
    refine r_getR (q := 5) C dX5_wanted_20 (rfl : 20 + 3 = 23) fl_X5_24 rfl rfl ?_
    refine r_iload_n C dX5_wanted_23 (rfl : 23 + 1 = 24) rfl ?_
    obtain ⟨hi24, h⟩ := k_i_of h
    refine a_i (j := (v1).toNatClampNeg) (f := a5) C dX5_wanted_24 (rfl : 24 + 1 = 25) rfl ea5 hi24 rfl ?_
    refine r_icmp_ge (tgt := 58) C dX5_wanted_25 (by decide) (rfl : 25 + 3 = 28) (fun c25 => ?_) (fun c25 => ?_)
    · have h := k_t c25 h
      refine r_iload_n C dX5_wanted_58 (rfl : 58 + 1 = 59) rfl ?_
      cases h
      exact r_iret C hr dX5_wanted_59
    · have h := k_f c25 h
      refine r_iload_n C dX5_wanted_28 (rfl : 28 + 1 = 29) rfl ?_
      refine r_aload_n C dX5_wanted_29 (rfl : 29 + 1 = 30) rfl ?_
      refine r_getR (q := 6) C dX5_wanted_30 (rfl : 30 + 3 = 33) fl_X5_27 rfl rfl ?_
      refine r_iload_n C dX5_wanted_33 (rfl : 33 + 1 = 34) rfl ?_
      refine r_bipush (v := (8 : Int32)) C dX5_wanted_34 (rfl : 34 + 2 = 36) rfl ?_
      refine r_imul C dX5_wanted_36 (rfl : 36 + 1 = 37) ?_
      refine r_iload C dX5_wanted_37 (rfl : 37 + 2 = 39) rfl ?_
      refine r_iadd C dX5_wanted_39 (rfl : 39 + 1 = 40) ?_
      obtain ⟨hi40, h⟩ := k_i_of h
      refine a_i (j := (((v1 * (8 : Int32)) + v4)).toNatClampNeg) (f := a6) C dX5_wanted_40 (rfl : 40 + 1 = 41) rfl ea6 hi40 rfl ?_
      refine r_iload_n C dX5_wanted_41 (rfl : 41 + 1 = 42) rfl ?_
      refine r_icmp_ne (tgt := 49) C dX5_wanted_42 (by decide) (rfl : 42 + 3 = 45) (fun c42 => ?_) (fun c42 => ?_)
      · have h := k_f c42 h
        refine r_iconst (v := (0 : Int32)) C dX5_wanted_49 (rfl : 49 + 1 = 50) rfl ?_
        refine k_mask [true, true, true, false, true] ?_
        exact sX5_wanted_50 u C hr hR ec0_10 ea5 ea6 ih v1 v2 v4 (0 : Int32) v3 h
      · have h := k_t c42 h
        refine r_iconst (v := (1 : Int32)) C dX5_wanted_45 (rfl : 45 + 1 = 46) rfl ?_
        refine r_goto (tgt := 50) C dX5_wanted_46 (by decide) ?_
        refine k_mask [true, true, true, false, true] ?_
        exact sX5_wanted_50 u C hr hR ec0_10 ea5 ea6 ih v1 v2 v4 (1 : Int32) v3 h
def f_X5_wanted (u : Nat) (c0_10 : Int32) (a5 : (Nat → Int32)) (a6 : (Nat → Int32)) (x0 : Int32) (x1 : Int32) : Option (Int32) := (if x0 < (0 : Int32) then some (0 : Int32) else (if c0_10 ≤ x0 then some (0 : Int32) else (bX5_wanted_17 u c0_10 a5 a6 u x0 x1 (0 : Int32) (0 : Int32))))
set_option maxHeartbeats 400000 in
set_option maxRecDepth 100000 in
theorem c_X5_wanted (l : Launch) (u : Nat) (h : k_H) (hsh : h.1 = shPit) {c0_10 : Int32} (ec0_10 : h.2.1 0 10 = c0_10) {a5 : (Nat → Int32)} (ea5 : h.2.1 5 = a5) {a6 : (Nat → Int32)} (ea6 : h.2.1 6 = a6) {x0 : Int32} {x1 : Int32} {out : Int32} (hf : f_X5_wanted u c0_10 a5 a6 x0 x1 = some out) : k_CT l yX5_wanted cX5_wanted 5 (some .int) 0 0 [.ref 0, .int x0, .int x1] h (some (.int out)) [] := by
  obtain ⟨sh, I, L, Rf⟩ := h
  try dsimp only
  obtain rfl : sh = shPit := hsh
  refine k_ofW (by decide) (Nat.le_of_ble_eq_true rfl) ?_
  intro X ad hl hR0 hr C
  have hR : X.R.frames = 0 ∧ X.R.locals = 0 := by rw [hR0]; exact ⟨rfl, rfl⟩
  have h := hf
  unfold f_X5_wanted at h
  refine k_start (us := []) k_ap_0 ?_
  show k_W X 5 0 0 _ ad (k_ap [] (shPit, I, L, Rf)) 0 [some (.ref 0), some (.int x0), some (.int x1), none, none] []
  refine r_iconst (v := (0 : Int32)) C dX5_wanted_0 (rfl : 0 + 1 = 1) rfl ?_
  refine r_istore_n C dX5_wanted_1 (rfl : 1 + 1 = 2) (by decide) (Nat.le_of_ble_eq_true rfl) ?_
  show k_W _ _ _ _ _ _ _ _ [some (.ref 0), some (.int x0), some (.int x1), some (.int (0 : Int32)), none] _
  refine r_iload_n C dX5_wanted_2 (rfl : 2 + 1 = 3) rfl ?_
  refine r_if_lt (tgt := 58) C dX5_wanted_3 (by decide) (rfl : 3 + 3 = 6) (fun c3 => ?_) (fun c3 => ?_)
  · have h := k_t c3 h
    refine r_iload_n C dX5_wanted_58 (rfl : 58 + 1 = 59) rfl ?_
    cases h
    exact r_iret C hr dX5_wanted_59
  · have h := k_f c3 h
    refine r_iload_n C dX5_wanted_6 (rfl : 6 + 1 = 7) rfl ?_
    refine r_aload_n C dX5_wanted_7 (rfl : 7 + 1 = 8) rfl ?_
    refine r_getI (v := c0_10) C dX5_wanted_8 (rfl : 8 + 3 = 11) fl_X5_62 rfl rfl ec0_10 ?_
    refine r_icmp_ge (tgt := 58) C dX5_wanted_11 (by decide) (rfl : 11 + 3 = 14) (fun c11 => ?_) (fun c11 => ?_)
    · have h := k_t c11 h
      refine r_iload_n C dX5_wanted_58 (rfl : 58 + 1 = 59) rfl ?_
      cases h
      exact r_iret C hr dX5_wanted_59
    · have h := k_f c11 h
      refine r_iconst (v := (0 : Int32)) C dX5_wanted_14 (rfl : 14 + 1 = 15) rfl ?_
      refine r_istore C dX5_wanted_15 (rfl : 15 + 2 = 17) (by decide) (Nat.le_of_ble_eq_true rfl) ?_
      show k_W _ _ _ _ _ _ _ _ [some (.ref 0), some (.int x0), some (.int x1), some (.int (0 : Int32)), some (.int (0 : Int32))] _
      refine k_mask [true, true, true, true, true] ?_
      exact sX5_wanted_17 u C hr hR ec0_10 ea5 ea6 u x0 x1 (0 : Int32) (0 : Int32) h
/-! LullabyPit$Pit.orderWorth(I)I -/
theorem ds_X5_orderWorth : k_ds [] = true := by decide
def bX5_orderWorth_4 (u : Nat) (c0_10 : Int32) (a3 : (Nat → Int32)) (a5 : (Nat → Int32)) (a6 : (Nat → Int32)) : Nat → Int32 → Int32 → Int32 → Option (Int32)
  | 0, _, _, _ => none
  | n + 1, v1, v2, v3 => (if (4 : Int32) < v3 then some v2 else k_b (f_X5_wanted u c0_10 a5 a6 v1 v3) (fun r13 => k_i 6 v3 ((bX5_orderWorth_4 u c0_10 a3 a5 a6 n v1 (v2 + (r13 * (a3 ((v3).toNatClampNeg)))) (v3 + (1 : Int32))))))
set_option maxHeartbeats 400000 in
set_option maxRecDepth 100000 in
theorem sX5_orderWorth_4 (u : Nat) {X : k_X} {ad : Nat → Nat} (C : k_C X cX5_orderWorth RX5 4 ad) (hr : X.meth.sig.returnType = (some .int)) (hR : X.R.frames = 1 ∧ X.R.locals = 24) {I : Nat → Nat → Int32} {L : Nat → Nat → Int64} {Rf : Nat → Nat → Option Nat} {c0_10 : Int32} (ec0_10 : I 0 10 = c0_10) {a3 : (Nat → Int32)} (ea3 : I 3 = a3) {a5 : (Nat → Int32)} (ea5 : I 5 = a5) {a6 : (Nat → Int32)} (ea6 : I 6 = a6) {out : Int32} : ∀ (n : Nat) (v1 : Int32) (v2 : Int32) (v3 : Int32), bX5_orderWorth_4 u c0_10 a3 a5 a6 n v1 v2 v3 = some out → k_W X 4 0 0 (k_Q X ad (some (.int out)) (k_ap [] (shPit, I, L, Rf))) ad (k_ap [] (shPit, I, L, Rf)) 4 [some (.ref 0), some (.int v1), some (.int v2), some (.int v3)] [] := by
  intro n
  induction n with
  | zero => intro v1 v2 v3 h; cases h
  | succ n ih =>
    intro v1 v2 v3 h
    refine r_iload_n C dX5_orderWorth_4 (rfl : 4 + 1 = 5) rfl ?_
    refine r_iconst (v := (4 : Int32)) C dX5_orderWorth_5 (rfl : 5 + 1 = 6) rfl ?_
    refine r_icmp_gt (tgt := 31) C dX5_orderWorth_6 (by decide) (rfl : 6 + 3 = 9) (fun c6 => ?_) (fun c6 => ?_)
    · have h := k_t c6 h
      refine r_iload_n C dX5_orderWorth_31 (rfl : 31 + 1 = 32) rfl ?_
      cases h
      exact r_iret C hr dX5_orderWorth_32
    · have h := k_f c6 h
      refine r_iload_n C dX5_orderWorth_9 (rfl : 9 + 1 = 10) rfl ?_
      refine r_aload_n C dX5_orderWorth_10 (rfl : 10 + 1 = 11) rfl ?_
      refine r_iload_n C dX5_orderWorth_11 (rfl : 11 + 1 = 12) rfl ?_
      refine r_iload_n C dX5_orderWorth_12 (rfl : 12 + 1 = 13) rfl ?_
      obtain ⟨r13, q13, h⟩ := k_b_of h
      refine d_V (As := [.int v1, .int v3]) (st := [.int v2]) (st' := [.int r13, .int v2]) (h' := k_ap [] (shPit, I, L, Rf)) C hR ⟨Nat.zero_le _, Nat.zero_le _⟩ mv_X5_wanted lk_X5_141 dX5_orderWorth_13 (rfl : 13 + 3 = 16) rfl rfl rfl rfl (c_X5_wanted X.l u (k_ap [] (shPit, I, L, Rf)) rfl ec0_10 ea5 ea6 q13) rfl rfl rfl rfl rfl ?_
      refine r_aload_n C dX5_orderWorth_16 (rfl : 16 + 1 = 17) rfl ?_
      refine r_getR (q := 3) C dX5_orderWorth_17 (rfl : 17 + 3 = 20) fl_X5_18 rfl rfl ?_
      refine r_iload_n C dX5_orderWorth_20 (rfl : 20 + 1 = 21) rfl ?_
      obtain ⟨hi21, h⟩ := k_i_of h
      refine a_i (j := (v3).toNatClampNeg) (f := a3) C dX5_orderWorth_21 (rfl : 21 + 1 = 22) rfl ea3 hi21 rfl ?_
      refine r_imul C dX5_orderWorth_22 (rfl : 22 + 1 = 23) ?_
      refine r_iadd C dX5_orderWorth_23 (rfl : 23 + 1 = 24) ?_
      refine r_istore_n C dX5_orderWorth_24 (rfl : 24 + 1 = 25) (by decide) (Nat.le_of_ble_eq_true rfl) ?_
      show k_W _ _ _ _ _ _ _ _ [some (.ref 0), some (.int v1), some (.int (v2 + (r13 * (a3 ((v3).toNatClampNeg))))), some (.int v3)] _
      refine r_iinc (v := (v3 + (1 : Int32))) C dX5_orderWorth_25 (rfl : 25 + 3 = 28) rfl rfl (by decide) ?_
      show k_W _ _ _ _ _ _ _ _ [some (.ref 0), some (.int v1), some (.int (v2 + (r13 * (a3 ((v3).toNatClampNeg))))), some (.int (v3 + (1 : Int32)))] _
      refine r_goto (tgt := 4) C dX5_orderWorth_28 (by decide) ?_
      refine k_mask [true, true, true, true] ?_
      exact ih v1 (v2 + (r13 * (a3 ((v3).toNatClampNeg)))) (v3 + (1 : Int32)) h
def f_X5_orderWorth (u : Nat) (c0_10 : Int32) (a3 : (Nat → Int32)) (a5 : (Nat → Int32)) (a6 : (Nat → Int32)) (x0 : Int32) : Option (Int32) := (bX5_orderWorth_4 u c0_10 a3 a5 a6 u x0 (0 : Int32) (1 : Int32))
set_option maxHeartbeats 400000 in
set_option maxRecDepth 100000 in
theorem c_X5_orderWorth (l : Launch) (u : Nat) (h : k_H) (hsh : h.1 = shPit) {c0_10 : Int32} (ec0_10 : h.2.1 0 10 = c0_10) {a3 : (Nat → Int32)} (ea3 : h.2.1 3 = a3) {a5 : (Nat → Int32)} (ea5 : h.2.1 5 = a5) {a6 : (Nat → Int32)} (ea6 : h.2.1 6 = a6) {x0 : Int32} {out : Int32} (hf : f_X5_orderWorth u c0_10 a3 a5 a6 x0 = some out) : k_CT l yX5_orderWorth cX5_orderWorth 4 (some .int) 1 24 [.ref 0, .int x0] h (some (.int out)) [] := by
  obtain ⟨sh, I, L, Rf⟩ := h
  try dsimp only
  obtain rfl : sh = shPit := hsh
  refine k_ofW (by decide) (Nat.le_of_ble_eq_true rfl) ?_
  intro X ad hl hR0 hr C
  have hR : X.R.frames = 1 ∧ X.R.locals = 24 := by rw [hR0]; exact ⟨rfl, rfl⟩
  have h := hf
  unfold f_X5_orderWorth at h
  refine k_start (us := []) k_ap_0 ?_
  show k_W X 4 0 0 _ ad (k_ap [] (shPit, I, L, Rf)) 0 [some (.ref 0), some (.int x0), none, none] []
  refine r_iconst (v := (0 : Int32)) C dX5_orderWorth_0 (rfl : 0 + 1 = 1) rfl ?_
  refine r_istore_n C dX5_orderWorth_1 (rfl : 1 + 1 = 2) (by decide) (Nat.le_of_ble_eq_true rfl) ?_
  show k_W _ _ _ _ _ _ _ _ [some (.ref 0), some (.int x0), some (.int (0 : Int32)), none] _
  refine r_iconst (v := (1 : Int32)) C dX5_orderWorth_2 (rfl : 2 + 1 = 3) rfl ?_
  refine r_istore_n C dX5_orderWorth_3 (rfl : 3 + 1 = 4) (by decide) (Nat.le_of_ble_eq_true rfl) ?_
  show k_W _ _ _ _ _ _ _ _ [some (.ref 0), some (.int x0), some (.int (0 : Int32)), some (.int (1 : Int32))] _
  refine k_mask [true, true, true, true] ?_
  exact sX5_orderWorth_4 u C hr hR ec0_10 ea3 ea5 ea6 u x0 (0 : Int32) (1 : Int32) h
/-! LullabyPit$Pit.kindAbove(I)I -/
theorem ds_X5_kindAbove : k_ds [] = true := by decide
def f_X5_kindAbove (u : Nat) (a1 : (Nat → Int32)) (x0 : Int32) : Option (Int32) := (if x0 < (8 : Int32) then some (0 : Int32) else (if (48 : Int32) ≤ x0 then some (0 : Int32) else k_i 48 (x0 - (8 : Int32)) (some (a1 (((x0 - (8 : Int32))).toNatClampNeg)))))
set_option maxHeartbeats 400000 in
set_option maxRecDepth 100000 in
theorem c_X5_kindAbove (l : Launch) (u : Nat) (h : k_H) (hsh : h.1 = shPit) {a1 : (Nat → Int32)} (ea1 : h.2.1 1 = a1) {x0 : Int32} {out : Int32} (hf : f_X5_kindAbove u a1 x0 = some out) : k_CT l yX5_kindAbove cX5_kindAbove 2 (some .int) 0 0 [.ref 0, .int x0] h (some (.int out)) [] := by
  obtain ⟨sh, I, L, Rf⟩ := h
  try dsimp only
  obtain rfl : sh = shPit := hsh
  refine k_ofW (by decide) (Nat.le_of_ble_eq_true rfl) ?_
  intro X ad hl hR0 hr C
  have hR : X.R.frames = 0 ∧ X.R.locals = 0 := by rw [hR0]; exact ⟨rfl, rfl⟩
  have h := hf
  unfold f_X5_kindAbove at h
  refine k_start (us := []) k_ap_0 ?_
  show k_W X 2 0 0 _ ad (k_ap [] (shPit, I, L, Rf)) 0 [some (.ref 0), some (.int x0)] []
  refine r_iload_n C dX5_kindAbove_0 (rfl : 0 + 1 = 1) rfl ?_
  refine r_bipush (v := (8 : Int32)) C dX5_kindAbove_1 (rfl : 1 + 2 = 3) rfl ?_
  refine r_icmp_lt (tgt := 24) C dX5_kindAbove_3 (by decide) (rfl : 3 + 3 = 6) (fun c3 => ?_) (fun c3 => ?_)
  · have h := k_t c3 h
    refine r_iconst (v := (0 : Int32)) C dX5_kindAbove_24 (rfl : 24 + 1 = 25) rfl ?_
    cases h
    exact r_iret C hr dX5_kindAbove_25
  · have h := k_f c3 h
    refine r_iload_n C dX5_kindAbove_6 (rfl : 6 + 1 = 7) rfl ?_
    refine r_bipush (v := (48 : Int32)) C dX5_kindAbove_7 (rfl : 7 + 2 = 9) rfl ?_
    refine r_icmp_ge (tgt := 24) C dX5_kindAbove_9 (by decide) (rfl : 9 + 3 = 12) (fun c9 => ?_) (fun c9 => ?_)
    · have h := k_t c9 h
      refine r_iconst (v := (0 : Int32)) C dX5_kindAbove_24 (rfl : 24 + 1 = 25) rfl ?_
      cases h
      exact r_iret C hr dX5_kindAbove_25
    · have h := k_f c9 h
      refine r_aload_n C dX5_kindAbove_12 (rfl : 12 + 1 = 13) rfl ?_
      refine r_getR (q := 1) C dX5_kindAbove_13 (rfl : 13 + 3 = 16) fl_X5_9 rfl rfl ?_
      refine r_iload_n C dX5_kindAbove_16 (rfl : 16 + 1 = 17) rfl ?_
      refine r_bipush (v := (8 : Int32)) C dX5_kindAbove_17 (rfl : 17 + 2 = 19) rfl ?_
      refine r_isub C dX5_kindAbove_19 (rfl : 19 + 1 = 20) ?_
      obtain ⟨hi20, h⟩ := k_i_of h
      refine a_i (j := ((x0 - (8 : Int32))).toNatClampNeg) (f := a1) C dX5_kindAbove_20 (rfl : 20 + 1 = 21) rfl ea1 hi20 rfl ?_
      refine r_goto (tgt := 25) C dX5_kindAbove_21 (by decide) ?_
      cases h
      exact r_iret C hr dX5_kindAbove_25
/-! LullabyPit$Pit.readSize(LLullabyPit$Tape;I)V -/
theorem ds_X5_readSize : k_ds [(0, 0, 0), (0, 0, 1), (7, 0, 3), (7, 0, 4), (7, 0, 5), (7, 0, 6)] = true := by decide
def f_X5_readSize (u : Nat) (c0_0 : Int32) (c0_1 : Int32) (c7_2 : Int32) (c7_3 : Int32) (c7_4 : Int32) (c7_5 : Int32) (c7_6 : Int32) (a8 : (Nat → Int32)) (x1 : Int32) : Option (Int32 × Int32 × Int32 × Int32 × Int32 × Int32) := (if x1 ≤ (0 : Int32) then k_b (f_X8_number u c7_2 c7_3 c7_4 c7_5 c7_6 a8 (1 : Int32) (8 : Int32)) (fun r19 => k_b (f_X8_number u c7_2 r19.2.1 r19.2.2.1 r19.2.2.2.1 r19.2.2.2.2 a8 (1 : Int32) (6 : Int32)) (fun r30 => some (r19.1, r30.1, r30.2.1, r30.2.2.1, r30.2.2.2.1, r30.2.2.2.2))) else k_b (f_X8_fail u c7_5 c7_6 (4 : Int32) c7_4) (fun r10 => some (c0_0, c0_1, c7_3, c7_4, r10.1, r10.2)))
set_option maxHeartbeats 400000 in
set_option maxRecDepth 100000 in
theorem c_X5_readSize (l : Launch) (u : Nat) (h : k_H) (hsh : h.1 = shPitTape) {c0_0 : Int32} (ec0_0 : h.2.1 0 0 = c0_0) {c0_1 : Int32} (ec0_1 : h.2.1 0 1 = c0_1) {c7_2 : Int32} (ec7_2 : h.2.1 7 2 = c7_2) {c7_3 : Int32} (ec7_3 : h.2.1 7 3 = c7_3) {c7_4 : Int32} (ec7_4 : h.2.1 7 4 = c7_4) {c7_5 : Int32} (ec7_5 : h.2.1 7 5 = c7_5) {c7_6 : Int32} (ec7_6 : h.2.1 7 6 = c7_6) {a8 : (Nat → Int32)} (ea8 : h.2.1 8 = a8) {x1 : Int32} {out : Int32 × Int32 × Int32 × Int32 × Int32 × Int32} (hf : f_X5_readSize u c0_0 c0_1 c7_2 c7_3 c7_4 c7_5 c7_6 a8 x1 = some out) : k_CT l yX5_readSize cX5_readSize 3 none 2 45 [.ref 0, .ref 7, .int x1] h none [(0, .inl (0, out.1)), (0, .inl (1, out.2.1)), (7, .inl (3, out.2.2.1)), (7, .inl (4, out.2.2.2.1)), (7, .inl (5, out.2.2.2.2.1)), (7, .inl (6, out.2.2.2.2.2))] := by
  obtain ⟨sh, I, L, Rf⟩ := h
  try dsimp only
  obtain rfl : sh = shPitTape := hsh
  obtain rfl := ec0_0
  obtain rfl := ec0_1
  obtain rfl := ec7_3
  obtain rfl := ec7_4
  obtain rfl := ec7_5
  obtain rfl := ec7_6
  refine k_ofW (by decide) (Nat.le_of_ble_eq_true rfl) ?_
  intro X ad hl hR0 hr C
  have hR : X.R.frames = 2 ∧ X.R.locals = 45 := by rw [hR0]; exact ⟨rfl, rfl⟩
  have h := hf
  unfold f_X5_readSize at h
  refine k_start (us := [(0, .inl (0, I 0 0)), (0, .inl (1, I 0 1)), (7, .inl (3, I 7 3)), (7, .inl (4, I 7 4)), (7, .inl (5, I 7 5)), (7, .inl (6, I 7 6))]) (k_ap_I (k_ap_I (k_ap_I (k_ap_I (k_ap_I (k_ap_I k_ap_0)))))) ?_
  show k_W X 3 0 0 _ ad (k_ap [(0, .inl (0, I 0 0)), (0, .inl (1, I 0 1)), (7, .inl (3, I 7 3)), (7, .inl (4, I 7 4)), (7, .inl (5, I 7 5)), (7, .inl (6, I 7 6))] (shPitTape, I, L, Rf)) 0 [some (.ref 0), some (.ref 7), some (.int x1)] []
  refine r_iload_n C dX5_readSize_0 (rfl : 0 + 1 = 1) rfl ?_
  refine r_if_le (tgt := 14) C dX5_readSize_1 (by decide) (rfl : 1 + 3 = 4) (fun c1 => ?_) (fun c1 => ?_)
  · have h := k_t c1 h
    refine r_aload_n C dX5_readSize_14 (rfl : 14 + 1 = 15) rfl ?_
    refine r_aload_n C dX5_readSize_15 (rfl : 15 + 1 = 16) rfl ?_
    refine r_iconst (v := (1 : Int32)) C dX5_readSize_16 (rfl : 16 + 1 = 17) rfl ?_
    refine r_bipush (v := (8 : Int32)) C dX5_readSize_17 (rfl : 17 + 2 = 19) rfl ?_
    obtain ⟨r19, q19, h⟩ := k_b_of h
    refine d_Vp (pi := [7, 8]) (shl := shTape) (bl := 0) (As := [.int (1 : Int32), .int (8 : Int32)]) (Al := [.int (1 : Int32), .int (8 : Int32)]) (st := [.ref 0]) (st' := [.int r19.1, .ref 0]) (h' := k_ap [(0, .inl (0, (I 0 0))), (0, .inl (1, (I 0 1))), (7, .inl (3, r19.2.1)), (7, .inl (4, r19.2.2.1)), (7, .inl (5, r19.2.2.2.1)), (7, .inl (6, r19.2.2.2.2))] (shPitTape, I, L, Rf)) C hR ⟨Nat.zero_le _, Nat.zero_le _⟩ mv_X8_number lk_X5_117 dX5_readSize_19 (rfl : 19 + 3 = 22) rfl rfl ck_shPitTape_shTape_7 rfl rfl (c_X8_number X.l u (k_pl [7, 8] shTape (k_ap [(0, .inl (0, (I 0 0))), (0, .inl (1, (I 0 1))), (7, .inl (3, (I 7 3))), (7, .inl (4, (I 7 4))), (7, .inl (5, (I 7 5))), (7, .inl (6, (I 7 6)))] (shPitTape, I, L, Rf))) rfl ec7_2 rfl rfl rfl rfl ea8 q19) rfl (fun _ => rfl) rfl (fun _ => rfl) rfl rfl rfl (k_jn (us' := [(0, .inl (0, (I 0 0))), (0, .inl (1, (I 0 1))), (7, .inl (3, r19.2.1)), (7, .inl (4, r19.2.2.1)), (7, .inl (5, r19.2.2.2.1)), (7, .inl (6, r19.2.2.2.2))]) ds_X5_readSize rfl rfl rfl) rfl ?_
    refine p_I (us' := [(0, .inl (0, r19.1)), (0, .inl (1, (I 0 1))), (7, .inl (3, r19.2.1)), (7, .inl (4, r19.2.2.1)), (7, .inl (5, r19.2.2.2.1)), (7, .inl (6, r19.2.2.2.2))]) C dX5_readSize_22 (rfl : 22 + 3 = 25) fp_X5_36 rfl rfl ds_X5_readSize rfl rfl rfl ?_
    refine r_aload_n C dX5_readSize_25 (rfl : 25 + 1 = 26) rfl ?_
    refine r_aload_n C dX5_readSize_26 (rfl : 26 + 1 = 27) rfl ?_
    refine r_iconst (v := (1 : Int32)) C dX5_readSize_27 (rfl : 27 + 1 = 28) rfl ?_
    refine r_bipush (v := (6 : Int32)) C dX5_readSize_28 (rfl : 28 + 2 = 30) rfl ?_
    obtain ⟨r30, q30, h⟩ := k_b_of h
    refine d_Vp (pi := [7, 8]) (shl := shTape) (bl := 0) (As := [.int (1 : Int32), .int (6 : Int32)]) (Al := [.int (1 : Int32), .int (6 : Int32)]) (st := [.ref 0]) (st' := [.int r30.1, .ref 0]) (h' := k_ap [(0, .inl (0, r19.1)), (0, .inl (1, (I 0 1))), (7, .inl (3, r30.2.1)), (7, .inl (4, r30.2.2.1)), (7, .inl (5, r30.2.2.2.1)), (7, .inl (6, r30.2.2.2.2))] (shPitTape, I, L, Rf)) C hR ⟨Nat.zero_le _, Nat.zero_le _⟩ mv_X8_number lk_X5_117 dX5_readSize_30 (rfl : 30 + 3 = 33) rfl rfl ck_shPitTape_shTape_7 rfl rfl (c_X8_number X.l u (k_pl [7, 8] shTape (k_ap [(0, .inl (0, r19.1)), (0, .inl (1, (I 0 1))), (7, .inl (3, r19.2.1)), (7, .inl (4, r19.2.2.1)), (7, .inl (5, r19.2.2.2.1)), (7, .inl (6, r19.2.2.2.2))] (shPitTape, I, L, Rf))) rfl ec7_2 rfl rfl rfl rfl ea8 q30) rfl (fun _ => rfl) rfl (fun _ => rfl) rfl rfl rfl (k_jn (us' := [(0, .inl (0, r19.1)), (0, .inl (1, (I 0 1))), (7, .inl (3, r30.2.1)), (7, .inl (4, r30.2.2.1)), (7, .inl (5, r30.2.2.2.1)), (7, .inl (6, r30.2.2.2.2))]) ds_X5_readSize rfl rfl rfl) rfl ?_
    refine p_I (us' := [(0, .inl (0, r19.1)), (0, .inl (1, r30.1)), (7, .inl (3, r30.2.1)), (7, .inl (4, r30.2.2.1)), (7, .inl (5, r30.2.2.2.1)), (7, .inl (6, r30.2.2.2.2))]) C dX5_readSize_33 (rfl : 33 + 3 = 36) fp_X5_40 rfl rfl ds_X5_readSize rfl rfl rfl ?_
    cases h
    exact r_vret C hr dX5_readSize_36
  · have h := k_f c1 h
    refine r_aload_n C dX5_readSize_4 (rfl : 4 + 1 = 5) rfl ?_
    refine r_iconst (v := (4 : Int32)) C dX5_readSize_5 (rfl : 5 + 1 = 6) rfl ?_
    refine r_aload_n C dX5_readSize_6 (rfl : 6 + 1 = 7) rfl ?_
    refine r_getI (v := (I 7 4)) C dX5_readSize_7 (rfl : 7 + 3 = 10) fl_X5_94 rfl rfl rfl ?_
    obtain ⟨r10, q10, h⟩ := k_b_of h
    refine d_Vp (pi := [7, 8]) (shl := shTape) (bl := 0) (As := [.int (4 : Int32), .int (I 7 4)]) (Al := [.int (4 : Int32), .int (I 7 4)]) (st := []) (st' := []) (h' := k_ap [(0, .inl (0, (I 0 0))), (0, .inl (1, (I 0 1))), (7, .inl (3, (I 7 3))), (7, .inl (4, (I 7 4))), (7, .inl (5, r10.1)), (7, .inl (6, r10.2))] (shPitTape, I, L, Rf)) C hR ⟨Nat.zero_le _, Nat.zero_le _⟩ mv_X8_fail lk_X5_97 dX5_readSize_10 (rfl : 10 + 3 = 13) rfl rfl ck_shPitTape_shTape_7 rfl rfl (c_X8_fail X.l u (k_pl [7, 8] shTape (k_ap [(0, .inl (0, (I 0 0))), (0, .inl (1, (I 0 1))), (7, .inl (3, (I 7 3))), (7, .inl (4, (I 7 4))), (7, .inl (5, (I 7 5))), (7, .inl (6, (I 7 6)))] (shPitTape, I, L, Rf))) rfl rfl rfl q10) rfl (fun _ => rfl) rfl (fun _ => rfl) rfl rfl rfl (k_jn (us' := [(0, .inl (0, (I 0 0))), (0, .inl (1, (I 0 1))), (7, .inl (3, (I 7 3))), (7, .inl (4, (I 7 4))), (7, .inl (5, r10.1)), (7, .inl (6, r10.2))]) ds_X5_readSize rfl rfl rfl) rfl ?_
    cases h
    exact r_vret C hr dX5_readSize_13
