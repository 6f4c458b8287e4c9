/-! LullabyPit$Pit.copyFrom(LLullabyPit$Pit;)V -/
theorem ds_X5_copyFrom : k_ds [(0, 0, 0), (0, 0, 1), (0, 0, 7), (0, 0, 8), (0, 0, 9), (0, 0, 10), (0, 1, 5), (0, 1, 6), (1, 2, 0), (2, 2, 0), (3, 2, 0), (4, 2, 0), (5, 2, 0), (6, 2, 0)] = true := by decide
def bX5_copyFrom_0 (u : Nat) (c7_0 : Int32) (c7_1 : Int32) (c7_7 : Int32) (c7_8 : Int32) (c7_9 : Int32) (c7_10 : Int32) (c7_5 : Int64) (c7_6 : Int64) (a8 : (Nat → Int32)) (a9 : (Nat → Int32)) (a10 : (Nat → Int32)) (a11 : (Nat → Int32)) (a12 : (Nat → Int32)) (a13 : (Nat → Int32)) (c0_0 : Int32) (c0_1 : Int32) (c0_7 : Int32) (c0_8 : Int32) (c0_9 : Int32) (c0_10 : Int32) (c0_5 : Int64) (c0_6 : Int64) (a1 : (Nat → Int32)) (a2 : (Nat → Int32)) (a3 : (Nat → Int32)) (a4 : (Nat → Int32)) (a5 : (Nat → Int32)) (a6 : (Nat → Int32)) : Option (Int32 × Int32 × Int32 × Int32 × Int32 × Int32 × Int64 × Int64 × (Nat → Int32) × (Nat → Int32) × (Nat → Int32) × (Nat → Int32) × (Nat → Int32) × (Nat → Int32)) := some (c7_0, c7_1, c7_7, c7_8, c7_9, c7_10, c7_5, c7_6, (va_cpy a8 a1 0 0 48), (va_cpy a9 a2 0 0 48), (va_cpy a10 a3 0 0 6), (va_cpy a11 a4 0 0 6), (va_cpy a12 a5 0 0 6), (va_cpy a13 a6 0 0 48))
set_option maxHeartbeats 400000 in
set_option maxRecDepth 100000 in
theorem sX5_copyFrom_0 (u : Nat) {X : k_X} {ad : Nat → Nat} (C : k_C X cX5_copyFrom RX5 2 ad) (hr : X.meth.sig.returnType = none) (hR : X.R.frames = 1 ∧ X.R.locals = 40) {I : Nat → Nat → Int32} {L : Nat → Nat → Int64} {Rf : Nat → Nat → Option Nat} {c7_0 : Int32} (ec7_0 : I 7 0 = c7_0) {c7_1 : Int32} (ec7_1 : I 7 1 = c7_1) {c7_7 : Int32} (ec7_7 : I 7 7 = c7_7) {c7_8 : Int32} (ec7_8 : I 7 8 = c7_8) {c7_9 : Int32} (ec7_9 : I 7 9 = c7_9) {c7_10 : Int32} (ec7_10 : I 7 10 = c7_10) {c7_5 : Int64} (ec7_5 : L 7 5 = c7_5) {c7_6 : Int64} (ec7_6 : L 7 6 = c7_6) {a8 : (Nat → Int32)} (ea8 : I 8 = a8) {a9 : (Nat → Int32)} (ea9 : I 9 = a9) {a10 : (Nat → Int32)} (ea10 : I 10 = a10) {a11 : (Nat → Int32)} (ea11 : I 11 = a11) {a12 : (Nat → Int32)} (ea12 : I 12 = a12) {a13 : (Nat → Int32)} (ea13 : I 13 = a13) {out : Int32 × Int32 × Int32 × Int32 × Int32 × Int32 × Int64 × Int64 × (Nat → Int32) × (Nat → Int32) × (Nat → Int32) × (Nat → Int32) × (Nat → Int32) × (Nat → Int32)} : ∀ (c0_0 : Int32) (c0_1 : Int32) (c0_7 : Int32) (c0_8 : Int32) (c0_9 : Int32) (c0_10 : Int32) (c0_5 : Int64) (c0_6 : Int64) (a1 : (Nat → Int32)) (a2 : (Nat → Int32)) (a3 : (Nat → Int32)) (a4 : (Nat → Int32)) (a5 : (Nat → Int32)) (a6 : (Nat → Int32)), bX5_copyFrom_0 u c7_0 c7_1 c7_7 c7_8 c7_9 c7_10 c7_5 c7_6 a8 a9 a10 a11 a12 a13 c0_0 c0_1 c0_7 c0_8 c0_9 c0_10 c0_5 c0_6 a1 a2 a3 a4 a5 a6 = some out → k_W X 2 0 0 (k_Q X ad none (k_ap [(0, .inl (0, out.1)), (0, .inl (1, out.2.1)), (0, .inl (7, out.2.2.1)), (0, .inl (8, out.2.2.2.1)), (0, .inl (9, out.2.2.2.2.1)), (0, .inl (10, out.2.2.2.2.2.1)), (0, .inr (.inl (5, out.2.2.2.2.2.2.1))), (0, .inr (.inl (6, out.2.2.2.2.2.2.2.1))), (1, .inr (.inr (.inl out.2.2.2.2.2.2.2.2.1))), (2, .inr (.inr (.inl out.2.2.2.2.2.2.2.2.2.1))), (3, .inr (.inr (.inl out.2.2.2.2.2.2.2.2.2.2.1))), (4, .inr (.inr (.inl out.2.2.2.2.2.2.2.2.2.2.2.1))), (5, .inr (.inr (.inl out.2.2.2.2.2.2.2.2.2.2.2.2.1))), (6, .inr (.inr (.inl out.2.2.2.2.2.2.2.2.2.2.2.2.2)))] (shPit2, I, L, Rf))) ad (k_ap [(0, .inl (0, c0_0)), (0, .inl (1, c0_1)), (0, .inl (7, c0_7)), (0, .inl (8, c0_8)), (0, .inl (9, c0_9)), (0, .inl (10, c0_10)), (0, .inr (.inl (5, c0_5))), (0, .inr (.inl (6, c0_6))), (1, .inr (.inr (.inl a1))), (2, .inr (.inr (.inl a2))), (3, .inr (.inr (.inl a3))), (4, .inr (.inr (.inl a4))), (5, .inr (.inr (.inl a5))), (6, .inr (.inr (.inl a6)))] (shPit2, I, L, Rf)) 0 [some (.ref 0), some (.ref 7)] [] := by
  intro c0_0 c0_1 c0_7 c0_8 c0_9 c0_10 c0_5 c0_6 a1 a2 a3 a4 a5 a6 h
  unfold bX5_copyFrom_0 at h
  refine r_aload_n C dX5_copyFrom_0 (rfl : 0 + 1 = 1) rfl ?_
  refine r_aload_n C dX5_copyFrom_1 (rfl : 1 + 1 = 2) rfl ?_
  refine r_getI (v := c7_0) C dX5_copyFrom_2 (rfl : 2 + 3 = 5) fl_X5_36 rfl rfl ec7_0 ?_
  refine p_I (us' := [(0, .inl (0, c7_0)), (0, .inl (1, c0_1)), (0, .inl (7, c0_7)), (0, .inl (8, c0_8)), (0, .inl (9, c0_9)), (0, .inl (10, c0_10)), (0, .inr (.inl (5, c0_5))), (0, .inr (.inl (6, c0_6))), (1, .inr (.inr (.inl a1))), (2, .inr (.inr (.inl a2))), (3, .inr (.inr (.inl a3))), (4, .inr (.inr (.inl a4))), (5, .inr (.inr (.inl a5))), (6, .inr (.inr (.inl a6)))]) C dX5_copyFrom_5 (rfl : 5 + 3 = 8) fp_X5_36 rfl rfl ds_X5_copyFrom rfl rfl rfl ?_
  refine r_aload_n C dX5_copyFrom_8 (rfl : 8 + 1 = 9) rfl ?_
  refine r_aload_n C dX5_copyFrom_9 (rfl : 9 + 1 = 10) rfl ?_
  refine r_getI (v := c7_1) C dX5_copyFrom_10 (rfl : 10 + 3 = 13) fl_X5_40 rfl rfl ec7_1 ?_
  refine p_I (us' := [(0, .inl (0, c7_0)), (0, .inl (1, c7_1)), (0, .inl (7, c0_7)), (0, .inl (8, c0_8)), (0, .inl (9, c0_9)), (0, .inl (10, c0_10)), (0, .inr (.inl (5, c0_5))), (0, .inr (.inl (6, c0_6))), (1, .inr (.inr (.inl a1))), (2, .inr (.inr (.inl a2))), (3, .inr (.inr (.inl a3))), (4, .inr (.inr (.inl a4))), (5, .inr (.inr (.inl a5))), (6, .inr (.inr (.inl a6)))]) C dX5_copyFrom_13 (rfl : 13 + 3 = 16) fp_X5_40 rfl rfl ds_X5_copyFrom rfl rfl rfl ?_
  refine r_aload_n C dX5_copyFrom_16 (rfl : 16 + 1 = 17) rfl ?_
  refine r_getR (q := 8) C dX5_copyFrom_17 (rfl : 17 + 3 = 20) fl_X5_9 rfl rfl ?_
  refine r_iconst (v := (0 : Int32)) C dX5_copyFrom_20 (rfl : 20 + 1 = 21) rfl ?_
  refine r_aload_n C dX5_copyFrom_21 (rfl : 21 + 1 = 22) rfl ?_
  refine r_getR (q := 1) C dX5_copyFrom_22 (rfl : 22 + 3 = 25) fl_X5_9 rfl rfl ?_
  refine r_iconst (v := (0 : Int32)) C dX5_copyFrom_25 (rfl : 25 + 1 = 26) rfl ?_
  refine r_bipush (v := (48 : Int32)) C dX5_copyFrom_26 (rfl : 26 + 2 = 28) rfl ?_
  refine r_acopy (f := a8) (g := a1) (us' := [(0, .inl (0, c7_0)), (0, .inl (1, c7_1)), (0, .inl (7, c0_7)), (0, .inl (8, c0_8)), (0, .inl (9, c0_9)), (0, .inl (10, c0_10)), (0, .inr (.inl (5, c0_5))), (0, .inr (.inl (6, c0_6))), (1, .inr (.inr (.inl (va_cpy a8 a1 0 0 48)))), (2, .inr (.inr (.inl a2))), (3, .inr (.inr (.inl a3))), (4, .inr (.inr (.inl a4))), (5, .inr (.inr (.inl a5))), (6, .inr (.inr (.inl a6)))]) C hR dX5_copyFrom_28 (rfl : 28 + 3 = 31) lm_X5_68 rfl rfl ea8 rfl (by decide) (by decide) (by decide) (by decide) (by decide) ds_X5_copyFrom rfl rfl rfl rfl rfl ?_
  refine r_aload_n C dX5_copyFrom_31 (rfl : 31 + 1 = 32) rfl ?_
  refine r_getR (q := 9) C dX5_copyFrom_32 (rfl : 32 + 3 = 35) fl_X5_15 rfl rfl ?_
  refine r_iconst (v := (0 : Int32)) C dX5_copyFrom_35 (rfl : 35 + 1 = 36) rfl ?_
  refine r_aload_n C dX5_copyFrom_36 (rfl : 36 + 1 = 37) rfl ?_
  refine r_getR (q := 2) C dX5_copyFrom_37 (rfl : 37 + 3 = 40) fl_X5_15 rfl rfl ?_
  refine r_iconst (v := (0 : Int32)) C dX5_copyFrom_40 (rfl : 40 + 1 = 41) rfl ?_
  refine r_bipush (v := (48 : Int32)) C dX5_copyFrom_41 (rfl : 41 + 2 = 43) rfl ?_
  refine r_acopy (f := a9) (g := a2) (us' := [(0, .inl (0, c7_0)), (0, .inl (1, c7_1)), (0, .inl (7, c0_7)), (0, .inl (8, c0_8)), (0, .inl (9, c0_9)), (0, .inl (10, c0_10)), (0, .inr (.inl (5, c0_5))), (0, .inr (.inl (6, c0_6))), (1, .inr (.inr (.inl (va_cpy a8 a1 0 0 48)))), (2, .inr (.inr (.inl (va_cpy a9 a2 0 0 48)))), (3, .inr (.inr (.inl a3))), (4, .inr (.inr (.inl a4))), (5, .inr (.inr (.inl a5))), (6, .inr (.inr (.inl a6)))]) C hR dX5_copyFrom_43 (rfl : 43 + 3 = 46) lm_X5_68 rfl rfl ea9 rfl (by decide) (by decide) (by decide) (by decide) (by decide) ds_X5_copyFrom rfl rfl rfl rfl rfl ?_
  refine r_aload_n C dX5_copyFrom_46 (rfl : 46 + 1 = 47) rfl ?_
  refine r_getR (q := 10) C dX5_copyFrom_47 (rfl : 47 + 3 = 50) fl_X5_18 rfl rfl ?_
  refine r_iconst (v := (0 : Int32)) C dX5_copyFrom_50 (rfl : 50 + 1 = 51) rfl ?_
  refine r_aload_n C dX5_copyFrom_51 (rfl : 51 + 1 = 52) rfl ?_
  refine r_getR (q := 3) C dX5_copyFrom_52 (rfl : 52 + 3 = 55) fl_X5_18 rfl rfl ?_
  refine r_iconst (v := (0 : Int32)) C dX5_copyFrom_55 (rfl : 55 + 1 = 56) rfl ?_
  refine r_bipush (v := (6 : Int32)) C dX5_copyFrom_56 (rfl : 56 + 2 = 58) rfl ?_
  refine r_acopy (f := a10) (g := a3) (us' := [(0, .inl (0, c7_0)), (0, .inl (1, c7_1)), (0, .inl (7, c0_7)), (0, .inl (8, c0_8)), (0, .inl (9, c0_9)), (0, .inl (10, c0_10)), (0, .inr (.inl (5, c0_5))), (0, .inr (.inl (6, c0_6))), (1, .inr (.inr (.inl (va_cpy a8 a1 0 0 48)))), (2, .inr (.inr (.inl (va_cpy a9 a2 0 0 48)))), (3, .inr (.inr (.inl (va_cpy a10 a3 0 0 6)))), (4, .inr (.inr (.inl a4))), (5, .inr (.inr (.inl a5))), (6, .inr (.inr (.inl a6)))]) C hR dX5_copyFrom_58 (rfl : 58 + 3 = 61) lm_X5_68 rfl rfl ea10 rfl (by decide) (by decide) (by decide) (by decide) (by decide) ds_X5_copyFrom rfl rfl rfl rfl rfl ?_
  refine r_aload_n C dX5_copyFrom_61 (rfl : 61 + 1 = 62) rfl ?_
  refine r_aload_n C dX5_copyFrom_62 (rfl : 62 + 1 = 63) rfl ?_
  refine r_getL (v := c7_5) C dX5_copyFrom_63 (rfl : 63 + 3 = 66) fl_X5_65 rfl rfl ec7_5 ?_
  refine p_L (us' := [(0, .inl (0, c7_0)), (0, .inl (1, c7_1)), (0, .inl (7, c0_7)), (0, .inl (8, c0_8)), (0, .inl (9, c0_9)), (0, .inl (10, c0_10)), (0, .inr (.inl (5, c7_5))), (0, .inr (.inl (6, c0_6))), (1, .inr (.inr (.inl (va_cpy a8 a1 0 0 48)))), (2, .inr (.inr (.inl (va_cpy a9 a2 0 0 48)))), (3, .inr (.inr (.inl (va_cpy a10 a3 0 0 6)))), (4, .inr (.inr (.inl a4))), (5, .inr (.inr (.inl a5))), (6, .inr (.inr (.inl a6)))]) C dX5_copyFrom_66 (rfl : 66 + 3 = 69) fp_X5_65 rfl rfl ds_X5_copyFrom rfl rfl rfl ?_
  refine r_aload_n C dX5_copyFrom_69 (rfl : 69 + 1 = 70) rfl ?_
  refine r_aload_n C dX5_copyFrom_70 (rfl : 70 + 1 = 71) rfl ?_
  refine r_getL (v := c7_6) C dX5_copyFrom_71 (rfl : 71 + 3 = 74) fl_X5_49 rfl rfl ec7_6 ?_
  refine p_L (us' := [(0, .inl (0, c7_0)), (0, .inl (1, c7_1)), (0, .inl (7, c0_7)), (0, .inl (8, c0_8)), (0, .inl (9, c0_9)), (0, .inl (10, c0_10)), (0, .inr (.inl (5, c7_5))), (0, .inr (.inl (6, c7_6))), (1, .inr (.inr (.inl (va_cpy a8 a1 0 0 48)))), (2, .inr (.inr (.inl (va_cpy a9 a2 0 0 48)))), (3, .inr (.inr (.inl (va_cpy a10 a3 0 0 6)))), (4, .inr (.inr (.inl a4))), (5, .inr (.inr (.inl a5))), (6, .inr (.inr (.inl a6)))]) C dX5_copyFrom_74 (rfl : 74 + 3 = 77) fp_X5_49 rfl rfl ds_X5_copyFrom rfl rfl rfl ?_
  refine r_aload_n C dX5_copyFrom_77 (rfl : 77 + 1 = 78) rfl ?_
  refine r_aload_n C dX5_copyFrom_78 (rfl : 78 + 1 = 79) rfl ?_
  refine r_getI (v := c7_7) C dX5_copyFrom_79 (rfl : 79 + 3 = 82) fl_X5_53 rfl rfl ec7_7 ?_
  refine p_I (us' := [(0, .inl (0, c7_0)), (0, .inl (1, c7_1)), (0, .inl (7, c7_7)), (0, .inl (8, c0_8)), (0, .inl (9, c0_9)), (0, .inl (10, c0_10)), (0, .inr (.inl (5, c7_5))), (0, .inr (.inl (6, c7_6))), (1, .inr (.inr (.inl (va_cpy a8 a1 0 0 48)))), (2, .inr (.inr (.inl (va_cpy a9 a2 0 0 48)))), (3, .inr (.inr (.inl (va_cpy a10 a3 0 0 6)))), (4, .inr (.inr (.inl a4))), (5, .inr (.inr (.inl a5))), (6, .inr (.inr (.inl a6)))]) C dX5_copyFrom_82 (rfl : 82 + 3 = 85) fp_X5_53 rfl rfl ds_X5_copyFrom rfl rfl rfl ?_
  refine r_aload_n C dX5_copyFrom_85 (rfl : 85 + 1 = 86) rfl ?_
  refine r_aload_n C dX5_copyFrom_86 (rfl : 86 + 1 = 87) rfl ?_
  refine r_getI (v := c7_8) C dX5_copyFrom_87 (rfl : 87 + 3 = 90) fl_X5_56 rfl rfl ec7_8 ?_
  refine p_I (us' := [(0, .inl (0, c7_0)), (0, .inl (1, c7_1)), (0, .inl (7, c7_7)), (0, .inl (8, c7_8)), (0, .inl (9, c0_9)), (0, .inl (10, c0_10)), (0, .inr (.inl (5, c7_5))), (0, .inr (.inl (6, c7_6))), (1, .inr (.inr (.inl (va_cpy a8 a1 0 0 48)))), (2, .inr (.inr (.inl (va_cpy a9 a2 0 0 48)))), (3, .inr (.inr (.inl (va_cpy a10 a3 0 0 6)))), (4, .inr (.inr (.inl a4))), (5, .inr (.inr (.inl a5))), (6, .inr (.inr (.inl a6)))]) C dX5_copyFrom_90 (rfl : 90 + 3 = 93) fp_X5_56 rfl rfl ds_X5_copyFrom rfl rfl rfl ?_
  refine r_aload_n C dX5_copyFrom_93 (rfl : 93 + 1 = 94) rfl ?_
  refine r_aload_n C dX5_copyFrom_94 (rfl : 94 + 1 = 95) rfl ?_
  refine r_getI (v := c7_9) C dX5_copyFrom_95 (rfl : 95 + 3 = 98) fl_X5_59 rfl rfl ec7_9 ?_
  refine p_I (us' := [(0, .inl (0, c7_0)), (0, .inl (1, c7_1)), (0, .inl (7, c7_7)), (0, .inl (8, c7_8)), (0, .inl (9, c7_9)), (0, .inl (10, c0_10)), (0, .inr (.inl (5, c7_5))), (0, .inr (.inl (6, c7_6))), (1, .inr (.inr (.inl (va_cpy a8 a1 0 0 48)))), (2, .inr (.inr (.inl (va_cpy a9 a2 0 0 48)))), (3, .inr (.inr (.inl (va_cpy a10 a3 0 0 6)))), (4, .inr (.inr (.inl a4))), (5, .inr (.inr (.inl a5))), (6, .inr (.inr (.inl a6)))]) C dX5_copyFrom_98 (rfl : 98 + 3 = 101) fp_X5_59 rfl rfl ds_X5_copyFrom rfl rfl rfl ?_
  refine r_aload_n C dX5_copyFrom_101 (rfl : 101 + 1 = 102) rfl ?_
  refine r_aload_n C dX5_copyFrom_102 (rfl : 102 + 1 = 103) rfl ?_
  refine r_getI (v := c7_10) C dX5_copyFrom_103 (rfl : 103 + 3 = 106) fl_X5_62 rfl rfl ec7_10 ?_
  refine p_I (us' := [(0, .inl (0, c7_0)), (0, .inl (1, c7_1)), (0, .inl (7, c7_7)), (0, .inl (8, c7_8)), (0, .inl (9, c7_9)), (0, .inl (10, c7_10)), (0, .inr (.inl (5, c7_5))), (0, .inr (.inl (6, c7_6))), (1, .inr (.inr (.inl (va_cpy a8 a1 0 0 48)))), (2, .inr (.inr (.inl (va_cpy a9 a2 0 0 48)))), (3, .inr (.inr (.inl (va_cpy a10 a3 0 0 6)))), (4, .inr (.inr (.inl a4))), (5, .inr (.inr (.inl a5))), (6, .inr (.inr (.inl a6)))]) C dX5_copyFrom_106 (rfl : 106 + 3 = 109) fp_X5_62 rfl rfl ds_X5_copyFrom rfl rfl rfl ?_
  refine r_aload_n C dX5_copyFrom_109 (rfl : 109 + 1 = 110) rfl ?_
  refine r_getR (q := 11) C dX5_copyFrom_110 (rfl : 110 + 3 = 113) fl_X5_21 rfl rfl ?_
  refine r_iconst (v := (0 : Int32)) C dX5_copyFrom_113 (rfl : 113 + 1 = 114) rfl ?_
  refine r_aload_n C dX5_copyFrom_114 (rfl : 114 + 1 = 115) rfl ?_
  refine r_getR (q := 4) C dX5_copyFrom_115 (rfl : 115 + 3 = 118) fl_X5_21 rfl rfl ?_
  refine r_iconst (v := (0 : Int32)) C dX5_copyFrom_118 (rfl : 118 + 1 = 119) rfl ?_
  refine r_bipush (v := (6 : Int32)) C dX5_copyFrom_119 (rfl : 119 + 2 = 121) rfl ?_
  refine r_acopy (f := a11) (g := a4) (us' := [(0, .inl (0, c7_0)), (0, .inl (1, c7_1)), (0, .inl (7, c7_7)), (0, .inl (8, c7_8)), (0, .inl (9, c7_9)), (0, .inl (10, c7_10)), (0, .inr (.inl (5, c7_5))), (0, .inr (.inl (6, c7_6))), (1, .inr (.inr (.inl (va_cpy a8 a1 0 0 48)))), (2, .inr (.inr (.inl (va_cpy a9 a2 0 0 48)))), (3, .inr (.inr (.inl (va_cpy a10 a3 0 0 6)))), (4, .inr (.inr (.inl (va_cpy a11 a4 0 0 6)))), (5, .inr (.inr (.inl a5))), (6, .inr (.inr (.inl a6)))]) C hR dX5_copyFrom_121 (rfl : 121 + 3 = 124) lm_X5_68 rfl rfl ea11 rfl (by decide) (by decide) (by decide) (by decide) (by decide) ds_X5_copyFrom rfl rfl rfl rfl rfl ?_
  refine r_aload_n C dX5_copyFrom_124 (rfl : 124 + 1 = 125) rfl ?_
  refine r_getR (q := 12) C dX5_copyFrom_125 (rfl : 125 + 3 = 128) fl_X5_24 rfl rfl ?_
  refine r_iconst (v := (0 : Int32)) C dX5_copyFrom_128 (rfl : 128 + 1 = 129) rfl ?_
  refine r_aload_n C dX5_copyFrom_129 (rfl : 129 + 1 = 130) rfl ?_
  refine r_getR (q := 5) C dX5_copyFrom_130 (rfl : 130 + 3 = 133) fl_X5_24 rfl rfl ?_
  refine r_iconst (v := (0 : Int32)) C dX5_copyFrom_133 (rfl : 133 + 1 = 134) rfl ?_
  refine r_bipush (v := (6 : Int32)) C dX5_copyFrom_134 (rfl : 134 + 2 = 136) rfl ?_
  refine r_acopy (f := a12) (g := a5) (us' := [(0, .inl (0, c7_0)), (0, .inl (1, c7_1)), (0, .inl (7, c7_7)), (0, .inl (8, c7_8)), (0, .inl (9, c7_9)), (0, .inl (10, c7_10)), (0, .inr (.inl (5, c7_5))), (0, .inr (.inl (6, c7_6))), (1, .inr (.inr (.inl (va_cpy a8 a1 0 0 48)))), (2, .inr (.inr (.inl (va_cpy a9 a2 0 0 48)))), (3, .inr (.inr (.inl (va_cpy a10 a3 0 0 6)))), (4, .inr (.inr (.inl (va_cpy a11 a4 0 0 6)))), (5, .inr (.inr (.inl (va_cpy a12 a5 0 0 6)))), (6, .inr (.inr (.inl a6)))]) C hR dX5_copyFrom_136 (rfl : 136 + 3 = 139) lm_X5_68 rfl rfl ea12 rfl (by decide) (by decide) (by decide) (by decide) (by decide) ds_X5_copyFrom rfl rfl rfl rfl rfl ?_
  refine r_aload_n C dX5_copyFrom_139 (rfl : 139 + 1 = 140) rfl ?_
  refine r_getR (q := 13) C dX5_copyFrom_140 (rfl : 140 + 3 = 143) fl_X5_27 rfl rfl ?_
  refine r_iconst (v := (0 : Int32)) C dX5_copyFrom_143 (rfl : 143 + 1 = 144) rfl ?_
  refine r_aload_n C dX5_copyFrom_144 (rfl : 144 + 1 = 145) rfl ?_
  refine r_getR (q := 6) C dX5_copyFrom_145 (rfl : 145 + 3 = 148) fl_X5_27 rfl rfl ?_
  refine r_iconst (v := (0 : Int32)) C dX5_copyFrom_148 (rfl : 148 + 1 = 149) rfl ?_
  refine r_bipush (v := (48 : Int32)) C dX5_copyFrom_149 (rfl : 149 + 2 = 151) rfl ?_
  refine r_acopy (f := a13) (g := a6) (us' := [(0, .inl (0, c7_0)), (0, .inl (1, c7_1)), (0, .inl (7, c7_7)), (0, .inl (8, c7_8)), (0, .inl (9, c7_9)), (0, .inl (10, c7_10)), (0, .inr (.inl (5, c7_5))), (0, .inr (.inl (6, c7_6))), (1, .inr (.inr (.inl (va_cpy a8 a1 0 0 48)))), (2, .inr (.inr (.inl (va_cpy a9 a2 0 0 48)))), (3, .inr (.inr (.inl (va_cpy a10 a3 0 0 6)))), (4, .inr (.inr (.inl (va_cpy a11 a4 0 0 6)))), (5, .inr (.inr (.inl (va_cpy a12 a5 0 0 6)))), (6, .inr (.inr (.inl (va_cpy a13 a6 0 0 48))))]) C hR dX5_copyFrom_151 (rfl : 151 + 3 = 154) lm_X5_68 rfl rfl ea13 rfl (by decide) (by decide) (by decide) (by decide) (by decide) ds_X5_copyFrom rfl rfl rfl rfl rfl ?_
  cases h
  exact r_vret C hr dX5_copyFrom_154
def f_X5_copyFrom (u : Nat) (c0_0 : Int32) (c0_1 : Int32) (c0_7 : Int32) (c0_8 : Int32) (c0_9 : Int32) (c0_10 : Int32) (c0_5 : Int64) (c0_6 : Int64) (a1 : (Nat → Int32)) (a2 : (Nat → Int32)) (a3 : (Nat → Int32)) (a4 : (Nat → Int32)) (a5 : (Nat → Int32)) (a6 : (Nat → Int32)) (c7_0 : Int32) (c7_1 : Int32) (c7_7 : Int32) (c7_8 : Int32) (c7_9 : Int32) (c7_10 : Int32) (c7_5 : Int64) (c7_6 : Int64) (a8 : (Nat → Int32)) (a9 : (Nat → Int32)) (a10 : (Nat → Int32)) (a11 : (Nat → Int32)) (a12 : (Nat → Int32)) (a13 : (Nat → Int32)) : Option (Int32 × Int32 × Int32 × Int32 × Int32 × Int32 × Int64 × Int64 × (Nat → Int32) × (Nat → Int32) × (Nat → Int32) × (Nat → Int32) × (Nat → Int32) × (Nat → Int32)) := (bX5_copyFrom_0 u c7_0 c7_1 c7_7 c7_8 c7_9 c7_10 c7_5 c7_6 a8 a9 a10 a11 a12 a13 c0_0 c0_1 c0_7 c0_8 c0_9 c0_10 c0_5 c0_6 a1 a2 a3 a4 a5 a6)
set_option maxHeartbeats 400000 in
set_option maxRecDepth 100000 in
theorem c_X5_copyFrom (l : Launch) (u : Nat) (h : k_H) (hsh : h.1 = shPit2) {c0_0 : Int32} (ec0_0 : h.2.1 0 0 = c0_0) {c0_1 : Int32} (ec0_1 : h.2.1 0 1 = c0_1) {c0_7 : Int32} (ec0_7 : h.2.1 0 7 = c0_7) {c0_8 : Int32} (ec0_8 : h.2.1 0 8 = c0_8) {c0_9 : Int32} (ec0_9 : h.2.1 0 9 = c0_9) {c0_10 : Int32} (ec0_10 : h.2.1 0 10 = c0_10) {c0_5 : Int64} (ec0_5 : h.2.2.1 0 5 = c0_5) {c0_6 : Int64} (ec0_6 : h.2.2.1 0 6 = c0_6) {a1 : (Nat → Int32)} (ea1 : h.2.1 1 = a1) {a2 : (Nat → Int32)} (ea2 : h.2.1 2 = a2) {a3 : (Nat → Int32)} (ea3 : h.2.1 3 = a3) {a4 : (Nat → Int32)} (ea4 : h.2.1 4 = a4) {a5 : (Nat → Int32)} (ea5 : h.2.1 5 = a5) {a6 : (Nat → Int32)} (ea6 : h.2.1 6 = a6) {c7_0 : Int32} (ec7_0 : h.2.1 7 0 = c7_0) {c7_1 : Int32} (ec7_1 : h.2.1 7 1 = c7_1) {c7_7 : Int32} (ec7_7 : h.2.1 7 7 = c7_7) {c7_8 : Int32} (ec7_8 : h.2.1 7 8 = c7_8) {c7_9 : Int32} (ec7_9 : h.2.1 7 9 = c7_9) {c7_10 : Int32} (ec7_10 : h.2.1 7 10 = c7_10) {c7_5 : Int64} (ec7_5 : h.2.2.1 7 5 = c7_5) {c7_6 : Int64} (ec7_6 : h.2.2.1 7 6 = c7_6) {a8 : (Nat → Int32)} (ea8 : h.2.1 8 = a8) {a9 : (Nat → Int32)} (ea9 : h.2.1 9 = a9) {a10 : (Nat → Int32)} (ea10 : h.2.1 10 = a10) {a11 : (Nat → Int32)} (ea11 : h.2.1 11 = a11) {a12 : (Nat → Int32)} (ea12 : h.2.1 12 = a12) {a13 : (Nat → Int32)} (ea13 : h.2.1 13 = a13) {out : Int32 × Int32 × Int32 × Int32 × Int32 × Int32 × Int64 × Int64 × (Nat → Int32) × (Nat → Int32) × (Nat → Int32) × (Nat → Int32) × (Nat → Int32) × (Nat → Int32)} (hf : f_X5_copyFrom u c0_0 c0_1 c0_7 c0_8 c0_9 c0_10 c0_5 c0_6 a1 a2 a3 a4 a5 a6 c7_0 c7_1 c7_7 c7_8 c7_9 c7_10 c7_5 c7_6 a8 a9 a10 a11 a12 a13 = some out) : k_CT l yX5_copyFrom cX5_copyFrom 2 none 1 40 [.ref 0, .ref 7] h none [(0, .inl (0, out.1)), (0, .inl (1, out.2.1)), (0, .inl (7, out.2.2.1)), (0, .inl (8, out.2.2.2.1)), (0, .inl (9, out.2.2.2.2.1)), (0, .inl (10, out.2.2.2.2.2.1)), (0, .inr (.inl (5, out.2.2.2.2.2.2.1))), (0, .inr (.inl (6, out.2.2.2.2.2.2.2.1))), (1, .inr (.inr (.inl out.2.2.2.2.2.2.2.2.1))), (2, .inr (.inr (.inl out.2.2.2.2.2.2.2.2.2.1))), (3, .inr (.inr (.inl out.2.2.2.2.2.2.2.2.2.2.1))), (4, .inr (.inr (.inl out.2.2.2.2.2.2.2.2.2.2.2.1))), (5, .inr (.inr (.inl out.2.2.2.2.2.2.2.2.2.2.2.2.1))), (6, .inr (.inr (.inl out.2.2.2.2.2.2.2.2.2.2.2.2.2)))] := by
  obtain ⟨sh, I, L, Rf⟩ := h
  try dsimp only
  obtain rfl : sh = shPit2 := hsh
  refine k_ofW (by decide) (Nat.le_of_ble_eq_true rfl) ?_
  intro X ad hl hR0 hr C
  have hR : X.R.frames = 1 ∧ X.R.locals = 40 := by rw [hR0]; exact ⟨rfl, rfl⟩
  have h := hf
  unfold f_X5_copyFrom at h
  refine k_start (us := [(0, .inl (0, c0_0)), (0, .inl (1, c0_1)), (0, .inl (7, c0_7)), (0, .inl (8, c0_8)), (0, .inl (9, c0_9)), (0, .inl (10, c0_10)), (0, .inr (.inl (5, c0_5))), (0, .inr (.inl (6, c0_6))), (1, .inr (.inr (.inl a1))), (2, .inr (.inr (.inl a2))), (3, .inr (.inr (.inl a3))), (4, .inr (.inr (.inl a4))), (5, .inr (.inr (.inl a5))), (6, .inr (.inr (.inl a6)))]) (k_ao_I ec0_0 (k_ao_I ec0_1 (k_ao_I ec0_7 (k_ao_I ec0_8 (k_ao_I ec0_9 (k_ao_I ec0_10 (k_ao_L ec0_5 (k_ao_L ec0_6 (k_ao_A ea1 (k_ao_A ea2 (k_ao_A ea3 (k_ao_A ea4 (k_ao_A ea5 (k_ao_A ea6 k_ap_0)))))))))))))) ?_
  show k_W X 2 0 0 _ ad (k_ap [(0, .inl (0, c0_0)), (0, .inl (1, c0_1)), (0, .inl (7, c0_7)), (0, .inl (8, c0_8)), (0, .inl (9, c0_9)), (0, .inl (10, c0_10)), (0, .inr (.inl (5, c0_5))), (0, .inr (.inl (6, c0_6))), (1, .inr (.inr (.inl a1))), (2, .inr (.inr (.inl a2))), (3, .inr (.inr (.inl a3))), (4, .inr (.inr (.inl a4))), (5, .inr (.inr (.inl a5))), (6, .inr (.inr (.inl a6)))] (shPit2, I, L, Rf)) 0 [some (.ref 0), some (.ref 7)] []
  refine k_mask [true, true] ?_
  exact sX5_copyFrom_0 u C hr hR ec7_0 ec7_1 ec7_7 ec7_8 ec7_9 ec7_10 ec7_5 ec7_6 ea8 ea9 ea10 ea11 ea12 ea13 c0_0 c0_1 c0_7 c0_8 c0_9 c0_10 c0_5 c0_6 a1 a2 a3 a4 a5 a6 h
/-! LullabyPit$Law.put(I)V -/
theorem ds_X1_put : k_ds [(0, 0, 2), (1, 2, 0)] = true := by decide
def bX1_put_0 (u : Nat) (c0_2 : Int32) (a1 : (Nat → Int32)) (v1 : Int32) : Option (Int32 × (Nat → Int32)) := (if (150 : Int32) ≤ c0_2 then some (c0_2, a1) else k_i 150 c0_2 (some ((c0_2 + (1 : Int32)), (upd a1 ((c0_2).toNatClampNeg) v1))))
set_option maxHeartbeats 400000 in
set_option maxRecDepth 100000 in
theorem sX1_put_0 (u : Nat) {X : k_X} {ad : Nat → Nat} (C : k_C X cX1_put RX1 2 ad) (hr : X.meth.sig.returnType = none) (hR : X.R.frames = 0 ∧ X.R.locals = 0) {I : Nat → Nat → Int32} {L : Nat → Nat → Int64} {Rf : Nat → Nat → Option Nat} {out : Int32 × (Nat → Int32)} : ∀ (c0_2 : Int32) (a1 : (Nat → Int32)) (v1 : Int32), bX1_put_0 u c0_2 a1 v1 = some out → k_W X 2 0 0 (k_Q X ad none (k_ap [(0, .inl (2, out.1)), (1, .inr (.inr (.inl out.2)))] (shLaw, I, L, Rf))) ad (k_ap [(0, .inl (2, c0_2)), (1, .inr (.inr (.inl a1)))] (shLaw, I, L, Rf)) 0 [some (.ref 0), some (.int v1)] [] := by
  intro c0_2 a1 v1 h
  unfold bX1_put_0 at h
  refine r_aload_n C dX1_put_0 (rfl : 0 + 1 = 1) rfl ?_
  refine r_getI (v := c0_2) C dX1_put_1 (rfl : 1 + 3 = 4) fl_X1_18 rfl rfl rfl ?_
  refine r_aload_n C dX1_put_4 (rfl : 4 + 1 = 5) rfl ?_
  refine r_getR (q := 1) C dX1_put_5 (rfl : 5 + 3 = 8) fl_X1_9 rfl rfl ?_
  refine r_alen (v := (150 : Int32)) C dX1_put_8 (rfl : 8 + 1 = 9) rfl (by decide) rfl ?_
  refine r_icmp_ge (tgt := 32) C dX1_put_9 (by decide) (rfl : 9 + 3 = 12) (fun c9 => ?_) (fun c9 => ?_)
  · have h := k_t c9 h
    cases h
    exact r_vret C hr dX1_put_32
  · have h := k_f c9 h
    refine r_aload_n C dX1_put_12 (rfl : 12 + 1 = 13) rfl ?_
    refine r_getR (q := 1) C dX1_put_13 (rfl : 13 + 3 = 16) fl_X1_9 rfl rfl ?_
    refine r_aload_n C dX1_put_16 (rfl : 16 + 1 = 17) rfl ?_
    refine r_getI (v := c0_2) C dX1_put_17 (rfl : 17 + 3 = 20) fl_X1_18 rfl rfl rfl ?_
    refine r_iload_n C dX1_put_20 (rfl : 20 + 1 = 21) rfl ?_
    obtain ⟨hi21, h⟩ := k_i_of h
    refine s_i (j := (c0_2).toNatClampNeg) (f := a1) (us' := [(0, .inl (2, c0_2)), (1, .inr (.inr (.inl (upd a1 ((c0_2).toNatClampNeg) v1))))]) C dX1_put_21 (rfl : 21 + 1 = 22) rfl rfl hi21 rfl ds_X1_put rfl rfl rfl ?_
    refine r_aload_n C dX1_put_22 (rfl : 22 + 1 = 23) rfl ?_
    refine r_dup C dX1_put_23 (rfl : 23 + 1 = 24) rfl ?_
    refine r_getI (v := c0_2) C dX1_put_24 (rfl : 24 + 3 = 27) fl_X1_18 rfl rfl rfl ?_
    refine r_iconst (v := (1 : Int32)) C dX1_put_27 (rfl : 27 + 1 = 28) rfl ?_
    refine r_iadd C dX1_put_28 (rfl : 28 + 1 = 29) ?_
    refine p_I (us' := [(0, .inl (2, (c0_2 + (1 : Int32)))), (1, .inr (.inr (.inl (upd a1 ((c0_2).toNatClampNeg) v1))))]) C dX1_put_29 (rfl : 29 + 3 = 32) fp_X1_18 rfl rfl ds_X1_put rfl rfl rfl ?_
    cases h
    exact r_vret C hr dX1_put_32
def f_X1_put (u : Nat) (c0_2 : Int32) (a1 : (Nat → Int32)) (x0 : Int32) : Option (Int32 × (Nat → Int32)) := (bX1_put_0 u c0_2 a1 x0)
set_option maxHeartbeats 400000 in
set_option maxRecDepth 100000 in
theorem c_X1_put (l : Launch) (u : Nat) (h : k_H) (hsh : h.1 = shLaw) {c0_2 : Int32} (ec0_2 : h.2.1 0 2 = c0_2) {a1 : (Nat → Int32)} (ea1 : h.2.1 1 = a1) {x0 : Int32} {out : Int32 × (Nat → Int32)} (hf : f_X1_put u c0_2 a1 x0 = some out) : k_CT l yX1_put cX1_put 2 none 0 0 [.ref 0, .int x0] h none [(0, .inl (2, out.1)), (1, .inr (.inr (.inl out.2)))] := by
  obtain ⟨sh, I, L, Rf⟩ := h
  try dsimp only
  obtain rfl : sh = shLaw := hsh
  refine k_ofW (by decide) (Nat.le_of_ble_eq_true rfl) ?_
  intro X ad hl hR0 hr C
  have hR : X.R.frames = 0 ∧ X.R.locals = 0 := by rw [hR0]; exact ⟨rfl, rfl⟩
  have h := hf
  unfold f_X1_put at h
  refine k_start (us := [(0, .inl (2, c0_2)), (1, .inr (.inr (.inl a1)))]) (k_ao_I ec0_2 (k_ao_A ea1 k_ap_0)) ?_
  show k_W X 2 0 0 _ ad (k_ap [(0, .inl (2, c0_2)), (1, .inr (.inr (.inl a1)))] (shLaw, I, L, Rf)) 0 [some (.ref 0), some (.int x0)] []
  refine k_mask [true, true] ?_
  exact sX1_put_0 u C hr hR c0_2 a1 x0 h
/-! LullabyPit$Law.beFall()V -/
theorem ds_X1_beFall : k_ds [(0, 0, 2), (1, 2, 0)] = true := by decide
def bX1_beFall_0 (u : Nat) (c0_2 : Int32) (a1 : (Nat → Int32)) : Option (Int32 × (Nat → Int32)) := k_b (f_X1_put u (0 : Int32) a1 (-1 : Int32)) (fun r7 => k_b (f_X1_put u r7.1 r7.2 (2 : Int32)) (fun r12 => k_b (f_X1_put u r12.1 r12.2 (-12 : Int32)) (fun r18 => some (r18.1, r18.2))))
set_option maxHeartbeats 400000 in
set_option maxRecDepth 100000 in
theorem sX1_beFall_0 (u : Nat) {X : k_X} {ad : Nat → Nat} (C : k_C X cX1_beFall RX1 1 ad) (hr : X.meth.sig.returnType = none) (hR : X.R.frames = 1 ∧ X.R.locals = 21) {I : Nat → Nat → Int32} {L : Nat → Nat → Int64} {Rf : Nat → Nat → Option Nat} {out : Int32 × (Nat → Int32)} : ∀ (c0_2 : Int32) (a1 : (Nat → Int32)), bX1_beFall_0 u c0_2 a1 = some out → k_W X 1 0 0 (k_Q X ad none (k_ap [(0, .inl (2, out.1)), (1, .inr (.inr (.inl out.2)))] (shLaw, I, L, Rf))) ad (k_ap [(0, .inl (2, c0_2)), (1, .inr (.inr (.inl a1)))] (shLaw, I, L, Rf)) 0 [some (.ref 0)] [] := by
  intro c0_2 a1 h
  unfold bX1_beFall_0 at h
  refine r_aload_n C dX1_beFall_0 (rfl : 0 + 1 = 1) rfl ?_
  refine r_iconst (v := (0 : Int32)) C dX1_beFall_1 (rfl : 1 + 1 = 2) rfl ?_
  refine p_I (us' := [(0, .inl (2, (0 : Int32))), (1, .inr (.inr (.inl a1)))]) C dX1_beFall_2 (rfl : 2 + 3 = 5) fp_X1_18 rfl rfl ds_X1_beFall rfl rfl rfl ?_
  refine r_aload_n C dX1_beFall_5 (rfl : 5 + 1 = 6) rfl ?_
  refine r_iconst (v := (-1 : Int32)) C dX1_beFall_6 (rfl : 6 + 1 = 7) rfl ?_
  obtain ⟨r7, q7, h⟩ := k_b_of h
  refine d_V (As := [.int (-1 : Int32)]) (st := []) (st' := []) (h' := k_ap [(0, .inl (2, r7.1)), (1, .inr (.inr (.inl r7.2)))] (shLaw, I, L, Rf)) C hR ⟨Nat.zero_le _, Nat.zero_le _⟩ mv_X1_put lk_X1_22 dX1_beFall_7 (rfl : 7 + 3 = 10) rfl rfl rfl rfl (c_X1_put X.l u (k_ap [(0, .inl (2, (0 : Int32))), (1, .inr (.inr (.inl a1)))] (shLaw, I, L, Rf)) rfl rfl rfl q7) rfl rfl rfl (k_jn (us' := [(0, .inl (2, r7.1)), (1, .inr (.inr (.inl r7.2)))]) ds_X1_beFall rfl rfl rfl) rfl ?_
  refine r_aload_n C dX1_beFall_10 (rfl : 10 + 1 = 11) rfl ?_
  refine r_iconst (v := (2 : Int32)) C dX1_beFall_11 (rfl : 11 + 1 = 12) rfl ?_
  obtain ⟨r12, q12, h⟩ := k_b_of h
  refine d_V (As := [.int (2 : Int32)]) (st := []) (st' := []) (h' := k_ap [(0, .inl (2, r12.1)), (1, .inr (.inr (.inl r12.2)))] (shLaw, I, L, Rf)) C hR ⟨Nat.zero_le _, Nat.zero_le _⟩ mv_X1_put lk_X1_22 dX1_beFall_12 (rfl : 12 + 3 = 15) rfl rfl rfl rfl (c_X1_put X.l u (k_ap [(0, .inl (2, r7.1)), (1, .inr (.inr (.inl r7.2)))] (shLaw, I, L, Rf)) rfl rfl rfl q12) rfl rfl rfl (k_jn (us' := [(0, .inl (2, r12.1)), (1, .inr (.inr (.inl r12.2)))]) ds_X1_beFall rfl rfl rfl) rfl ?_
  refine r_aload_n C dX1_beFall_15 (rfl : 15 + 1 = 16) rfl ?_
  refine r_bipush (v := (-12 : Int32)) C dX1_beFall_16 (rfl : 16 + 2 = 18) rfl ?_
  obtain ⟨r18, q18, h⟩ := k_b_of h
  refine d_V (As := [.int (-12 : Int32)]) (st := []) (st' := []) (h' := k_ap [(0, .inl (2, r18.1)), (1, .inr (.inr (.inl r18.2)))] (shLaw, I, L, Rf)) C hR ⟨Nat.zero_le _, Nat.zero_le _⟩ mv_X1_put lk_X1_22 dX1_beFall_18 (rfl : 18 + 3 = 21) rfl rfl rfl rfl (c_X1_put X.l u (k_ap [(0, .inl (2, r12.1)), (1, .inr (.inr (.inl r12.2)))] (shLaw, I, L, Rf)) rfl rfl rfl q18) rfl rfl rfl (k_jn (us' := [(0, .inl (2, r18.1)), (1, .inr (.inr (.inl r18.2)))]) ds_X1_beFall rfl rfl rfl) rfl ?_
  cases h
  exact r_vret C hr dX1_beFall_21
def f_X1_beFall (u : Nat) (c0_2 : Int32) (a1 : (Nat → Int32)) : Option (Int32 × (Nat → Int32)) := (bX1_beFall_0 u c0_2 a1)
set_option maxHeartbeats 400000 in
set_option maxRecDepth 100000 in
theorem c_X1_beFall (l : Launch) (u : Nat) (h : k_H) (hsh : h.1 = shLaw) {c0_2 : Int32} (ec0_2 : h.2.1 0 2 = c0_2) {a1 : (Nat → Int32)} (ea1 : h.2.1 1 = a1) {out : Int32 × (Nat → Int32)} (hf : f_X1_beFall u c0_2 a1 = some out) : k_CT l yX1_beFall cX1_beFall 1 none 1 21 [.ref 0] h none [(0, .inl (2, out.1)), (1, .inr (.inr (.inl out.2)))] := by
  obtain ⟨sh, I, L, Rf⟩ := h
  try dsimp only
  obtain rfl : sh = shLaw := hsh
  refine k_ofW (by decide) (Nat.le_of_ble_eq_true rfl) ?_
  intro X ad hl hR0 hr C
  have hR : X.R.frames = 1 ∧ X.R.locals = 21 := by rw [hR0]; exact ⟨rfl, rfl⟩
  have h := hf
  unfold f_X1_beFall at h
  refine k_start (us := [(0, .inl (2, c0_2)), (1, .inr (.inr (.inl a1)))]) (k_ao_I ec0_2 (k_ao_A ea1 k_ap_0)) ?_
  show k_W X 1 0 0 _ ad (k_ap [(0, .inl (2, c0_2)), (1, .inr (.inr (.inl a1)))] (shLaw, I, L, Rf)) 0 [some (.ref 0)] []
  refine k_mask [true] ?_
  exact sX1_beFall_0 u C hr hR c0_2 a1 h
/-! LullabyPit$Law.beHarm()V -/
theorem ds_X1_beHarm : k_ds [(0, 0, 2), (1, 2, 0)] = true := by decide
def bX1_beHarm_0 (u : Nat) (c0_2 : Int32) (a1 : (Nat → Int32)) : Option (Int32 × (Nat → Int32)) := k_b (f_X1_put u (0 : Int32) a1 (-7 : Int32)) (fun r8 => some (r8.1, r8.2))
set_option maxHeartbeats 400000 in
set_option maxRecDepth 100000 in
theorem sX1_beHarm_0 (u : Nat) {X : k_X} {ad : Nat → Nat} (C : k_C X cX1_beHarm RX1 1 ad) (hr : X.meth.sig.returnType = none) (hR : X.R.frames = 1 ∧ X.R.locals = 21) {I : Nat → Nat → Int32} {L : Nat → Nat → Int64} {Rf : Nat → Nat → Option Nat} {out : Int32 × (Nat → Int32)} : ∀ (c0_2 : Int32) (a1 : (Nat → Int32)), bX1_beHarm_0 u c0_2 a1 = some out → k_W X 1 0 0 (k_Q X ad none (k_ap [(0, .inl (2, out.1)), (1, .inr (.inr (.inl out.2)))] (shLaw, I, L, Rf))) ad (k_ap [(0, .inl (2, c0_2)), (1, .inr (.inr (.inl a1)))] (shLaw, I, L, Rf)) 0 [some (.ref 0)] [] := by
  intro c0_2 a1 h
  unfold bX1_beHarm_0 at h
  refine r_aload_n C dX1_beHarm_0 (rfl : 0 + 1 = 1) rfl ?_
  refine r_iconst (v := (0 : Int32)) C dX1_beHarm_1 (rfl : 1 + 1 = 2) rfl ?_
  refine p_I (us' := [(0, .inl (2, (0 : Int32))), (1, .inr (.inr (.inl a1)))]) C dX1_beHarm_2 (rfl : 2 + 3 = 5) fp_X1_18 rfl rfl ds_X1_beHarm rfl rfl rfl ?_
  refine r_aload_n C dX1_beHarm_5 (rfl : 5 + 1 = 6) rfl ?_
  refine r_bipush (v := (-7 : Int32)) C dX1_beHarm_6 (rfl : 6 + 2 = 8) rfl ?_
  obtain ⟨r8, q8, h⟩ := k_b_of h
  refine d_V (As := [.int (-7 : Int32)]) (st := []) (st' := []) (h' := k_ap [(0, .inl (2, r8.1)), (1, .inr (.inr (.inl r8.2)))] (shLaw, I, L, Rf)) C hR ⟨Nat.zero_le _, Nat.zero_le _⟩ mv_X1_put lk_X1_22 dX1_beHarm_8 (rfl : 8 + 3 = 11) rfl rfl rfl rfl (c_X1_put X.l u (k_ap [(0, .inl (2, (0 : Int32))), (1, .inr (.inr (.inl a1)))] (shLaw, I, L, Rf)) rfl rfl rfl q8) rfl rfl rfl (k_jn (us' := [(0, .inl (2, r8.1)), (1, .inr (.inr (.inl r8.2)))]) ds_X1_beHarm rfl rfl rfl) rfl ?_
  cases h
  exact r_vret C hr dX1_beHarm_11
def f_X1_beHarm (u : Nat) (c0_2 : Int32) (a1 : (Nat → Int32)) : Option (Int32 × (Nat → Int32)) := (bX1_beHarm_0 u c0_2 a1)
set_option maxHeartbeats 400000 in
set_option maxRecDepth 100000 in
theorem c_X1_beHarm (l : Launch) (u : Nat) (h : k_H) (hsh : h.1 = shLaw) {c0_2 : Int32} (ec0_2 : h.2.1 0 2 = c0_2) {a1 : (Nat → Int32)} (ea1 : h.2.1 1 = a1) {out : Int32 × (Nat → Int32)} (hf : f_X1_beHarm u c0_2 a1 = some out) : k_CT l yX1_beHarm cX1_beHarm 1 none 1 21 [.ref 0] h none [(0, .inl (2, out.1)), (1, .inr (.inr (.inl out.2)))] := by
  obtain ⟨sh, I, L, Rf⟩ := h
  try dsimp only
  obtain rfl : sh = shLaw := hsh
  refine k_ofW (by decide) (Nat.le_of_ble_eq_true rfl) ?_
  intro X ad hl hR0 hr C
  have hR : X.R.frames = 1 ∧ X.R.locals = 21 := by rw [hR0]; exact ⟨rfl, rfl⟩
  have h := hf
  unfold f_X1_beHarm at h
  refine k_start (us := [(0, .inl (2, c0_2)), (1, .inr (.inr (.inl a1)))]) (k_ao_I ec0_2 (k_ao_A ea1 k_ap_0)) ?_
  show k_W X 1 0 0 _ ad (k_ap [(0, .inl (2, c0_2)), (1, .inr (.inr (.inl a1)))] (shLaw, I, L, Rf)) 0 [some (.ref 0)] []
  refine k_mask [true] ?_
  exact sX1_beHarm_0 u C hr hR c0_2 a1 h
/-! LullabyPit$Law.copyFrom(LLullabyPit$Law;)V -/
theorem ds_X1_copyFrom : k_ds [(0, 0, 2), (1, 2, 0)] = true := by decide
def bX1_copyFrom_0 (u : Nat) (c3_2 : Int32) (a4 : (Nat → Int32)) (c0_2 : Int32) (a1 : (Nat → Int32)) : Option (Int32 × (Nat → Int32)) := some (c3_2, (va_cpy a4 a1 0 0 150))
set_option maxHeartbeats 400000 in
set_option maxRecDepth 100000 in
theorem sX1_copyFrom_0 (u : Nat) {X : k_X} {ad : Nat → Nat} (C : k_C X cX1_copyFrom RX1 2 ad) (hr : X.meth.sig.returnType = none) (hR : X.R.frames = 1 ∧ X.R.locals = 40) {I : Nat → Nat → Int32} {L : Nat → Nat → Int64} {Rf : Nat → Nat → Option Nat} {c3_2 : Int32} (ec3_2 : I 3 2 = c3_2) {a4 : (Nat → Int32)} (ea4 : I 4 = a4) {out : Int32 × (Nat → Int32)} : ∀ (c0_2 : Int32) (a1 : (Nat → Int32)), bX1_copyFrom_0 u c3_2 a4 c0_2 a1 = some out → k_W X 2 0 0 (k_Q X ad none (k_ap [(0, .inl (2, out.1)), (1, .inr (.inr (.inl out.2)))] (shLaw2, I, L, Rf))) ad (k_ap [(0, .inl (2, c0_2)), (1, .inr (.inr (.inl a1)))] (shLaw2, I, L, Rf)) 0 [some (.ref 0), some (.ref 3)] [] := by
  intro c0_2 a1 h
  unfold bX1_copyFrom_0 at h
  refine r_aload_n C dX1_copyFrom_0 (rfl : 0 + 1 = 1) rfl ?_
  refine r_getR (q := 4) C dX1_copyFrom_1 (rfl : 1 + 3 = 4) fl_X1_9 rfl rfl ?_
  refine r_iconst (v := (0 : Int32)) C dX1_copyFrom_4 (rfl : 4 + 1 = 5) rfl ?_
  refine r_aload_n C dX1_copyFrom_5 (rfl : 5 + 1 = 6) rfl ?_
  refine r_getR (q := 1) C dX1_copyFrom_6 (rfl : 6 + 3 = 9) fl_X1_9 rfl rfl ?_
  refine r_iconst (v := (0 : Int32)) C dX1_copyFrom_9 (rfl : 9 + 1 = 10) rfl ?_
  refine r_sipush (v := (150 : Int32)) C dX1_copyFrom_10 (rfl : 10 + 3 = 13) rfl ?_
  refine r_acopy (f := a4) (g := a1) (us' := [(0, .inl (2, c0_2)), (1, .inr (.inr (.inl (va_cpy a4 a1 0 0 150))))]) C hR dX1_copyFrom_13 (rfl : 13 + 3 = 16) lm_X1_26 rfl rfl ea4 rfl (by decide) (by decide) (by decide) (by decide) (by decide) ds_X1_copyFrom rfl rfl rfl rfl rfl ?_
  refine r_aload_n C dX1_copyFrom_16 (rfl : 16 + 1 = 17) rfl ?_
  refine r_aload_n C dX1_copyFrom_17 (rfl : 17 + 1 = 18) rfl ?_
  refine r_getI (v := c3_2) C dX1_copyFrom_18 (rfl : 18 + 3 = 21) fl_X1_18 rfl rfl ec3_2 ?_
  refine p_I (us' := [(0, .inl (2, c3_2)), (1, .inr (.inr (.inl (va_cpy a4 a1 0 0 150))))]) C dX1_copyFrom_21 (rfl : 21 + 3 = 24) fp_X1_18 rfl rfl ds_X1_copyFrom rfl rfl rfl ?_
  cases h
  exact r_vret C hr dX1_copyFrom_24
def f_X1_copyFrom (u : Nat) (c0_2 : Int32) (a1 : (Nat → Int32)) (c3_2 : Int32) (a4 : (Nat → Int32)) : Option (Int32 × (Nat → Int32)) := (bX1_copyFrom_0 u c3_2 a4 c0_2 a1)
set_option maxHeartbeats 400000 in
set_option maxRecDepth 100000 in
theorem c_X1_copyFrom (l : Launch) (u : Nat) (h : k_H) (hsh : h.1 = shLaw2) {c0_2 : Int32} (ec0_2 : h.2.1 0 2 = c0_2) {a1 : (Nat → Int32)} (ea1 : h.2.1 1 = a1) {c3_2 : Int32} (ec3_2 : h.2.1 3 2 = c3_2) {a4 : (Nat → Int32)} (ea4 : h.2.1 4 = a4) {out : Int32 × (Nat → Int32)} (hf : f_X1_copyFrom u c0_2 a1 c3_2 a4 = some out) : k_CT l yX1_copyFrom cX1_copyFrom 2 none 1 40 [.ref 0, .ref 3] h none [(0, .inl (2, out.1)), (1, .inr (.inr (.inl out.2)))] := by
  obtain ⟨sh, I, L, Rf⟩ := h
  try dsimp only
  obtain rfl : sh = shLaw2 := hsh
  refine k_ofW (by decide) (Nat.le_of_ble_eq_true rfl) ?_
  intro X ad hl hR0 hr C
  have hR : X.R.frames = 1 ∧ X.R.locals = 40 := by rw [hR0]; exact ⟨rfl, rfl⟩
  have h := hf
  unfold f_X1_copyFrom at h
  refine k_start (us := [(0, .inl (2, c0_2)), (1, .inr (.inr (.inl a1)))]) (k_ao_I ec0_2 (k_ao_A ea1 k_ap_0)) ?_
  show k_W X 2 0 0 _ ad (k_ap [(0, .inl (2, c0_2)), (1, .inr (.inr (.inl a1)))] (shLaw2, I, L, Rf)) 0 [some (.ref 0), some (.ref 3)] []
  refine k_mask [true, true] ?_
  exact sX1_copyFrom_0 u C hr hR ec3_2 ea4 c0_2 a1 h
/-! LullabyPit$Law.joined(III)I -/
theorem ds_X1_joined : k_ds [] = true := by decide
def bX1_joined_0 (u : Nat) (v0 : Int32) (v1 : Int32) (v2 : Int32) : Option (Int32) := (if v0 = (-13 : Int32) then some (v1 * v2) else (if v0 = (-12 : Int32) then some (v1 - v2) else (if v0 = (-11 : Int32) then some (v1 + v2) else (if v0 = (-10 : Int32) then (if v1 ≤ v2 then some v2 else some v1) else (if v0 = (-9 : Int32) then (if v2 ≤ v1 then some v2 else some v1) else (if v2 = (0 : Int32) then some (0 : Int32) else k_d v2 (some (v1 / v2))))))))
set_option maxHeartbeats 400000 in
set_option maxRecDepth 100000 in
theorem sX1_joined_0 (u : Nat) {X : k_X} {ad : Nat → Nat} {sh : List k_Sh} (C : k_C X cX1_joined RX1 3 ad) (hr : X.meth.sig.returnType = (some .int)) (hR : X.R.frames = 0 ∧ X.R.locals = 0) {I : Nat → Nat → Int32} {L : Nat → Nat → Int64} {Rf : Nat → Nat → Option Nat} {out : Int32} : ∀ (v0 : Int32) (v1 : Int32) (v2 : Int32), bX1_joined_0 u v0 v1 v2 = some out → k_W X 3 0 0 (k_Q X ad (some (.int out)) (k_ap [] (sh, I, L, Rf))) ad (k_ap [] (sh, I, L, Rf)) 0 [some (.int v0), some (.int v1), some (.int v2)] [] := by
  intro v0 v1 v2 h
  unfold bX1_joined_0 at h
  refine r_iload_n C dX1_joined_0 (rfl : 0 + 1 = 1) rfl ?_
  by_cases c1_0 : v0 = (-13 : Int32)
  · have h := k_t c1_0 h
    refine r_tabIn (off := 65) (tgt := 66) C dX1_joined_1 (by rw [c1_0]; decide) (by rw [c1_0]; decide) (by rw [c1_0]; rfl) (by decide) ?_
    refine r_iload_n C dX1_joined_66 (rfl : 66 + 1 = 67) rfl ?_
    refine r_iload_n C dX1_joined_67 (rfl : 67 + 1 = 68) rfl ?_
    refine r_imul C dX1_joined_68 (rfl : 68 + 1 = 69) ?_
    cases h
    exact r_iret C hr dX1_joined_69
  · have h := k_f c1_0 h
    by_cases c1_1 : v0 = (-12 : Int32)
    · have h := k_t c1_1 h
      refine r_tabIn (off := 61) (tgt := 62) C dX1_joined_1 (by rw [c1_1]; decide) (by rw [c1_1]; decide) (by rw [c1_1]; rfl) (by decide) ?_
      refine r_iload_n C dX1_joined_62 (rfl : 62 + 1 = 63) rfl ?_
      refine r_iload_n C dX1_joined_63 (rfl : 63 + 1 = 64) rfl ?_
      refine r_isub C dX1_joined_64 (rfl : 64 + 1 = 65) ?_
      cases h
      exact r_iret C hr dX1_joined_65
    · have h := k_f c1_1 h
      by_cases c1_2 : v0 = (-11 : Int32)
      · have h := k_t c1_2 h
        refine r_tabIn (off := 57) (tgt := 58) C dX1_joined_1 (by rw [c1_2]; decide) (by rw [c1_2]; decide) (by rw [c1_2]; rfl) (by decide) ?_
        refine r_iload_n C dX1_joined_58 (rfl : 58 + 1 = 59) rfl ?_
        refine r_iload_n C dX1_joined_59 (rfl : 59 + 1 = 60) rfl ?_
        refine r_iadd C dX1_joined_60 (rfl : 60 + 1 = 61) ?_
        cases h
        exact r_iret C hr dX1_joined_61
      · have h := k_f c1_2 h
        by_cases c1_3 : v0 = (-10 : Int32)
        · have h := k_t c1_3 h
          refine r_tabIn (off := 46) (tgt := 47) C dX1_joined_1 (by rw [c1_3]; decide) (by rw [c1_3]; decide) (by rw [c1_3]; rfl) (by decide) ?_
          refine r_iload_n C dX1_joined_47 (rfl : 47 + 1 = 48) rfl ?_
          refine r_iload_n C dX1_joined_48 (rfl : 48 + 1 = 49) rfl ?_
          refine r_icmp_le (tgt := 56) C dX1_joined_49 (by decide) (rfl : 49 + 3 = 52) (fun c49 => ?_) (fun c49 => ?_)
          · have h := k_t c49 h
            refine r_iload_n C dX1_joined_56 (rfl : 56 + 1 = 57) rfl ?_
            cases h
            exact r_iret C hr dX1_joined_57
          · have h := k_f c49 h
            refine r_iload_n C dX1_joined_52 (rfl : 52 + 1 = 53) rfl ?_
            refine r_goto (tgt := 57) C dX1_joined_53 (by decide) ?_
            cases h
            exact r_iret C hr dX1_joined_57
        · have h := k_f c1_3 h
          by_cases c1_4 : v0 = (-9 : Int32)
          · have h := k_t c1_4 h
            refine r_tabIn (off := 35) (tgt := 36) C dX1_joined_1 (by rw [c1_4]; decide) (by rw [c1_4]; decide) (by rw [c1_4]; rfl) (by decide) ?_
            refine r_iload_n C dX1_joined_36 (rfl : 36 + 1 = 37) rfl ?_
            refine r_iload_n C dX1_joined_37 (rfl : 37 + 1 = 38) rfl ?_
            refine r_icmp_ge (tgt := 45) C dX1_joined_38 (by decide) (rfl : 38 + 3 = 41) (fun c38 => ?_) (fun c38 => ?_)
            · have h := k_t c38 h
              refine r_iload_n C dX1_joined_45 (rfl : 45 + 1 = 46) rfl ?_
              cases h
              exact r_iret C hr dX1_joined_46
            · have h := k_f c38 h
              refine r_iload_n C dX1_joined_41 (rfl : 41 + 1 = 42) rfl ?_
              refine r_goto (tgt := 46) C dX1_joined_42 (by decide) ?_
              cases h
              exact r_iret C hr dX1_joined_46
          · have h := k_f c1_4 h
            have hsw : (v0 : Int32).toInt < -13 ∨ -9 < (v0 : Int32).toInt := k_sw [(-13 : Int32), (-12 : Int32), (-11 : Int32), (-10 : Int32), (-9 : Int32)] (by decide) (by intro v hv; simp only [List.mem_cons, List.not_mem_nil, or_false] at hv; rcases hv with rfl | rfl | rfl | rfl | rfl <;> assumption)
            refine r_tabOut (tgt := 70) C dX1_joined_1 hsw (by decide) ?_
            refine r_iload_n C dX1_joined_70 (rfl : 70 + 1 = 71) rfl ?_
            refine r_if_ne (tgt := 78) C dX1_joined_71 (by decide) (rfl : 71 + 3 = 74) (fun c71 => ?_) (fun c71 => ?_)
            · have h := k_f c71 h
              refine r_iload_n C dX1_joined_78 (rfl : 78 + 1 = 79) rfl ?_
              refine r_iload_n C dX1_joined_79 (rfl : 79 + 1 = 80) rfl ?_
              obtain ⟨hz80, h⟩ := k_d_of h
              refine r_idiv C dX1_joined_80 (rfl : 80 + 1 = 81) hz80 ?_
              cases h
              exact r_iret C hr dX1_joined_81
            · have h := k_t c71 h
              refine r_iconst (v := (0 : Int32)) C dX1_joined_74 (rfl : 74 + 1 = 75) rfl ?_
              refine r_goto (tgt := 81) C dX1_joined_75 (by decide) ?_
              cases h
              exact r_iret C hr dX1_joined_81
def f_X1_joined (u : Nat) (x0 : Int32) (x1 : Int32) (x2 : Int32) : Option (Int32) := (bX1_joined_0 u x0 x1 x2)
set_option maxHeartbeats 400000 in
set_option maxRecDepth 100000 in
theorem c_X1_joined (l : Launch) (u : Nat) (h : k_H)  {x0 : Int32} {x1 : Int32} {x2 : Int32} {out : Int32} (hf : f_X1_joined u x0 x1 x2 = some out) : k_CT l yX1_joined cX1_joined 3 (some .int) 0 0 [.int x0, .int x1, .int x2] h (some (.int out)) [] := by
  obtain ⟨sh, I, L, Rf⟩ := h
  try dsimp only
  refine k_ofW (by decide) (Nat.le_of_ble_eq_true rfl) ?_
  intro X ad hl hR0 hr C
  have hR : X.R.frames = 0 ∧ X.R.locals = 0 := by rw [hR0]; exact ⟨rfl, rfl⟩
  have h := hf
  unfold f_X1_joined at h
  refine k_start (us := []) k_ap_0 ?_
  show k_W X 3 0 0 _ ad (k_ap [] (sh, I, L, Rf)) 0 [some (.int x0), some (.int x1), some (.int x2)] []
  refine k_mask [true, true, true] ?_
  exact sX1_joined_0 u C hr hR x0 x1 x2 h
/-! LullabyPit$Mine.propsBeside(I)I -/
theorem ds_X3_propsBeside : k_ds [] = true := by decide
def bX3_propsBeside_24 (u : Nat) (c0_4 : Int64) (v1 : Int32) (v2 : Int32) (w0 : Int32) : Option (Int32) := (if (7 : Int32) ≤ v2 then some (w0 + (0 : Int32)) else some (w0 + ((((c0_4).toUInt64 >>> (((v1 + (1 : Int32))).toInt64.toUInt64 &&& Int64.toUInt64 63)).toInt64 &&& (1 : Int64))).toInt32))
set_option maxHeartbeats 400000 in
set_option maxRecDepth 100000 in
theorem sX3_propsBeside_24 (u : Nat) {X : k_X} {ad : Nat → Nat} (C : k_C X cX3_propsBeside RX3 5 ad) (hr : X.meth.sig.returnType = (some .int)) (hR : X.R.frames = 0 ∧ X.R.locals = 0) {I : Nat → Nat → Int32} {L : Nat → Nat → Int64} {Rf : Nat → Nat → Option Nat} {c0_4 : Int64} (ec0_4 : L 0 4 = c0_4) {out : Int32} : ∀ (v1 : Int32) (v2 : Int32) (w0 : Int32), bX3_propsBeside_24 u c0_4 v1 v2 w0 = some out → k_W X 5 0 0 (k_Q X ad (some (.int out)) (k_ap [] (shMine, I, L, Rf))) ad (k_ap [] (shMine, I, L, Rf)) 24 [some (.ref 0), some (.int v1), some (.int v2), none, none] [.int w0] := by
  intro v1 v2 w0 h
  unfold bX3_propsBeside_24 at h
  refine r_istore_n C dX3_propsBeside_24 (rfl : 24 + 1 = 25) (by decide) (Nat.le_of_ble_eq_true rfl) ?_
  show k_W _ _ _ _ _ _ _ _ [some (.ref 0), some (.int v1), some (.int v2), some (.int w0), none] _
  refine r_iload_n C dX3_propsBeside_25 (rfl : 25 + 1 = 26) rfl ?_
  refine r_bipush (v := (7 : Int32)) C dX3_propsBeside_26 (rfl : 26 + 2 = 28) rfl ?_
  refine r_icmp_ge (tgt := 45) C dX3_propsBeside_28 (by decide) (rfl : 28 + 3 = 31) (fun c28 => ?_) (fun c28 => ?_)
  · have h := k_t c28 h
    refine r_iconst (v := (0 : Int32)) C dX3_propsBeside_45 (rfl : 45 + 1 = 46) rfl ?_
    refine r_istore C dX3_propsBeside_46 (rfl : 46 + 2 = 48) (by decide) (Nat.le_of_ble_eq_true rfl) ?_
    show k_W _ _ _ _ _ _ _ _ [some (.ref 0), some (.int v1), some (.int v2), some (.int w0), some (.int (0 : Int32))] _
    refine r_iload_n C dX3_propsBeside_48 (rfl : 48 + 1 = 49) rfl ?_
    refine r_iload C dX3_propsBeside_49 (rfl : 49 + 2 = 51) rfl ?_
    refine r_iadd C dX3_propsBeside_51 (rfl : 51 + 1 = 52) ?_
    cases h
    exact r_iret C hr dX3_propsBeside_52
  · have h := k_f c28 h
    refine r_aload_n C dX3_propsBeside_31 (rfl : 31 + 1 = 32) rfl ?_
    refine r_getL (v := c0_4) C dX3_propsBeside_32 (rfl : 32 + 3 = 35) fl_X3_39 rfl rfl ec0_4 ?_
    refine r_iload_n C dX3_propsBeside_35 (rfl : 35 + 1 = 36) rfl ?_
    refine r_iconst (v := (1 : Int32)) C dX3_propsBeside_36 (rfl : 36 + 1 = 37) rfl ?_
    refine r_iadd C dX3_propsBeside_37 (rfl : 37 + 1 = 38) ?_
    refine r_lushr C dX3_propsBeside_38 (rfl : 38 + 1 = 39) ?_
    refine r_lconst (v := (1 : Int64)) C dX3_propsBeside_39 (rfl : 39 + 1 = 40) rfl ?_
    refine r_land C dX3_propsBeside_40 (rfl : 40 + 1 = 41) ?_
    refine r_l2i C dX3_propsBeside_41 (rfl : 41 + 1 = 42) ?_
    refine r_goto (tgt := 46) C dX3_propsBeside_42 (by decide) ?_
    refine r_istore C dX3_propsBeside_46 (rfl : 46 + 2 = 48) (by decide) (Nat.le_of_ble_eq_true rfl) ?_
    show k_W _ _ _ _ _ _ _ _ [some (.ref 0), some (.int v1), some (.int v2), some (.int w0), some (.int ((((c0_4).toUInt64 >>> (((v1 + (1 : Int32))).toInt64.toUInt64 &&& Int64.toUInt64 63)).toInt64 &&& (1 : Int64))).toInt32)] _
    refine r_iload_n C dX3_propsBeside_48 (rfl : 48 + 1 = 49) rfl ?_
    refine r_iload C dX3_propsBeside_49 (rfl : 49 + 2 = 51) rfl ?_
    refine r_iadd C dX3_propsBeside_51 (rfl : 51 + 1 = 52) ?_
    cases h
    exact r_iret C hr dX3_propsBeside_52
def bX3_propsBeside_0 (u : Nat) (c0_4 : Int64) (v1 : Int32) : Option (Int32) := (if (v1 - v1 / (8 : Int32) * (8 : Int32)) ≤ (0 : Int32) then (bX3_propsBeside_24 u c0_4 v1 (v1 - v1 / (8 : Int32) * (8 : Int32)) (0 : Int32)) else (bX3_propsBeside_24 u c0_4 v1 (v1 - v1 / (8 : Int32) * (8 : Int32)) (((((c0_4).toUInt64 >>> (((v1 - (1 : Int32))).toInt64.toUInt64 &&& Int64.toUInt64 63)).toInt64 &&& (1 : Int64))).toInt32)))
set_option maxHeartbeats 400000 in
set_option maxRecDepth 100000 in
theorem sX3_propsBeside_0 (u : Nat) {X : k_X} {ad : Nat → Nat} (C : k_C X cX3_propsBeside RX3 5 ad) (hr : X.meth.sig.returnType = (some .int)) (hR : X.R.frames = 0 ∧ X.R.locals = 0) {I : Nat → Nat → Int32} {L : Nat → Nat → Int64} {Rf : Nat → Nat → Option Nat} {c0_4 : Int64} (ec0_4 : L 0 4 = c0_4) {out : Int32} : ∀ (v1 : Int32), bX3_propsBeside_0 u c0_4 v1 = some out → k_W X 5 0 0 (k_Q X ad (some (.int out)) (k_ap [] (shMine, I, L, Rf))) ad (k_ap [] (shMine, I, L, Rf)) 0 [some (.ref 0), some (.int v1), none, none, none] [] := by
  intro v1 h
  unfold bX3_propsBeside_0 at h
  refine r_iload_n C dX3_propsBeside_0 (rfl : 0 + 1 = 1) rfl ?_
  refine r_bipush (v := (8 : Int32)) C dX3_propsBeside_1 (rfl : 1 + 2 = 3) rfl ?_
  refine r_irem C dX3_propsBeside_3 (rfl : 3 + 1 = 4) (by decide) ?_
  refine r_istore_n C dX3_propsBeside_4 (rfl : 4 + 1 = 5) (by decide) (Nat.le_of_ble_eq_true rfl) ?_
  show k_W _ _ _ _ _ _ _ _ [some (.ref 0), some (.int v1), some (.int (v1 - v1 / (8 : Int32) * (8 : Int32))), none, none] _
  refine r_iload_n C dX3_propsBeside_5 (rfl : 5 + 1 = 6) rfl ?_
  refine r_if_le (tgt := 23) C dX3_propsBeside_6 (by decide) (rfl : 6 + 3 = 9) (fun c6 => ?_) (fun c6 => ?_)
  · have h := k_t c6 h
    refine r_iconst (v := (0 : Int32)) C dX3_propsBeside_23 (rfl : 23 + 1 = 24) rfl ?_
    refine k_mask [true, true, true, false, false] ?_
    exact sX3_propsBeside_24 u C hr hR ec0_4 v1 (v1 - v1 / (8 : Int32) * (8 : Int32)) (0 : Int32) h
  · have h := k_f c6 h
    refine r_aload_n C dX3_propsBeside_9 (rfl : 9 + 1 = 10) rfl ?_
    refine r_getL (v := c0_4) C dX3_propsBeside_10 (rfl : 10 + 3 = 13) fl_X3_39 rfl rfl ec0_4 ?_
    refine r_iload_n C dX3_propsBeside_13 (rfl : 13 + 1 = 14) rfl ?_
    refine r_iconst (v := (1 : Int32)) C dX3_propsBeside_14 (rfl : 14 + 1 = 15) rfl ?_
    refine r_isub C dX3_propsBeside_15 (rfl : 15 + 1 = 16) ?_
    refine r_lushr C dX3_propsBeside_16 (rfl : 16 + 1 = 17) ?_
    refine r_lconst (v := (1 : Int64)) C dX3_propsBeside_17 (rfl : 17 + 1 = 18) rfl ?_
    refine r_land C dX3_propsBeside_18 (rfl : 18 + 1 = 19) ?_
    refine r_l2i C dX3_propsBeside_19 (rfl : 19 + 1 = 20) ?_
    refine r_goto (tgt := 24) C dX3_propsBeside_20 (by decide) ?_
    refine k_mask [true, true, true, false, false] ?_
    exact sX3_propsBeside_24 u C hr hR ec0_4 v1 (v1 - v1 / (8 : Int32) * (8 : Int32)) (((((c0_4).toUInt64 >>> (((v1 - (1 : Int32))).toInt64.toUInt64 &&& Int64.toUInt64 63)).toInt64 &&& (1 : Int64))).toInt32) h
def f_X3_propsBeside (u : Nat) (c0_4 : Int64) (x0 : Int32) : Option (Int32) := (bX3_propsBeside_0 u c0_4 x0)
set_option maxHeartbeats 400000 in
set_option maxRecDepth 100000 in
theorem c_X3_propsBeside (l : Launch) (u : Nat) (h : k_H) (hsh : h.1 = shMine) {c0_4 : Int64} (ec0_4 : h.2.2.1 0 4 = c0_4) {x0 : Int32} {out : Int32} (hf : f_X3_propsBeside u c0_4 x0 = some out) : k_CT l yX3_propsBeside cX3_propsBeside 5 (some .int) 0 0 [.ref 0, .int x0] h (some (.int out)) [] := by
  obtain ⟨sh, I, L, Rf⟩ := h
  try dsimp only
  obtain rfl : sh = shMine := hsh
  refine k_ofW (by decide) (Nat.le_of_ble_eq_true rfl) ?_
  intro X ad hl hR0 hr C
  have hR : X.R.frames = 0 ∧ X.R.locals = 0 := by rw [hR0]; exact ⟨rfl, rfl⟩
  have h := hf
  unfold f_X3_propsBeside at h
  refine k_start (us := []) k_ap_0 ?_
  show k_W X 5 0 0 _ ad (k_ap [] (shMine, I, L, Rf)) 0 [some (.ref 0), some (.int x0), none, none, none] []
  refine k_mask [true, true, false, false, false] ?_
  exact sX3_propsBeside_0 u C hr hR ec0_4 x0 h
/-! LullabyPit$Mine.openCells()J -/
theorem ds_X3_openCells : k_ds [] = true := by decide
def bX3_openCells_0 (u : Nat) (c0_3 : Int64) (c0_4 : Int64) : Option (Int64) := some (c0_3 ||| c0_4)
set_option maxHeartbeats 400000 in
set_option maxRecDepth 100000 in
theorem sX3_openCells_0 (u : Nat) {X : k_X} {ad : Nat → Nat} (C : k_C X cX3_openCells RX3 1 ad) (hr : X.meth.sig.returnType = (some .long)) (hR : X.R.frames = 0 ∧ X.R.locals = 0) {I : Nat → Nat → Int32} {L : Nat → Nat → Int64} {Rf : Nat → Nat → Option Nat} {c0_3 : Int64} (ec0_3 : L 0 3 = c0_3) {c0_4 : Int64} (ec0_4 : L 0 4 = c0_4) {out : Int64} : bX3_openCells_0 u c0_3 c0_4 = some out → k_W X 1 0 0 (k_Q X ad (some (.long out)) (k_ap [] (shMine, I, L, Rf))) ad (k_ap [] (shMine, I, L, Rf)) 0 [some (.ref 0)] [] := by
  intro h
  unfold bX3_openCells_0 at h
  refine r_aload_n C dX3_openCells_0 (rfl : 0 + 1 = 1) rfl ?_
  refine r_getL (v := c0_3) C dX3_openCells_1 (rfl : 1 + 3 = 4) fl_X3_35 rfl rfl ec0_3 ?_
  refine r_aload_n C dX3_openCells_4 (rfl : 4 + 1 = 5) rfl ?_
  refine r_getL (v := c0_4) C dX3_openCells_5 (rfl : 5 + 3 = 8) fl_X3_39 rfl rfl ec0_4 ?_
  refine r_lor C dX3_openCells_8 (rfl : 8 + 1 = 9) ?_
  cases h
  exact r_lret C hr dX3_openCells_9
def f_X3_openCells (u : Nat) (c0_3 : Int64) (c0_4 : Int64) : Option (Int64) := (bX3_openCells_0 u c0_3 c0_4)
set_option maxHeartbeats 400000 in
set_option maxRecDepth 100000 in
theorem c_X3_openCells (l : Launch) (u : Nat) (h : k_H) (hsh : h.1 = shMine) {c0_3 : Int64} (ec0_3 : h.2.2.1 0 3 = c0_3) {c0_4 : Int64} (ec0_4 : h.2.2.1 0 4 = c0_4) {out : Int64} (hf : f_X3_openCells u c0_3 c0_4 = some out) : k_CT l yX3_openCells cX3_openCells 1 (some .long) 0 0 [.ref 0] h (some (.long out)) [] := by
  obtain ⟨sh, I, L, Rf⟩ := h
  try dsimp only
  obtain rfl : sh = shMine := hsh
  refine k_ofW (by decide) (Nat.le_of_ble_eq_true rfl) ?_
  intro X ad hl hR0 hr C
  have hR : X.R.frames = 0 ∧ X.R.locals = 0 := by rw [hR0]; exact ⟨rfl, rfl⟩
  have h := hf
  unfold f_X3_openCells at h
  refine k_start (us := []) k_ap_0 ?_
  show k_W X 1 0 0 _ ad (k_ap [] (shMine, I, L, Rf)) 0 [some (.ref 0)] []
  refine k_mask [true] ?_
  exact sX3_openCells_0 u C hr hR ec0_3 ec0_4 h
/-! LullabyPit$Mine.wide(I)I -/
theorem ds_X3_wide : k_ds [] = true := by decide
def bX3_wide_63 (u : Nat) (c0_3 : Int64) : Nat → Int32 → Int32 → Int32 → Option (Int32)
  | 0, _, _, _ => none
  | n + 1, v2, v3, v4 => (if (v2 + (8 : Int32)) ≤ v4 then some v3 else (if (lg_cmp (((c0_3).toUInt64 >>> ((v4).toInt64.toUInt64 &&& Int64.toUInt64 63)).toInt64 &&& (1 : Int64)) (0 : Int64)) = (0 : Int32) then some v3 else (bX3_wide_63 u c0_3 n v2 (v3 + (1 : Int32)) (v4 + (1 : Int32)))))
set_option maxHeartbeats 400000 in
set_option maxRecDepth 100000 in
theorem sX3_wide_63 (u : Nat) {X : k_X} {ad : Nat → Nat} (C : k_C X cX3_wide RX3 5 ad) (hr : X.meth.sig.returnType = (some .int)) (hR : X.R.frames = 0 ∧ X.R.locals = 0) {I : Nat → Nat → Int32} {L : Nat → Nat → Int64} {Rf : Nat → Nat → Option Nat} {c0_3 : Int64} (ec0_3 : L 0 3 = c0_3) {out : Int32} : ∀ (n : Nat) (v2 : Int32) (v3 : Int32) (v4 : Int32), bX3_wide_63 u c0_3 n v2 v3 v4 = some out → k_W X 5 0 0 (k_Q X ad (some (.int out)) (k_ap [] (shMine, I, L, Rf))) ad (k_ap [] (shMine, I, L, Rf)) 63 [some (.ref 0), none, some (.int v2), some (.int v3), some (.int v4)] [] := by
  intro n
  induction n with
  | zero => intro v2 v3 v4 h; cases h
  | succ n ih =>
    intro v2 v3 v4 h
    refine r_iload C dX3_wide_63 (rfl : 63 + 2 = 65) rfl ?_
    refine r_iload_n C dX3_wide_65 (rfl : 65 + 1 = 66) rfl ?_
    refine r_bipush (v := (8 : Int32)) C dX3_wide_66 (rfl : 66 + 2 = 68) rfl ?_
    refine r_iadd C dX3_wide_68 (rfl : 68 + 1 = 69) ?_
    refine r_icmp_ge (tgt := 95) C dX3_wide_69 (by decide) (rfl : 69 + 3 = 72) (fun c69 => ?_) (fun c69 => ?_)
    · have h := k_t c69 h
      refine r_iload_n C dX3_wide_95 (rfl : 95 + 1 = 96) rfl ?_
      cases h
      exact r_iret C hr dX3_wide_96
    · have h := k_f c69 h
      refine r_aload_n C dX3_wide_72 (rfl : 72 + 1 = 73) rfl ?_
      refine r_getL (v := c0_3) C dX3_wide_73 (rfl : 73 + 3 = 76) fl_X3_35 rfl rfl ec0_3 ?_
      refine r_iload C dX3_wide_76 (rfl : 76 + 2 = 78) rfl ?_
      refine r_lushr C dX3_wide_78 (rfl : 78 + 1 = 79) ?_
      refine r_lconst (v := (1 : Int64)) C dX3_wide_79 (rfl : 79 + 1 = 80) rfl ?_
      refine r_land C dX3_wide_80 (rfl : 80 + 1 = 81) ?_
      refine r_lconst (v := (0 : Int64)) C dX3_wide_81 (rfl : 81 + 1 = 82) rfl ?_
      refine r_lcmp C dX3_wide_82 (rfl : 82 + 1 = 83) ?_
      refine r_if_eq (tgt := 95) C dX3_wide_83 (by decide) (rfl : 83 + 3 = 86) (fun c83 => ?_) (fun c83 => ?_)
      · have h := k_t c83 h
        refine r_iload_n C dX3_wide_95 (rfl : 95 + 1 = 96) rfl ?_
        cases h
        exact r_iret C hr dX3_wide_96
      · have h := k_f c83 h
        refine r_iinc (v := (v3 + (1 : Int32))) C dX3_wide_86 (rfl : 86 + 3 = 89) rfl rfl (by decide) ?_
        show k_W _ _ _ _ _ _ _ _ [some (.ref 0), none, some (.int v2), some (.int (v3 + (1 : Int32))), some (.int v4)] _
        refine r_iinc (v := (v4 + (1 : Int32))) C dX3_wide_89 (rfl : 89 + 3 = 92) rfl rfl (by decide) ?_
        show k_W _ _ _ _ _ _ _ _ [some (.ref 0), none, some (.int v2), some (.int (v3 + (1 : Int32))), some (.int (v4 + (1 : Int32)))] _
        refine r_goto (tgt := 63) C dX3_wide_92 (by decide) ?_
        refine k_mask [true, false, true, true, true] ?_
        exact ih v2 (v3 + (1 : Int32)) (v4 + (1 : Int32)) h
def bX3_wide_58 (u : Nat) (c0_3 : Int64) (v1 : Int32) (v2 : Int32) (v3 : Int32) : Option (Int32) := (bX3_wide_63 u c0_3 u v2 v3 (v1 + (1 : Int32)))
set_option maxHeartbeats 400000 in
set_option maxRecDepth 100000 in
theorem sX3_wide_58 (u : Nat) {X : k_X} {ad : Nat → Nat} (C : k_C X cX3_wide RX3 5 ad) (hr : X.meth.sig.returnType = (some .int)) (hR : X.R.frames = 0 ∧ X.R.locals = 0) {I : Nat → Nat → Int32} {L : Nat → Nat → Int64} {Rf : Nat → Nat → Option Nat} {c0_3 : Int64} (ec0_3 : L 0 3 = c0_3) {out : Int32} : ∀ (v1 : Int32) (v2 : Int32) (v3 : Int32), bX3_wide_58 u c0_3 v1 v2 v3 = some out → k_W X 5 0 0 (k_Q X ad (some (.int out)) (k_ap [] (shMine, I, L, Rf))) ad (k_ap [] (shMine, I, L, Rf)) 58 [some (.ref 0), some (.int v1), some (.int v2), some (.int v3), none] [] := by
  intro v1 v2 v3 h
  unfold bX3_wide_58 at h
  refine r_iload_n C dX3_wide_58 (rfl : 58 + 1 = 59) rfl ?_
  refine r_iconst (v := (1 : Int32)) C dX3_wide_59 (rfl : 59 + 1 = 60) rfl ?_
  refine r_iadd C dX3_wide_60 (rfl : 60 + 1 = 61) ?_
  refine r_istore C dX3_wide_61 (rfl : 61 + 2 = 63) (by decide) (Nat.le_of_ble_eq_true rfl) ?_
  show k_W _ _ _ _ _ _ _ _ [some (.ref 0), some (.int v1), some (.int v2), some (.int v3), some (.int (v1 + (1 : Int32)))] _
  refine k_mask [true, false, true, true, true] ?_
  exact sX3_wide_63 u C hr hR ec0_3 u v2 v3 (v1 + (1 : Int32)) h
def bX3_wide_29 (u : Nat) (c0_3 : Int64) : Nat → Int32 → Int32 → Int32 → Int32 → Option (Int32)
  | 0, _, _, _, _ => none
  | n + 1, v1, v2, v3, v4 => (if v4 < v2 then (bX3_wide_58 u c0_3 v1 v2 v3) else (if (lg_cmp (((c0_3).toUInt64 >>> ((v4).toInt64.toUInt64 &&& Int64.toUInt64 63)).toInt64 &&& (1 : Int64)) (0 : Int64)) = (0 : Int32) then (bX3_wide_58 u c0_3 v1 v2 v3) else (bX3_wide_29 u c0_3 n v1 v2 (v3 + (1 : Int32)) (v4 + (-1 : Int32)))))
set_option maxHeartbeats 400000 in
set_option maxRecDepth 100000 in
theorem sX3_wide_29 (u : Nat) {X : k_X} {ad : Nat → Nat} (C : k_C X cX3_wide RX3 5 ad) (hr : X.meth.sig.returnType = (some .int)) (hR : X.R.frames = 0 ∧ X.R.locals = 0) {I : Nat → Nat → Int32} {L : Nat → Nat → Int64} {Rf : Nat → Nat → Option Nat} {c0_3 : Int64} (ec0_3 : L 0 3 = c0_3) {out : Int32} : ∀ (n : Nat) (v1 : Int32) (v2 : Int32) (v3 : Int32) (v4 : Int32), bX3_wide_29 u c0_3 n v1 v2 v3 v4 = some out → k_W X 5 0 0 (k_Q X ad (some (.int out)) (k_ap [] (shMine, I, L, Rf))) ad (k_ap [] (shMine, I, L, Rf)) 29 [some (.ref 0), some (.int v1), some (.int v2), some (.int v3), some (.int v4)] [] := by
  intro n
  induction n with
  | zero => intro v1 v2 v3 v4 h; cases h
  | succ n ih =>
    intro v1 v2 v3 v4 h
    refine r_iload C dX3_wide_29 (rfl : 29 + 2 = 31) rfl ?_
    refine r_iload_n C dX3_wide_31 (rfl : 31 + 1 = 32) rfl ?_
    refine r_icmp_lt (tgt := 58) C dX3_wide_32 (by decide) (rfl : 32 + 3 = 35) (fun c32 => ?_) (fun c32 => ?_)
    · have h := k_t c32 h
      refine k_mask [true, true, true, true, false] ?_
      exact sX3_wide_58 u C hr hR ec0_3 v1 v2 v3 h
    · have h := k_f c32 h
      refine r_aload_n C dX3_wide_35 (rfl : 35 + 1 = 36) rfl ?_
      refine r_getL (v := c0_3) C dX3_wide_36 (rfl : 36 + 3 = 39) fl_X3_35 rfl rfl ec0_3 ?_
      refine r_iload C dX3_wide_39 (rfl : 39 + 2 = 41) rfl ?_
      refine r_lushr C dX3_wide_41 (rfl : 41 + 1 = 42) ?_
      refine r_lconst (v := (1 : Int64)) C dX3_wide_42 (rfl : 42 + 1 = 43) rfl ?_
      refine r_land C dX3_wide_43 (rfl : 43 + 1 = 44) ?_
      refine r_lconst (v := (0 : Int64)) C dX3_wide_44 (rfl : 44 + 1 = 45) rfl ?_
      refine r_lcmp C dX3_wide_45 (rfl : 45 + 1 = 46) ?_
      refine r_if_eq (tgt := 58) C dX3_wide_46 (by decide) (rfl : 46 + 3 = 49) (fun c46 => ?_) (fun c46 => ?_)
      · have h := k_t c46 h
        refine k_mask [true, true, true, true, false] ?_
        exact sX3_wide_58 u C hr hR ec0_3 v1 v2 v3 h
      · have h := k_f c46 h
        refine r_iinc (v := (v3 + (1 : Int32))) C dX3_wide_49 (rfl : 49 + 3 = 52) rfl rfl (by decide) ?_
        show k_W _ _ _ _ _ _ _ _ [some (.ref 0), some (.int v1), some (.int v2), some (.int (v3 + (1 : Int32))), some (.int v4)] _
        refine r_iinc (v := (v4 + (-1 : Int32))) C dX3_wide_52 (rfl : 52 + 3 = 55) rfl rfl (by decide) ?_
        show k_W _ _ _ _ _ _ _ _ [some (.ref 0), some (.int v1), some (.int v2), some (.int (v3 + (1 : Int32))), some (.int (v4 + (-1 : Int32)))] _
        refine r_goto (tgt := 29) C dX3_wide_55 (by decide) ?_
        refine k_mask [true, true, true, true, true] ?_
        exact ih v1 v2 (v3 + (1 : Int32)) (v4 + (-1 : Int32)) h
def bX3_wide_0 (u : Nat) (c0_3 : Int64) (v1 : Int32) : Option (Int32) := (if (lg_cmp (((c0_3).toUInt64 >>> ((v1).toInt64.toUInt64 &&& Int64.toUInt64 63)).toInt64 &&& (1 : Int64)) (0 : Int64)) = (0 : Int32) then some (0 : Int32) else (bX3_wide_29 u c0_3 u v1 (v1 - (v1 - v1 / (8 : Int32) * (8 : Int32))) (1 : Int32) (v1 - (1 : Int32))))
set_option maxHeartbeats 400000 in
set_option maxRecDepth 100000 in
theorem sX3_wide_0 (u : Nat) {X : k_X} {ad : Nat → Nat} (C : k_C X cX3_wide RX3 5 ad) (hr : X.meth.sig.returnType = (some .int)) (hR : X.R.frames = 0 ∧ X.R.locals = 0) {I : Nat → Nat → Int32} {L : Nat → Nat → Int64} {Rf : Nat → Nat → Option Nat} {c0_3 : Int64} (ec0_3 : L 0 3 = c0_3) {out : Int32} : ∀ (v1 : Int32), bX3_wide_0 u c0_3 v1 = some out → k_W X 5 0 0 (k_Q X ad (some (.int out)) (k_ap [] (shMine, I, L, Rf))) ad (k_ap [] (shMine, I, L, Rf)) 0 [some (.ref 0), some (.int v1), none, none, none] [] := by
  intro v1 h
  unfold bX3_wide_0 at h
  refine r_aload_n C dX3_wide_0 (rfl : 0 + 1 = 1) rfl ?_
  refine r_getL (v := c0_3) C dX3_wide_1 (rfl : 1 + 3 = 4) fl_X3_35 rfl rfl ec0_3 ?_
  refine r_iload_n C dX3_wide_4 (rfl : 4 + 1 = 5) rfl ?_
  refine r_lushr C dX3_wide_5 (rfl : 5 + 1 = 6) ?_
  refine r_lconst (v := (1 : Int64)) C dX3_wide_6 (rfl : 6 + 1 = 7) rfl ?_
  refine r_land C dX3_wide_7 (rfl : 7 + 1 = 8) ?_
  refine r_lconst (v := (0 : Int64)) C dX3_wide_8 (rfl : 8 + 1 = 9) rfl ?_
  refine r_lcmp C dX3_wide_9 (rfl : 9 + 1 = 10) ?_
  refine r_if_ne (tgt := 15) C dX3_wide_10 (by decide) (rfl : 10 + 3 = 13) (fun c10 => ?_) (fun c10 => ?_)
  · have h := k_f c10 h
    refine r_iload_n C dX3_wide_15 (rfl : 15 + 1 = 16) rfl ?_
    refine r_iload_n C dX3_wide_16 (rfl : 16 + 1 = 17) rfl ?_
    refine r_bipush (v := (8 : Int32)) C dX3_wide_17 (rfl : 17 + 2 = 19) rfl ?_
    refine r_irem C dX3_wide_19 (rfl : 19 + 1 = 20) (by decide) ?_
    refine r_isub C dX3_wide_20 (rfl : 20 + 1 = 21) ?_
    refine r_istore_n C dX3_wide_21 (rfl : 21 + 1 = 22) (by decide) (Nat.le_of_ble_eq_true rfl) ?_
    show k_W _ _ _ _ _ _ _ _ [some (.ref 0), some (.int v1), some (.int (v1 - (v1 - v1 / (8 : Int32) * (8 : Int32)))), none, none] _
    refine r_iconst (v := (1 : Int32)) C dX3_wide_22 (rfl : 22 + 1 = 23) rfl ?_
    refine r_istore_n C dX3_wide_23 (rfl : 23 + 1 = 24) (by decide) (Nat.le_of_ble_eq_true rfl) ?_
    show k_W _ _ _ _ _ _ _ _ [some (.ref 0), some (.int v1), some (.int (v1 - (v1 - v1 / (8 : Int32) * (8 : Int32)))), some (.int (1 : Int32)), none] _
    refine r_iload_n C dX3_wide_24 (rfl : 24 + 1 = 25) rfl ?_
    refine r_iconst (v := (1 : Int32)) C dX3_wide_25 (rfl : 25 + 1 = 26) rfl ?_
    refine r_isub C dX3_wide_26 (rfl : 26 + 1 = 27) ?_
    refine r_istore C dX3_wide_27 (rfl : 27 + 2 = 29) (by decide) (Nat.le_of_ble_eq_true rfl) ?_
    show k_W _ _ _ _ _ _ _ _ [some (.ref 0), some (.int v1), some (.int (v1 - (v1 - v1 / (8 : Int32) * (8 : Int32)))), some (.int (1 : Int32)), some (.int (v1 - (1 : Int32)))] _
    refine k_mask [true, true, true, true, true] ?_
    exact sX3_wide_29 u C hr hR ec0_3 u v1 (v1 - (v1 - v1 / (8 : Int32) * (8 : Int32))) (1 : Int32) (v1 - (1 : Int32)) h
  · have h := k_t c10 h
    refine r_iconst (v := (0 : Int32)) C dX3_wide_13 (rfl : 13 + 1 = 14) rfl ?_
    cases h
    exact r_iret C hr dX3_wide_14
def f_X3_wide (u : Nat) (c0_3 : Int64) (x0 : Int32) : Option (Int32) := (bX3_wide_0 u c0_3 x0)
set_option maxHeartbeats 400000 in
set_option maxRecDepth 100000 in
theorem c_X3_wide (l : Launch) (u : Nat) (h : k_H) (hsh : h.1 = shMine) {c0_3 : Int64} (ec0_3 : h.2.2.1 0 3 = c0_3) {x0 : Int32} {out : Int32} (hf : f_X3_wide u c0_3 x0 = some out) : k_CT l yX3_wide cX3_wide 5 (some .int) 0 0 [.ref 0, .int x0] h (some (.int out)) [] := by
  obtain ⟨sh, I, L, Rf⟩ := h
  try dsimp only
  obtain rfl : sh = shMine := hsh
  refine k_ofW (by decide) (Nat.le_of_ble_eq_true rfl) ?_
  intro X ad hl hR0 hr C
  have hR : X.R.frames = 0 ∧ X.R.locals = 0 := by rw [hR0]; exact ⟨rfl, rfl⟩
  have h := hf
  unfold f_X3_wide at h
  refine k_start (us := []) k_ap_0 ?_
  show k_W X 5 0 0 _ ad (k_ap [] (shMine, I, L, Rf)) 0 [some (.ref 0), some (.int x0), none, none, none] []
  refine k_mask [true, true, false, false, false] ?_
  exact sX3_wide_0 u C hr hR ec0_3 x0 h
