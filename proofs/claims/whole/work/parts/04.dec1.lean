theorem dX0_init_0 : decode cX0_init 0 = .ok (.aload_n 0, 1) := by decide +kernel
theorem dX0_init_1 : decode cX0_init 1 = .ok (.invokespecial 1, 3) := by decide +kernel
theorem dX0_init_4 : decode cX0_init 4 = .ok (.aload_n 0, 1) := by decide +kernel
theorem dX0_init_5 : decode cX0_init 5 = .ok (.aload_n 1, 1) := by decide +kernel
theorem dX0_init_6 : decode cX0_init 6 = .ok (.invokevirtual 7, 3) := by decide +kernel
theorem dX0_init_9 : decode cX0_init 9 = .ok (.putfield 13, 3) := by decide +kernel
theorem dX0_init_12 : decode cX0_init 12 = .ok (.return_, 1) := by decide +kernel
theorem dX0_play_0 : decode cX0_play 0 = .ok (.aload_n 0, 1) := by decide +kernel
theorem dX0_play_1 : decode cX0_play 1 = .ok (.getfield 13, 3) := by decide +kernel
theorem dX0_play_4 : decode cX0_play 4 = .ok (.aload_n 1, 1) := by decide +kernel
theorem dX0_play_5 : decode cX0_play 5 = .ok (.invokevirtual 19, 3) := by decide +kernel
theorem dX0_play_8 : decode cX0_play 8 = .ok (.aload_n 0, 1) := by decide +kernel
theorem dX0_play_9 : decode cX0_play 9 = .ok (.iconst 0, 1) := by decide +kernel
theorem dX0_play_10 : decode cX0_play 10 = .ok (.putfield 23, 3) := by decide +kernel
theorem dX0_play_13 : decode cX0_play 13 = .ok (.iload_n 2, 1) := by decide +kernel
theorem dX0_play_14 : decode cX0_play 14 = .ok (.istore 5, 2) := by decide +kernel
theorem dX0_play_16 : decode cX0_play 16 = .ok (.iconst 0, 1) := by decide +kernel
theorem dX0_play_17 : decode cX0_play 17 = .ok (.istore 6, 2) := by decide +kernel
theorem dX0_play_19 : decode cX0_play 19 = .ok (.iload 6, 2) := by decide +kernel
theorem dX0_play_21 : decode cX0_play 21 = .ok (.iload 4, 2) := by decide +kernel
theorem dX0_play_23 : decode cX0_play 23 = .ok (.if_icmp .ge 64, 3) := by decide +kernel
theorem dX0_play_26 : decode cX0_play 26 = .ok (.iload 5, 2) := by decide +kernel
theorem dX0_play_28 : decode cX0_play 28 = .ok (.ldc 27, 2) := by decide +kernel
theorem dX0_play_30 : decode cX0_play 30 = .ok (.imul, 1) := by decide +kernel
theorem dX0_play_31 : decode cX0_play 31 = .ok (.sipush 12345, 3) := by decide +kernel
theorem dX0_play_34 : decode cX0_play 34 = .ok (.iadd, 1) := by decide +kernel
theorem dX0_play_35 : decode cX0_play 35 = .ok (.istore 5, 2) := by decide +kernel
theorem dX0_play_37 : decode cX0_play 37 = .ok (.iload 5, 2) := by decide +kernel
theorem dX0_play_39 : decode cX0_play 39 = .ok (.bipush 16, 2) := by decide +kernel
theorem dX0_play_41 : decode cX0_play 41 = .ok (.iushr, 1) := by decide +kernel
theorem dX0_play_42 : decode cX0_play 42 = .ok (.sipush 32767, 3) := by decide +kernel
theorem dX0_play_45 : decode cX0_play 45 = .ok (.iand, 1) := by decide +kernel
theorem dX0_play_46 : decode cX0_play 46 = .ok (.bipush 16, 2) := by decide +kernel
theorem dX0_play_48 : decode cX0_play 48 = .ok (.irem, 1) := by decide +kernel
theorem dX0_play_49 : decode cX0_play 49 = .ok (.iload_n 3, 1) := by decide +kernel
theorem dX0_play_50 : decode cX0_play 50 = .ok (.if_icmp .ge 16, 3) := by decide +kernel
theorem dX0_play_53 : decode cX0_play 53 = .ok (.aload_n 0, 1) := by decide +kernel
theorem dX0_play_54 : decode cX0_play 54 = .ok (.dup, 1) := by decide +kernel
theorem dX0_play_55 : decode cX0_play 55 = .ok (.getfield 23, 3) := by decide +kernel
theorem dX0_play_58 : decode cX0_play 58 = .ok (.iconst 1, 1) := by decide +kernel
theorem dX0_play_59 : decode cX0_play 59 = .ok (.iadd, 1) := by decide +kernel
theorem dX0_play_60 : decode cX0_play 60 = .ok (.putfield 23, 3) := by decide +kernel
theorem dX0_play_63 : decode cX0_play 63 = .ok (.goto 10, 3) := by decide +kernel
theorem dX0_play_66 : decode cX0_play 66 = .ok (.aload_n 0, 1) := by decide +kernel
theorem dX0_play_67 : decode cX0_play 67 = .ok (.getfield 13, 3) := by decide +kernel
theorem dX0_play_70 : decode cX0_play 70 = .ok (.invokevirtual 28, 3) := by decide +kernel
theorem dX0_play_73 : decode cX0_play 73 = .ok (.aload_n 0, 1) := by decide +kernel
theorem dX0_play_74 : decode cX0_play 74 = .ok (.getfield 13, 3) := by decide +kernel
theorem dX0_play_77 : decode cX0_play 77 = .ok (.invokevirtual 31, 3) := by decide +kernel
theorem dX0_play_80 : decode cX0_play 80 = .ok (.pop, 1) := by decide +kernel
theorem dX0_play_81 : decode cX0_play 81 = .ok (.iinc 6 1, 3) := by decide +kernel
theorem dX0_play_84 : decode cX0_play 84 = .ok (.goto (-65), 3) := by decide +kernel
theorem dX0_play_87 : decode cX0_play 87 = .ok (.aload_n 0, 1) := by decide +kernel
theorem dX0_play_88 : decode cX0_play 88 = .ok (.aload_n 0, 1) := by decide +kernel
theorem dX0_play_89 : decode cX0_play 89 = .ok (.getfield 13, 3) := by decide +kernel
theorem dX0_play_92 : decode cX0_play 92 = .ok (.getfield 35, 3) := by decide +kernel
theorem dX0_play_95 : decode cX0_play 95 = .ok (.aload_n 1, 1) := by decide +kernel
theorem dX0_play_96 : decode cX0_play 96 = .ok (.getfield 35, 3) := by decide +kernel
theorem dX0_play_99 : decode cX0_play 99 = .ok (.isub, 1) := by decide +kernel
theorem dX0_play_100 : decode cX0_play 100 = .ok (.putfield 38, 3) := by decide +kernel
theorem dX0_play_103 : decode cX0_play 103 = .ok (.aload_n 0, 1) := by decide +kernel
theorem dX0_play_104 : decode cX0_play 104 = .ok (.aload_n 0, 1) := by decide +kernel
theorem dX0_play_105 : decode cX0_play 105 = .ok (.getfield 13, 3) := by decide +kernel
theorem dX0_play_108 : decode cX0_play 108 = .ok (.getfield 41, 3) := by decide +kernel
theorem dX0_play_111 : decode cX0_play 111 = .ok (.aload_n 1, 1) := by decide +kernel
theorem dX0_play_112 : decode cX0_play 112 = .ok (.getfield 41, 3) := by decide +kernel
theorem dX0_play_115 : decode cX0_play 115 = .ok (.isub, 1) := by decide +kernel
theorem dX0_play_116 : decode cX0_play 116 = .ok (.putfield 44, 3) := by decide +kernel
theorem dX0_play_119 : decode cX0_play 119 = .ok (.aload_n 0, 1) := by decide +kernel
theorem dX0_play_120 : decode cX0_play 120 = .ok (.aload_n 0, 1) := by decide +kernel
theorem dX0_play_121 : decode cX0_play 121 = .ok (.getfield 13, 3) := by decide +kernel
theorem dX0_play_124 : decode cX0_play 124 = .ok (.getfield 45, 3) := by decide +kernel
theorem dX0_play_127 : decode cX0_play 127 = .ok (.aload_n 1, 1) := by decide +kernel
theorem dX0_play_128 : decode cX0_play 128 = .ok (.getfield 45, 3) := by decide +kernel
theorem dX0_play_131 : decode cX0_play 131 = .ok (.isub, 1) := by decide +kernel
theorem dX0_play_132 : decode cX0_play 132 = .ok (.putfield 48, 3) := by decide +kernel
theorem dX0_play_135 : decode cX0_play 135 = .ok (.return_, 1) := by decide +kernel
theorem dX1_init_0 : decode cX1_init 0 = .ok (.aload_n 0, 1) := by decide +kernel
theorem dX1_init_1 : decode cX1_init 1 = .ok (.invokespecial 3, 3) := by decide +kernel
theorem dX1_init_4 : decode cX1_init 4 = .ok (.aload_n 0, 1) := by decide +kernel
theorem dX1_init_5 : decode cX1_init 5 = .ok (.sipush 150, 3) := by decide +kernel
theorem dX1_init_8 : decode cX1_init 8 = .ok (.newarray .int, 2) := by decide +kernel
theorem dX1_init_10 : decode cX1_init 10 = .ok (.putfield 9, 3) := by decide +kernel
theorem dX1_init_13 : decode cX1_init 13 = .ok (.aload_n 0, 1) := by decide +kernel
theorem dX1_init_14 : decode cX1_init 14 = .ok (.bipush 24, 2) := by decide +kernel
theorem dX1_init_16 : decode cX1_init 16 = .ok (.newarray .int, 2) := by decide +kernel
theorem dX1_init_18 : decode cX1_init 18 = .ok (.putfield 15, 3) := by decide +kernel
theorem dX1_init_21 : decode cX1_init 21 = .ok (.return_, 1) := by decide +kernel
theorem dX1_beFall_0 : decode cX1_beFall 0 = .ok (.aload_n 0, 1) := by decide +kernel
theorem dX1_beFall_1 : decode cX1_beFall 1 = .ok (.iconst 0, 1) := by decide +kernel
theorem dX1_beFall_2 : decode cX1_beFall 2 = .ok (.putfield 18, 3) := by decide +kernel
theorem dX1_beFall_5 : decode cX1_beFall 5 = .ok (.aload_n 0, 1) := by decide +kernel
theorem dX1_beFall_6 : decode cX1_beFall 6 = .ok (.iconst (-1), 1) := by decide +kernel
theorem dX1_beFall_7 : decode cX1_beFall 7 = .ok (.invokevirtual 22, 3) := by decide +kernel
theorem dX1_beFall_10 : decode cX1_beFall 10 = .ok (.aload_n 0, 1) := by decide +kernel
theorem dX1_beFall_11 : decode cX1_beFall 11 = .ok (.iconst 2, 1) := by decide +kernel
theorem dX1_beFall_12 : decode cX1_beFall 12 = .ok (.invokevirtual 22, 3) := by decide +kernel
theorem dX1_beFall_15 : decode cX1_beFall 15 = .ok (.aload_n 0, 1) := by decide +kernel
theorem dX1_beFall_16 : decode cX1_beFall 16 = .ok (.bipush (-12), 2) := by decide +kernel
theorem dX1_beFall_18 : decode cX1_beFall 18 = .ok (.invokevirtual 22, 3) := by decide +kernel
theorem dX1_beFall_21 : decode cX1_beFall 21 = .ok (.return_, 1) := by decide +kernel
theorem dX1_beHarm_0 : decode cX1_beHarm 0 = .ok (.aload_n 0, 1) := by decide +kernel
theorem dX1_beHarm_1 : decode cX1_beHarm 1 = .ok (.iconst 0, 1) := by decide +kernel
theorem dX1_beHarm_2 : decode cX1_beHarm 2 = .ok (.putfield 18, 3) := by decide +kernel
theorem dX1_beHarm_5 : decode cX1_beHarm 5 = .ok (.aload_n 0, 1) := by decide +kernel
theorem dX1_beHarm_6 : decode cX1_beHarm 6 = .ok (.bipush (-7), 2) := by decide +kernel
theorem dX1_beHarm_8 : decode cX1_beHarm 8 = .ok (.invokevirtual 22, 3) := by decide +kernel
theorem dX1_beHarm_11 : decode cX1_beHarm 11 = .ok (.return_, 1) := by decide +kernel
theorem dX1_copyFrom_0 : decode cX1_copyFrom 0 = .ok (.aload_n 1, 1) := by decide +kernel
theorem dX1_copyFrom_1 : decode cX1_copyFrom 1 = .ok (.getfield 9, 3) := by decide +kernel
theorem dX1_copyFrom_4 : decode cX1_copyFrom 4 = .ok (.iconst 0, 1) := by decide +kernel
theorem dX1_copyFrom_5 : decode cX1_copyFrom 5 = .ok (.aload_n 0, 1) := by decide +kernel
theorem dX1_copyFrom_6 : decode cX1_copyFrom 6 = .ok (.getfield 9, 3) := by decide +kernel
theorem dX1_copyFrom_9 : decode cX1_copyFrom 9 = .ok (.iconst 0, 1) := by decide +kernel
theorem dX1_copyFrom_10 : decode cX1_copyFrom 10 = .ok (.sipush 150, 3) := by decide +kernel
theorem dX1_copyFrom_13 : decode cX1_copyFrom 13 = .ok (.invokestatic 26, 3) := by decide +kernel
theorem dX1_copyFrom_16 : decode cX1_copyFrom 16 = .ok (.aload_n 0, 1) := by decide +kernel
theorem dX1_copyFrom_17 : decode cX1_copyFrom 17 = .ok (.aload_n 1, 1) := by decide +kernel
theorem dX1_copyFrom_18 : decode cX1_copyFrom 18 = .ok (.getfield 18, 3) := by decide +kernel
theorem dX1_copyFrom_21 : decode cX1_copyFrom 21 = .ok (.putfield 18, 3) := by decide +kernel
theorem dX1_copyFrom_24 : decode cX1_copyFrom 24 = .ok (.return_, 1) := by decide +kernel
theorem dX1_put_0 : decode cX1_put 0 = .ok (.aload_n 0, 1) := by decide +kernel
theorem dX1_put_1 : decode cX1_put 1 = .ok (.getfield 18, 3) := by decide +kernel
theorem dX1_put_4 : decode cX1_put 4 = .ok (.aload_n 0, 1) := by decide +kernel
theorem dX1_put_5 : decode cX1_put 5 = .ok (.getfield 9, 3) := by decide +kernel
theorem dX1_put_8 : decode cX1_put 8 = .ok (.arraylength, 1) := by decide +kernel
theorem dX1_put_9 : decode cX1_put 9 = .ok (.if_icmp .ge 23, 3) := by decide +kernel
theorem dX1_put_12 : decode cX1_put 12 = .ok (.aload_n 0, 1) := by decide +kernel
theorem dX1_put_13 : decode cX1_put 13 = .ok (.getfield 9, 3) := by decide +kernel
theorem dX1_put_16 : decode cX1_put 16 = .ok (.aload_n 0, 1) := by decide +kernel
theorem dX1_put_17 : decode cX1_put 17 = .ok (.getfield 18, 3) := by decide +kernel
theorem dX1_put_20 : decode cX1_put 20 = .ok (.iload_n 1, 1) := by decide +kernel
theorem dX1_put_21 : decode cX1_put 21 = .ok (.iastore, 1) := by decide +kernel
theorem dX1_put_22 : decode cX1_put 22 = .ok (.aload_n 0, 1) := by decide +kernel
theorem dX1_put_23 : decode cX1_put 23 = .ok (.dup, 1) := by decide +kernel
theorem dX1_put_24 : decode cX1_put 24 = .ok (.getfield 18, 3) := by decide +kernel
theorem dX1_put_27 : decode cX1_put 27 = .ok (.iconst 1, 1) := by decide +kernel
theorem dX1_put_28 : decode cX1_put 28 = .ok (.iadd, 1) := by decide +kernel
theorem dX1_put_29 : decode cX1_put 29 = .ok (.putfield 18, 3) := by decide +kernel
theorem dX1_put_32 : decode cX1_put 32 = .ok (.return_, 1) := by decide +kernel
theorem dX1_read_0 : decode cX1_read 0 = .ok (.aload_n 0, 1) := by decide +kernel
theorem dX1_read_1 : decode cX1_read 1 = .ok (.iconst 0, 1) := by decide +kernel
theorem dX1_read_2 : decode cX1_read 2 = .ok (.putfield 18, 3) := by decide +kernel
theorem dX1_read_5 : decode cX1_read 5 = .ok (.aload_n 0, 1) := by decide +kernel
theorem dX1_read_6 : decode cX1_read 6 = .ok (.aload_n 1, 1) := by decide +kernel
theorem dX1_read_7 : decode cX1_read 7 = .ok (.iconst 0, 1) := by decide +kernel
theorem dX1_read_8 : decode cX1_read 8 = .ok (.invokevirtual 32, 3) := by decide +kernel
theorem dX1_read_11 : decode cX1_read 11 = .ok (.aload_n 1, 1) := by decide +kernel
theorem dX1_read_12 : decode cX1_read 12 = .ok (.invokevirtual 36, 3) := by decide +kernel
theorem dX1_read_15 : decode cX1_read 15 = .ok (.return_, 1) := by decide +kernel
theorem dX1_readSum_0 : decode cX1_readSum 0 = .ok (.aload_n 0, 1) := by decide +kernel
theorem dX1_readSum_1 : decode cX1_readSum 1 = .ok (.aload_n 1, 1) := by decide +kernel
theorem dX1_readSum_2 : decode cX1_readSum 2 = .ok (.iload_n 2, 1) := by decide +kernel
theorem dX1_readSum_3 : decode cX1_readSum 3 = .ok (.invokevirtual 41, 3) := by decide +kernel
theorem dX1_readSum_6 : decode cX1_readSum 6 = .ok (.iconst 0, 1) := by decide +kernel
theorem dX1_readSum_7 : decode cX1_readSum 7 = .ok (.istore_n 3, 1) := by decide +kernel
theorem dX1_readSum_8 : decode cX1_readSum 8 = .ok (.iload_n 3, 1) := by decide +kernel
theorem dX1_readSum_9 : decode cX1_readSum 9 = .ok (.sipush 150, 3) := by decide +kernel
theorem dX1_readSum_12 : decode cX1_readSum 12 = .ok (.if_icmp .ge 77, 3) := by decide +kernel
theorem dX1_readSum_15 : decode cX1_readSum 15 = .ok (.aload_n 1, 1) := by decide +kernel
theorem dX1_readSum_16 : decode cX1_readSum 16 = .ok (.invokevirtual 44, 3) := by decide +kernel
theorem dX1_readSum_19 : decode cX1_readSum 19 = .ok (.ifCond .eq 70, 3) := by decide +kernel
theorem dX1_readSum_22 : decode cX1_readSum 22 = .ok (.aload_n 1, 1) := by decide +kernel
theorem dX1_readSum_23 : decode cX1_readSum 23 = .ok (.bipush 43, 2) := by decide +kernel
theorem dX1_readSum_25 : decode cX1_readSum 25 = .ok (.invokevirtual 48, 3) := by decide +kernel
theorem dX1_readSum_28 : decode cX1_readSum 28 = .ok (.istore 4, 2) := by decide +kernel
theorem dX1_readSum_30 : decode cX1_readSum 30 = .ok (.iload 4, 2) := by decide +kernel
theorem dX1_readSum_32 : decode cX1_readSum 32 = .ok (.ifCond .ne 13, 3) := by decide +kernel
theorem dX1_readSum_35 : decode cX1_readSum 35 = .ok (.aload_n 1, 1) := by decide +kernel
theorem dX1_readSum_36 : decode cX1_readSum 36 = .ok (.bipush 45, 2) := by decide +kernel
theorem dX1_readSum_38 : decode cX1_readSum 38 = .ok (.invokevirtual 48, 3) := by decide +kernel
theorem dX1_readSum_41 : decode cX1_readSum 41 = .ok (.ifCond .ne 4, 3) := by decide +kernel
theorem dX1_readSum_44 : decode cX1_readSum 44 = .ok (.return_, 1) := by decide +kernel
theorem dX1_readSum_45 : decode cX1_readSum 45 = .ok (.aload_n 1, 1) := by decide +kernel
theorem dX1_readSum_46 : decode cX1_readSum 46 = .ok (.iload 4, 2) := by decide +kernel
theorem dX1_readSum_48 : decode cX1_readSum 48 = .ok (.ifCond .eq 8, 3) := by decide +kernel
theorem dX1_readSum_51 : decode cX1_readSum 51 = .ok (.bipush 43, 2) := by decide +kernel
theorem dX1_readSum_53 : decode cX1_readSum 53 = .ok (.goto 5, 3) := by decide +kernel
theorem dX1_readSum_56 : decode cX1_readSum 56 = .ok (.bipush 45, 2) := by decide +kernel
theorem dX1_readSum_58 : decode cX1_readSum 58 = .ok (.invokevirtual 52, 3) := by decide +kernel
theorem dX1_readSum_61 : decode cX1_readSum 61 = .ok (.aload_n 0, 1) := by decide +kernel
theorem dX1_readSum_62 : decode cX1_readSum 62 = .ok (.aload_n 1, 1) := by decide +kernel
theorem dX1_readSum_63 : decode cX1_readSum 63 = .ok (.iload_n 2, 1) := by decide +kernel
theorem dX1_readSum_64 : decode cX1_readSum 64 = .ok (.invokevirtual 41, 3) := by decide +kernel
theorem dX1_readSum_67 : decode cX1_readSum 67 = .ok (.aload_n 0, 1) := by decide +kernel
theorem dX1_readSum_68 : decode cX1_readSum 68 = .ok (.iload 4, 2) := by decide +kernel
theorem dX1_readSum_70 : decode cX1_readSum 70 = .ok (.ifCond .eq 8, 3) := by decide +kernel
theorem dX1_readSum_73 : decode cX1_readSum 73 = .ok (.bipush (-11), 2) := by decide +kernel
theorem dX1_readSum_75 : decode cX1_readSum 75 = .ok (.goto 5, 3) := by decide +kernel
theorem dX1_readSum_78 : decode cX1_readSum 78 = .ok (.bipush (-12), 2) := by decide +kernel
theorem dX1_readSum_80 : decode cX1_readSum 80 = .ok (.invokevirtual 22, 3) := by decide +kernel
theorem dX1_readSum_83 : decode cX1_readSum 83 = .ok (.iinc 3 1, 3) := by decide +kernel
theorem dX1_readSum_86 : decode cX1_readSum 86 = .ok (.goto (-78), 3) := by decide +kernel
theorem dX1_readSum_89 : decode cX1_readSum 89 = .ok (.return_, 1) := by decide +kernel
theorem dX1_readProduct_0 : decode cX1_readProduct 0 = .ok (.aload_n 0, 1) := by decide +kernel
theorem dX1_readProduct_1 : decode cX1_readProduct 1 = .ok (.aload_n 1, 1) := by decide +kernel
theorem dX1_readProduct_2 : decode cX1_readProduct 2 = .ok (.iload_n 2, 1) := by decide +kernel
theorem dX1_readProduct_3 : decode cX1_readProduct 3 = .ok (.invokevirtual 56, 3) := by decide +kernel
theorem dX1_readProduct_6 : decode cX1_readProduct 6 = .ok (.iconst 0, 1) := by decide +kernel
theorem dX1_readProduct_7 : decode cX1_readProduct 7 = .ok (.istore_n 3, 1) := by decide +kernel
theorem dX1_readProduct_8 : decode cX1_readProduct 8 = .ok (.iload_n 3, 1) := by decide +kernel
theorem dX1_readProduct_9 : decode cX1_readProduct 9 = .ok (.sipush 150, 3) := by decide +kernel
theorem dX1_readProduct_12 : decode cX1_readProduct 12 = .ok (.if_icmp .ge 77, 3) := by decide +kernel
theorem dX1_readProduct_15 : decode cX1_readProduct 15 = .ok (.aload_n 1, 1) := by decide +kernel
theorem dX1_readProduct_16 : decode cX1_readProduct 16 = .ok (.invokevirtual 44, 3) := by decide +kernel
theorem dX1_readProduct_19 : decode cX1_readProduct 19 = .ok (.ifCond .eq 70, 3) := by decide +kernel
theorem dX1_readProduct_22 : decode cX1_readProduct 22 = .ok (.aload_n 1, 1) := by decide +kernel
theorem dX1_readProduct_23 : decode cX1_readProduct 23 = .ok (.bipush 42, 2) := by decide +kernel
theorem dX1_readProduct_25 : decode cX1_readProduct 25 = .ok (.invokevirtual 48, 3) := by decide +kernel
theorem dX1_readProduct_28 : decode cX1_readProduct 28 = .ok (.istore 4, 2) := by decide +kernel
theorem dX1_readProduct_30 : decode cX1_readProduct 30 = .ok (.iload 4, 2) := by decide +kernel
theorem dX1_readProduct_32 : decode cX1_readProduct 32 = .ok (.ifCond .ne 13, 3) := by decide +kernel
theorem dX1_readProduct_35 : decode cX1_readProduct 35 = .ok (.aload_n 1, 1) := by decide +kernel
theorem dX1_readProduct_36 : decode cX1_readProduct 36 = .ok (.bipush 47, 2) := by decide +kernel
theorem dX1_readProduct_38 : decode cX1_readProduct 38 = .ok (.invokevirtual 48, 3) := by decide +kernel
theorem dX1_readProduct_41 : decode cX1_readProduct 41 = .ok (.ifCond .ne 4, 3) := by decide +kernel
theorem dX1_readProduct_44 : decode cX1_readProduct 44 = .ok (.return_, 1) := by decide +kernel
theorem dX1_readProduct_45 : decode cX1_readProduct 45 = .ok (.aload_n 1, 1) := by decide +kernel
theorem dX1_readProduct_46 : decode cX1_readProduct 46 = .ok (.iload 4, 2) := by decide +kernel
theorem dX1_readProduct_48 : decode cX1_readProduct 48 = .ok (.ifCond .eq 8, 3) := by decide +kernel
theorem dX1_readProduct_51 : decode cX1_readProduct 51 = .ok (.bipush 42, 2) := by decide +kernel
theorem dX1_readProduct_53 : decode cX1_readProduct 53 = .ok (.goto 5, 3) := by decide +kernel
theorem dX1_readProduct_56 : decode cX1_readProduct 56 = .ok (.bipush 47, 2) := by decide +kernel
theorem dX1_readProduct_58 : decode cX1_readProduct 58 = .ok (.invokevirtual 52, 3) := by decide +kernel
theorem dX1_readProduct_61 : decode cX1_readProduct 61 = .ok (.aload_n 0, 1) := by decide +kernel
theorem dX1_readProduct_62 : decode cX1_readProduct 62 = .ok (.aload_n 1, 1) := by decide +kernel
theorem dX1_readProduct_63 : decode cX1_readProduct 63 = .ok (.iload_n 2, 1) := by decide +kernel
theorem dX1_readProduct_64 : decode cX1_readProduct 64 = .ok (.invokevirtual 56, 3) := by decide +kernel
theorem dX1_readProduct_67 : decode cX1_readProduct 67 = .ok (.aload_n 0, 1) := by decide +kernel
theorem dX1_readProduct_68 : decode cX1_readProduct 68 = .ok (.iload 4, 2) := by decide +kernel
theorem dX1_readProduct_70 : decode cX1_readProduct 70 = .ok (.ifCond .eq 8, 3) := by decide +kernel
theorem dX1_readProduct_73 : decode cX1_readProduct 73 = .ok (.bipush (-13), 2) := by decide +kernel
theorem dX1_readProduct_75 : decode cX1_readProduct 75 = .ok (.goto 5, 3) := by decide +kernel
theorem dX1_readProduct_78 : decode cX1_readProduct 78 = .ok (.bipush (-14), 2) := by decide +kernel
theorem dX1_readProduct_80 : decode cX1_readProduct 80 = .ok (.invokevirtual 22, 3) := by decide +kernel
theorem dX1_readProduct_83 : decode cX1_readProduct 83 = .ok (.iinc 3 1, 3) := by decide +kernel
theorem dX1_readProduct_86 : decode cX1_readProduct 86 = .ok (.goto (-78), 3) := by decide +kernel
theorem dX1_readProduct_89 : decode cX1_readProduct 89 = .ok (.return_, 1) := by decide +kernel
theorem dX1_readUnit_0 : decode cX1_readUnit 0 = .ok (.aload_n 1, 1) := by decide +kernel
theorem dX1_readUnit_1 : decode cX1_readUnit 1 = .ok (.invokevirtual 59, 3) := by decide +kernel
theorem dX1_readUnit_4 : decode cX1_readUnit 4 = .ok (.ifCond .eq 18, 3) := by decide +kernel
theorem dX1_readUnit_7 : decode cX1_readUnit 7 = .ok (.aload_n 0, 1) := by decide +kernel
theorem dX1_readUnit_8 : decode cX1_readUnit 8 = .ok (.aload_n 1, 1) := by decide +kernel
theorem dX1_readUnit_9 : decode cX1_readUnit 9 = .ok (.iconst 0, 1) := by decide +kernel
theorem dX1_readUnit_10 : decode cX1_readUnit 10 = .ok (.sipush 999, 3) := by decide +kernel
theorem dX1_readUnit_13 : decode cX1_readUnit 13 = .ok (.invokevirtual 62, 3) := by decide +kernel
theorem dX1_readUnit_16 : decode cX1_readUnit 16 = .ok (.invokevirtual 22, 3) := by decide +kernel
theorem dX1_readUnit_19 : decode cX1_readUnit 19 = .ok (.goto 61, 3) := by decide +kernel
theorem dX1_readUnit_22 : decode cX1_readUnit 22 = .ok (.aload_n 1, 1) := by decide +kernel
theorem dX1_readUnit_23 : decode cX1_readUnit 23 = .ok (.bipush 40, 2) := by decide +kernel
theorem dX1_readUnit_25 : decode cX1_readUnit 25 = .ok (.invokevirtual 48, 3) := by decide +kernel
theorem dX1_readUnit_28 : decode cX1_readUnit 28 = .ok (.ifCond .eq 12, 3) := by decide +kernel
theorem dX1_readUnit_31 : decode cX1_readUnit 31 = .ok (.aload_n 0, 1) := by decide +kernel
theorem dX1_readUnit_32 : decode cX1_readUnit 32 = .ok (.aload_n 1, 1) := by decide +kernel
theorem dX1_readUnit_33 : decode cX1_readUnit 33 = .ok (.iload_n 2, 1) := by decide +kernel
theorem dX1_readUnit_34 : decode cX1_readUnit 34 = .ok (.invokevirtual 66, 3) := by decide +kernel
theorem dX1_readUnit_37 : decode cX1_readUnit 37 = .ok (.goto 43, 3) := by decide +kernel
theorem dX1_readUnit_40 : decode cX1_readUnit 40 = .ok (.iconst (-1), 1) := by decide +kernel
theorem dX1_readUnit_41 : decode cX1_readUnit 41 = .ok (.aload_n 1, 1) := by decide +kernel
theorem dX1_readUnit_42 : decode cX1_readUnit 42 = .ok (.ldc 69, 2) := by decide +kernel
theorem dX1_readUnit_44 : decode cX1_readUnit 44 = .ok (.invokevirtual 71, 3) := by decide +kernel
theorem dX1_readUnit_47 : decode cX1_readUnit 47 = .ok (.isub, 1) := by decide +kernel
theorem dX1_readUnit_48 : decode cX1_readUnit 48 = .ok (.istore_n 3, 1) := by decide +kernel
theorem dX1_readUnit_49 : decode cX1_readUnit 49 = .ok (.aload_n 1, 1) := by decide +kernel
theorem dX1_readUnit_50 : decode cX1_readUnit 50 = .ok (.invokevirtual 44, 3) := by decide +kernel
theorem dX1_readUnit_53 : decode cX1_readUnit 53 = .ok (.ifCond .ne 4, 3) := by decide +kernel
theorem dX1_readUnit_56 : decode cX1_readUnit 56 = .ok (.return_, 1) := by decide +kernel
theorem dX1_readUnit_57 : decode cX1_readUnit 57 = .ok (.iload_n 3, 1) := by decide +kernel
theorem dX1_readUnit_58 : decode cX1_readUnit 58 = .ok (.bipush (-9), 2) := by decide +kernel
theorem dX1_readUnit_60 : decode cX1_readUnit 60 = .ok (.if_icmp .eq 9, 3) := by decide +kernel
theorem dX1_readUnit_63 : decode cX1_readUnit 63 = .ok (.iload_n 3, 1) := by decide +kernel
theorem dX1_readUnit_64 : decode cX1_readUnit 64 = .ok (.bipush (-10), 2) := by decide +kernel
theorem dX1_readUnit_66 : decode cX1_readUnit 66 = .ok (.if_icmp .ne 9, 3) := by decide +kernel
theorem dX1_readUnit_69 : decode cX1_readUnit 69 = .ok (.aload_n 0, 1) := by decide +kernel
theorem dX1_readUnit_70 : decode cX1_readUnit 70 = .ok (.aload_n 1, 1) := by decide +kernel
theorem dX1_readUnit_71 : decode cX1_readUnit 71 = .ok (.iload_n 2, 1) := by decide +kernel
theorem dX1_readUnit_72 : decode cX1_readUnit 72 = .ok (.invokevirtual 75, 3) := by decide +kernel
theorem dX1_readUnit_75 : decode cX1_readUnit 75 = .ok (.aload_n 0, 1) := by decide +kernel
theorem dX1_readUnit_76 : decode cX1_readUnit 76 = .ok (.iload_n 3, 1) := by decide +kernel
theorem dX1_readUnit_77 : decode cX1_readUnit 77 = .ok (.invokevirtual 22, 3) := by decide +kernel
theorem dX1_readUnit_80 : decode cX1_readUnit 80 = .ok (.return_, 1) := by decide +kernel
theorem dX1_readBracket_0 : decode cX1_readBracket 0 = .ok (.iload_n 2, 1) := by decide +kernel
theorem dX1_readBracket_1 : decode cX1_readBracket 1 = .ok (.bipush 6, 2) := by decide +kernel
theorem dX1_readBracket_3 : decode cX1_readBracket 3 = .ok (.if_icmp .lt 9, 3) := by decide +kernel
theorem dX1_readBracket_6 : decode cX1_readBracket 6 = .ok (.aload_n 1, 1) := by decide +kernel
theorem dX1_readBracket_7 : decode cX1_readBracket 7 = .ok (.iconst 3, 1) := by decide +kernel
theorem dX1_readBracket_8 : decode cX1_readBracket 8 = .ok (.invokevirtual 78, 3) := by decide +kernel
theorem dX1_readBracket_11 : decode cX1_readBracket 11 = .ok (.return_, 1) := by decide +kernel
theorem dX1_readBracket_12 : decode cX1_readBracket 12 = .ok (.aload_n 1, 1) := by decide +kernel
theorem dX1_readBracket_13 : decode cX1_readBracket 13 = .ok (.bipush 40, 2) := by decide +kernel
theorem dX1_readBracket_15 : decode cX1_readBracket 15 = .ok (.invokevirtual 52, 3) := by decide +kernel
theorem dX1_readBracket_18 : decode cX1_readBracket 18 = .ok (.aload_n 0, 1) := by decide +kernel
theorem dX1_readBracket_19 : decode cX1_readBracket 19 = .ok (.aload_n 1, 1) := by decide +kernel
theorem dX1_readBracket_20 : decode cX1_readBracket 20 = .ok (.iload_n 2, 1) := by decide +kernel
theorem dX1_readBracket_21 : decode cX1_readBracket 21 = .ok (.iconst 1, 1) := by decide +kernel
theorem dX1_readBracket_22 : decode cX1_readBracket 22 = .ok (.iadd, 1) := by decide +kernel
theorem dX1_readBracket_23 : decode cX1_readBracket 23 = .ok (.invokevirtual 32, 3) := by decide +kernel
theorem dX1_readBracket_26 : decode cX1_readBracket 26 = .ok (.aload_n 1, 1) := by decide +kernel
theorem dX1_readBracket_27 : decode cX1_readBracket 27 = .ok (.bipush 41, 2) := by decide +kernel
theorem dX1_readBracket_29 : decode cX1_readBracket 29 = .ok (.invokevirtual 52, 3) := by decide +kernel
theorem dX1_readBracket_32 : decode cX1_readBracket 32 = .ok (.return_, 1) := by decide +kernel
theorem dX1_readPair_0 : decode cX1_readPair 0 = .ok (.iload_n 2, 1) := by decide +kernel
theorem dX1_readPair_1 : decode cX1_readPair 1 = .ok (.bipush 6, 2) := by decide +kernel
theorem dX1_readPair_3 : decode cX1_readPair 3 = .ok (.if_icmp .lt 13, 3) := by decide +kernel
theorem dX1_readPair_6 : decode cX1_readPair 6 = .ok (.aload_n 1, 1) := by decide +kernel
theorem dX1_readPair_7 : decode cX1_readPair 7 = .ok (.iconst 3, 1) := by decide +kernel
theorem dX1_readPair_8 : decode cX1_readPair 8 = .ok (.aload_n 1, 1) := by decide +kernel
theorem dX1_readPair_9 : decode cX1_readPair 9 = .ok (.getfield 81, 3) := by decide +kernel
theorem dX1_readPair_12 : decode cX1_readPair 12 = .ok (.invokevirtual 84, 3) := by decide +kernel
theorem dX1_readPair_15 : decode cX1_readPair 15 = .ok (.return_, 1) := by decide +kernel
theorem dX1_readPair_16 : decode cX1_readPair 16 = .ok (.aload_n 1, 1) := by decide +kernel
theorem dX1_readPair_17 : decode cX1_readPair 17 = .ok (.bipush 91, 2) := by decide +kernel
theorem dX1_readPair_19 : decode cX1_readPair 19 = .ok (.invokevirtual 52, 3) := by decide +kernel
theorem dX1_readPair_22 : decode cX1_readPair 22 = .ok (.aload_n 0, 1) := by decide +kernel
theorem dX1_readPair_23 : decode cX1_readPair 23 = .ok (.aload_n 1, 1) := by decide +kernel
theorem dX1_readPair_24 : decode cX1_readPair 24 = .ok (.iload_n 2, 1) := by decide +kernel
theorem dX1_readPair_25 : decode cX1_readPair 25 = .ok (.iconst 1, 1) := by decide +kernel
theorem dX1_readPair_26 : decode cX1_readPair 26 = .ok (.iadd, 1) := by decide +kernel
theorem dX1_readPair_27 : decode cX1_readPair 27 = .ok (.invokevirtual 32, 3) := by decide +kernel
theorem dX1_readPair_30 : decode cX1_readPair 30 = .ok (.aload_n 1, 1) := by decide +kernel
theorem dX1_readPair_31 : decode cX1_readPair 31 = .ok (.bipush 44, 2) := by decide +kernel
theorem dX1_readPair_33 : decode cX1_readPair 33 = .ok (.invokevirtual 52, 3) := by decide +kernel
theorem dX1_readPair_36 : decode cX1_readPair 36 = .ok (.aload_n 0, 1) := by decide +kernel
theorem dX1_readPair_37 : decode cX1_readPair 37 = .ok (.aload_n 1, 1) := by decide +kernel
theorem dX1_readPair_38 : decode cX1_readPair 38 = .ok (.iload_n 2, 1) := by decide +kernel
theorem dX1_readPair_39 : decode cX1_readPair 39 = .ok (.iconst 1, 1) := by decide +kernel
theorem dX1_readPair_40 : decode cX1_readPair 40 = .ok (.iadd, 1) := by decide +kernel
theorem dX1_readPair_41 : decode cX1_readPair 41 = .ok (.invokevirtual 32, 3) := by decide +kernel
theorem dX1_readPair_44 : decode cX1_readPair 44 = .ok (.aload_n 1, 1) := by decide +kernel
theorem dX1_readPair_45 : decode cX1_readPair 45 = .ok (.bipush 93, 2) := by decide +kernel
theorem dX1_readPair_47 : decode cX1_readPair 47 = .ok (.invokevirtual 52, 3) := by decide +kernel
theorem dX1_readPair_50 : decode cX1_readPair 50 = .ok (.return_, 1) := by decide +kernel
theorem dX1_value_0 : decode cX1_value 0 = .ok (.iconst 0, 1) := by decide +kernel
theorem dX1_value_1 : decode cX1_value 1 = .ok (.istore 4, 2) := by decide +kernel
theorem dX1_value_3 : decode cX1_value 3 = .ok (.iconst 0, 1) := by decide +kernel
theorem dX1_value_4 : decode cX1_value 4 = .ok (.istore 5, 2) := by decide +kernel
theorem dX1_value_6 : decode cX1_value 6 = .ok (.iload 5, 2) := by decide +kernel
theorem dX1_value_8 : decode cX1_value 8 = .ok (.aload_n 0, 1) := by decide +kernel
theorem dX1_value_9 : decode cX1_value 9 = .ok (.getfield 18, 3) := by decide +kernel
theorem dX1_value_12 : decode cX1_value 12 = .ok (.if_icmp .ge 104, 3) := by decide +kernel
theorem dX1_value_15 : decode cX1_value 15 = .ok (.aload_n 0, 1) := by decide +kernel
theorem dX1_value_16 : decode cX1_value 16 = .ok (.getfield 9, 3) := by decide +kernel
theorem dX1_value_19 : decode cX1_value 19 = .ok (.iload 5, 2) := by decide +kernel
theorem dX1_value_21 : decode cX1_value 21 = .ok (.iaload, 1) := by decide +kernel
theorem dX1_value_22 : decode cX1_value 22 = .ok (.istore 6, 2) := by decide +kernel
theorem dX1_value_24 : decode cX1_value 24 = .ok (.iload 6, 2) := by decide +kernel
theorem dX1_value_26 : decode cX1_value 26 = .ok (.bipush (-9), 2) := by decide +kernel
theorem dX1_value_28 : decode cX1_value 28 = .ok (.if_icmp .gt 47, 3) := by decide +kernel
theorem dX1_value_31 : decode cX1_value 31 = .ok (.iload 4, 2) := by decide +kernel
theorem dX1_value_33 : decode cX1_value 33 = .ok (.iconst 2, 1) := by decide +kernel
theorem dX1_value_34 : decode cX1_value 34 = .ok (.if_icmp .lt 76, 3) := by decide +kernel
theorem dX1_value_37 : decode cX1_value 37 = .ok (.aload_n 0, 1) := by decide +kernel
theorem dX1_value_38 : decode cX1_value 38 = .ok (.getfield 15, 3) := by decide +kernel
theorem dX1_value_41 : decode cX1_value 41 = .ok (.iload 4, 2) := by decide +kernel
theorem dX1_value_43 : decode cX1_value 43 = .ok (.iconst 2, 1) := by decide +kernel
theorem dX1_value_44 : decode cX1_value 44 = .ok (.isub, 1) := by decide +kernel
theorem dX1_value_45 : decode cX1_value 45 = .ok (.iload 6, 2) := by decide +kernel
theorem dX1_value_47 : decode cX1_value 47 = .ok (.aload_n 0, 1) := by decide +kernel
theorem dX1_value_48 : decode cX1_value 48 = .ok (.getfield 15, 3) := by decide +kernel
theorem dX1_value_51 : decode cX1_value 51 = .ok (.iload 4, 2) := by decide +kernel
theorem dX1_value_53 : decode cX1_value 53 = .ok (.iconst 2, 1) := by decide +kernel
theorem dX1_value_54 : decode cX1_value 54 = .ok (.isub, 1) := by decide +kernel
theorem dX1_value_55 : decode cX1_value 55 = .ok (.iaload, 1) := by decide +kernel
theorem dX1_value_56 : decode cX1_value 56 = .ok (.aload_n 0, 1) := by decide +kernel
theorem dX1_value_57 : decode cX1_value 57 = .ok (.getfield 15, 3) := by decide +kernel
theorem dX1_value_60 : decode cX1_value 60 = .ok (.iload 4, 2) := by decide +kernel
theorem dX1_value_62 : decode cX1_value 62 = .ok (.iconst 1, 1) := by decide +kernel
theorem dX1_value_63 : decode cX1_value 63 = .ok (.isub, 1) := by decide +kernel
theorem dX1_value_64 : decode cX1_value 64 = .ok (.iaload, 1) := by decide +kernel
theorem dX1_value_65 : decode cX1_value 65 = .ok (.invokestatic 88, 3) := by decide +kernel
theorem dX1_value_68 : decode cX1_value 68 = .ok (.iastore, 1) := by decide +kernel
theorem dX1_value_69 : decode cX1_value 69 = .ok (.iinc 4 (-1), 3) := by decide +kernel
theorem dX1_value_72 : decode cX1_value 72 = .ok (.goto 38, 3) := by decide +kernel
theorem dX1_value_75 : decode cX1_value 75 = .ok (.iload 4, 2) := by decide +kernel
theorem dX1_value_77 : decode cX1_value 77 = .ok (.bipush 24, 2) := by decide +kernel
theorem dX1_value_79 : decode cX1_value 79 = .ok (.if_icmp .ge 31, 3) := by decide +kernel
theorem dX1_value_82 : decode cX1_value 82 = .ok (.aload_n 0, 1) := by decide +kernel
theorem dX1_value_83 : decode cX1_value 83 = .ok (.getfield 15, 3) := by decide +kernel
theorem dX1_value_86 : decode cX1_value 86 = .ok (.iload 4, 2) := by decide +kernel
theorem dX1_value_88 : decode cX1_value 88 = .ok (.iload 6, 2) := by decide +kernel
theorem dX1_value_90 : decode cX1_value 90 = .ok (.ifCond .lt 8, 3) := by decide +kernel
theorem dX1_value_93 : decode cX1_value 93 = .ok (.iload 6, 2) := by decide +kernel
theorem dX1_value_95 : decode cX1_value 95 = .ok (.goto 11, 3) := by decide +kernel
theorem dX1_value_98 : decode cX1_value 98 = .ok (.aload_n 1, 1) := by decide +kernel
theorem dX1_value_99 : decode cX1_value 99 = .ok (.iload 6, 2) := by decide +kernel
theorem dX1_value_101 : decode cX1_value 101 = .ok (.iload_n 2, 1) := by decide +kernel
theorem dX1_value_102 : decode cX1_value 102 = .ok (.iload_n 3, 1) := by decide +kernel
theorem dX1_value_103 : decode cX1_value 103 = .ok (.invokevirtual 92, 3) := by decide +kernel
theorem dX1_value_106 : decode cX1_value 106 = .ok (.iastore, 1) := by decide +kernel
theorem dX1_value_107 : decode cX1_value 107 = .ok (.iinc 4 1, 3) := by decide +kernel
theorem dX1_value_110 : decode cX1_value 110 = .ok (.iinc 5 1, 3) := by decide +kernel
theorem dX1_value_113 : decode cX1_value 113 = .ok (.goto (-107), 3) := by decide +kernel
theorem dX1_value_116 : decode cX1_value 116 = .ok (.aload_n 0, 1) := by decide +kernel
theorem dX1_value_117 : decode cX1_value 117 = .ok (.getfield 15, 3) := by decide +kernel
theorem dX1_value_120 : decode cX1_value 120 = .ok (.iconst 0, 1) := by decide +kernel
theorem dX1_value_121 : decode cX1_value 121 = .ok (.iaload, 1) := by decide +kernel
theorem dX1_value_122 : decode cX1_value 122 = .ok (.ireturn, 1) := by decide +kernel
theorem dX1_joined_0 : decode cX1_joined 0 = .ok (.iload_n 0, 1) := by decide +kernel
theorem dX1_joined_1 : decode cX1_joined 1 = .ok (.tableswitch 69 (-13) (-9) #[65, 61, 57, 46, 35], 35) := by decide +kernel
theorem dX1_joined_36 : decode cX1_joined 36 = .ok (.iload_n 1, 1) := by decide +kernel
theorem dX1_joined_37 : decode cX1_joined 37 = .ok (.iload_n 2, 1) := by decide +kernel
theorem dX1_joined_38 : decode cX1_joined 38 = .ok (.if_icmp .ge 7, 3) := by decide +kernel
theorem dX1_joined_41 : decode cX1_joined 41 = .ok (.iload_n 1, 1) := by decide +kernel
theorem dX1_joined_42 : decode cX1_joined 42 = .ok (.goto 4, 3) := by decide +kernel
theorem dX1_joined_45 : decode cX1_joined 45 = .ok (.iload_n 2, 1) := by decide +kernel
theorem dX1_joined_46 : decode cX1_joined 46 = .ok (.ireturn, 1) := by decide +kernel
theorem dX1_joined_47 : decode cX1_joined 47 = .ok (.iload_n 1, 1) := by decide +kernel
theorem dX1_joined_48 : decode cX1_joined 48 = .ok (.iload_n 2, 1) := by decide +kernel
theorem dX1_joined_49 : decode cX1_joined 49 = .ok (.if_icmp .le 7, 3) := by decide +kernel
theorem dX1_joined_52 : decode cX1_joined 52 = .ok (.iload_n 1, 1) := by decide +kernel
theorem dX1_joined_53 : decode cX1_joined 53 = .ok (.goto 4, 3) := by decide +kernel
theorem dX1_joined_56 : decode cX1_joined 56 = .ok (.iload_n 2, 1) := by decide +kernel
theorem dX1_joined_57 : decode cX1_joined 57 = .ok (.ireturn, 1) := by decide +kernel
theorem dX1_joined_58 : decode cX1_joined 58 = .ok (.iload_n 1, 1) := by decide +kernel
theorem dX1_joined_59 : decode cX1_joined 59 = .ok (.iload_n 2, 1) := by decide +kernel
theorem dX1_joined_60 : decode cX1_joined 60 = .ok (.iadd, 1) := by decide +kernel
theorem dX1_joined_61 : decode cX1_joined 61 = .ok (.ireturn, 1) := by decide +kernel
theorem dX1_joined_62 : decode cX1_joined 62 = .ok (.iload_n 1, 1) := by decide +kernel
theorem dX1_joined_63 : decode cX1_joined 63 = .ok (.iload_n 2, 1) := by decide +kernel
theorem dX1_joined_64 : decode cX1_joined 64 = .ok (.isub, 1) := by decide +kernel
theorem dX1_joined_65 : decode cX1_joined 65 = .ok (.ireturn, 1) := by decide +kernel
theorem dX1_joined_66 : decode cX1_joined 66 = .ok (.iload_n 1, 1) := by decide +kernel
theorem dX1_joined_67 : decode cX1_joined 67 = .ok (.iload_n 2, 1) := by decide +kernel
theorem dX1_joined_68 : decode cX1_joined 68 = .ok (.imul, 1) := by decide +kernel
theorem dX1_joined_69 : decode cX1_joined 69 = .ok (.ireturn, 1) := by decide +kernel
theorem dX1_joined_70 : decode cX1_joined 70 = .ok (.iload_n 2, 1) := by decide +kernel
theorem dX1_joined_71 : decode cX1_joined 71 = .ok (.ifCond .ne 7, 3) := by decide +kernel
theorem dX1_joined_74 : decode cX1_joined 74 = .ok (.iconst 0, 1) := by decide +kernel
theorem dX1_joined_75 : decode cX1_joined 75 = .ok (.goto 6, 3) := by decide +kernel
theorem dX1_joined_78 : decode cX1_joined 78 = .ok (.iload_n 1, 1) := by decide +kernel
theorem dX1_joined_79 : decode cX1_joined 79 = .ok (.iload_n 2, 1) := by decide +kernel
theorem dX1_joined_80 : decode cX1_joined 80 = .ok (.idiv, 1) := by decide +kernel
theorem dX1_joined_81 : decode cX1_joined 81 = .ok (.ireturn, 1) := by decide +kernel
theorem dX2_init_0 : decode cX2_init 0 = .ok (.aload_n 0, 1) := by decide +kernel
theorem dX2_init_1 : decode cX2_init 1 = .ok (.invokespecial 3, 3) := by decide +kernel
theorem dX2_init_4 : decode cX2_init 4 = .ok (.aload_n 0, 1) := by decide +kernel
theorem dX2_init_5 : decode cX2_init 5 = .ok (.bipush 21, 2) := by decide +kernel
theorem dX2_init_7 : decode cX2_init 7 = .ok (.newarray .int, 2) := by decide +kernel
theorem dX2_init_9 : decode cX2_init 9 = .ok (.putfield 9, 3) := by decide +kernel
theorem dX2_init_12 : decode cX2_init 12 = .ok (.return_, 1) := by decide +kernel
theorem dX2_findRests_0 : decode cX2_findRests 0 = .ok (.aload_n 0, 1) := by decide +kernel
theorem dX2_findRests_1 : decode cX2_findRests 1 = .ok (.iconst 0, 1) := by decide +kernel
theorem dX2_findRests_2 : decode cX2_findRests 2 = .ok (.putfield 15, 3) := by decide +kernel
theorem dX2_findRests_5 : decode cX2_findRests 5 = .ok (.aload_n 0, 1) := by decide +kernel
theorem dX2_findRests_6 : decode cX2_findRests 6 = .ok (.iconst (-1), 1) := by decide +kernel
theorem dX2_findRests_7 : decode cX2_findRests 7 = .ok (.putfield 19, 3) := by decide +kernel
theorem dX2_findRests_10 : decode cX2_findRests 10 = .ok (.aload_n 0, 1) := by decide +kernel
theorem dX2_findRests_11 : decode cX2_findRests 11 = .ok (.iconst 0, 1) := by decide +kernel
theorem dX2_findRests_12 : decode cX2_findRests 12 = .ok (.putfield 22, 3) := by decide +kernel
theorem dX2_findRests_15 : decode cX2_findRests 15 = .ok (.iload_n 2, 1) := by decide +kernel
theorem dX2_findRests_16 : decode cX2_findRests 16 = .ok (.bipush 20, 2) := by decide +kernel
theorem dX2_findRests_18 : decode cX2_findRests 18 = .ok (.invokestatic 25, 3) := by decide +kernel
theorem dX2_findRests_21 : decode cX2_findRests 21 = .ok (.istore_n 3, 1) := by decide +kernel
theorem dX2_findRests_22 : decode cX2_findRests 22 = .ok (.iconst 0, 1) := by decide +kernel
theorem dX2_findRests_23 : decode cX2_findRests 23 = .ok (.istore 4, 2) := by decide +kernel
theorem dX2_findRests_25 : decode cX2_findRests 25 = .ok (.iload 4, 2) := by decide +kernel
theorem dX2_findRests_27 : decode cX2_findRests 27 = .ok (.iload_n 3, 1) := by decide +kernel
theorem dX2_findRests_28 : decode cX2_findRests 28 = .ok (.if_icmp .gt 57, 3) := by decide +kernel
theorem dX2_findRests_31 : decode cX2_findRests 31 = .ok (.aload_n 0, 1) := by decide +kernel
theorem dX2_findRests_32 : decode cX2_findRests 32 = .ok (.getfield 9, 3) := by decide +kernel
theorem dX2_findRests_35 : decode cX2_findRests 35 = .ok (.iload 4, 2) := by decide +kernel
theorem dX2_findRests_37 : decode cX2_findRests 37 = .ok (.iconst 0, 1) := by decide +kernel
theorem dX2_findRests_38 : decode cX2_findRests 38 = .ok (.iastore, 1) := by decide +kernel
theorem dX2_findRests_39 : decode cX2_findRests 39 = .ok (.iconst 0, 1) := by decide +kernel
theorem dX2_findRests_40 : decode cX2_findRests 40 = .ok (.istore 5, 2) := by decide +kernel
theorem dX2_findRests_42 : decode cX2_findRests 42 = .ok (.iload 5, 2) := by decide +kernel
theorem dX2_findRests_44 : decode cX2_findRests 44 = .ok (.iload_n 3, 1) := by decide +kernel
theorem dX2_findRests_45 : decode cX2_findRests 45 = .ok (.if_icmp .gt 34, 3) := by decide +kernel
theorem dX2_findRests_48 : decode cX2_findRests 48 = .ok (.aload_n 0, 1) := by decide +kernel
theorem dX2_findRests_49 : decode cX2_findRests 49 = .ok (.getfield 9, 3) := by decide +kernel
theorem dX2_findRests_52 : decode cX2_findRests 52 = .ok (.iload 4, 2) := by decide +kernel
theorem dX2_findRests_54 : decode cX2_findRests 54 = .ok (.aload_n 0, 1) := by decide +kernel
theorem dX2_findRests_55 : decode cX2_findRests 55 = .ok (.getfield 9, 3) := by decide +kernel
theorem dX2_findRests_58 : decode cX2_findRests 58 = .ok (.iload 4, 2) := by decide +kernel
theorem dX2_findRests_60 : decode cX2_findRests 60 = .ok (.iaload, 1) := by decide +kernel
theorem dX2_findRests_61 : decode cX2_findRests 61 = .ok (.iload_n 1, 1) := by decide +kernel
theorem dX2_findRests_62 : decode cX2_findRests 62 = .ok (.iload 5, 2) := by decide +kernel
theorem dX2_findRests_64 : decode cX2_findRests 64 = .ok (.iload 4, 2) := by decide +kernel
theorem dX2_findRests_66 : decode cX2_findRests 66 = .ok (.invokestatic 31, 3) := by decide +kernel
theorem dX2_findRests_69 : decode cX2_findRests 69 = .ok (.invokestatic 35, 3) := by decide +kernel
theorem dX2_findRests_72 : decode cX2_findRests 72 = .ok (.iastore, 1) := by decide +kernel
theorem dX2_findRests_73 : decode cX2_findRests 73 = .ok (.iinc 5 1, 3) := by decide +kernel
theorem dX2_findRests_76 : decode cX2_findRests 76 = .ok (.goto (-34), 3) := by decide +kernel
theorem dX2_findRests_79 : decode cX2_findRests 79 = .ok (.iinc 4 1, 3) := by decide +kernel
theorem dX2_findRests_82 : decode cX2_findRests 82 = .ok (.goto (-57), 3) := by decide +kernel
theorem dX2_findRests_85 : decode cX2_findRests 85 = .ok (.iconst 0, 1) := by decide +kernel
theorem dX2_findRests_86 : decode cX2_findRests 86 = .ok (.istore 4, 2) := by decide +kernel
theorem dX2_findRests_88 : decode cX2_findRests 88 = .ok (.iload 4, 2) := by decide +kernel
theorem dX2_findRests_90 : decode cX2_findRests 90 = .ok (.iload_n 3, 1) := by decide +kernel
theorem dX2_findRests_91 : decode cX2_findRests 91 = .ok (.if_icmp .gt 69, 3) := by decide +kernel
theorem dX2_findRests_94 : decode cX2_findRests 94 = .ok (.iconst 0, 1) := by decide +kernel
theorem dX2_findRests_95 : decode cX2_findRests 95 = .ok (.istore 5, 2) := by decide +kernel
theorem dX2_findRests_97 : decode cX2_findRests 97 = .ok (.iload 5, 2) := by decide +kernel
theorem dX2_findRests_99 : decode cX2_findRests 99 = .ok (.iload_n 3, 1) := by decide +kernel
theorem dX2_findRests_100 : decode cX2_findRests 100 = .ok (.if_icmp .gt 54, 3) := by decide +kernel
theorem dX2_findRests_103 : decode cX2_findRests 103 = .ok (.iload_n 1, 1) := by decide +kernel
theorem dX2_findRests_104 : decode cX2_findRests 104 = .ok (.iload 4, 2) := by decide +kernel
theorem dX2_findRests_106 : decode cX2_findRests 106 = .ok (.iload 5, 2) := by decide +kernel
theorem dX2_findRests_108 : decode cX2_findRests 108 = .ok (.invokestatic 31, 3) := by decide +kernel
theorem dX2_findRests_111 : decode cX2_findRests 111 = .ok (.aload_n 0, 1) := by decide +kernel
theorem dX2_findRests_112 : decode cX2_findRests 112 = .ok (.getfield 9, 3) := by decide +kernel
theorem dX2_findRests_115 : decode cX2_findRests 115 = .ok (.iload 5, 2) := by decide +kernel
theorem dX2_findRests_117 : decode cX2_findRests 117 = .ok (.iaload, 1) := by decide +kernel
theorem dX2_findRests_118 : decode cX2_findRests 118 = .ok (.if_icmp .ne 30, 3) := by decide +kernel
theorem dX2_findRests_121 : decode cX2_findRests 121 = .ok (.iload_n 1, 1) := by decide +kernel
theorem dX2_findRests_122 : decode cX2_findRests 122 = .ok (.iload 5, 2) := by decide +kernel
theorem dX2_findRests_124 : decode cX2_findRests 124 = .ok (.iload 4, 2) := by decide +kernel
theorem dX2_findRests_126 : decode cX2_findRests 126 = .ok (.invokestatic 31, 3) := by decide +kernel
theorem dX2_findRests_129 : decode cX2_findRests 129 = .ok (.aload_n 0, 1) := by decide +kernel
theorem dX2_findRests_130 : decode cX2_findRests 130 = .ok (.getfield 9, 3) := by decide +kernel
theorem dX2_findRests_133 : decode cX2_findRests 133 = .ok (.iload 4, 2) := by decide +kernel
theorem dX2_findRests_135 : decode cX2_findRests 135 = .ok (.iaload, 1) := by decide +kernel
theorem dX2_findRests_136 : decode cX2_findRests 136 = .ok (.if_icmp .ne 12, 3) := by decide +kernel
theorem dX2_findRests_139 : decode cX2_findRests 139 = .ok (.aload_n 0, 1) := by decide +kernel
theorem dX2_findRests_140 : decode cX2_findRests 140 = .ok (.iload_n 1, 1) := by decide +kernel
theorem dX2_findRests_141 : decode cX2_findRests 141 = .ok (.iload 4, 2) := by decide +kernel
theorem dX2_findRests_143 : decode cX2_findRests 143 = .ok (.iload 5, 2) := by decide +kernel
theorem dX2_findRests_145 : decode cX2_findRests 145 = .ok (.invokevirtual 38, 3) := by decide +kernel
theorem dX2_findRests_148 : decode cX2_findRests 148 = .ok (.iinc 5 1, 3) := by decide +kernel
theorem dX2_findRests_151 : decode cX2_findRests 151 = .ok (.goto (-54), 3) := by decide +kernel
theorem dX2_findRests_154 : decode cX2_findRests 154 = .ok (.iinc 4 1, 3) := by decide +kernel
theorem dX2_findRests_157 : decode cX2_findRests 157 = .ok (.goto (-69), 3) := by decide +kernel
theorem dX2_findRests_160 : decode cX2_findRests 160 = .ok (.return_, 1) := by decide +kernel
theorem dX2_countRest_0 : decode cX2_countRest 0 = .ok (.aload_n 0, 1) := by decide +kernel
theorem dX2_countRest_1 : decode cX2_countRest 1 = .ok (.getfield 15, 3) := by decide +kernel
theorem dX2_countRest_4 : decode cX2_countRest 4 = .ok (.ifCond .ne 23, 3) := by decide +kernel
theorem dX2_countRest_7 : decode cX2_countRest 7 = .ok (.aload_n 0, 1) := by decide +kernel
theorem dX2_countRest_8 : decode cX2_countRest 8 = .ok (.bipush 100, 2) := by decide +kernel
theorem dX2_countRest_10 : decode cX2_countRest 10 = .ok (.iload_n 2, 1) := by decide +kernel
theorem dX2_countRest_11 : decode cX2_countRest 11 = .ok (.imul, 1) := by decide +kernel
theorem dX2_countRest_12 : decode cX2_countRest 12 = .ok (.iload_n 3, 1) := by decide +kernel
theorem dX2_countRest_13 : decode cX2_countRest 13 = .ok (.iadd, 1) := by decide +kernel
theorem dX2_countRest_14 : decode cX2_countRest 14 = .ok (.putfield 19, 3) := by decide +kernel
theorem dX2_countRest_17 : decode cX2_countRest 17 = .ok (.aload_n 0, 1) := by decide +kernel
theorem dX2_countRest_18 : decode cX2_countRest 18 = .ok (.iload_n 1, 1) := by decide +kernel
theorem dX2_countRest_19 : decode cX2_countRest 19 = .ok (.iload_n 2, 1) := by decide +kernel
theorem dX2_countRest_20 : decode cX2_countRest 20 = .ok (.iload_n 3, 1) := by decide +kernel
theorem dX2_countRest_21 : decode cX2_countRest 21 = .ok (.invokestatic 31, 3) := by decide +kernel
theorem dX2_countRest_24 : decode cX2_countRest 24 = .ok (.putfield 22, 3) := by decide +kernel
theorem dX2_countRest_27 : decode cX2_countRest 27 = .ok (.aload_n 0, 1) := by decide +kernel
theorem dX2_countRest_28 : decode cX2_countRest 28 = .ok (.dup, 1) := by decide +kernel
theorem dX2_countRest_29 : decode cX2_countRest 29 = .ok (.getfield 15, 3) := by decide +kernel
theorem dX2_countRest_32 : decode cX2_countRest 32 = .ok (.iconst 1, 1) := by decide +kernel
theorem dX2_countRest_33 : decode cX2_countRest 33 = .ok (.iadd, 1) := by decide +kernel
theorem dX2_countRest_34 : decode cX2_countRest 34 = .ok (.putfield 15, 3) := by decide +kernel
theorem dX2_countRest_37 : decode cX2_countRest 37 = .ok (.return_, 1) := by decide +kernel
theorem dX2_gets_0 : decode cX2_gets 0 = .ok (.iload_n 1, 1) := by decide +kernel
theorem dX2_gets_1 : decode cX2_gets 1 = .ok (.iconst 0, 1) := by decide +kernel
theorem dX2_gets_2 : decode cX2_gets 2 = .ok (.iload_n 0, 1) := by decide +kernel
theorem dX2_gets_3 : decode cX2_gets 3 = .ok (.iload_n 1, 1) := by decide +kernel
theorem dX2_gets_4 : decode cX2_gets 4 = .ok (.isub, 1) := by decide +kernel
theorem dX2_gets_5 : decode cX2_gets 5 = .ok (.iload_n 2, 1) := by decide +kernel
theorem dX2_gets_6 : decode cX2_gets 6 = .ok (.isub, 1) := by decide +kernel
theorem dX2_gets_7 : decode cX2_gets 7 = .ok (.invokestatic 35, 3) := by decide +kernel
theorem dX2_gets_10 : decode cX2_gets 10 = .ok (.imul, 1) := by decide +kernel
theorem dX2_gets_11 : decode cX2_gets 11 = .ok (.ireturn, 1) := by decide +kernel
theorem dX3_init_0 : decode cX3_init 0 = .ok (.aload_n 0, 1) := by decide +kernel
theorem dX3_init_1 : decode cX3_init 1 = .ok (.invokespecial 3, 3) := by decide +kernel
theorem dX3_init_4 : decode cX3_init 4 = .ok (.aload_n 0, 1) := by decide +kernel
theorem dX3_init_5 : decode cX3_init 5 = .ok (.bipush 6, 2) := by decide +kernel
theorem dX3_init_7 : decode cX3_init 7 = .ok (.newarray .int, 2) := by decide +kernel
theorem dX3_init_9 : decode cX3_init 9 = .ok (.putfield 9, 3) := by decide +kernel
theorem dX3_init_12 : decode cX3_init 12 = .ok (.aload_n 0, 1) := by decide +kernel
theorem dX3_init_13 : decode cX3_init 13 = .ok (.bipush 6, 2) := by decide +kernel
theorem dX3_init_15 : decode cX3_init 15 = .ok (.newarray .int, 2) := by decide +kernel
theorem dX3_init_17 : decode cX3_init 17 = .ok (.putfield 15, 3) := by decide +kernel
theorem dX3_init_20 : decode cX3_init 20 = .ok (.aload_n 0, 1) := by decide +kernel
theorem dX3_init_21 : decode cX3_init 21 = .ok (.bipush 6, 2) := by decide +kernel
theorem dX3_init_23 : decode cX3_init 23 = .ok (.newarray .int, 2) := by decide +kernel
theorem dX3_init_25 : decode cX3_init 25 = .ok (.putfield 18, 3) := by decide +kernel
theorem dX3_init_28 : decode cX3_init 28 = .ok (.aload_n 0, 1) := by decide +kernel
theorem dX3_init_29 : decode cX3_init 29 = .ok (.bipush 6, 2) := by decide +kernel
theorem dX3_init_31 : decode cX3_init 31 = .ok (.newarray .int, 2) := by decide +kernel
theorem dX3_init_33 : decode cX3_init 33 = .ok (.putfield 21, 3) := by decide +kernel
theorem dX3_init_36 : decode cX3_init 36 = .ok (.aload_n 0, 1) := by decide +kernel
theorem dX3_init_37 : decode cX3_init 37 = .ok (.aload_n 1, 1) := by decide +kernel
theorem dX3_init_38 : decode cX3_init 38 = .ok (.putfield 24, 3) := by decide +kernel
theorem dX3_init_41 : decode cX3_init 41 = .ok (.aload_n 0, 1) := by decide +kernel
theorem dX3_init_42 : decode cX3_init 42 = .ok (.aload_n 2, 1) := by decide +kernel
theorem dX3_init_43 : decode cX3_init 43 = .ok (.putfield 28, 3) := by decide +kernel
theorem dX3_init_46 : decode cX3_init 46 = .ok (.aload_n 0, 1) := by decide +kernel
theorem dX3_init_47 : decode cX3_init 47 = .ok (.aload_n 3, 1) := by decide +kernel
theorem dX3_init_48 : decode cX3_init 48 = .ok (.putfield 32, 3) := by decide +kernel
theorem dX3_init_51 : decode cX3_init 51 = .ok (.return_, 1) := by decide +kernel
theorem dX3_begin_0 : decode cX3_begin 0 = .ok (.aload_n 0, 1) := by decide +kernel
theorem dX3_begin_1 : decode cX3_begin 1 = .ok (.lconst 0, 1) := by decide +kernel
theorem dX3_begin_2 : decode cX3_begin 2 = .ok (.putfield 35, 3) := by decide +kernel
theorem dX3_begin_5 : decode cX3_begin 5 = .ok (.aload_n 0, 1) := by decide +kernel
theorem dX3_begin_6 : decode cX3_begin 6 = .ok (.lconst 0, 1) := by decide +kernel
theorem dX3_begin_7 : decode cX3_begin 7 = .ok (.putfield 39, 3) := by decide +kernel
theorem dX3_begin_10 : decode cX3_begin 10 = .ok (.aload_n 0, 1) := by decide +kernel
theorem dX3_begin_11 : decode cX3_begin 11 = .ok (.lconst 0, 1) := by decide +kernel
theorem dX3_begin_12 : decode cX3_begin 12 = .ok (.putfield 42, 3) := by decide +kernel
theorem dX3_begin_15 : decode cX3_begin 15 = .ok (.aload_n 0, 1) := by decide +kernel
theorem dX3_begin_16 : decode cX3_begin 16 = .ok (.getfield 9, 3) := by decide +kernel
theorem dX3_begin_19 : decode cX3_begin 19 = .ok (.iconst 0, 1) := by decide +kernel
theorem dX3_begin_20 : decode cX3_begin 20 = .ok (.invokestatic 45, 3) := by decide +kernel
theorem dX3_begin_23 : decode cX3_begin 23 = .ok (.aload_n 0, 1) := by decide +kernel
theorem dX3_begin_24 : decode cX3_begin 24 = .ok (.getfield 15, 3) := by decide +kernel
theorem dX3_begin_27 : decode cX3_begin 27 = .ok (.iconst 0, 1) := by decide +kernel
theorem dX3_begin_28 : decode cX3_begin 28 = .ok (.invokestatic 45, 3) := by decide +kernel
theorem dX3_begin_31 : decode cX3_begin 31 = .ok (.aload_n 0, 1) := by decide +kernel
theorem dX3_begin_32 : decode cX3_begin 32 = .ok (.getfield 18, 3) := by decide +kernel
theorem dX3_begin_35 : decode cX3_begin 35 = .ok (.iconst 0, 1) := by decide +kernel
theorem dX3_begin_36 : decode cX3_begin 36 = .ok (.invokestatic 45, 3) := by decide +kernel
theorem dX3_begin_39 : decode cX3_begin 39 = .ok (.aload_n 0, 1) := by decide +kernel
theorem dX3_begin_40 : decode cX3_begin 40 = .ok (.getfield 21, 3) := by decide +kernel
theorem dX3_begin_43 : decode cX3_begin 43 = .ok (.iconst 0, 1) := by decide +kernel
theorem dX3_begin_44 : decode cX3_begin 44 = .ok (.invokestatic 45, 3) := by decide +kernel
theorem dX3_begin_47 : decode cX3_begin 47 = .ok (.aload_n 0, 1) := by decide +kernel
theorem dX3_begin_48 : decode cX3_begin 48 = .ok (.iconst 1, 1) := by decide +kernel
theorem dX3_begin_49 : decode cX3_begin 49 = .ok (.putfield 51, 3) := by decide +kernel
theorem dX3_begin_52 : decode cX3_begin 52 = .ok (.aload_n 0, 1) := by decide +kernel
theorem dX3_begin_53 : decode cX3_begin 53 = .ok (.iconst 0, 1) := by decide +kernel
theorem dX3_begin_54 : decode cX3_begin 54 = .ok (.putfield 55, 3) := by decide +kernel
theorem dX3_begin_57 : decode cX3_begin 57 = .ok (.aload_n 0, 1) := by decide +kernel
theorem dX3_begin_58 : decode cX3_begin 58 = .ok (.aload_n 0, 1) := by decide +kernel
theorem dX3_begin_59 : decode cX3_begin 59 = .ok (.getfield 24, 3) := by decide +kernel
theorem dX3_begin_62 : decode cX3_begin 62 = .ok (.getfield 58, 3) := by decide +kernel
theorem dX3_begin_65 : decode cX3_begin 65 = .ok (.putfield 63, 3) := by decide +kernel
theorem dX3_begin_68 : decode cX3_begin 68 = .ok (.aload_n 0, 1) := by decide +kernel
theorem dX3_begin_69 : decode cX3_begin 69 = .ok (.iconst 0, 1) := by decide +kernel
theorem dX3_begin_70 : decode cX3_begin 70 = .ok (.putfield 66, 3) := by decide +kernel
theorem dX3_begin_73 : decode cX3_begin 73 = .ok (.aload_n 0, 1) := by decide +kernel
theorem dX3_begin_74 : decode cX3_begin 74 = .ok (.iconst 0, 1) := by decide +kernel
theorem dX3_begin_75 : decode cX3_begin 75 = .ok (.putfield 69, 3) := by decide +kernel
theorem dX3_begin_78 : decode cX3_begin 78 = .ok (.aload_n 0, 1) := by decide +kernel
theorem dX3_begin_79 : decode cX3_begin 79 = .ok (.aload_n 0, 1) := by decide +kernel
theorem dX3_begin_80 : decode cX3_begin 80 = .ok (.getfield 24, 3) := by decide +kernel
theorem dX3_begin_83 : decode cX3_begin 83 = .ok (.getfield 72, 3) := by decide +kernel
theorem dX3_begin_86 : decode cX3_begin 86 = .ok (.putfield 75, 3) := by decide +kernel
theorem dX3_begin_89 : decode cX3_begin 89 = .ok (.aload_n 0, 1) := by decide +kernel
theorem dX3_begin_90 : decode cX3_begin 90 = .ok (.iconst 0, 1) := by decide +kernel
theorem dX3_begin_91 : decode cX3_begin 91 = .ok (.putfield 78, 3) := by decide +kernel
theorem dX3_begin_94 : decode cX3_begin 94 = .ok (.aload_n 0, 1) := by decide +kernel
theorem dX3_begin_95 : decode cX3_begin 95 = .ok (.iconst 0, 1) := by decide +kernel
theorem dX3_begin_96 : decode cX3_begin 96 = .ok (.putfield 81, 3) := by decide +kernel
theorem dX3_begin_99 : decode cX3_begin 99 = .ok (.return_, 1) := by decide +kernel
theorem dX3_copyFrom_0 : decode cX3_copyFrom 0 = .ok (.aload_n 0, 1) := by decide +kernel
theorem dX3_copyFrom_1 : decode cX3_copyFrom 1 = .ok (.aload_n 1, 1) := by decide +kernel
theorem dX3_copyFrom_2 : decode cX3_copyFrom 2 = .ok (.getfield 35, 3) := by decide +kernel
theorem dX3_copyFrom_5 : decode cX3_copyFrom 5 = .ok (.putfield 35, 3) := by decide +kernel
theorem dX3_copyFrom_8 : decode cX3_copyFrom 8 = .ok (.aload_n 0, 1) := by decide +kernel
theorem dX3_copyFrom_9 : decode cX3_copyFrom 9 = .ok (.aload_n 1, 1) := by decide +kernel
theorem dX3_copyFrom_10 : decode cX3_copyFrom 10 = .ok (.getfield 39, 3) := by decide +kernel
theorem dX3_copyFrom_13 : decode cX3_copyFrom 13 = .ok (.putfield 39, 3) := by decide +kernel
theorem dX3_copyFrom_16 : decode cX3_copyFrom 16 = .ok (.aload_n 0, 1) := by decide +kernel
theorem dX3_copyFrom_17 : decode cX3_copyFrom 17 = .ok (.aload_n 1, 1) := by decide +kernel
theorem dX3_copyFrom_18 : decode cX3_copyFrom 18 = .ok (.getfield 42, 3) := by decide +kernel
theorem dX3_copyFrom_21 : decode cX3_copyFrom 21 = .ok (.putfield 42, 3) := by decide +kernel
theorem dX3_copyFrom_24 : decode cX3_copyFrom 24 = .ok (.aload_n 1, 1) := by decide +kernel
theorem dX3_copyFrom_25 : decode cX3_copyFrom 25 = .ok (.getfield 9, 3) := by decide +kernel
theorem dX3_copyFrom_28 : decode cX3_copyFrom 28 = .ok (.iconst 0, 1) := by decide +kernel
theorem dX3_copyFrom_29 : decode cX3_copyFrom 29 = .ok (.aload_n 0, 1) := by decide +kernel
theorem dX3_copyFrom_30 : decode cX3_copyFrom 30 = .ok (.getfield 9, 3) := by decide +kernel
theorem dX3_copyFrom_33 : decode cX3_copyFrom 33 = .ok (.iconst 0, 1) := by decide +kernel
theorem dX3_copyFrom_34 : decode cX3_copyFrom 34 = .ok (.bipush 6, 2) := by decide +kernel
theorem dX3_copyFrom_36 : decode cX3_copyFrom 36 = .ok (.invokestatic 84, 3) := by decide +kernel
theorem dX3_copyFrom_39 : decode cX3_copyFrom 39 = .ok (.aload_n 1, 1) := by decide +kernel
theorem dX3_copyFrom_40 : decode cX3_copyFrom 40 = .ok (.getfield 15, 3) := by decide +kernel
theorem dX3_copyFrom_43 : decode cX3_copyFrom 43 = .ok (.iconst 0, 1) := by decide +kernel
theorem dX3_copyFrom_44 : decode cX3_copyFrom 44 = .ok (.aload_n 0, 1) := by decide +kernel
theorem dX3_copyFrom_45 : decode cX3_copyFrom 45 = .ok (.getfield 15, 3) := by decide +kernel
theorem dX3_copyFrom_48 : decode cX3_copyFrom 48 = .ok (.iconst 0, 1) := by decide +kernel
theorem dX3_copyFrom_49 : decode cX3_copyFrom 49 = .ok (.bipush 6, 2) := by decide +kernel
theorem dX3_copyFrom_51 : decode cX3_copyFrom 51 = .ok (.invokestatic 84, 3) := by decide +kernel
theorem dX3_copyFrom_54 : decode cX3_copyFrom 54 = .ok (.aload_n 1, 1) := by decide +kernel
theorem dX3_copyFrom_55 : decode cX3_copyFrom 55 = .ok (.getfield 18, 3) := by decide +kernel
theorem dX3_copyFrom_58 : decode cX3_copyFrom 58 = .ok (.iconst 0, 1) := by decide +kernel
theorem dX3_copyFrom_59 : decode cX3_copyFrom 59 = .ok (.aload_n 0, 1) := by decide +kernel
theorem dX3_copyFrom_60 : decode cX3_copyFrom 60 = .ok (.getfield 18, 3) := by decide +kernel
theorem dX3_copyFrom_63 : decode cX3_copyFrom 63 = .ok (.iconst 0, 1) := by decide +kernel
theorem dX3_copyFrom_64 : decode cX3_copyFrom 64 = .ok (.bipush 6, 2) := by decide +kernel
theorem dX3_copyFrom_66 : decode cX3_copyFrom 66 = .ok (.invokestatic 84, 3) := by decide +kernel
theorem dX3_copyFrom_69 : decode cX3_copyFrom 69 = .ok (.aload_n 1, 1) := by decide +kernel
theorem dX3_copyFrom_70 : decode cX3_copyFrom 70 = .ok (.getfield 21, 3) := by decide +kernel
theorem dX3_copyFrom_73 : decode cX3_copyFrom 73 = .ok (.iconst 0, 1) := by decide +kernel
theorem dX3_copyFrom_74 : decode cX3_copyFrom 74 = .ok (.aload_n 0, 1) := by decide +kernel
theorem dX3_copyFrom_75 : decode cX3_copyFrom 75 = .ok (.getfield 21, 3) := by decide +kernel
theorem dX3_copyFrom_78 : decode cX3_copyFrom 78 = .ok (.iconst 0, 1) := by decide +kernel
theorem dX3_copyFrom_79 : decode cX3_copyFrom 79 = .ok (.bipush 6, 2) := by decide +kernel
theorem dX3_copyFrom_81 : decode cX3_copyFrom 81 = .ok (.invokestatic 84, 3) := by decide +kernel
theorem dX3_copyFrom_84 : decode cX3_copyFrom 84 = .ok (.aload_n 0, 1) := by decide +kernel
theorem dX3_copyFrom_85 : decode cX3_copyFrom 85 = .ok (.aload_n 1, 1) := by decide +kernel
theorem dX3_copyFrom_86 : decode cX3_copyFrom 86 = .ok (.getfield 51, 3) := by decide +kernel
theorem dX3_copyFrom_89 : decode cX3_copyFrom 89 = .ok (.putfield 51, 3) := by decide +kernel
theorem dX3_copyFrom_92 : decode cX3_copyFrom 92 = .ok (.aload_n 0, 1) := by decide +kernel
theorem dX3_copyFrom_93 : decode cX3_copyFrom 93 = .ok (.aload_n 1, 1) := by decide +kernel
theorem dX3_copyFrom_94 : decode cX3_copyFrom 94 = .ok (.getfield 55, 3) := by decide +kernel
theorem dX3_copyFrom_97 : decode cX3_copyFrom 97 = .ok (.putfield 55, 3) := by decide +kernel
theorem dX3_copyFrom_100 : decode cX3_copyFrom 100 = .ok (.aload_n 0, 1) := by decide +kernel
theorem dX3_copyFrom_101 : decode cX3_copyFrom 101 = .ok (.aload_n 1, 1) := by decide +kernel
theorem dX3_copyFrom_102 : decode cX3_copyFrom 102 = .ok (.getfield 63, 3) := by decide +kernel
theorem dX3_copyFrom_105 : decode cX3_copyFrom 105 = .ok (.putfield 63, 3) := by decide +kernel
theorem dX3_copyFrom_108 : decode cX3_copyFrom 108 = .ok (.aload_n 0, 1) := by decide +kernel
theorem dX3_copyFrom_109 : decode cX3_copyFrom 109 = .ok (.aload_n 1, 1) := by decide +kernel
theorem dX3_copyFrom_110 : decode cX3_copyFrom 110 = .ok (.getfield 66, 3) := by decide +kernel
theorem dX3_copyFrom_113 : decode cX3_copyFrom 113 = .ok (.putfield 66, 3) := by decide +kernel
theorem dX3_copyFrom_116 : decode cX3_copyFrom 116 = .ok (.aload_n 0, 1) := by decide +kernel
theorem dX3_copyFrom_117 : decode cX3_copyFrom 117 = .ok (.aload_n 1, 1) := by decide +kernel
theorem dX3_copyFrom_118 : decode cX3_copyFrom 118 = .ok (.getfield 69, 3) := by decide +kernel
theorem dX3_copyFrom_121 : decode cX3_copyFrom 121 = .ok (.putfield 69, 3) := by decide +kernel
theorem dX3_copyFrom_124 : decode cX3_copyFrom 124 = .ok (.aload_n 0, 1) := by decide +kernel
theorem dX3_copyFrom_125 : decode cX3_copyFrom 125 = .ok (.aload_n 1, 1) := by decide +kernel
theorem dX3_copyFrom_126 : decode cX3_copyFrom 126 = .ok (.getfield 75, 3) := by decide +kernel
theorem dX3_copyFrom_129 : decode cX3_copyFrom 129 = .ok (.putfield 75, 3) := by decide +kernel
theorem dX3_copyFrom_132 : decode cX3_copyFrom 132 = .ok (.aload_n 0, 1) := by decide +kernel
theorem dX3_copyFrom_133 : decode cX3_copyFrom 133 = .ok (.aload_n 1, 1) := by decide +kernel
theorem dX3_copyFrom_134 : decode cX3_copyFrom 134 = .ok (.getfield 78, 3) := by decide +kernel
theorem dX3_copyFrom_137 : decode cX3_copyFrom 137 = .ok (.putfield 78, 3) := by decide +kernel
theorem dX3_copyFrom_140 : decode cX3_copyFrom 140 = .ok (.aload_n 0, 1) := by decide +kernel
theorem dX3_copyFrom_141 : decode cX3_copyFrom 141 = .ok (.aload_n 1, 1) := by decide +kernel
theorem dX3_copyFrom_142 : decode cX3_copyFrom 142 = .ok (.getfield 81, 3) := by decide +kernel
theorem dX3_copyFrom_145 : decode cX3_copyFrom 145 = .ok (.putfield 81, 3) := by decide +kernel
theorem dX3_copyFrom_148 : decode cX3_copyFrom 148 = .ok (.return_, 1) := by decide +kernel
theorem dX3_twin_0 : decode cX3_twin 0 = .ok (.new 10, 3) := by decide +kernel
theorem dX3_twin_3 : decode cX3_twin 3 = .ok (.dup, 1) := by decide +kernel
theorem dX3_twin_4 : decode cX3_twin 4 = .ok (.aload_n 0, 1) := by decide +kernel
theorem dX3_twin_5 : decode cX3_twin 5 = .ok (.getfield 24, 3) := by decide +kernel
theorem dX3_twin_8 : decode cX3_twin 8 = .ok (.aload_n 0, 1) := by decide +kernel
theorem dX3_twin_9 : decode cX3_twin 9 = .ok (.getfield 28, 3) := by decide +kernel
theorem dX3_twin_12 : decode cX3_twin 12 = .ok (.aload_n 0, 1) := by decide +kernel
theorem dX3_twin_13 : decode cX3_twin 13 = .ok (.getfield 32, 3) := by decide +kernel
theorem dX3_twin_16 : decode cX3_twin 16 = .ok (.invokespecial 90, 3) := by decide +kernel
theorem dX3_twin_19 : decode cX3_twin 19 = .ok (.astore_n 1, 1) := by decide +kernel
theorem dX3_twin_20 : decode cX3_twin 20 = .ok (.aload_n 1, 1) := by decide +kernel
theorem dX3_twin_21 : decode cX3_twin 21 = .ok (.aload_n 0, 1) := by decide +kernel
theorem dX3_twin_22 : decode cX3_twin 22 = .ok (.invokevirtual 93, 3) := by decide +kernel
theorem dX3_twin_25 : decode cX3_twin 25 = .ok (.aload_n 1, 1) := by decide +kernel
theorem dX3_twin_26 : decode cX3_twin 26 = .ok (.areturn, 1) := by decide +kernel
theorem dX3_beside_0 : decode cX3_beside 0 = .ok (.lload_n 0, 1) := by decide +kernel
theorem dX3_beside_1 : decode cX3_beside 1 = .ok (.iconst 1, 1) := by decide +kernel
theorem dX3_beside_2 : decode cX3_beside 2 = .ok (.lshl, 1) := by decide +kernel
theorem dX3_beside_3 : decode cX3_beside 3 = .ok (.ldc2_w 97, 3) := by decide +kernel
theorem dX3_beside_6 : decode cX3_beside 6 = .ok (.land, 1) := by decide +kernel
theorem dX3_beside_7 : decode cX3_beside 7 = .ok (.lload_n 0, 1) := by decide +kernel
theorem dX3_beside_8 : decode cX3_beside 8 = .ok (.iconst 1, 1) := by decide +kernel
theorem dX3_beside_9 : decode cX3_beside 9 = .ok (.lushr, 1) := by decide +kernel
theorem dX3_beside_10 : decode cX3_beside 10 = .ok (.ldc2_w 99, 3) := by decide +kernel
theorem dX3_beside_13 : decode cX3_beside 13 = .ok (.land, 1) := by decide +kernel
theorem dX3_beside_14 : decode cX3_beside 14 = .ok (.lor, 1) := by decide +kernel
theorem dX3_beside_15 : decode cX3_beside 15 = .ok (.lload_n 0, 1) := by decide +kernel
theorem dX3_beside_16 : decode cX3_beside 16 = .ok (.bipush 8, 2) := by decide +kernel
theorem dX3_beside_18 : decode cX3_beside 18 = .ok (.lshl, 1) := by decide +kernel
theorem dX3_beside_19 : decode cX3_beside 19 = .ok (.lor, 1) := by decide +kernel
theorem dX3_beside_20 : decode cX3_beside 20 = .ok (.lload_n 0, 1) := by decide +kernel
theorem dX3_beside_21 : decode cX3_beside 21 = .ok (.bipush 8, 2) := by decide +kernel
theorem dX3_beside_23 : decode cX3_beside 23 = .ok (.lushr, 1) := by decide +kernel
theorem dX3_beside_24 : decode cX3_beside 24 = .ok (.lor, 1) := by decide +kernel
theorem dX3_beside_25 : decode cX3_beside 25 = .ok (.lreturn, 1) := by decide +kernel
theorem dX3_openCells_0 : decode cX3_openCells 0 = .ok (.aload_n 0, 1) := by decide +kernel
theorem dX3_openCells_1 : decode cX3_openCells 1 = .ok (.getfield 35, 3) := by decide +kernel
theorem dX3_openCells_4 : decode cX3_openCells 4 = .ok (.aload_n 0, 1) := by decide +kernel
theorem dX3_openCells_5 : decode cX3_openCells 5 = .ok (.getfield 39, 3) := by decide +kernel
theorem dX3_openCells_8 : decode cX3_openCells 8 = .ok (.lor, 1) := by decide +kernel
theorem dX3_openCells_9 : decode cX3_openCells 9 = .ok (.lreturn, 1) := by decide +kernel
theorem dX3_handCells_0 : decode cX3_handCells 0 = .ok (.aload_n 0, 1) := by decide +kernel
theorem dX3_handCells_1 : decode cX3_handCells 1 = .ok (.invokevirtual 101, 3) := by decide +kernel
theorem dX3_handCells_4 : decode cX3_handCells 4 = .ok (.invokestatic 105, 3) := by decide +kernel
theorem dX3_handCells_7 : decode cX3_handCells 7 = .ok (.aload_n 0, 1) := by decide +kernel
theorem dX3_handCells_8 : decode cX3_handCells 8 = .ok (.getfield 24, 3) := by decide +kernel
theorem dX3_handCells_11 : decode cX3_handCells 11 = .ok (.getfield 109, 3) := by decide +kernel
theorem dX3_handCells_14 : decode cX3_handCells 14 = .ok (.lor, 1) := by decide +kernel
theorem dX3_handCells_15 : decode cX3_handCells 15 = .ok (.aload_n 0, 1) := by decide +kernel
theorem dX3_handCells_16 : decode cX3_handCells 16 = .ok (.getfield 24, 3) := by decide +kernel
theorem dX3_handCells_19 : decode cX3_handCells 19 = .ok (.getfield 112, 3) := by decide +kernel
theorem dX3_handCells_22 : decode cX3_handCells 22 = .ok (.land, 1) := by decide +kernel
theorem dX3_handCells_23 : decode cX3_handCells 23 = .ok (.lreturn, 1) := by decide +kernel
theorem dX3_wetCells_0 : decode cX3_wetCells 0 = .ok (.ldc2_w 115, 3) := by decide +kernel
theorem dX3_wetCells_3 : decode cX3_wetCells 3 = .ok (.bipush 8, 2) := by decide +kernel
theorem dX3_wetCells_5 : decode cX3_wetCells 5 = .ok (.aload_n 0, 1) := by decide +kernel
theorem dX3_wetCells_6 : decode cX3_wetCells 6 = .ok (.getfield 75, 3) := by decide +kernel
theorem dX3_wetCells_9 : decode cX3_wetCells 9 = .ok (.imul, 1) := by decide +kernel
theorem dX3_wetCells_10 : decode cX3_wetCells 10 = .ok (.lshl, 1) := by decide +kernel
theorem dX3_wetCells_11 : decode cX3_wetCells 11 = .ok (.aload_n 0, 1) := by decide +kernel
theorem dX3_wetCells_12 : decode cX3_wetCells 12 = .ok (.getfield 24, 3) := by decide +kernel
theorem dX3_wetCells_15 : decode cX3_wetCells 15 = .ok (.getfield 112, 3) := by decide +kernel
theorem dX3_wetCells_18 : decode cX3_wetCells 18 = .ok (.land, 1) := by decide +kernel
theorem dX3_wetCells_19 : decode cX3_wetCells 19 = .ok (.lreturn, 1) := by decide +kernel
theorem dX3_ableCells_0 : decode cX3_ableCells 0 = .ok (.aload_n 0, 1) := by decide +kernel
theorem dX3_ableCells_1 : decode cX3_ableCells 1 = .ok (.invokevirtual 117, 3) := by decide +kernel
theorem dX3_ableCells_4 : decode cX3_ableCells 4 = .ok (.aload_n 0, 1) := by decide +kernel
theorem dX3_ableCells_5 : decode cX3_ableCells 5 = .ok (.invokevirtual 101, 3) := by decide +kernel
theorem dX3_ableCells_8 : decode cX3_ableCells 8 = .ok (.ldc2_w 115, 3) := by decide +kernel
theorem dX3_ableCells_11 : decode cX3_ableCells 11 = .ok (.lxor, 1) := by decide +kernel
theorem dX3_ableCells_12 : decode cX3_ableCells 12 = .ok (.land, 1) := by decide +kernel
theorem dX3_ableCells_13 : decode cX3_ableCells 13 = .ok (.aload_n 0, 1) := by decide +kernel
theorem dX3_ableCells_14 : decode cX3_ableCells 14 = .ok (.invokevirtual 120, 3) := by decide +kernel
theorem dX3_ableCells_17 : decode cX3_ableCells 17 = .ok (.ldc2_w 115, 3) := by decide +kernel
theorem dX3_ableCells_20 : decode cX3_ableCells 20 = .ok (.lxor, 1) := by decide +kernel
theorem dX3_ableCells_21 : decode cX3_ableCells 21 = .ok (.land, 1) := by decide +kernel
theorem dX3_ableCells_22 : decode cX3_ableCells 22 = .ok (.lreturn, 1) := by decide +kernel
theorem dX3_isWhole_0 : decode cX3_isWhole 0 = .ok (.aload_n 0, 1) := by decide +kernel
theorem dX3_isWhole_1 : decode cX3_isWhole 1 = .ok (.getfield 35, 3) := by decide +kernel
theorem dX3_isWhole_4 : decode cX3_isWhole 4 = .ok (.aload_n 0, 1) := by decide +kernel
theorem dX3_isWhole_5 : decode cX3_isWhole 5 = .ok (.getfield 39, 3) := by decide +kernel
theorem dX3_isWhole_8 : decode cX3_isWhole 8 = .ok (.lor, 1) := by decide +kernel
theorem dX3_isWhole_9 : decode cX3_isWhole 9 = .ok (.aload_n 0, 1) := by decide +kernel
theorem dX3_isWhole_10 : decode cX3_isWhole 10 = .ok (.getfield 42, 3) := by decide +kernel
theorem dX3_isWhole_13 : decode cX3_isWhole 13 = .ok (.lor, 1) := by decide +kernel
theorem dX3_isWhole_14 : decode cX3_isWhole 14 = .ok (.iload_n 1, 1) := by decide +kernel
theorem dX3_isWhole_15 : decode cX3_isWhole 15 = .ok (.lushr, 1) := by decide +kernel
theorem dX3_isWhole_16 : decode cX3_isWhole 16 = .ok (.lconst 1, 1) := by decide +kernel
theorem dX3_isWhole_17 : decode cX3_isWhole 17 = .ok (.land, 1) := by decide +kernel
theorem dX3_isWhole_18 : decode cX3_isWhole 18 = .ok (.lconst 0, 1) := by decide +kernel
theorem dX3_isWhole_19 : decode cX3_isWhole 19 = .ok (.lcmp, 1) := by decide +kernel
theorem dX3_isWhole_20 : decode cX3_isWhole 20 = .ok (.ifCond .ne 7, 3) := by decide +kernel
theorem dX3_isWhole_23 : decode cX3_isWhole 23 = .ok (.iconst 1, 1) := by decide +kernel
theorem dX3_isWhole_24 : decode cX3_isWhole 24 = .ok (.goto 4, 3) := by decide +kernel
theorem dX3_isWhole_27 : decode cX3_isWhole 27 = .ok (.iconst 0, 1) := by decide +kernel
theorem dX3_isWhole_28 : decode cX3_isWhole 28 = .ok (.ireturn, 1) := by decide +kernel
theorem dX3_stateOf_0 : decode cX3_stateOf 0 = .ok (.aload_n 0, 1) := by decide +kernel
theorem dX3_stateOf_1 : decode cX3_stateOf 1 = .ok (.getfield 35, 3) := by decide +kernel
theorem dX3_stateOf_4 : decode cX3_stateOf 4 = .ok (.iload_n 1, 1) := by decide +kernel
theorem dX3_stateOf_5 : decode cX3_stateOf 5 = .ok (.lushr, 1) := by decide +kernel
theorem dX3_stateOf_6 : decode cX3_stateOf 6 = .ok (.lconst 1, 1) := by decide +kernel
theorem dX3_stateOf_7 : decode cX3_stateOf 7 = .ok (.land, 1) := by decide +kernel
theorem dX3_stateOf_8 : decode cX3_stateOf 8 = .ok (.lconst 0, 1) := by decide +kernel
theorem dX3_stateOf_9 : decode cX3_stateOf 9 = .ok (.lcmp, 1) := by decide +kernel
theorem dX3_stateOf_10 : decode cX3_stateOf 10 = .ok (.ifCond .eq 5, 3) := by decide +kernel
theorem dX3_stateOf_13 : decode cX3_stateOf 13 = .ok (.iconst 1, 1) := by decide +kernel
theorem dX3_stateOf_14 : decode cX3_stateOf 14 = .ok (.ireturn, 1) := by decide +kernel
theorem dX3_stateOf_15 : decode cX3_stateOf 15 = .ok (.aload_n 0, 1) := by decide +kernel
theorem dX3_stateOf_16 : decode cX3_stateOf 16 = .ok (.getfield 39, 3) := by decide +kernel
theorem dX3_stateOf_19 : decode cX3_stateOf 19 = .ok (.iload_n 1, 1) := by decide +kernel
theorem dX3_stateOf_20 : decode cX3_stateOf 20 = .ok (.lushr, 1) := by decide +kernel
theorem dX3_stateOf_21 : decode cX3_stateOf 21 = .ok (.lconst 1, 1) := by decide +kernel
theorem dX3_stateOf_22 : decode cX3_stateOf 22 = .ok (.land, 1) := by decide +kernel
theorem dX3_stateOf_23 : decode cX3_stateOf 23 = .ok (.lconst 0, 1) := by decide +kernel
theorem dX3_stateOf_24 : decode cX3_stateOf 24 = .ok (.lcmp, 1) := by decide +kernel
theorem dX3_stateOf_25 : decode cX3_stateOf 25 = .ok (.ifCond .eq 5, 3) := by decide +kernel
theorem dX3_stateOf_28 : decode cX3_stateOf 28 = .ok (.iconst 2, 1) := by decide +kernel
theorem dX3_stateOf_29 : decode cX3_stateOf 29 = .ok (.ireturn, 1) := by decide +kernel
theorem dX3_stateOf_30 : decode cX3_stateOf 30 = .ok (.aload_n 0, 1) := by decide +kernel
theorem dX3_stateOf_31 : decode cX3_stateOf 31 = .ok (.getfield 42, 3) := by decide +kernel
theorem dX3_stateOf_34 : decode cX3_stateOf 34 = .ok (.iload_n 1, 1) := by decide +kernel
theorem dX3_stateOf_35 : decode cX3_stateOf 35 = .ok (.lushr, 1) := by decide +kernel
theorem dX3_stateOf_36 : decode cX3_stateOf 36 = .ok (.lconst 1, 1) := by decide +kernel
theorem dX3_stateOf_37 : decode cX3_stateOf 37 = .ok (.land, 1) := by decide +kernel
theorem dX3_stateOf_38 : decode cX3_stateOf 38 = .ok (.lconst 0, 1) := by decide +kernel
theorem dX3_stateOf_39 : decode cX3_stateOf 39 = .ok (.lcmp, 1) := by decide +kernel
theorem dX3_stateOf_40 : decode cX3_stateOf 40 = .ok (.ifCond .eq 7, 3) := by decide +kernel
theorem dX3_stateOf_43 : decode cX3_stateOf 43 = .ok (.iconst 3, 1) := by decide +kernel
theorem dX3_stateOf_44 : decode cX3_stateOf 44 = .ok (.goto 4, 3) := by decide +kernel
theorem dX3_stateOf_47 : decode cX3_stateOf 47 = .ok (.iconst 0, 1) := by decide +kernel
theorem dX3_stateOf_48 : decode cX3_stateOf 48 = .ok (.ireturn, 1) := by decide +kernel
theorem dX3_barsLeft_0 : decode cX3_barsLeft 0 = .ok (.iload_n 1, 1) := by decide +kernel
theorem dX3_barsLeft_1 : decode cX3_barsLeft 1 = .ok (.ifCond .lt 29, 3) := by decide +kernel
theorem dX3_barsLeft_4 : decode cX3_barsLeft 4 = .ok (.iload_n 1, 1) := by decide +kernel
theorem dX3_barsLeft_5 : decode cX3_barsLeft 5 = .ok (.bipush 48, 2) := by decide +kernel
theorem dX3_barsLeft_7 : decode cX3_barsLeft 7 = .ok (.if_icmp .ge 23, 3) := by decide +kernel
theorem dX3_barsLeft_10 : decode cX3_barsLeft 10 = .ok (.aload_n 0, 1) := by decide +kernel
theorem dX3_barsLeft_11 : decode cX3_barsLeft 11 = .ok (.iload_n 1, 1) := by decide +kernel
theorem dX3_barsLeft_12 : decode cX3_barsLeft 12 = .ok (.invokevirtual 123, 3) := by decide +kernel
theorem dX3_barsLeft_15 : decode cX3_barsLeft 15 = .ok (.ifCond .eq 15, 3) := by decide +kernel
theorem dX3_barsLeft_18 : decode cX3_barsLeft 18 = .ok (.aload_n 0, 1) := by decide +kernel
theorem dX3_barsLeft_19 : decode cX3_barsLeft 19 = .ok (.getfield 24, 3) := by decide +kernel
theorem dX3_barsLeft_22 : decode cX3_barsLeft 22 = .ok (.getfield 127, 3) := by decide +kernel
theorem dX3_barsLeft_25 : decode cX3_barsLeft 25 = .ok (.iload_n 1, 1) := by decide +kernel
theorem dX3_barsLeft_26 : decode cX3_barsLeft 26 = .ok (.iaload, 1) := by decide +kernel
theorem dX3_barsLeft_27 : decode cX3_barsLeft 27 = .ok (.goto 4, 3) := by decide +kernel
theorem dX3_barsLeft_30 : decode cX3_barsLeft 30 = .ok (.iconst 0, 1) := by decide +kernel
theorem dX3_barsLeft_31 : decode cX3_barsLeft 31 = .ok (.ireturn, 1) := by decide +kernel
theorem dX3_penceLeft_0 : decode cX3_penceLeft 0 = .ok (.aload_n 0, 1) := by decide +kernel
theorem dX3_penceLeft_1 : decode cX3_penceLeft 1 = .ok (.iload_n 1, 1) := by decide +kernel
theorem dX3_penceLeft_2 : decode cX3_penceLeft 2 = .ok (.invokevirtual 130, 3) := by decide +kernel
theorem dX3_penceLeft_5 : decode cX3_penceLeft 5 = .ok (.istore_n 2, 1) := by decide +kernel
theorem dX3_penceLeft_6 : decode cX3_penceLeft 6 = .ok (.iload_n 2, 1) := by decide +kernel
theorem dX3_penceLeft_7 : decode cX3_penceLeft 7 = .ok (.ifCond .le 25, 3) := by decide +kernel
theorem dX3_penceLeft_10 : decode cX3_penceLeft 10 = .ok (.iload_n 2, 1) := by decide +kernel
theorem dX3_penceLeft_11 : decode cX3_penceLeft 11 = .ok (.aload_n 0, 1) := by decide +kernel
theorem dX3_penceLeft_12 : decode cX3_penceLeft 12 = .ok (.getfield 24, 3) := by decide +kernel
theorem dX3_penceLeft_15 : decode cX3_penceLeft 15 = .ok (.getfield 134, 3) := by decide +kernel
theorem dX3_penceLeft_18 : decode cX3_penceLeft 18 = .ok (.aload_n 0, 1) := by decide +kernel
theorem dX3_penceLeft_19 : decode cX3_penceLeft 19 = .ok (.getfield 24, 3) := by decide +kernel
theorem dX3_penceLeft_22 : decode cX3_penceLeft 22 = .ok (.getfield 137, 3) := by decide +kernel
theorem dX3_penceLeft_25 : decode cX3_penceLeft 25 = .ok (.iload_n 1, 1) := by decide +kernel
theorem dX3_penceLeft_26 : decode cX3_penceLeft 26 = .ok (.iaload, 1) := by decide +kernel
theorem dX3_penceLeft_27 : decode cX3_penceLeft 27 = .ok (.iaload, 1) := by decide +kernel
theorem dX3_penceLeft_28 : decode cX3_penceLeft 28 = .ok (.imul, 1) := by decide +kernel
theorem dX3_penceLeft_29 : decode cX3_penceLeft 29 = .ok (.goto 4, 3) := by decide +kernel
theorem dX3_penceLeft_32 : decode cX3_penceLeft 32 = .ok (.iconst 0, 1) := by decide +kernel
theorem dX3_penceLeft_33 : decode cX3_penceLeft 33 = .ok (.ireturn, 1) := by decide +kernel
theorem dX3_wide_0 : decode cX3_wide 0 = .ok (.aload_n 0, 1) := by decide +kernel
theorem dX3_wide_1 : decode cX3_wide 1 = .ok (.getfield 35, 3) := by decide +kernel
theorem dX3_wide_4 : decode cX3_wide 4 = .ok (.iload_n 1, 1) := by decide +kernel
theorem dX3_wide_5 : decode cX3_wide 5 = .ok (.lushr, 1) := by decide +kernel
theorem dX3_wide_6 : decode cX3_wide 6 = .ok (.lconst 1, 1) := by decide +kernel
theorem dX3_wide_7 : decode cX3_wide 7 = .ok (.land, 1) := by decide +kernel
theorem dX3_wide_8 : decode cX3_wide 8 = .ok (.lconst 0, 1) := by decide +kernel
theorem dX3_wide_9 : decode cX3_wide 9 = .ok (.lcmp, 1) := by decide +kernel
theorem dX3_wide_10 : decode cX3_wide 10 = .ok (.ifCond .ne 5, 3) := by decide +kernel
theorem dX3_wide_13 : decode cX3_wide 13 = .ok (.iconst 0, 1) := by decide +kernel
theorem dX3_wide_14 : decode cX3_wide 14 = .ok (.ireturn, 1) := by decide +kernel
theorem dX3_wide_15 : decode cX3_wide 15 = .ok (.iload_n 1, 1) := by decide +kernel
theorem dX3_wide_16 : decode cX3_wide 16 = .ok (.iload_n 1, 1) := by decide +kernel
theorem dX3_wide_17 : decode cX3_wide 17 = .ok (.bipush 8, 2) := by decide +kernel
theorem dX3_wide_19 : decode cX3_wide 19 = .ok (.irem, 1) := by decide +kernel
theorem dX3_wide_20 : decode cX3_wide 20 = .ok (.isub, 1) := by decide +kernel
theorem dX3_wide_21 : decode cX3_wide 21 = .ok (.istore_n 2, 1) := by decide +kernel
theorem dX3_wide_22 : decode cX3_wide 22 = .ok (.iconst 1, 1) := by decide +kernel
theorem dX3_wide_23 : decode cX3_wide 23 = .ok (.istore_n 3, 1) := by decide +kernel
theorem dX3_wide_24 : decode cX3_wide 24 = .ok (.iload_n 1, 1) := by decide +kernel
theorem dX3_wide_25 : decode cX3_wide 25 = .ok (.iconst 1, 1) := by decide +kernel
theorem dX3_wide_26 : decode cX3_wide 26 = .ok (.isub, 1) := by decide +kernel
theorem dX3_wide_27 : decode cX3_wide 27 = .ok (.istore 4, 2) := by decide +kernel
theorem dX3_wide_29 : decode cX3_wide 29 = .ok (.iload 4, 2) := by decide +kernel
theorem dX3_wide_31 : decode cX3_wide 31 = .ok (.iload_n 2, 1) := by decide +kernel
theorem dX3_wide_32 : decode cX3_wide 32 = .ok (.if_icmp .lt 26, 3) := by decide +kernel
theorem dX3_wide_35 : decode cX3_wide 35 = .ok (.aload_n 0, 1) := by decide +kernel
theorem dX3_wide_36 : decode cX3_wide 36 = .ok (.getfield 35, 3) := by decide +kernel
theorem dX3_wide_39 : decode cX3_wide 39 = .ok (.iload 4, 2) := by decide +kernel
theorem dX3_wide_41 : decode cX3_wide 41 = .ok (.lushr, 1) := by decide +kernel
theorem dX3_wide_42 : decode cX3_wide 42 = .ok (.lconst 1, 1) := by decide +kernel
theorem dX3_wide_43 : decode cX3_wide 43 = .ok (.land, 1) := by decide +kernel
theorem dX3_wide_44 : decode cX3_wide 44 = .ok (.lconst 0, 1) := by decide +kernel
theorem dX3_wide_45 : decode cX3_wide 45 = .ok (.lcmp, 1) := by decide +kernel
theorem dX3_wide_46 : decode cX3_wide 46 = .ok (.ifCond .eq 12, 3) := by decide +kernel
theorem dX3_wide_49 : decode cX3_wide 49 = .ok (.iinc 3 1, 3) := by decide +kernel
theorem dX3_wide_52 : decode cX3_wide 52 = .ok (.iinc 4 (-1), 3) := by decide +kernel
theorem dX3_wide_55 : decode cX3_wide 55 = .ok (.goto (-26), 3) := by decide +kernel
theorem dX3_wide_58 : decode cX3_wide 58 = .ok (.iload_n 1, 1) := by decide +kernel
theorem dX3_wide_59 : decode cX3_wide 59 = .ok (.iconst 1, 1) := by decide +kernel
theorem dX3_wide_60 : decode cX3_wide 60 = .ok (.iadd, 1) := by decide +kernel
theorem dX3_wide_61 : decode cX3_wide 61 = .ok (.istore 4, 2) := by decide +kernel
theorem dX3_wide_63 : decode cX3_wide 63 = .ok (.iload 4, 2) := by decide +kernel
theorem dX3_wide_65 : decode cX3_wide 65 = .ok (.iload_n 2, 1) := by decide +kernel
theorem dX3_wide_66 : decode cX3_wide 66 = .ok (.bipush 8, 2) := by decide +kernel
theorem dX3_wide_68 : decode cX3_wide 68 = .ok (.iadd, 1) := by decide +kernel
theorem dX3_wide_69 : decode cX3_wide 69 = .ok (.if_icmp .ge 26, 3) := by decide +kernel
theorem dX3_wide_72 : decode cX3_wide 72 = .ok (.aload_n 0, 1) := by decide +kernel
theorem dX3_wide_73 : decode cX3_wide 73 = .ok (.getfield 35, 3) := by decide +kernel
theorem dX3_wide_76 : decode cX3_wide 76 = .ok (.iload 4, 2) := by decide +kernel
theorem dX3_wide_78 : decode cX3_wide 78 = .ok (.lushr, 1) := by decide +kernel
theorem dX3_wide_79 : decode cX3_wide 79 = .ok (.lconst 1, 1) := by decide +kernel
theorem dX3_wide_80 : decode cX3_wide 80 = .ok (.land, 1) := by decide +kernel
theorem dX3_wide_81 : decode cX3_wide 81 = .ok (.lconst 0, 1) := by decide +kernel
theorem dX3_wide_82 : decode cX3_wide 82 = .ok (.lcmp, 1) := by decide +kernel
theorem dX3_wide_83 : decode cX3_wide 83 = .ok (.ifCond .eq 12, 3) := by decide +kernel
theorem dX3_wide_86 : decode cX3_wide 86 = .ok (.iinc 3 1, 3) := by decide +kernel
theorem dX3_wide_89 : decode cX3_wide 89 = .ok (.iinc 4 1, 3) := by decide +kernel
theorem dX3_wide_92 : decode cX3_wide 92 = .ok (.goto (-29), 3) := by decide +kernel
theorem dX3_wide_95 : decode cX3_wide 95 = .ok (.iload_n 3, 1) := by decide +kernel
theorem dX3_wide_96 : decode cX3_wide 96 = .ok (.ireturn, 1) := by decide +kernel
theorem dX3_sight_0 : decode cX3_sight 0 = .ok (.iload_n 2, 1) := by decide +kernel
theorem dX3_sight_1 : decode cX3_sight 1 = .ok (.ifCond .lt 9, 3) := by decide +kernel
theorem dX3_sight_4 : decode cX3_sight 4 = .ok (.iload_n 2, 1) := by decide +kernel
theorem dX3_sight_5 : decode cX3_sight 5 = .ok (.bipush 48, 2) := by decide +kernel
theorem dX3_sight_7 : decode cX3_sight 7 = .ok (.if_icmp .lt 5, 3) := by decide +kernel
theorem dX3_sight_10 : decode cX3_sight 10 = .ok (.iconst 0, 1) := by decide +kernel
theorem dX3_sight_11 : decode cX3_sight 11 = .ok (.ireturn, 1) := by decide +kernel
theorem dX3_sight_12 : decode cX3_sight 12 = .ok (.iload_n 1, 1) := by decide +kernel
theorem dX3_sight_13 : decode cX3_sight 13 = .ok (.tableswitch 120 (-7) (-1) #[110, 100, 94, 71, 62, 57, 43], 43) := by decide +kernel
theorem dX3_sight_56 : decode cX3_sight 56 = .ok (.iload_n 3, 1) := by decide +kernel
theorem dX3_sight_57 : decode cX3_sight 57 = .ok (.ifCond .eq 7, 3) := by decide +kernel
theorem dX3_sight_60 : decode cX3_sight 60 = .ok (.iconst 1, 1) := by decide +kernel
theorem dX3_sight_61 : decode cX3_sight 61 = .ok (.goto 8, 3) := by decide +kernel
theorem dX3_sight_64 : decode cX3_sight 64 = .ok (.aload_n 0, 1) := by decide +kernel
theorem dX3_sight_65 : decode cX3_sight 65 = .ok (.iload_n 2, 1) := by decide +kernel
theorem dX3_sight_66 : decode cX3_sight 66 = .ok (.invokevirtual 140, 3) := by decide +kernel
theorem dX3_sight_69 : decode cX3_sight 69 = .ok (.ireturn, 1) := by decide +kernel
theorem dX3_sight_70 : decode cX3_sight 70 = .ok (.iload_n 2, 1) := by decide +kernel
theorem dX3_sight_71 : decode cX3_sight 71 = .ok (.bipush 8, 2) := by decide +kernel
theorem dX3_sight_73 : decode cX3_sight 73 = .ok (.idiv, 1) := by decide +kernel
theorem dX3_sight_74 : decode cX3_sight 74 = .ok (.ireturn, 1) := by decide +kernel
theorem dX3_sight_75 : decode cX3_sight 75 = .ok (.aload_n 0, 1) := by decide +kernel
theorem dX3_sight_76 : decode cX3_sight 76 = .ok (.getfield 24, 3) := by decide +kernel
theorem dX3_sight_79 : decode cX3_sight 79 = .ok (.iload_n 2, 1) := by decide +kernel
theorem dX3_sight_80 : decode cX3_sight 80 = .ok (.invokevirtual 143, 3) := by decide +kernel
theorem dX3_sight_83 : decode cX3_sight 83 = .ok (.ireturn, 1) := by decide +kernel
theorem dX3_sight_84 : decode cX3_sight 84 = .ok (.iload_n 2, 1) := by decide +kernel
theorem dX3_sight_85 : decode cX3_sight 85 = .ok (.bipush 8, 2) := by decide +kernel
theorem dX3_sight_87 : decode cX3_sight 87 = .ok (.if_icmp .lt 18, 3) := by decide +kernel
theorem dX3_sight_90 : decode cX3_sight 90 = .ok (.aload_n 0, 1) := by decide +kernel
theorem dX3_sight_91 : decode cX3_sight 91 = .ok (.invokevirtual 101, 3) := by decide +kernel
theorem dX3_sight_94 : decode cX3_sight 94 = .ok (.iload_n 2, 1) := by decide +kernel
theorem dX3_sight_95 : decode cX3_sight 95 = .ok (.bipush 8, 2) := by decide +kernel
theorem dX3_sight_97 : decode cX3_sight 97 = .ok (.isub, 1) := by decide +kernel
theorem dX3_sight_98 : decode cX3_sight 98 = .ok (.lushr, 1) := by decide +kernel
theorem dX3_sight_99 : decode cX3_sight 99 = .ok (.lconst 1, 1) := by decide +kernel
theorem dX3_sight_100 : decode cX3_sight 100 = .ok (.land, 1) := by decide +kernel
theorem dX3_sight_101 : decode cX3_sight 101 = .ok (.l2i, 1) := by decide +kernel
theorem dX3_sight_102 : decode cX3_sight 102 = .ok (.goto 4, 3) := by decide +kernel
theorem dX3_sight_105 : decode cX3_sight 105 = .ok (.iconst 0, 1) := by decide +kernel
theorem dX3_sight_106 : decode cX3_sight 106 = .ok (.ireturn, 1) := by decide +kernel
theorem dX3_sight_107 : decode cX3_sight 107 = .ok (.aload_n 0, 1) := by decide +kernel
theorem dX3_sight_108 : decode cX3_sight 108 = .ok (.iload_n 2, 1) := by decide +kernel
theorem dX3_sight_109 : decode cX3_sight 109 = .ok (.invokevirtual 146, 3) := by decide +kernel
theorem dX3_sight_112 : decode cX3_sight 112 = .ok (.ireturn, 1) := by decide +kernel
theorem dX3_sight_113 : decode cX3_sight 113 = .ok (.aload_n 0, 1) := by decide +kernel
theorem dX3_sight_114 : decode cX3_sight 114 = .ok (.getfield 24, 3) := by decide +kernel
theorem dX3_sight_117 : decode cX3_sight 117 = .ok (.getfield 127, 3) := by decide +kernel
theorem dX3_sight_120 : decode cX3_sight 120 = .ok (.iload_n 2, 1) := by decide +kernel
theorem dX3_sight_121 : decode cX3_sight 121 = .ok (.iaload, 1) := by decide +kernel
theorem dX3_sight_122 : decode cX3_sight 122 = .ok (.ireturn, 1) := by decide +kernel
theorem dX3_sight_123 : decode cX3_sight 123 = .ok (.aload_n 0, 1) := by decide +kernel
theorem dX3_sight_124 : decode cX3_sight 124 = .ok (.getfield 24, 3) := by decide +kernel
theorem dX3_sight_127 : decode cX3_sight 127 = .ok (.getfield 137, 3) := by decide +kernel
theorem dX3_sight_130 : decode cX3_sight 130 = .ok (.iload_n 2, 1) := by decide +kernel
theorem dX3_sight_131 : decode cX3_sight 131 = .ok (.iaload, 1) := by decide +kernel
theorem dX3_sight_132 : decode cX3_sight 132 = .ok (.ireturn, 1) := by decide +kernel
theorem dX3_sight_133 : decode cX3_sight 133 = .ok (.aload_n 0, 1) := by decide +kernel
theorem dX3_sight_134 : decode cX3_sight 134 = .ok (.getfield 51, 3) := by decide +kernel
theorem dX3_sight_137 : decode cX3_sight 137 = .ok (.ireturn, 1) := by decide +kernel
theorem dX3_propsBeside_0 : decode cX3_propsBeside 0 = .ok (.iload_n 1, 1) := by decide +kernel
theorem dX3_propsBeside_1 : decode cX3_propsBeside 1 = .ok (.bipush 8, 2) := by decide +kernel
theorem dX3_propsBeside_3 : decode cX3_propsBeside 3 = .ok (.irem, 1) := by decide +kernel
theorem dX3_propsBeside_4 : decode cX3_propsBeside 4 = .ok (.istore_n 2, 1) := by decide +kernel
theorem dX3_propsBeside_5 : decode cX3_propsBeside 5 = .ok (.iload_n 2, 1) := by decide +kernel
theorem dX3_propsBeside_6 : decode cX3_propsBeside 6 = .ok (.ifCond .le 17, 3) := by decide +kernel
theorem dX3_propsBeside_9 : decode cX3_propsBeside 9 = .ok (.aload_n 0, 1) := by decide +kernel
theorem dX3_propsBeside_10 : decode cX3_propsBeside 10 = .ok (.getfield 39, 3) := by decide +kernel
theorem dX3_propsBeside_13 : decode cX3_propsBeside 13 = .ok (.iload_n 1, 1) := by decide +kernel
theorem dX3_propsBeside_14 : decode cX3_propsBeside 14 = .ok (.iconst 1, 1) := by decide +kernel
theorem dX3_propsBeside_15 : decode cX3_propsBeside 15 = .ok (.isub, 1) := by decide +kernel
theorem dX3_propsBeside_16 : decode cX3_propsBeside 16 = .ok (.lushr, 1) := by decide +kernel
theorem dX3_propsBeside_17 : decode cX3_propsBeside 17 = .ok (.lconst 1, 1) := by decide +kernel
theorem dX3_propsBeside_18 : decode cX3_propsBeside 18 = .ok (.land, 1) := by decide +kernel
theorem dX3_propsBeside_19 : decode cX3_propsBeside 19 = .ok (.l2i, 1) := by decide +kernel
theorem dX3_propsBeside_20 : decode cX3_propsBeside 20 = .ok (.goto 4, 3) := by decide +kernel
theorem dX3_propsBeside_23 : decode cX3_propsBeside 23 = .ok (.iconst 0, 1) := by decide +kernel
theorem dX3_propsBeside_24 : decode cX3_propsBeside 24 = .ok (.istore_n 3, 1) := by decide +kernel
theorem dX3_propsBeside_25 : decode cX3_propsBeside 25 = .ok (.iload_n 2, 1) := by decide +kernel
theorem dX3_propsBeside_26 : decode cX3_propsBeside 26 = .ok (.bipush 7, 2) := by decide +kernel
theorem dX3_propsBeside_28 : decode cX3_propsBeside 28 = .ok (.if_icmp .ge 17, 3) := by decide +kernel
theorem dX3_propsBeside_31 : decode cX3_propsBeside 31 = .ok (.aload_n 0, 1) := by decide +kernel
theorem dX3_propsBeside_32 : decode cX3_propsBeside 32 = .ok (.getfield 39, 3) := by decide +kernel
theorem dX3_propsBeside_35 : decode cX3_propsBeside 35 = .ok (.iload_n 1, 1) := by decide +kernel
theorem dX3_propsBeside_36 : decode cX3_propsBeside 36 = .ok (.iconst 1, 1) := by decide +kernel
theorem dX3_propsBeside_37 : decode cX3_propsBeside 37 = .ok (.iadd, 1) := by decide +kernel
theorem dX3_propsBeside_38 : decode cX3_propsBeside 38 = .ok (.lushr, 1) := by decide +kernel
theorem dX3_propsBeside_39 : decode cX3_propsBeside 39 = .ok (.lconst 1, 1) := by decide +kernel
theorem dX3_propsBeside_40 : decode cX3_propsBeside 40 = .ok (.land, 1) := by decide +kernel
theorem dX3_propsBeside_41 : decode cX3_propsBeside 41 = .ok (.l2i, 1) := by decide +kernel
theorem dX3_propsBeside_42 : decode cX3_propsBeside 42 = .ok (.goto 4, 3) := by decide +kernel
theorem dX3_propsBeside_45 : decode cX3_propsBeside 45 = .ok (.iconst 0, 1) := by decide +kernel
theorem dX3_propsBeside_46 : decode cX3_propsBeside 46 = .ok (.istore 4, 2) := by decide +kernel
theorem dX3_propsBeside_48 : decode cX3_propsBeside 48 = .ok (.iload_n 3, 1) := by decide +kernel
theorem dX3_propsBeside_49 : decode cX3_propsBeside 49 = .ok (.iload 4, 2) := by decide +kernel
theorem dX3_propsBeside_51 : decode cX3_propsBeside 51 = .ok (.iadd, 1) := by decide +kernel
theorem dX3_propsBeside_52 : decode cX3_propsBeside 52 = .ok (.ireturn, 1) := by decide +kernel
theorem dX3_harmOf_0 : decode cX3_harmOf 0 = .ok (.aload_n 0, 1) := by decide +kernel
theorem dX3_harmOf_1 : decode cX3_harmOf 1 = .ok (.getfield 32, 3) := by decide +kernel
theorem dX3_harmOf_4 : decode cX3_harmOf 4 = .ok (.aload_n 0, 1) := by decide +kernel
theorem dX3_harmOf_5 : decode cX3_harmOf 5 = .ok (.iload_n 1, 1) := by decide +kernel
theorem dX3_harmOf_6 : decode cX3_harmOf 6 = .ok (.iconst 1, 1) := by decide +kernel
theorem dX3_harmOf_7 : decode cX3_harmOf 7 = .ok (.invokevirtual 149, 3) := by decide +kernel
theorem dX3_harmOf_10 : decode cX3_harmOf 10 = .ok (.istore_n 2, 1) := by decide +kernel
theorem dX3_harmOf_11 : decode cX3_harmOf 11 = .ok (.iload_n 2, 1) := by decide +kernel
theorem dX3_harmOf_12 : decode cX3_harmOf 12 = .ok (.ifCond .ge 5, 3) := by decide +kernel
theorem dX3_harmOf_15 : decode cX3_harmOf 15 = .ok (.iconst 0, 1) := by decide +kernel
theorem dX3_harmOf_16 : decode cX3_harmOf 16 = .ok (.ireturn, 1) := by decide +kernel
theorem dX3_harmOf_17 : decode cX3_harmOf 17 = .ok (.iload_n 2, 1) := by decide +kernel
theorem dX3_harmOf_18 : decode cX3_harmOf 18 = .ok (.bipush 99, 2) := by decide +kernel
theorem dX3_harmOf_20 : decode cX3_harmOf 20 = .ok (.if_icmp .le 8, 3) := by decide +kernel
theorem dX3_harmOf_23 : decode cX3_harmOf 23 = .ok (.bipush 99, 2) := by decide +kernel
theorem dX3_harmOf_25 : decode cX3_harmOf 25 = .ok (.goto 4, 3) := by decide +kernel
theorem dX3_harmOf_28 : decode cX3_harmOf 28 = .ok (.iload_n 2, 1) := by decide +kernel
theorem dX3_harmOf_29 : decode cX3_harmOf 29 = .ok (.ireturn, 1) := by decide +kernel
theorem dX3_wouldFall_0 : decode cX3_wouldFall 0 = .ok (.aload_n 0, 1) := by decide +kernel
theorem dX3_wouldFall_1 : decode cX3_wouldFall 1 = .ok (.getfield 35, 3) := by decide +kernel
theorem dX3_wouldFall_4 : decode cX3_wouldFall 4 = .ok (.iload_n 1, 1) := by decide +kernel
theorem dX3_wouldFall_5 : decode cX3_wouldFall 5 = .ok (.lushr, 1) := by decide +kernel
theorem dX3_wouldFall_6 : decode cX3_wouldFall 6 = .ok (.lconst 1, 1) := by decide +kernel
theorem dX3_wouldFall_7 : decode cX3_wouldFall 7 = .ok (.land, 1) := by decide +kernel
theorem dX3_wouldFall_8 : decode cX3_wouldFall 8 = .ok (.lconst 0, 1) := by decide +kernel
theorem dX3_wouldFall_9 : decode cX3_wouldFall 9 = .ok (.lcmp, 1) := by decide +kernel
theorem dX3_wouldFall_10 : decode cX3_wouldFall 10 = .ok (.ifCond .eq 20, 3) := by decide +kernel
theorem dX3_wouldFall_13 : decode cX3_wouldFall 13 = .ok (.aload_n 0, 1) := by decide +kernel
theorem dX3_wouldFall_14 : decode cX3_wouldFall 14 = .ok (.getfield 28, 3) := by decide +kernel
theorem dX3_wouldFall_17 : decode cX3_wouldFall 17 = .ok (.aload_n 0, 1) := by decide +kernel
theorem dX3_wouldFall_18 : decode cX3_wouldFall 18 = .ok (.iload_n 1, 1) := by decide +kernel
theorem dX3_wouldFall_19 : decode cX3_wouldFall 19 = .ok (.iconst 0, 1) := by decide +kernel
theorem dX3_wouldFall_20 : decode cX3_wouldFall 20 = .ok (.invokevirtual 149, 3) := by decide +kernel
theorem dX3_wouldFall_23 : decode cX3_wouldFall 23 = .ok (.ifCond .le 7, 3) := by decide +kernel
theorem dX3_wouldFall_26 : decode cX3_wouldFall 26 = .ok (.iconst 1, 1) := by decide +kernel
theorem dX3_wouldFall_27 : decode cX3_wouldFall 27 = .ok (.goto 4, 3) := by decide +kernel
theorem dX3_wouldFall_30 : decode cX3_wouldFall 30 = .ok (.iconst 0, 1) := by decide +kernel
theorem dX3_wouldFall_31 : decode cX3_wouldFall 31 = .ok (.ireturn, 1) := by decide +kernel
theorem dX3_doomedCells_0 : decode cX3_doomedCells 0 = .ok (.lconst 0, 1) := by decide +kernel
theorem dX3_doomedCells_1 : decode cX3_doomedCells 1 = .ok (.lstore_n 1, 1) := by decide +kernel
theorem dX3_doomedCells_2 : decode cX3_doomedCells 2 = .ok (.iconst 0, 1) := by decide +kernel
theorem dX3_doomedCells_3 : decode cX3_doomedCells 3 = .ok (.istore_n 3, 1) := by decide +kernel
theorem dX3_doomedCells_4 : decode cX3_doomedCells 4 = .ok (.iload_n 3, 1) := by decide +kernel
theorem dX3_doomedCells_5 : decode cX3_doomedCells 5 = .ok (.bipush 48, 2) := by decide +kernel
theorem dX3_doomedCells_7 : decode cX3_doomedCells 7 = .ok (.if_icmp .ge 41, 3) := by decide +kernel
theorem dX3_doomedCells_10 : decode cX3_doomedCells 10 = .ok (.aload_n 0, 1) := by decide +kernel
theorem dX3_doomedCells_11 : decode cX3_doomedCells 11 = .ok (.getfield 35, 3) := by decide +kernel
theorem dX3_doomedCells_14 : decode cX3_doomedCells 14 = .ok (.iload_n 3, 1) := by decide +kernel
theorem dX3_doomedCells_15 : decode cX3_doomedCells 15 = .ok (.lushr, 1) := by decide +kernel
theorem dX3_doomedCells_16 : decode cX3_doomedCells 16 = .ok (.lconst 1, 1) := by decide +kernel
theorem dX3_doomedCells_17 : decode cX3_doomedCells 17 = .ok (.land, 1) := by decide +kernel
theorem dX3_doomedCells_18 : decode cX3_doomedCells 18 = .ok (.lconst 0, 1) := by decide +kernel
theorem dX3_doomedCells_19 : decode cX3_doomedCells 19 = .ok (.lcmp, 1) := by decide +kernel
theorem dX3_doomedCells_20 : decode cX3_doomedCells 20 = .ok (.ifCond .eq 22, 3) := by decide +kernel
theorem dX3_doomedCells_23 : decode cX3_doomedCells 23 = .ok (.aload_n 0, 1) := by decide +kernel
theorem dX3_doomedCells_24 : decode cX3_doomedCells 24 = .ok (.getfield 28, 3) := by decide +kernel
theorem dX3_doomedCells_27 : decode cX3_doomedCells 27 = .ok (.aload_n 0, 1) := by decide +kernel
theorem dX3_doomedCells_28 : decode cX3_doomedCells 28 = .ok (.iload_n 3, 1) := by decide +kernel
theorem dX3_doomedCells_29 : decode cX3_doomedCells 29 = .ok (.iconst 0, 1) := by decide +kernel
theorem dX3_doomedCells_30 : decode cX3_doomedCells 30 = .ok (.invokevirtual 149, 3) := by decide +kernel
theorem dX3_doomedCells_33 : decode cX3_doomedCells 33 = .ok (.ifCond .le 9, 3) := by decide +kernel
theorem dX3_doomedCells_36 : decode cX3_doomedCells 36 = .ok (.lload_n 1, 1) := by decide +kernel
theorem dX3_doomedCells_37 : decode cX3_doomedCells 37 = .ok (.lconst 1, 1) := by decide +kernel
theorem dX3_doomedCells_38 : decode cX3_doomedCells 38 = .ok (.iload_n 3, 1) := by decide +kernel
theorem dX3_doomedCells_39 : decode cX3_doomedCells 39 = .ok (.lshl, 1) := by decide +kernel
theorem dX3_doomedCells_40 : decode cX3_doomedCells 40 = .ok (.lor, 1) := by decide +kernel
theorem dX3_doomedCells_41 : decode cX3_doomedCells 41 = .ok (.lstore_n 1, 1) := by decide +kernel
theorem dX3_doomedCells_42 : decode cX3_doomedCells 42 = .ok (.iinc 3 1, 3) := by decide +kernel
theorem dX3_doomedCells_45 : decode cX3_doomedCells 45 = .ok (.goto (-41), 3) := by decide +kernel
theorem dX3_doomedCells_48 : decode cX3_doomedCells 48 = .ok (.lload_n 1, 1) := by decide +kernel
theorem dX3_doomedCells_49 : decode cX3_doomedCells 49 = .ok (.lreturn, 1) := by decide +kernel
theorem dX3_obstacle_0 : decode cX3_obstacle 0 = .ok (.lconst 1, 1) := by decide +kernel
theorem dX3_obstacle_1 : decode cX3_obstacle 1 = .ok (.iload_n 1, 1) := by decide +kernel
theorem dX3_obstacle_2 : decode cX3_obstacle 2 = .ok (.lshl, 1) := by decide +kernel
theorem dX3_obstacle_3 : decode cX3_obstacle 3 = .ok (.lstore_n 2, 1) := by decide +kernel
theorem dX3_obstacle_4 : decode cX3_obstacle 4 = .ok (.aload_n 0, 1) := by decide +kernel
theorem dX3_obstacle_5 : decode cX3_obstacle 5 = .ok (.invokevirtual 101, 3) := by decide +kernel
theorem dX3_obstacle_8 : decode cX3_obstacle 8 = .ok (.lload_n 2, 1) := by decide +kernel
theorem dX3_obstacle_9 : decode cX3_obstacle 9 = .ok (.land, 1) := by decide +kernel
theorem dX3_obstacle_10 : decode cX3_obstacle 10 = .ok (.lconst 0, 1) := by decide +kernel
theorem dX3_obstacle_11 : decode cX3_obstacle 11 = .ok (.lcmp, 1) := by decide +kernel
theorem dX3_obstacle_12 : decode cX3_obstacle 12 = .ok (.ifCond .eq 5, 3) := by decide +kernel
theorem dX3_obstacle_15 : decode cX3_obstacle 15 = .ok (.iconst 1, 1) := by decide +kernel
theorem dX3_obstacle_16 : decode cX3_obstacle 16 = .ok (.ireturn, 1) := by decide +kernel
theorem dX3_obstacle_17 : decode cX3_obstacle 17 = .ok (.aload_n 0, 1) := by decide +kernel
theorem dX3_obstacle_18 : decode cX3_obstacle 18 = .ok (.invokevirtual 117, 3) := by decide +kernel
theorem dX3_obstacle_21 : decode cX3_obstacle 21 = .ok (.lload_n 2, 1) := by decide +kernel
theorem dX3_obstacle_22 : decode cX3_obstacle 22 = .ok (.land, 1) := by decide +kernel
theorem dX3_obstacle_23 : decode cX3_obstacle 23 = .ok (.lconst 0, 1) := by decide +kernel
theorem dX3_obstacle_24 : decode cX3_obstacle 24 = .ok (.lcmp, 1) := by decide +kernel
theorem dX3_obstacle_25 : decode cX3_obstacle 25 = .ok (.ifCond .ne 5, 3) := by decide +kernel
theorem dX3_obstacle_28 : decode cX3_obstacle 28 = .ok (.iconst 2, 1) := by decide +kernel
theorem dX3_obstacle_29 : decode cX3_obstacle 29 = .ok (.ireturn, 1) := by decide +kernel
theorem dX3_obstacle_30 : decode cX3_obstacle 30 = .ok (.aload_n 0, 1) := by decide +kernel
theorem dX3_obstacle_31 : decode cX3_obstacle 31 = .ok (.invokevirtual 120, 3) := by decide +kernel
theorem dX3_obstacle_34 : decode cX3_obstacle 34 = .ok (.lload_n 2, 1) := by decide +kernel
theorem dX3_obstacle_35 : decode cX3_obstacle 35 = .ok (.land, 1) := by decide +kernel
theorem dX3_obstacle_36 : decode cX3_obstacle 36 = .ok (.lconst 0, 1) := by decide +kernel
theorem dX3_obstacle_37 : decode cX3_obstacle 37 = .ok (.lcmp, 1) := by decide +kernel
theorem dX3_obstacle_38 : decode cX3_obstacle 38 = .ok (.ifCond .eq 5, 3) := by decide +kernel
theorem dX3_obstacle_41 : decode cX3_obstacle 41 = .ok (.iconst 3, 1) := by decide +kernel
theorem dX3_obstacle_42 : decode cX3_obstacle 42 = .ok (.ireturn, 1) := by decide +kernel
theorem dX3_obstacle_43 : decode cX3_obstacle 43 = .ok (.aload_n 0, 1) := by decide +kernel
theorem dX3_obstacle_44 : decode cX3_obstacle 44 = .ok (.invokevirtual 155, 3) := by decide +kernel
theorem dX3_obstacle_47 : decode cX3_obstacle 47 = .ok (.ifCond .eq 7, 3) := by decide +kernel
theorem dX3_obstacle_50 : decode cX3_obstacle 50 = .ok (.iconst 4, 1) := by decide +kernel
theorem dX3_obstacle_51 : decode cX3_obstacle 51 = .ok (.goto 4, 3) := by decide +kernel
theorem dX3_obstacle_54 : decode cX3_obstacle 54 = .ok (.iconst 0, 1) := by decide +kernel
theorem dX3_obstacle_55 : decode cX3_obstacle 55 = .ok (.ireturn, 1) := by decide +kernel
theorem dX3_crewIsDone_0 : decode cX3_crewIsDone 0 = .ok (.aload_n 0, 1) := by decide +kernel
theorem dX3_crewIsDone_1 : decode cX3_crewIsDone 1 = .ok (.getfield 55, 3) := by decide +kernel
theorem dX3_crewIsDone_4 : decode cX3_crewIsDone 4 = .ok (.aload_n 0, 1) := by decide +kernel
theorem dX3_crewIsDone_5 : decode cX3_crewIsDone 5 = .ok (.getfield 24, 3) := by decide +kernel
theorem dX3_crewIsDone_8 : decode cX3_crewIsDone 8 = .ok (.getfield 159, 3) := by decide +kernel
theorem dX3_crewIsDone_11 : decode cX3_crewIsDone 11 = .ok (.if_icmp .lt 7, 3) := by decide +kernel
theorem dX3_crewIsDone_14 : decode cX3_crewIsDone 14 = .ok (.iconst 1, 1) := by decide +kernel
theorem dX3_crewIsDone_15 : decode cX3_crewIsDone 15 = .ok (.goto 4, 3) := by decide +kernel
theorem dX3_crewIsDone_18 : decode cX3_crewIsDone 18 = .ok (.iconst 0, 1) := by decide +kernel
theorem dX3_crewIsDone_19 : decode cX3_crewIsDone 19 = .ok (.ireturn, 1) := by decide +kernel
theorem dX3_breakOpen_0 : decode cX3_breakOpen 0 = .ok (.iload_n 1, 1) := by decide +kernel
theorem dX3_breakOpen_1 : decode cX3_breakOpen 1 = .ok (.ifCond .lt 9, 3) := by decide +kernel
theorem dX3_breakOpen_4 : decode cX3_breakOpen 4 = .ok (.iload_n 1, 1) := by decide +kernel
theorem dX3_breakOpen_5 : decode cX3_breakOpen 5 = .ok (.bipush 48, 2) := by decide +kernel
theorem dX3_breakOpen_7 : decode cX3_breakOpen 7 = .ok (.if_icmp .lt 4, 3) := by decide +kernel
theorem dX3_breakOpen_10 : decode cX3_breakOpen 10 = .ok (.return_, 1) := by decide +kernel
theorem dX3_breakOpen_11 : decode cX3_breakOpen 11 = .ok (.aload_n 0, 1) := by decide +kernel
theorem dX3_breakOpen_12 : decode cX3_breakOpen 12 = .ok (.iload_n 1, 1) := by decide +kernel
theorem dX3_breakOpen_13 : decode cX3_breakOpen 13 = .ok (.invokevirtual 123, 3) := by decide +kernel
theorem dX3_breakOpen_16 : decode cX3_breakOpen 16 = .ok (.istore_n 2, 1) := by decide +kernel
theorem dX3_breakOpen_17 : decode cX3_breakOpen 17 = .ok (.aload_n 0, 1) := by decide +kernel
theorem dX3_breakOpen_18 : decode cX3_breakOpen 18 = .ok (.iload_n 1, 1) := by decide +kernel
theorem dX3_breakOpen_19 : decode cX3_breakOpen 19 = .ok (.invokevirtual 130, 3) := by decide +kernel
theorem dX3_breakOpen_22 : decode cX3_breakOpen 22 = .ok (.istore_n 3, 1) := by decide +kernel
theorem dX3_breakOpen_23 : decode cX3_breakOpen 23 = .ok (.aload_n 0, 1) := by decide +kernel
theorem dX3_breakOpen_24 : decode cX3_breakOpen 24 = .ok (.dup, 1) := by decide +kernel
theorem dX3_breakOpen_25 : decode cX3_breakOpen 25 = .ok (.getfield 35, 3) := by decide +kernel
theorem dX3_breakOpen_28 : decode cX3_breakOpen 28 = .ok (.lconst 1, 1) := by decide +kernel
theorem dX3_breakOpen_29 : decode cX3_breakOpen 29 = .ok (.iload_n 1, 1) := by decide +kernel
theorem dX3_breakOpen_30 : decode cX3_breakOpen 30 = .ok (.lshl, 1) := by decide +kernel
theorem dX3_breakOpen_31 : decode cX3_breakOpen 31 = .ok (.lor, 1) := by decide +kernel
theorem dX3_breakOpen_32 : decode cX3_breakOpen 32 = .ok (.putfield 35, 3) := by decide +kernel
theorem dX3_breakOpen_35 : decode cX3_breakOpen 35 = .ok (.aload_n 0, 1) := by decide +kernel
theorem dX3_breakOpen_36 : decode cX3_breakOpen 36 = .ok (.dup, 1) := by decide +kernel
theorem dX3_breakOpen_37 : decode cX3_breakOpen 37 = .ok (.getfield 42, 3) := by decide +kernel
theorem dX3_breakOpen_40 : decode cX3_breakOpen 40 = .ok (.lconst 1, 1) := by decide +kernel
theorem dX3_breakOpen_41 : decode cX3_breakOpen 41 = .ok (.iload_n 1, 1) := by decide +kernel
theorem dX3_breakOpen_42 : decode cX3_breakOpen 42 = .ok (.lshl, 1) := by decide +kernel
theorem dX3_breakOpen_43 : decode cX3_breakOpen 43 = .ok (.ldc2_w 115, 3) := by decide +kernel
theorem dX3_breakOpen_46 : decode cX3_breakOpen 46 = .ok (.lxor, 1) := by decide +kernel
theorem dX3_breakOpen_47 : decode cX3_breakOpen 47 = .ok (.land, 1) := by decide +kernel
theorem dX3_breakOpen_48 : decode cX3_breakOpen 48 = .ok (.putfield 42, 3) := by decide +kernel
theorem dX3_breakOpen_51 : decode cX3_breakOpen 51 = .ok (.aload_n 0, 1) := by decide +kernel
theorem dX3_breakOpen_52 : decode cX3_breakOpen 52 = .ok (.dup, 1) := by decide +kernel
theorem dX3_breakOpen_53 : decode cX3_breakOpen 53 = .ok (.getfield 55, 3) := by decide +kernel
theorem dX3_breakOpen_56 : decode cX3_breakOpen 56 = .ok (.iconst 1, 1) := by decide +kernel
theorem dX3_breakOpen_57 : decode cX3_breakOpen 57 = .ok (.iadd, 1) := by decide +kernel
theorem dX3_breakOpen_58 : decode cX3_breakOpen 58 = .ok (.putfield 55, 3) := by decide +kernel
theorem dX3_breakOpen_61 : decode cX3_breakOpen 61 = .ok (.iload_n 3, 1) := by decide +kernel
theorem dX3_breakOpen_62 : decode cX3_breakOpen 62 = .ok (.ifCond .le 47, 3) := by decide +kernel
theorem dX3_breakOpen_65 : decode cX3_breakOpen 65 = .ok (.aload_n 0, 1) := by decide +kernel
theorem dX3_breakOpen_66 : decode cX3_breakOpen 66 = .ok (.getfield 9, 3) := by decide +kernel
theorem dX3_breakOpen_69 : decode cX3_breakOpen 69 = .ok (.aload_n 0, 1) := by decide +kernel
theorem dX3_breakOpen_70 : decode cX3_breakOpen 70 = .ok (.getfield 24, 3) := by decide +kernel
theorem dX3_breakOpen_73 : decode cX3_breakOpen 73 = .ok (.getfield 137, 3) := by decide +kernel
theorem dX3_breakOpen_76 : decode cX3_breakOpen 76 = .ok (.iload_n 1, 1) := by decide +kernel
theorem dX3_breakOpen_77 : decode cX3_breakOpen 77 = .ok (.iaload, 1) := by decide +kernel
theorem dX3_breakOpen_78 : decode cX3_breakOpen 78 = .ok (.dup2, 1) := by decide +kernel
theorem dX3_breakOpen_79 : decode cX3_breakOpen 79 = .ok (.iaload, 1) := by decide +kernel
theorem dX3_breakOpen_80 : decode cX3_breakOpen 80 = .ok (.iload_n 3, 1) := by decide +kernel
theorem dX3_breakOpen_81 : decode cX3_breakOpen 81 = .ok (.iadd, 1) := by decide +kernel
theorem dX3_breakOpen_82 : decode cX3_breakOpen 82 = .ok (.iastore, 1) := by decide +kernel
theorem dX3_breakOpen_83 : decode cX3_breakOpen 83 = .ok (.aload_n 0, 1) := by decide +kernel
theorem dX3_breakOpen_84 : decode cX3_breakOpen 84 = .ok (.dup, 1) := by decide +kernel
theorem dX3_breakOpen_85 : decode cX3_breakOpen 85 = .ok (.getfield 78, 3) := by decide +kernel
theorem dX3_breakOpen_88 : decode cX3_breakOpen 88 = .ok (.iload_n 3, 1) := by decide +kernel
theorem dX3_breakOpen_89 : decode cX3_breakOpen 89 = .ok (.iadd, 1) := by decide +kernel
theorem dX3_breakOpen_90 : decode cX3_breakOpen 90 = .ok (.putfield 78, 3) := by decide +kernel
theorem dX3_breakOpen_93 : decode cX3_breakOpen 93 = .ok (.aload_n 0, 1) := by decide +kernel
theorem dX3_breakOpen_94 : decode cX3_breakOpen 94 = .ok (.dup, 1) := by decide +kernel
theorem dX3_breakOpen_95 : decode cX3_breakOpen 95 = .ok (.getfield 69, 3) := by decide +kernel
theorem dX3_breakOpen_98 : decode cX3_breakOpen 98 = .ok (.iload_n 3, 1) := by decide +kernel
theorem dX3_breakOpen_99 : decode cX3_breakOpen 99 = .ok (.aload_n 0, 1) := by decide +kernel
theorem dX3_breakOpen_100 : decode cX3_breakOpen 100 = .ok (.iload_n 1, 1) := by decide +kernel
theorem dX3_breakOpen_101 : decode cX3_breakOpen 101 = .ok (.invokevirtual 162, 3) := by decide +kernel
theorem dX3_breakOpen_104 : decode cX3_breakOpen 104 = .ok (.imul, 1) := by decide +kernel
theorem dX3_breakOpen_105 : decode cX3_breakOpen 105 = .ok (.iadd, 1) := by decide +kernel
theorem dX3_breakOpen_106 : decode cX3_breakOpen 106 = .ok (.putfield 69, 3) := by decide +kernel
theorem dX3_breakOpen_109 : decode cX3_breakOpen 109 = .ok (.iload_n 2, 1) := by decide +kernel
theorem dX3_breakOpen_110 : decode cX3_breakOpen 110 = .ok (.ifCond .eq 31, 3) := by decide +kernel
theorem dX3_breakOpen_113 : decode cX3_breakOpen 113 = .ok (.aload_n 0, 1) := by decide +kernel
theorem dX3_breakOpen_114 : decode cX3_breakOpen 114 = .ok (.getfield 24, 3) := by decide +kernel
theorem dX3_breakOpen_117 : decode cX3_breakOpen 117 = .ok (.getfield 137, 3) := by decide +kernel
theorem dX3_breakOpen_120 : decode cX3_breakOpen 120 = .ok (.iload_n 1, 1) := by decide +kernel
theorem dX3_breakOpen_121 : decode cX3_breakOpen 121 = .ok (.iaload, 1) := by decide +kernel
theorem dX3_breakOpen_122 : decode cX3_breakOpen 122 = .ok (.iconst 5, 1) := by decide +kernel
theorem dX3_breakOpen_123 : decode cX3_breakOpen 123 = .ok (.if_icmp .ne 18, 3) := by decide +kernel
theorem dX3_breakOpen_126 : decode cX3_breakOpen 126 = .ok (.aload_n 0, 1) := by decide +kernel
theorem dX3_breakOpen_127 : decode cX3_breakOpen 127 = .ok (.aload_n 0, 1) := by decide +kernel
theorem dX3_breakOpen_128 : decode cX3_breakOpen 128 = .ok (.getfield 75, 3) := by decide +kernel
theorem dX3_breakOpen_131 : decode cX3_breakOpen 131 = .ok (.iload_n 1, 1) := by decide +kernel
theorem dX3_breakOpen_132 : decode cX3_breakOpen 132 = .ok (.bipush 8, 2) := by decide +kernel
theorem dX3_breakOpen_134 : decode cX3_breakOpen 134 = .ok (.idiv, 1) := by decide +kernel
theorem dX3_breakOpen_135 : decode cX3_breakOpen 135 = .ok (.invokestatic 165, 3) := by decide +kernel
theorem dX3_breakOpen_138 : decode cX3_breakOpen 138 = .ok (.putfield 75, 3) := by decide +kernel
theorem dX3_breakOpen_141 : decode cX3_breakOpen 141 = .ok (.aload_n 0, 1) := by decide +kernel
theorem dX3_breakOpen_142 : decode cX3_breakOpen 142 = .ok (.invokevirtual 171, 3) := by decide +kernel
theorem dX3_breakOpen_145 : decode cX3_breakOpen 145 = .ok (.lstore 4, 2) := by decide +kernel
theorem dX3_breakOpen_147 : decode cX3_breakOpen 147 = .ok (.aload_n 0, 1) := by decide +kernel
theorem dX3_breakOpen_148 : decode cX3_breakOpen 148 = .ok (.dup, 1) := by decide +kernel
theorem dX3_breakOpen_149 : decode cX3_breakOpen 149 = .ok (.getfield 35, 3) := by decide +kernel
theorem dX3_breakOpen_152 : decode cX3_breakOpen 152 = .ok (.lload 4, 2) := by decide +kernel
theorem dX3_breakOpen_154 : decode cX3_breakOpen 154 = .ok (.ldc2_w 115, 3) := by decide +kernel
theorem dX3_breakOpen_157 : decode cX3_breakOpen 157 = .ok (.lxor, 1) := by decide +kernel
theorem dX3_breakOpen_158 : decode cX3_breakOpen 158 = .ok (.land, 1) := by decide +kernel
theorem dX3_breakOpen_159 : decode cX3_breakOpen 159 = .ok (.putfield 35, 3) := by decide +kernel
theorem dX3_breakOpen_162 : decode cX3_breakOpen 162 = .ok (.aload_n 0, 1) := by decide +kernel
theorem dX3_breakOpen_163 : decode cX3_breakOpen 163 = .ok (.dup, 1) := by decide +kernel
theorem dX3_breakOpen_164 : decode cX3_breakOpen 164 = .ok (.getfield 42, 3) := by decide +kernel
theorem dX3_breakOpen_167 : decode cX3_breakOpen 167 = .ok (.lload 4, 2) := by decide +kernel
theorem dX3_breakOpen_169 : decode cX3_breakOpen 169 = .ok (.lor, 1) := by decide +kernel
theorem dX3_breakOpen_170 : decode cX3_breakOpen 170 = .ok (.putfield 42, 3) := by decide +kernel
theorem dX3_breakOpen_173 : decode cX3_breakOpen 173 = .ok (.aload_n 0, 1) := by decide +kernel
theorem dX3_breakOpen_174 : decode cX3_breakOpen 174 = .ok (.dup, 1) := by decide +kernel
theorem dX3_breakOpen_175 : decode cX3_breakOpen 175 = .ok (.getfield 81, 3) := by decide +kernel
theorem dX3_breakOpen_178 : decode cX3_breakOpen 178 = .ok (.lload 4, 2) := by decide +kernel
theorem dX3_breakOpen_180 : decode cX3_breakOpen 180 = .ok (.invokestatic 174, 3) := by decide +kernel
theorem dX3_breakOpen_183 : decode cX3_breakOpen 183 = .ok (.iadd, 1) := by decide +kernel
theorem dX3_breakOpen_184 : decode cX3_breakOpen 184 = .ok (.putfield 81, 3) := by decide +kernel
theorem dX3_breakOpen_187 : decode cX3_breakOpen 187 = .ok (.return_, 1) := by decide +kernel
theorem dX3_propUp_0 : decode cX3_propUp 0 = .ok (.lconst 1, 1) := by decide +kernel
theorem dX3_propUp_1 : decode cX3_propUp 1 = .ok (.iload_n 1, 1) := by decide +kernel
theorem dX3_propUp_2 : decode cX3_propUp 2 = .ok (.lshl, 1) := by decide +kernel
theorem dX3_propUp_3 : decode cX3_propUp 3 = .ok (.lstore_n 2, 1) := by decide +kernel
theorem dX3_propUp_4 : decode cX3_propUp 4 = .ok (.aload_n 0, 1) := by decide +kernel
theorem dX3_propUp_5 : decode cX3_propUp 5 = .ok (.getfield 35, 3) := by decide +kernel
theorem dX3_propUp_8 : decode cX3_propUp 8 = .ok (.aload_n 0, 1) := by decide +kernel
theorem dX3_propUp_9 : decode cX3_propUp 9 = .ok (.invokevirtual 120, 3) := by decide +kernel
theorem dX3_propUp_12 : decode cX3_propUp 12 = .ok (.ldc2_w 115, 3) := by decide +kernel
theorem dX3_propUp_15 : decode cX3_propUp 15 = .ok (.lxor, 1) := by decide +kernel
theorem dX3_propUp_16 : decode cX3_propUp 16 = .ok (.land, 1) := by decide +kernel
theorem dX3_propUp_17 : decode cX3_propUp 17 = .ok (.lload_n 2, 1) := by decide +kernel
theorem dX3_propUp_18 : decode cX3_propUp 18 = .ok (.land, 1) := by decide +kernel
theorem dX3_propUp_19 : decode cX3_propUp 19 = .ok (.lconst 0, 1) := by decide +kernel
theorem dX3_propUp_20 : decode cX3_propUp 20 = .ok (.lcmp, 1) := by decide +kernel
theorem dX3_propUp_21 : decode cX3_propUp 21 = .ok (.ifCond .eq 10, 3) := by decide +kernel
theorem dX3_propUp_24 : decode cX3_propUp 24 = .ok (.aload_n 0, 1) := by decide +kernel
theorem dX3_propUp_25 : decode cX3_propUp 25 = .ok (.getfield 63, 3) := by decide +kernel
theorem dX3_propUp_28 : decode cX3_propUp 28 = .ok (.ifCond .gt 5, 3) := by decide +kernel
theorem dX3_propUp_31 : decode cX3_propUp 31 = .ok (.iconst 0, 1) := by decide +kernel
theorem dX3_propUp_32 : decode cX3_propUp 32 = .ok (.ireturn, 1) := by decide +kernel
theorem dX3_propUp_33 : decode cX3_propUp 33 = .ok (.aload_n 0, 1) := by decide +kernel
theorem dX3_propUp_34 : decode cX3_propUp 34 = .ok (.dup, 1) := by decide +kernel
theorem dX3_propUp_35 : decode cX3_propUp 35 = .ok (.getfield 35, 3) := by decide +kernel
theorem dX3_propUp_38 : decode cX3_propUp 38 = .ok (.lload_n 2, 1) := by decide +kernel
theorem dX3_propUp_39 : decode cX3_propUp 39 = .ok (.ldc2_w 115, 3) := by decide +kernel
theorem dX3_propUp_42 : decode cX3_propUp 42 = .ok (.lxor, 1) := by decide +kernel
theorem dX3_propUp_43 : decode cX3_propUp 43 = .ok (.land, 1) := by decide +kernel
theorem dX3_propUp_44 : decode cX3_propUp 44 = .ok (.putfield 35, 3) := by decide +kernel
theorem dX3_propUp_47 : decode cX3_propUp 47 = .ok (.aload_n 0, 1) := by decide +kernel
theorem dX3_propUp_48 : decode cX3_propUp 48 = .ok (.dup, 1) := by decide +kernel
theorem dX3_propUp_49 : decode cX3_propUp 49 = .ok (.getfield 39, 3) := by decide +kernel
theorem dX3_propUp_52 : decode cX3_propUp 52 = .ok (.lload_n 2, 1) := by decide +kernel
theorem dX3_propUp_53 : decode cX3_propUp 53 = .ok (.lor, 1) := by decide +kernel
theorem dX3_propUp_54 : decode cX3_propUp 54 = .ok (.putfield 39, 3) := by decide +kernel
theorem dX3_propUp_57 : decode cX3_propUp 57 = .ok (.aload_n 0, 1) := by decide +kernel
theorem dX3_propUp_58 : decode cX3_propUp 58 = .ok (.dup, 1) := by decide +kernel
theorem dX3_propUp_59 : decode cX3_propUp 59 = .ok (.getfield 63, 3) := by decide +kernel
theorem dX3_propUp_62 : decode cX3_propUp 62 = .ok (.iconst 1, 1) := by decide +kernel
theorem dX3_propUp_63 : decode cX3_propUp 63 = .ok (.isub, 1) := by decide +kernel
theorem dX3_propUp_64 : decode cX3_propUp 64 = .ok (.putfield 63, 3) := by decide +kernel
theorem dX3_propUp_67 : decode cX3_propUp 67 = .ok (.iconst 1, 1) := by decide +kernel
theorem dX3_propUp_68 : decode cX3_propUp 68 = .ok (.ireturn, 1) := by decide +kernel
theorem dX3_pumpDry_0 : decode cX3_pumpDry 0 = .ok (.aload_n 0, 1) := by decide +kernel
theorem dX3_pumpDry_1 : decode cX3_pumpDry 1 = .ok (.getfield 75, 3) := by decide +kernel
theorem dX3_pumpDry_4 : decode cX3_pumpDry 4 = .ok (.aload_n 0, 1) := by decide +kernel
theorem dX3_pumpDry_5 : decode cX3_pumpDry 5 = .ok (.getfield 24, 3) := by decide +kernel
theorem dX3_pumpDry_8 : decode cX3_pumpDry 8 = .ok (.getfield 72, 3) := by decide +kernel
theorem dX3_pumpDry_11 : decode cX3_pumpDry 11 = .ok (.if_icmp .ge 10, 3) := by decide +kernel
theorem dX3_pumpDry_14 : decode cX3_pumpDry 14 = .ok (.aload_n 0, 1) := by decide +kernel
theorem dX3_pumpDry_15 : decode cX3_pumpDry 15 = .ok (.invokevirtual 155, 3) := by decide +kernel
theorem dX3_pumpDry_18 : decode cX3_pumpDry 18 = .ok (.ifCond .eq 5, 3) := by decide +kernel
theorem dX3_pumpDry_21 : decode cX3_pumpDry 21 = .ok (.iconst 0, 1) := by decide +kernel
theorem dX3_pumpDry_22 : decode cX3_pumpDry 22 = .ok (.ireturn, 1) := by decide +kernel
theorem dX3_pumpDry_23 : decode cX3_pumpDry 23 = .ok (.aload_n 0, 1) := by decide +kernel
theorem dX3_pumpDry_24 : decode cX3_pumpDry 24 = .ok (.aload_n 0, 1) := by decide +kernel
theorem dX3_pumpDry_25 : decode cX3_pumpDry 25 = .ok (.getfield 24, 3) := by decide +kernel
theorem dX3_pumpDry_28 : decode cX3_pumpDry 28 = .ok (.getfield 72, 3) := by decide +kernel
theorem dX3_pumpDry_31 : decode cX3_pumpDry 31 = .ok (.putfield 75, 3) := by decide +kernel
theorem dX3_pumpDry_34 : decode cX3_pumpDry 34 = .ok (.aload_n 0, 1) := by decide +kernel
theorem dX3_pumpDry_35 : decode cX3_pumpDry 35 = .ok (.dup, 1) := by decide +kernel
theorem dX3_pumpDry_36 : decode cX3_pumpDry 36 = .ok (.getfield 55, 3) := by decide +kernel
theorem dX3_pumpDry_39 : decode cX3_pumpDry 39 = .ok (.iconst 1, 1) := by decide +kernel
theorem dX3_pumpDry_40 : decode cX3_pumpDry 40 = .ok (.iadd, 1) := by decide +kernel
theorem dX3_pumpDry_41 : decode cX3_pumpDry 41 = .ok (.putfield 55, 3) := by decide +kernel
theorem dX3_pumpDry_44 : decode cX3_pumpDry 44 = .ok (.iconst 1, 1) := by decide +kernel
theorem dX3_pumpDry_45 : decode cX3_pumpDry 45 = .ok (.ireturn, 1) := by decide +kernel
theorem dX3_sellBars_0 : decode cX3_sellBars 0 = .ok (.iload_n 1, 1) := by decide +kernel
theorem dX3_sellBars_1 : decode cX3_sellBars 1 = .ok (.invokestatic 180, 3) := by decide +kernel
theorem dX3_sellBars_4 : decode cX3_sellBars 4 = .ok (.ifCond .eq 13, 3) := by decide +kernel
theorem dX3_sellBars_7 : decode cX3_sellBars 7 = .ok (.aload_n 0, 1) := by decide +kernel
theorem dX3_sellBars_8 : decode cX3_sellBars 8 = .ok (.getfield 9, 3) := by decide +kernel
theorem dX3_sellBars_11 : decode cX3_sellBars 11 = .ok (.iload_n 1, 1) := by decide +kernel
theorem dX3_sellBars_12 : decode cX3_sellBars 12 = .ok (.iaload, 1) := by decide +kernel
theorem dX3_sellBars_13 : decode cX3_sellBars 13 = .ok (.iload_n 2, 1) := by decide +kernel
theorem dX3_sellBars_14 : decode cX3_sellBars 14 = .ok (.if_icmp .ge 5, 3) := by decide +kernel
theorem dX3_sellBars_17 : decode cX3_sellBars 17 = .ok (.iconst 0, 1) := by decide +kernel
theorem dX3_sellBars_18 : decode cX3_sellBars 18 = .ok (.ireturn, 1) := by decide +kernel
theorem dX3_sellBars_19 : decode cX3_sellBars 19 = .ok (.aload_n 0, 1) := by decide +kernel
theorem dX3_sellBars_20 : decode cX3_sellBars 20 = .ok (.getfield 9, 3) := by decide +kernel
theorem dX3_sellBars_23 : decode cX3_sellBars 23 = .ok (.iload_n 1, 1) := by decide +kernel
theorem dX3_sellBars_24 : decode cX3_sellBars 24 = .ok (.dup2, 1) := by decide +kernel
theorem dX3_sellBars_25 : decode cX3_sellBars 25 = .ok (.iaload, 1) := by decide +kernel
theorem dX3_sellBars_26 : decode cX3_sellBars 26 = .ok (.iload_n 2, 1) := by decide +kernel
theorem dX3_sellBars_27 : decode cX3_sellBars 27 = .ok (.isub, 1) := by decide +kernel
theorem dX3_sellBars_28 : decode cX3_sellBars 28 = .ok (.iastore, 1) := by decide +kernel
theorem dX3_sellBars_29 : decode cX3_sellBars 29 = .ok (.aload_n 0, 1) := by decide +kernel
theorem dX3_sellBars_30 : decode cX3_sellBars 30 = .ok (.getfield 15, 3) := by decide +kernel
theorem dX3_sellBars_33 : decode cX3_sellBars 33 = .ok (.iload_n 1, 1) := by decide +kernel
theorem dX3_sellBars_34 : decode cX3_sellBars 34 = .ok (.dup2, 1) := by decide +kernel
theorem dX3_sellBars_35 : decode cX3_sellBars 35 = .ok (.iaload, 1) := by decide +kernel
theorem dX3_sellBars_36 : decode cX3_sellBars 36 = .ok (.iload_n 2, 1) := by decide +kernel
theorem dX3_sellBars_37 : decode cX3_sellBars 37 = .ok (.iadd, 1) := by decide +kernel
theorem dX3_sellBars_38 : decode cX3_sellBars 38 = .ok (.iastore, 1) := by decide +kernel
theorem dX3_sellBars_39 : decode cX3_sellBars 39 = .ok (.aload_n 0, 1) := by decide +kernel
theorem dX3_sellBars_40 : decode cX3_sellBars 40 = .ok (.dup, 1) := by decide +kernel
theorem dX3_sellBars_41 : decode cX3_sellBars 41 = .ok (.getfield 66, 3) := by decide +kernel
theorem dX3_sellBars_44 : decode cX3_sellBars 44 = .ok (.iload_n 2, 1) := by decide +kernel
theorem dX3_sellBars_45 : decode cX3_sellBars 45 = .ok (.aload_n 0, 1) := by decide +kernel
theorem dX3_sellBars_46 : decode cX3_sellBars 46 = .ok (.getfield 24, 3) := by decide +kernel
theorem dX3_sellBars_49 : decode cX3_sellBars 49 = .ok (.getfield 134, 3) := by decide +kernel
theorem dX3_sellBars_52 : decode cX3_sellBars 52 = .ok (.iload_n 1, 1) := by decide +kernel
theorem dX3_sellBars_53 : decode cX3_sellBars 53 = .ok (.iaload, 1) := by decide +kernel
theorem dX3_sellBars_54 : decode cX3_sellBars 54 = .ok (.imul, 1) := by decide +kernel
theorem dX3_sellBars_55 : decode cX3_sellBars 55 = .ok (.iadd, 1) := by decide +kernel
theorem dX3_sellBars_56 : decode cX3_sellBars 56 = .ok (.putfield 66, 3) := by decide +kernel
theorem dX3_sellBars_59 : decode cX3_sellBars 59 = .ok (.iconst 1, 1) := by decide +kernel
theorem dX3_sellBars_60 : decode cX3_sellBars 60 = .ok (.ireturn, 1) := by decide +kernel
theorem dX3_endShift_0 : decode cX3_endShift 0 = .ok (.aload_n 0, 1) := by decide +kernel
theorem dX3_endShift_1 : decode cX3_endShift 1 = .ok (.getfield 51, 3) := by decide +kernel
theorem dX3_endShift_4 : decode cX3_endShift 4 = .ok (.sipush 200, 3) := by decide +kernel
theorem dX3_endShift_7 : decode cX3_endShift 7 = .ok (.if_icmp .lt 5, 3) := by decide +kernel
theorem dX3_endShift_10 : decode cX3_endShift 10 = .ok (.iconst 0, 1) := by decide +kernel
theorem dX3_endShift_11 : decode cX3_endShift 11 = .ok (.ireturn, 1) := by decide +kernel
theorem dX3_endShift_12 : decode cX3_endShift 12 = .ok (.iconst 0, 1) := by decide +kernel
theorem dX3_endShift_13 : decode cX3_endShift 13 = .ok (.istore_n 1, 1) := by decide +kernel
theorem dX3_endShift_14 : decode cX3_endShift 14 = .ok (.iload_n 1, 1) := by decide +kernel
theorem dX3_endShift_15 : decode cX3_endShift 15 = .ok (.aload_n 0, 1) := by decide +kernel
theorem dX3_endShift_16 : decode cX3_endShift 16 = .ok (.getfield 24, 3) := by decide +kernel
theorem dX3_endShift_19 : decode cX3_endShift 19 = .ok (.getfield 183, 3) := by decide +kernel
theorem dX3_endShift_22 : decode cX3_endShift 22 = .ok (.if_icmp .ge 30, 3) := by decide +kernel
theorem dX3_endShift_25 : decode cX3_endShift 25 = .ok (.aload_n 0, 1) := by decide +kernel
theorem dX3_endShift_26 : decode cX3_endShift 26 = .ok (.getfield 24, 3) := by decide +kernel
theorem dX3_endShift_29 : decode cX3_endShift 29 = .ok (.getfield 186, 3) := by decide +kernel
theorem dX3_endShift_32 : decode cX3_endShift 32 = .ok (.iload_n 1, 1) := by decide +kernel
theorem dX3_endShift_33 : decode cX3_endShift 33 = .ok (.iaload, 1) := by decide +kernel
theorem dX3_endShift_34 : decode cX3_endShift 34 = .ok (.aload_n 0, 1) := by decide +kernel
theorem dX3_endShift_35 : decode cX3_endShift 35 = .ok (.getfield 51, 3) := by decide +kernel
theorem dX3_endShift_38 : decode cX3_endShift 38 = .ok (.if_icmp .ne 8, 3) := by decide +kernel
theorem dX3_endShift_41 : decode cX3_endShift 41 = .ok (.aload_n 0, 1) := by decide +kernel
theorem dX3_endShift_42 : decode cX3_endShift 42 = .ok (.iload_n 1, 1) := by decide +kernel
theorem dX3_endShift_43 : decode cX3_endShift 43 = .ok (.invokevirtual 189, 3) := by decide +kernel
theorem dX3_endShift_46 : decode cX3_endShift 46 = .ok (.iinc 1 1, 3) := by decide +kernel
theorem dX3_endShift_49 : decode cX3_endShift 49 = .ok (.goto (-35), 3) := by decide +kernel
theorem dX3_endShift_52 : decode cX3_endShift 52 = .ok (.aload_n 0, 1) := by decide +kernel
theorem dX3_endShift_53 : decode cX3_endShift 53 = .ok (.dup, 1) := by decide +kernel
theorem dX3_endShift_54 : decode cX3_endShift 54 = .ok (.getfield 51, 3) := by decide +kernel
theorem dX3_endShift_57 : decode cX3_endShift 57 = .ok (.iconst 1, 1) := by decide +kernel
theorem dX3_endShift_58 : decode cX3_endShift 58 = .ok (.iadd, 1) := by decide +kernel
theorem dX3_endShift_59 : decode cX3_endShift 59 = .ok (.putfield 51, 3) := by decide +kernel
theorem dX3_endShift_62 : decode cX3_endShift 62 = .ok (.aload_n 0, 1) := by decide +kernel
theorem dX3_endShift_63 : decode cX3_endShift 63 = .ok (.iconst 0, 1) := by decide +kernel
theorem dX3_endShift_64 : decode cX3_endShift 64 = .ok (.putfield 55, 3) := by decide +kernel
theorem dX3_endShift_67 : decode cX3_endShift 67 = .ok (.iconst 1, 1) := by decide +kernel
theorem dX3_endShift_68 : decode cX3_endShift 68 = .ok (.ireturn, 1) := by decide +kernel
theorem dX3_settle_0 : decode cX3_settle 0 = .ok (.aload_n 0, 1) := by decide +kernel
theorem dX3_settle_1 : decode cX3_settle 1 = .ok (.iload_n 1, 1) := by decide +kernel
theorem dX3_settle_2 : decode cX3_settle 2 = .ok (.invokevirtual 193, 3) := by decide +kernel
theorem dX3_settle_5 : decode cX3_settle 5 = .ok (.ifCond .le 11, 3) := by decide +kernel
theorem dX3_settle_8 : decode cX3_settle 8 = .ok (.aload_n 0, 1) := by decide +kernel
theorem dX3_settle_9 : decode cX3_settle 9 = .ok (.getfield 21, 3) := by decide +kernel
theorem dX3_settle_12 : decode cX3_settle 12 = .ok (.iload_n 1, 1) := by decide +kernel
theorem dX3_settle_13 : decode cX3_settle 13 = .ok (.iconst 2, 1) := by decide +kernel
theorem dX3_settle_14 : decode cX3_settle 14 = .ok (.iastore, 1) := by decide +kernel
theorem dX3_settle_15 : decode cX3_settle 15 = .ok (.return_, 1) := by decide +kernel
theorem dX3_settle_16 : decode cX3_settle 16 = .ok (.iconst 1, 1) := by decide +kernel
theorem dX3_settle_17 : decode cX3_settle 17 = .ok (.istore_n 2, 1) := by decide +kernel
theorem dX3_settle_18 : decode cX3_settle 18 = .ok (.iload_n 2, 1) := by decide +kernel
theorem dX3_settle_19 : decode cX3_settle 19 = .ok (.iconst 4, 1) := by decide +kernel
theorem dX3_settle_20 : decode cX3_settle 20 = .ok (.if_icmp .gt 59, 3) := by decide +kernel
theorem dX3_settle_23 : decode cX3_settle 23 = .ok (.aload_n 0, 1) := by decide +kernel
theorem dX3_settle_24 : decode cX3_settle 24 = .ok (.getfield 24, 3) := by decide +kernel
theorem dX3_settle_27 : decode cX3_settle 27 = .ok (.iload_n 1, 1) := by decide +kernel
theorem dX3_settle_28 : decode cX3_settle 28 = .ok (.iload_n 2, 1) := by decide +kernel
theorem dX3_settle_29 : decode cX3_settle 29 = .ok (.invokevirtual 196, 3) := by decide +kernel
theorem dX3_settle_32 : decode cX3_settle 32 = .ok (.istore_n 3, 1) := by decide +kernel
theorem dX3_settle_33 : decode cX3_settle 33 = .ok (.aload_n 0, 1) := by decide +kernel
theorem dX3_settle_34 : decode cX3_settle 34 = .ok (.getfield 9, 3) := by decide +kernel
theorem dX3_settle_37 : decode cX3_settle 37 = .ok (.iload_n 2, 1) := by decide +kernel
theorem dX3_settle_38 : decode cX3_settle 38 = .ok (.dup2, 1) := by decide +kernel
theorem dX3_settle_39 : decode cX3_settle 39 = .ok (.iaload, 1) := by decide +kernel
theorem dX3_settle_40 : decode cX3_settle 40 = .ok (.iload_n 3, 1) := by decide +kernel
theorem dX3_settle_41 : decode cX3_settle 41 = .ok (.isub, 1) := by decide +kernel
theorem dX3_settle_42 : decode cX3_settle 42 = .ok (.iastore, 1) := by decide +kernel
theorem dX3_settle_43 : decode cX3_settle 43 = .ok (.aload_n 0, 1) := by decide +kernel
theorem dX3_settle_44 : decode cX3_settle 44 = .ok (.getfield 18, 3) := by decide +kernel
theorem dX3_settle_47 : decode cX3_settle 47 = .ok (.iload_n 2, 1) := by decide +kernel
theorem dX3_settle_48 : decode cX3_settle 48 = .ok (.dup2, 1) := by decide +kernel
theorem dX3_settle_49 : decode cX3_settle 49 = .ok (.iaload, 1) := by decide +kernel
theorem dX3_settle_50 : decode cX3_settle 50 = .ok (.iload_n 3, 1) := by decide +kernel
theorem dX3_settle_51 : decode cX3_settle 51 = .ok (.iadd, 1) := by decide +kernel
theorem dX3_settle_52 : decode cX3_settle 52 = .ok (.iastore, 1) := by decide +kernel
theorem dX3_settle_53 : decode cX3_settle 53 = .ok (.aload_n 0, 1) := by decide +kernel
theorem dX3_settle_54 : decode cX3_settle 54 = .ok (.dup, 1) := by decide +kernel
theorem dX3_settle_55 : decode cX3_settle 55 = .ok (.getfield 66, 3) := by decide +kernel
theorem dX3_settle_58 : decode cX3_settle 58 = .ok (.iload_n 3, 1) := by decide +kernel
theorem dX3_settle_59 : decode cX3_settle 59 = .ok (.aload_n 0, 1) := by decide +kernel
theorem dX3_settle_60 : decode cX3_settle 60 = .ok (.getfield 24, 3) := by decide +kernel
theorem dX3_settle_63 : decode cX3_settle 63 = .ok (.getfield 134, 3) := by decide +kernel
theorem dX3_settle_66 : decode cX3_settle 66 = .ok (.iload_n 2, 1) := by decide +kernel
theorem dX3_settle_67 : decode cX3_settle 67 = .ok (.iaload, 1) := by decide +kernel
theorem dX3_settle_68 : decode cX3_settle 68 = .ok (.imul, 1) := by decide +kernel
theorem dX3_settle_69 : decode cX3_settle 69 = .ok (.iadd, 1) := by decide +kernel
theorem dX3_settle_70 : decode cX3_settle 70 = .ok (.putfield 66, 3) := by decide +kernel
theorem dX3_settle_73 : decode cX3_settle 73 = .ok (.iinc 2 1, 3) := by decide +kernel
theorem dX3_settle_76 : decode cX3_settle 76 = .ok (.goto (-58), 3) := by decide +kernel
theorem dX3_settle_79 : decode cX3_settle 79 = .ok (.aload_n 0, 1) := by decide +kernel
theorem dX3_settle_80 : decode cX3_settle 80 = .ok (.getfield 21, 3) := by decide +kernel
theorem dX3_settle_83 : decode cX3_settle 83 = .ok (.iload_n 1, 1) := by decide +kernel
theorem dX3_settle_84 : decode cX3_settle 84 = .ok (.iconst 1, 1) := by decide +kernel
theorem dX3_settle_85 : decode cX3_settle 85 = .ok (.iastore, 1) := by decide +kernel
theorem dX3_settle_86 : decode cX3_settle 86 = .ok (.return_, 1) := by decide +kernel
theorem dX3_lacking_0 : decode cX3_lacking 0 = .ok (.iconst 0, 1) := by decide +kernel
theorem dX3_lacking_1 : decode cX3_lacking 1 = .ok (.istore_n 2, 1) := by decide +kernel
theorem dX3_lacking_2 : decode cX3_lacking 2 = .ok (.iconst 1, 1) := by decide +kernel
theorem dX3_lacking_3 : decode cX3_lacking 3 = .ok (.istore_n 3, 1) := by decide +kernel
theorem dX3_lacking_4 : decode cX3_lacking 4 = .ok (.iload_n 3, 1) := by decide +kernel
theorem dX3_lacking_5 : decode cX3_lacking 5 = .ok (.iconst 4, 1) := by decide +kernel
theorem dX3_lacking_6 : decode cX3_lacking 6 = .ok (.if_icmp .gt 32, 3) := by decide +kernel
theorem dX3_lacking_9 : decode cX3_lacking 9 = .ok (.iload_n 2, 1) := by decide +kernel
theorem dX3_lacking_10 : decode cX3_lacking 10 = .ok (.iconst 0, 1) := by decide +kernel
theorem dX3_lacking_11 : decode cX3_lacking 11 = .ok (.aload_n 0, 1) := by decide +kernel
theorem dX3_lacking_12 : decode cX3_lacking 12 = .ok (.getfield 24, 3) := by decide +kernel
theorem dX3_lacking_15 : decode cX3_lacking 15 = .ok (.iload_n 1, 1) := by decide +kernel
theorem dX3_lacking_16 : decode cX3_lacking 16 = .ok (.iload_n 3, 1) := by decide +kernel
theorem dX3_lacking_17 : decode cX3_lacking 17 = .ok (.invokevirtual 196, 3) := by decide +kernel
theorem dX3_lacking_20 : decode cX3_lacking 20 = .ok (.aload_n 0, 1) := by decide +kernel
theorem dX3_lacking_21 : decode cX3_lacking 21 = .ok (.getfield 9, 3) := by decide +kernel
theorem dX3_lacking_24 : decode cX3_lacking 24 = .ok (.iload_n 3, 1) := by decide +kernel
theorem dX3_lacking_25 : decode cX3_lacking 25 = .ok (.iaload, 1) := by decide +kernel
theorem dX3_lacking_26 : decode cX3_lacking 26 = .ok (.isub, 1) := by decide +kernel
theorem dX3_lacking_27 : decode cX3_lacking 27 = .ok (.invokestatic 199, 3) := by decide +kernel
theorem dX3_lacking_30 : decode cX3_lacking 30 = .ok (.iadd, 1) := by decide +kernel
theorem dX3_lacking_31 : decode cX3_lacking 31 = .ok (.istore_n 2, 1) := by decide +kernel
theorem dX3_lacking_32 : decode cX3_lacking 32 = .ok (.iinc 3 1, 3) := by decide +kernel
theorem dX3_lacking_35 : decode cX3_lacking 35 = .ok (.goto (-31), 3) := by decide +kernel
theorem dX3_lacking_38 : decode cX3_lacking 38 = .ok (.iload_n 2, 1) := by decide +kernel
theorem dX3_lacking_39 : decode cX3_lacking 39 = .ok (.ireturn, 1) := by decide +kernel
theorem dX3_wholeBars_0 : decode cX3_wholeBars 0 = .ok (.iconst 0, 1) := by decide +kernel
theorem dX3_wholeBars_1 : decode cX3_wholeBars 1 = .ok (.istore_n 2, 1) := by decide +kernel
theorem dX3_wholeBars_2 : decode cX3_wholeBars 2 = .ok (.iconst 0, 1) := by decide +kernel
theorem dX3_wholeBars_3 : decode cX3_wholeBars 3 = .ok (.istore_n 3, 1) := by decide +kernel
theorem dX3_wholeBars_4 : decode cX3_wholeBars 4 = .ok (.iload_n 3, 1) := by decide +kernel
theorem dX3_wholeBars_5 : decode cX3_wholeBars 5 = .ok (.bipush 48, 2) := by decide +kernel
theorem dX3_wholeBars_7 : decode cX3_wholeBars 7 = .ok (.if_icmp .ge 34, 3) := by decide +kernel
theorem dX3_wholeBars_10 : decode cX3_wholeBars 10 = .ok (.iload_n 2, 1) := by decide +kernel
theorem dX3_wholeBars_11 : decode cX3_wholeBars 11 = .ok (.aload_n 0, 1) := by decide +kernel
theorem dX3_wholeBars_12 : decode cX3_wholeBars 12 = .ok (.getfield 24, 3) := by decide +kernel
theorem dX3_wholeBars_15 : decode cX3_wholeBars 15 = .ok (.getfield 137, 3) := by decide +kernel
theorem dX3_wholeBars_18 : decode cX3_wholeBars 18 = .ok (.iload_n 3, 1) := by decide +kernel
theorem dX3_wholeBars_19 : decode cX3_wholeBars 19 = .ok (.iaload, 1) := by decide +kernel
theorem dX3_wholeBars_20 : decode cX3_wholeBars 20 = .ok (.iload_n 1, 1) := by decide +kernel
theorem dX3_wholeBars_21 : decode cX3_wholeBars 21 = .ok (.if_icmp .ne 11, 3) := by decide +kernel
theorem dX3_wholeBars_24 : decode cX3_wholeBars 24 = .ok (.aload_n 0, 1) := by decide +kernel
theorem dX3_wholeBars_25 : decode cX3_wholeBars 25 = .ok (.iload_n 3, 1) := by decide +kernel
theorem dX3_wholeBars_26 : decode cX3_wholeBars 26 = .ok (.invokevirtual 130, 3) := by decide +kernel
theorem dX3_wholeBars_29 : decode cX3_wholeBars 29 = .ok (.goto 4, 3) := by decide +kernel
theorem dX3_wholeBars_32 : decode cX3_wholeBars 32 = .ok (.iconst 0, 1) := by decide +kernel
theorem dX3_wholeBars_33 : decode cX3_wholeBars 33 = .ok (.iadd, 1) := by decide +kernel
theorem dX3_wholeBars_34 : decode cX3_wholeBars 34 = .ok (.istore_n 2, 1) := by decide +kernel
theorem dX3_wholeBars_35 : decode cX3_wholeBars 35 = .ok (.iinc 3 1, 3) := by decide +kernel
theorem dX3_wholeBars_38 : decode cX3_wholeBars 38 = .ok (.goto (-34), 3) := by decide +kernel
theorem dX3_wholeBars_41 : decode cX3_wholeBars 41 = .ok (.iload_n 2, 1) := by decide +kernel
theorem dX3_wholeBars_42 : decode cX3_wholeBars 42 = .ok (.ireturn, 1) := by decide +kernel
theorem dX3_longestFace_0 : decode cX3_longestFace 0 = .ok (.iconst 0, 1) := by decide +kernel
theorem dX3_longestFace_1 : decode cX3_longestFace 1 = .ok (.istore_n 3, 1) := by decide +kernel
theorem dX3_longestFace_2 : decode cX3_longestFace 2 = .ok (.iconst (-1), 1) := by decide +kernel
theorem dX3_longestFace_3 : decode cX3_longestFace 3 = .ok (.istore 4, 2) := by decide +kernel
theorem dX3_longestFace_5 : decode cX3_longestFace 5 = .ok (.iconst 0, 1) := by decide +kernel
theorem dX3_longestFace_6 : decode cX3_longestFace 6 = .ok (.istore 5, 2) := by decide +kernel
theorem dX3_longestFace_8 : decode cX3_longestFace 8 = .ok (.iconst 0, 1) := by decide +kernel
theorem dX3_longestFace_9 : decode cX3_longestFace 9 = .ok (.istore 6, 2) := by decide +kernel
theorem dX3_longestFace_11 : decode cX3_longestFace 11 = .ok (.iload 6, 2) := by decide +kernel
theorem dX3_longestFace_13 : decode cX3_longestFace 13 = .ok (.bipush 48, 2) := by decide +kernel
theorem dX3_longestFace_15 : decode cX3_longestFace 15 = .ok (.if_icmp .ge 76, 3) := by decide +kernel
theorem dX3_longestFace_18 : decode cX3_longestFace 18 = .ok (.iload 6, 2) := by decide +kernel
theorem dX3_longestFace_20 : decode cX3_longestFace 20 = .ok (.bipush 8, 2) := by decide +kernel
theorem dX3_longestFace_22 : decode cX3_longestFace 22 = .ok (.irem, 1) := by decide +kernel
theorem dX3_longestFace_23 : decode cX3_longestFace 23 = .ok (.ifCond .ne 7, 3) := by decide +kernel
theorem dX3_longestFace_26 : decode cX3_longestFace 26 = .ok (.iconst 0, 1) := by decide +kernel
theorem dX3_longestFace_27 : decode cX3_longestFace 27 = .ok (.goto 5, 3) := by decide +kernel
theorem dX3_longestFace_30 : decode cX3_longestFace 30 = .ok (.iload 5, 2) := by decide +kernel
theorem dX3_longestFace_32 : decode cX3_longestFace 32 = .ok (.istore 5, 2) := by decide +kernel
theorem dX3_longestFace_34 : decode cX3_longestFace 34 = .ok (.aload_n 0, 1) := by decide +kernel
theorem dX3_longestFace_35 : decode cX3_longestFace 35 = .ok (.getfield 24, 3) := by decide +kernel
theorem dX3_longestFace_38 : decode cX3_longestFace 38 = .ok (.getfield 137, 3) := by decide +kernel
theorem dX3_longestFace_41 : decode cX3_longestFace 41 = .ok (.iload 6, 2) := by decide +kernel
theorem dX3_longestFace_43 : decode cX3_longestFace 43 = .ok (.iaload, 1) := by decide +kernel
theorem dX3_longestFace_44 : decode cX3_longestFace 44 = .ok (.iload_n 1, 1) := by decide +kernel
theorem dX3_longestFace_45 : decode cX3_longestFace 45 = .ok (.if_icmp .ne 19, 3) := by decide +kernel
theorem dX3_longestFace_48 : decode cX3_longestFace 48 = .ok (.aload_n 0, 1) := by decide +kernel
theorem dX3_longestFace_49 : decode cX3_longestFace 49 = .ok (.iload 6, 2) := by decide +kernel
theorem dX3_longestFace_51 : decode cX3_longestFace 51 = .ok (.invokevirtual 123, 3) := by decide +kernel
theorem dX3_longestFace_54 : decode cX3_longestFace 54 = .ok (.ifCond .eq 10, 3) := by decide +kernel
theorem dX3_longestFace_57 : decode cX3_longestFace 57 = .ok (.iload 5, 2) := by decide +kernel
theorem dX3_longestFace_59 : decode cX3_longestFace 59 = .ok (.iconst 1, 1) := by decide +kernel
theorem dX3_longestFace_60 : decode cX3_longestFace 60 = .ok (.iadd, 1) := by decide +kernel
theorem dX3_longestFace_61 : decode cX3_longestFace 61 = .ok (.goto 4, 3) := by decide +kernel
theorem dX3_longestFace_64 : decode cX3_longestFace 64 = .ok (.iconst 0, 1) := by decide +kernel
theorem dX3_longestFace_65 : decode cX3_longestFace 65 = .ok (.istore 5, 2) := by decide +kernel
theorem dX3_longestFace_67 : decode cX3_longestFace 67 = .ok (.iload 5, 2) := by decide +kernel
theorem dX3_longestFace_69 : decode cX3_longestFace 69 = .ok (.iload_n 3, 1) := by decide +kernel
theorem dX3_longestFace_70 : decode cX3_longestFace 70 = .ok (.if_icmp .le 15, 3) := by decide +kernel
theorem dX3_longestFace_73 : decode cX3_longestFace 73 = .ok (.iload 5, 2) := by decide +kernel
theorem dX3_longestFace_75 : decode cX3_longestFace 75 = .ok (.istore_n 3, 1) := by decide +kernel
theorem dX3_longestFace_76 : decode cX3_longestFace 76 = .ok (.iload 6, 2) := by decide +kernel
theorem dX3_longestFace_78 : decode cX3_longestFace 78 = .ok (.iload 5, 2) := by decide +kernel
theorem dX3_longestFace_80 : decode cX3_longestFace 80 = .ok (.isub, 1) := by decide +kernel
theorem dX3_longestFace_81 : decode cX3_longestFace 81 = .ok (.iconst 1, 1) := by decide +kernel
theorem dX3_longestFace_82 : decode cX3_longestFace 82 = .ok (.iadd, 1) := by decide +kernel
theorem dX3_longestFace_83 : decode cX3_longestFace 83 = .ok (.istore 4, 2) := by decide +kernel
theorem dX3_longestFace_85 : decode cX3_longestFace 85 = .ok (.iinc 6 1, 3) := by decide +kernel
theorem dX3_longestFace_88 : decode cX3_longestFace 88 = .ok (.goto (-77), 3) := by decide +kernel
theorem dX3_longestFace_91 : decode cX3_longestFace 91 = .ok (.iload_n 2, 1) := by decide +kernel
theorem dX3_longestFace_92 : decode cX3_longestFace 92 = .ok (.ifCond .eq 8, 3) := by decide +kernel
theorem dX3_longestFace_95 : decode cX3_longestFace 95 = .ok (.iload 4, 2) := by decide +kernel
theorem dX3_longestFace_97 : decode cX3_longestFace 97 = .ok (.goto 4, 3) := by decide +kernel
theorem dX3_longestFace_100 : decode cX3_longestFace 100 = .ok (.iload_n 3, 1) := by decide +kernel
theorem dX3_longestFace_101 : decode cX3_longestFace 101 = .ok (.ireturn, 1) := by decide +kernel
theorem dX3_richestRow_0 : decode cX3_richestRow 0 = .ok (.iconst 0, 1) := by decide +kernel
theorem dX3_richestRow_1 : decode cX3_richestRow 1 = .ok (.istore_n 1, 1) := by decide +kernel
theorem dX3_richestRow_2 : decode cX3_richestRow 2 = .ok (.iconst 0, 1) := by decide +kernel
theorem dX3_richestRow_3 : decode cX3_richestRow 3 = .ok (.istore_n 2, 1) := by decide +kernel
theorem dX3_richestRow_4 : decode cX3_richestRow 4 = .ok (.iconst 0, 1) := by decide +kernel
theorem dX3_richestRow_5 : decode cX3_richestRow 5 = .ok (.istore_n 3, 1) := by decide +kernel
theorem dX3_richestRow_6 : decode cX3_richestRow 6 = .ok (.iload_n 3, 1) := by decide +kernel
theorem dX3_richestRow_7 : decode cX3_richestRow 7 = .ok (.aload_n 0, 1) := by decide +kernel
theorem dX3_richestRow_8 : decode cX3_richestRow 8 = .ok (.getfield 24, 3) := by decide +kernel
theorem dX3_richestRow_11 : decode cX3_richestRow 11 = .ok (.getfield 72, 3) := by decide +kernel
theorem dX3_richestRow_14 : decode cX3_richestRow 14 = .ok (.if_icmp .ge 55, 3) := by decide +kernel
theorem dX3_richestRow_17 : decode cX3_richestRow 17 = .ok (.iconst 0, 1) := by decide +kernel
theorem dX3_richestRow_18 : decode cX3_richestRow 18 = .ok (.istore 4, 2) := by decide +kernel
theorem dX3_richestRow_20 : decode cX3_richestRow 20 = .ok (.iconst 0, 1) := by decide +kernel
theorem dX3_richestRow_21 : decode cX3_richestRow 21 = .ok (.istore 5, 2) := by decide +kernel
theorem dX3_richestRow_23 : decode cX3_richestRow 23 = .ok (.iload 5, 2) := by decide +kernel
theorem dX3_richestRow_25 : decode cX3_richestRow 25 = .ok (.bipush 8, 2) := by decide +kernel
theorem dX3_richestRow_27 : decode cX3_richestRow 27 = .ok (.if_icmp .ge 25, 3) := by decide +kernel
theorem dX3_richestRow_30 : decode cX3_richestRow 30 = .ok (.iload 4, 2) := by decide +kernel
theorem dX3_richestRow_32 : decode cX3_richestRow 32 = .ok (.aload_n 0, 1) := by decide +kernel
theorem dX3_richestRow_33 : decode cX3_richestRow 33 = .ok (.bipush 8, 2) := by decide +kernel
theorem dX3_richestRow_35 : decode cX3_richestRow 35 = .ok (.iload_n 3, 1) := by decide +kernel
theorem dX3_richestRow_36 : decode cX3_richestRow 36 = .ok (.imul, 1) := by decide +kernel
theorem dX3_richestRow_37 : decode cX3_richestRow 37 = .ok (.iload 5, 2) := by decide +kernel
theorem dX3_richestRow_39 : decode cX3_richestRow 39 = .ok (.iadd, 1) := by decide +kernel
theorem dX3_richestRow_40 : decode cX3_richestRow 40 = .ok (.invokevirtual 130, 3) := by decide +kernel
theorem dX3_richestRow_43 : decode cX3_richestRow 43 = .ok (.iadd, 1) := by decide +kernel
theorem dX3_richestRow_44 : decode cX3_richestRow 44 = .ok (.istore 4, 2) := by decide +kernel
theorem dX3_richestRow_46 : decode cX3_richestRow 46 = .ok (.iinc 5 1, 3) := by decide +kernel
theorem dX3_richestRow_49 : decode cX3_richestRow 49 = .ok (.goto (-26), 3) := by decide +kernel
theorem dX3_richestRow_52 : decode cX3_richestRow 52 = .ok (.iload 4, 2) := by decide +kernel
theorem dX3_richestRow_54 : decode cX3_richestRow 54 = .ok (.iload_n 2, 1) := by decide +kernel
theorem dX3_richestRow_55 : decode cX3_richestRow 55 = .ok (.if_icmp .le 8, 3) := by decide +kernel
theorem dX3_richestRow_58 : decode cX3_richestRow 58 = .ok (.iload 4, 2) := by decide +kernel
theorem dX3_richestRow_60 : decode cX3_richestRow 60 = .ok (.istore_n 2, 1) := by decide +kernel
theorem dX3_richestRow_61 : decode cX3_richestRow 61 = .ok (.iload_n 3, 1) := by decide +kernel
theorem dX3_richestRow_62 : decode cX3_richestRow 62 = .ok (.istore_n 1, 1) := by decide +kernel
theorem dX3_richestRow_63 : decode cX3_richestRow 63 = .ok (.iinc 3 1, 3) := by decide +kernel
theorem dX3_richestRow_66 : decode cX3_richestRow 66 = .ok (.goto (-60), 3) := by decide +kernel
theorem dX3_richestRow_69 : decode cX3_richestRow 69 = .ok (.iload_n 1, 1) := by decide +kernel
theorem dX3_richestRow_70 : decode cX3_richestRow 70 = .ok (.ireturn, 1) := by decide +kernel
theorem dX3_richestCell_0 : decode cX3_richestCell 0 = .ok (.aload_n 0, 1) := by decide +kernel
theorem dX3_richestCell_1 : decode cX3_richestCell 1 = .ok (.invokevirtual 202, 3) := by decide +kernel
theorem dX3_richestCell_4 : decode cX3_richestCell 4 = .ok (.lstore_n 1, 1) := by decide +kernel
theorem dX3_richestCell_5 : decode cX3_richestCell 5 = .ok (.iconst (-1), 1) := by decide +kernel
theorem dX3_richestCell_6 : decode cX3_richestCell 6 = .ok (.istore_n 3, 1) := by decide +kernel
theorem dX3_richestCell_7 : decode cX3_richestCell 7 = .ok (.iconst (-1), 1) := by decide +kernel
theorem dX3_richestCell_8 : decode cX3_richestCell 8 = .ok (.istore 4, 2) := by decide +kernel
theorem dX3_richestCell_10 : decode cX3_richestCell 10 = .ok (.iconst 0, 1) := by decide +kernel
theorem dX3_richestCell_11 : decode cX3_richestCell 11 = .ok (.istore 5, 2) := by decide +kernel
theorem dX3_richestCell_13 : decode cX3_richestCell 13 = .ok (.iload 5, 2) := by decide +kernel
theorem dX3_richestCell_15 : decode cX3_richestCell 15 = .ok (.bipush 48, 2) := by decide +kernel
theorem dX3_richestCell_17 : decode cX3_richestCell 17 = .ok (.if_icmp .ge 56, 3) := by decide +kernel
theorem dX3_richestCell_20 : decode cX3_richestCell 20 = .ok (.lload_n 1, 1) := by decide +kernel
theorem dX3_richestCell_21 : decode cX3_richestCell 21 = .ok (.iload 5, 2) := by decide +kernel
theorem dX3_richestCell_23 : decode cX3_richestCell 23 = .ok (.lushr, 1) := by decide +kernel
theorem dX3_richestCell_24 : decode cX3_richestCell 24 = .ok (.lconst 1, 1) := by decide +kernel
theorem dX3_richestCell_25 : decode cX3_richestCell 25 = .ok (.land, 1) := by decide +kernel
theorem dX3_richestCell_26 : decode cX3_richestCell 26 = .ok (.lconst 0, 1) := by decide +kernel
theorem dX3_richestCell_27 : decode cX3_richestCell 27 = .ok (.lcmp, 1) := by decide +kernel
theorem dX3_richestCell_28 : decode cX3_richestCell 28 = .ok (.ifCond .eq 39, 3) := by decide +kernel
theorem dX3_richestCell_31 : decode cX3_richestCell 31 = .ok (.aload_n 0, 1) := by decide +kernel
theorem dX3_richestCell_32 : decode cX3_richestCell 32 = .ok (.getfield 24, 3) := by decide +kernel
theorem dX3_richestCell_35 : decode cX3_richestCell 35 = .ok (.getfield 137, 3) := by decide +kernel
theorem dX3_richestCell_38 : decode cX3_richestCell 38 = .ok (.iload 5, 2) := by decide +kernel
theorem dX3_richestCell_40 : decode cX3_richestCell 40 = .ok (.iaload, 1) := by decide +kernel
theorem dX3_richestCell_41 : decode cX3_richestCell 41 = .ok (.iconst 5, 1) := by decide +kernel
theorem dX3_richestCell_42 : decode cX3_richestCell 42 = .ok (.if_icmp .eq 25, 3) := by decide +kernel
theorem dX3_richestCell_45 : decode cX3_richestCell 45 = .ok (.aload_n 0, 1) := by decide +kernel
theorem dX3_richestCell_46 : decode cX3_richestCell 46 = .ok (.iload 5, 2) := by decide +kernel
theorem dX3_richestCell_48 : decode cX3_richestCell 48 = .ok (.invokevirtual 130, 3) := by decide +kernel
theorem dX3_richestCell_51 : decode cX3_richestCell 51 = .ok (.iload 4, 2) := by decide +kernel
theorem dX3_richestCell_53 : decode cX3_richestCell 53 = .ok (.if_icmp .le 14, 3) := by decide +kernel
theorem dX3_richestCell_56 : decode cX3_richestCell 56 = .ok (.aload_n 0, 1) := by decide +kernel
theorem dX3_richestCell_57 : decode cX3_richestCell 57 = .ok (.iload 5, 2) := by decide +kernel
theorem dX3_richestCell_59 : decode cX3_richestCell 59 = .ok (.invokevirtual 130, 3) := by decide +kernel
theorem dX3_richestCell_62 : decode cX3_richestCell 62 = .ok (.istore 4, 2) := by decide +kernel
theorem dX3_richestCell_64 : decode cX3_richestCell 64 = .ok (.iload 5, 2) := by decide +kernel
theorem dX3_richestCell_66 : decode cX3_richestCell 66 = .ok (.istore_n 3, 1) := by decide +kernel
theorem dX3_richestCell_67 : decode cX3_richestCell 67 = .ok (.iinc 5 1, 3) := by decide +kernel
theorem dX3_richestCell_70 : decode cX3_richestCell 70 = .ok (.goto (-57), 3) := by decide +kernel
theorem dX3_richestCell_73 : decode cX3_richestCell 73 = .ok (.iload_n 3, 1) := by decide +kernel
theorem dX3_richestCell_74 : decode cX3_richestCell 74 = .ok (.ireturn, 1) := by decide +kernel
theorem dX3_digShift_0 : decode cX3_digShift 0 = .ok (.aload_n 0, 1) := by decide +kernel
theorem dX3_digShift_1 : decode cX3_digShift 1 = .ok (.getfield 24, 3) := by decide +kernel
theorem dX3_digShift_4 : decode cX3_digShift 4 = .ok (.getfield 159, 3) := by decide +kernel
theorem dX3_digShift_7 : decode cX3_digShift 7 = .ok (.aload_n 0, 1) := by decide +kernel
theorem dX3_digShift_8 : decode cX3_digShift 8 = .ok (.getfield 55, 3) := by decide +kernel
theorem dX3_digShift_11 : decode cX3_digShift 11 = .ok (.isub, 1) := by decide +kernel
theorem dX3_digShift_12 : decode cX3_digShift 12 = .ok (.istore_n 1, 1) := by decide +kernel
theorem dX3_digShift_13 : decode cX3_digShift 13 = .ok (.iconst 0, 1) := by decide +kernel
theorem dX3_digShift_14 : decode cX3_digShift 14 = .ok (.istore_n 2, 1) := by decide +kernel
theorem dX3_digShift_15 : decode cX3_digShift 15 = .ok (.iload_n 2, 1) := by decide +kernel
theorem dX3_digShift_16 : decode cX3_digShift 16 = .ok (.iload_n 1, 1) := by decide +kernel
theorem dX3_digShift_17 : decode cX3_digShift 17 = .ok (.if_icmp .ge 25, 3) := by decide +kernel
theorem dX3_digShift_20 : decode cX3_digShift 20 = .ok (.aload_n 0, 1) := by decide +kernel
theorem dX3_digShift_21 : decode cX3_digShift 21 = .ok (.invokevirtual 205, 3) := by decide +kernel
theorem dX3_digShift_24 : decode cX3_digShift 24 = .ok (.istore_n 3, 1) := by decide +kernel
theorem dX3_digShift_25 : decode cX3_digShift 25 = .ok (.iload_n 3, 1) := by decide +kernel
theorem dX3_digShift_26 : decode cX3_digShift 26 = .ok (.iconst (-1), 1) := by decide +kernel
theorem dX3_digShift_27 : decode cX3_digShift 27 = .ok (.if_icmp .ne 4, 3) := by decide +kernel
theorem dX3_digShift_30 : decode cX3_digShift 30 = .ok (.return_, 1) := by decide +kernel
theorem dX3_digShift_31 : decode cX3_digShift 31 = .ok (.aload_n 0, 1) := by decide +kernel
theorem dX3_digShift_32 : decode cX3_digShift 32 = .ok (.iload_n 3, 1) := by decide +kernel
theorem dX3_digShift_33 : decode cX3_digShift 33 = .ok (.invokevirtual 209, 3) := by decide +kernel
theorem dX3_digShift_36 : decode cX3_digShift 36 = .ok (.iinc 2 1, 3) := by decide +kernel
theorem dX3_digShift_39 : decode cX3_digShift 39 = .ok (.goto (-24), 3) := by decide +kernel
theorem dX3_digShift_42 : decode cX3_digShift 42 = .ok (.return_, 1) := by decide +kernel
theorem dX4_init_0 : decode cX4_init 0 = .ok (.aload_n 0, 1) := by decide +kernel
theorem dX4_init_1 : decode cX4_init 1 = .ok (.invokespecial 1, 3) := by decide +kernel
theorem dX4_init_4 : decode cX4_init 4 = .ok (.aload_n 0, 1) := by decide +kernel
theorem dX4_init_5 : decode cX4_init 5 = .ok (.bipush 16, 2) := by decide +kernel
theorem dX4_init_7 : decode cX4_init 7 = .ok (.anewarray 9, 3) := by decide +kernel
theorem dX4_init_10 : decode cX4_init 10 = .ok (.putfield 11, 3) := by decide +kernel
theorem dX4_init_13 : decode cX4_init 13 = .ok (.aload_n 0, 1) := by decide +kernel
theorem dX4_init_14 : decode cX4_init 14 = .ok (.iconst 3, 1) := by decide +kernel
theorem dX4_init_15 : decode cX4_init 15 = .ok (.anewarray 9, 3) := by decide +kernel
theorem dX4_init_18 : decode cX4_init 18 = .ok (.putfield 15, 3) := by decide +kernel
theorem dX4_init_21 : decode cX4_init 21 = .ok (.aload_n 0, 1) := by decide +kernel
theorem dX4_init_22 : decode cX4_init 22 = .ok (.bipush 48, 2) := by decide +kernel
theorem dX4_init_24 : decode cX4_init 24 = .ok (.anewarray 9, 3) := by decide +kernel
theorem dX4_init_27 : decode cX4_init 27 = .ok (.putfield 18, 3) := by decide +kernel
theorem dX4_init_30 : decode cX4_init 30 = .ok (.aload_n 0, 1) := by decide +kernel
theorem dX4_init_31 : decode cX4_init 31 = .ok (.iconst 3, 1) := by decide +kernel
theorem dX4_init_32 : decode cX4_init 32 = .ok (.newarray .int, 2) := by decide +kernel
theorem dX4_init_34 : decode cX4_init 34 = .ok (.putfield 21, 3) := by decide +kernel
theorem dX4_init_37 : decode cX4_init 37 = .ok (.return_, 1) := by decide +kernel
theorem dX4_forget_0 : decode cX4_forget 0 = .ok (.aload_n 0, 1) := by decide +kernel
theorem dX4_forget_1 : decode cX4_forget 1 = .ok (.iconst 0, 1) := by decide +kernel
theorem dX4_forget_2 : decode cX4_forget 2 = .ok (.putfield 25, 3) := by decide +kernel
theorem dX4_forget_5 : decode cX4_forget 5 = .ok (.aload_n 0, 1) := by decide +kernel
theorem dX4_forget_6 : decode cX4_forget 6 = .ok (.iconst 0, 1) := by decide +kernel
theorem dX4_forget_7 : decode cX4_forget 7 = .ok (.putfield 29, 3) := by decide +kernel
theorem dX4_forget_10 : decode cX4_forget 10 = .ok (.return_, 1) := by decide +kernel
theorem dX4_isFull_0 : decode cX4_isFull 0 = .ok (.aload_n 0, 1) := by decide +kernel
theorem dX4_isFull_1 : decode cX4_isFull 1 = .ok (.getfield 25, 3) := by decide +kernel
theorem dX4_isFull_4 : decode cX4_isFull 4 = .ok (.bipush 16, 2) := by decide +kernel
theorem dX4_isFull_6 : decode cX4_isFull 6 = .ok (.if_icmp .lt 7, 3) := by decide +kernel
theorem dX4_isFull_9 : decode cX4_isFull 9 = .ok (.iconst 1, 1) := by decide +kernel
theorem dX4_isFull_10 : decode cX4_isFull 10 = .ok (.goto 4, 3) := by decide +kernel
theorem dX4_isFull_13 : decode cX4_isFull 13 = .ok (.iconst 0, 1) := by decide +kernel
theorem dX4_isFull_14 : decode cX4_isFull 14 = .ok (.ireturn, 1) := by decide +kernel
theorem dX4_keep_0 : decode cX4_keep 0 = .ok (.aload_n 0, 1) := by decide +kernel
theorem dX4_keep_1 : decode cX4_keep 1 = .ok (.getfield 25, 3) := by decide +kernel
theorem dX4_keep_4 : decode cX4_keep 4 = .ok (.bipush 16, 2) := by decide +kernel
theorem dX4_keep_6 : decode cX4_keep 6 = .ok (.if_icmp .ge 25, 3) := by decide +kernel
theorem dX4_keep_9 : decode cX4_keep 9 = .ok (.aload_n 0, 1) := by decide +kernel
theorem dX4_keep_10 : decode cX4_keep 10 = .ok (.getfield 11, 3) := by decide +kernel
theorem dX4_keep_13 : decode cX4_keep 13 = .ok (.aload_n 0, 1) := by decide +kernel
theorem dX4_keep_14 : decode cX4_keep 14 = .ok (.getfield 25, 3) := by decide +kernel
theorem dX4_keep_17 : decode cX4_keep 17 = .ok (.aload_n 1, 1) := by decide +kernel
theorem dX4_keep_18 : decode cX4_keep 18 = .ok (.invokestatic 32, 3) := by decide +kernel
theorem dX4_keep_21 : decode cX4_keep 21 = .ok (.aload_n 0, 1) := by decide +kernel
theorem dX4_keep_22 : decode cX4_keep 22 = .ok (.dup, 1) := by decide +kernel
theorem dX4_keep_23 : decode cX4_keep 23 = .ok (.getfield 25, 3) := by decide +kernel
theorem dX4_keep_26 : decode cX4_keep 26 = .ok (.iconst 1, 1) := by decide +kernel
theorem dX4_keep_27 : decode cX4_keep 27 = .ok (.iadd, 1) := by decide +kernel
theorem dX4_keep_28 : decode cX4_keep 28 = .ok (.putfield 25, 3) := by decide +kernel
theorem dX4_keep_31 : decode cX4_keep 31 = .ok (.return_, 1) := by decide +kernel
theorem dX4_takeBack_0 : decode cX4_takeBack 0 = .ok (.aload_n 0, 1) := by decide +kernel
theorem dX4_takeBack_1 : decode cX4_takeBack 1 = .ok (.getfield 25, 3) := by decide +kernel
theorem dX4_takeBack_4 : decode cX4_takeBack 4 = .ok (.ifCond .le 25, 3) := by decide +kernel
theorem dX4_takeBack_7 : decode cX4_takeBack 7 = .ok (.aload_n 0, 1) := by decide +kernel
theorem dX4_takeBack_8 : decode cX4_takeBack 8 = .ok (.dup, 1) := by decide +kernel
theorem dX4_takeBack_9 : decode cX4_takeBack 9 = .ok (.getfield 25, 3) := by decide +kernel
theorem dX4_takeBack_12 : decode cX4_takeBack 12 = .ok (.iconst 1, 1) := by decide +kernel
theorem dX4_takeBack_13 : decode cX4_takeBack 13 = .ok (.isub, 1) := by decide +kernel
theorem dX4_takeBack_14 : decode cX4_takeBack 14 = .ok (.putfield 25, 3) := by decide +kernel
theorem dX4_takeBack_17 : decode cX4_takeBack 17 = .ok (.aload_n 0, 1) := by decide +kernel
theorem dX4_takeBack_18 : decode cX4_takeBack 18 = .ok (.getfield 11, 3) := by decide +kernel
theorem dX4_takeBack_21 : decode cX4_takeBack 21 = .ok (.aload_n 0, 1) := by decide +kernel
theorem dX4_takeBack_22 : decode cX4_takeBack 22 = .ok (.getfield 25, 3) := by decide +kernel
theorem dX4_takeBack_25 : decode cX4_takeBack 25 = .ok (.aload_n 1, 1) := by decide +kernel
theorem dX4_takeBack_26 : decode cX4_takeBack 26 = .ok (.invokestatic 36, 3) := by decide +kernel
theorem dX4_takeBack_29 : decode cX4_takeBack 29 = .ok (.return_, 1) := by decide +kernel
theorem dX4_takeImage_0 : decode cX4_takeImage 0 = .ok (.aload_n 0, 1) := by decide +kernel
theorem dX4_takeImage_1 : decode cX4_takeImage 1 = .ok (.getfield 29, 3) := by decide +kernel
theorem dX4_takeImage_4 : decode cX4_takeImage 4 = .ok (.iconst 3, 1) := by decide +kernel
theorem dX4_takeImage_5 : decode cX4_takeImage 5 = .ok (.if_icmp .lt 5, 3) := by decide +kernel
theorem dX4_takeImage_8 : decode cX4_takeImage 8 = .ok (.iconst 0, 1) := by decide +kernel
theorem dX4_takeImage_9 : decode cX4_takeImage 9 = .ok (.ireturn, 1) := by decide +kernel
theorem dX4_takeImage_10 : decode cX4_takeImage 10 = .ok (.aload_n 0, 1) := by decide +kernel
theorem dX4_takeImage_11 : decode cX4_takeImage 11 = .ok (.getfield 15, 3) := by decide +kernel
theorem dX4_takeImage_14 : decode cX4_takeImage 14 = .ok (.aload_n 0, 1) := by decide +kernel
theorem dX4_takeImage_15 : decode cX4_takeImage 15 = .ok (.getfield 29, 3) := by decide +kernel
theorem dX4_takeImage_18 : decode cX4_takeImage 18 = .ok (.aload_n 1, 1) := by decide +kernel
theorem dX4_takeImage_19 : decode cX4_takeImage 19 = .ok (.invokestatic 32, 3) := by decide +kernel
theorem dX4_takeImage_22 : decode cX4_takeImage 22 = .ok (.iconst 0, 1) := by decide +kernel
theorem dX4_takeImage_23 : decode cX4_takeImage 23 = .ok (.istore_n 2, 1) := by decide +kernel
theorem dX4_takeImage_24 : decode cX4_takeImage 24 = .ok (.iload_n 2, 1) := by decide +kernel
theorem dX4_takeImage_25 : decode cX4_takeImage 25 = .ok (.aload_n 0, 1) := by decide +kernel
theorem dX4_takeImage_26 : decode cX4_takeImage 26 = .ok (.getfield 25, 3) := by decide +kernel
theorem dX4_takeImage_29 : decode cX4_takeImage 29 = .ok (.if_icmp .ge 31, 3) := by decide +kernel
theorem dX4_takeImage_32 : decode cX4_takeImage 32 = .ok (.aload_n 0, 1) := by decide +kernel
theorem dX4_takeImage_33 : decode cX4_takeImage 33 = .ok (.getfield 18, 3) := by decide +kernel
theorem dX4_takeImage_36 : decode cX4_takeImage 36 = .ok (.aload_n 0, 1) := by decide +kernel
theorem dX4_takeImage_37 : decode cX4_takeImage 37 = .ok (.getfield 29, 3) := by decide +kernel
theorem dX4_takeImage_40 : decode cX4_takeImage 40 = .ok (.bipush 16, 2) := by decide +kernel
theorem dX4_takeImage_42 : decode cX4_takeImage 42 = .ok (.imul, 1) := by decide +kernel
theorem dX4_takeImage_43 : decode cX4_takeImage 43 = .ok (.iload_n 2, 1) := by decide +kernel
theorem dX4_takeImage_44 : decode cX4_takeImage 44 = .ok (.iadd, 1) := by decide +kernel
theorem dX4_takeImage_45 : decode cX4_takeImage 45 = .ok (.aload_n 0, 1) := by decide +kernel
theorem dX4_takeImage_46 : decode cX4_takeImage 46 = .ok (.getfield 11, 3) := by decide +kernel
theorem dX4_takeImage_49 : decode cX4_takeImage 49 = .ok (.iload_n 2, 1) := by decide +kernel
theorem dX4_takeImage_50 : decode cX4_takeImage 50 = .ok (.aaload, 1) := by decide +kernel
theorem dX4_takeImage_51 : decode cX4_takeImage 51 = .ok (.invokestatic 32, 3) := by decide +kernel
theorem dX4_takeImage_54 : decode cX4_takeImage 54 = .ok (.iinc 2 1, 3) := by decide +kernel
theorem dX4_takeImage_57 : decode cX4_takeImage 57 = .ok (.goto (-33), 3) := by decide +kernel
theorem dX4_takeImage_60 : decode cX4_takeImage 60 = .ok (.aload_n 0, 1) := by decide +kernel
theorem dX4_takeImage_61 : decode cX4_takeImage 61 = .ok (.getfield 21, 3) := by decide +kernel
theorem dX4_takeImage_64 : decode cX4_takeImage 64 = .ok (.aload_n 0, 1) := by decide +kernel
theorem dX4_takeImage_65 : decode cX4_takeImage 65 = .ok (.getfield 29, 3) := by decide +kernel
theorem dX4_takeImage_68 : decode cX4_takeImage 68 = .ok (.aload_n 0, 1) := by decide +kernel
theorem dX4_takeImage_69 : decode cX4_takeImage 69 = .ok (.getfield 25, 3) := by decide +kernel
theorem dX4_takeImage_72 : decode cX4_takeImage 72 = .ok (.iastore, 1) := by decide +kernel
theorem dX4_takeImage_73 : decode cX4_takeImage 73 = .ok (.aload_n 0, 1) := by decide +kernel
theorem dX4_takeImage_74 : decode cX4_takeImage 74 = .ok (.dup, 1) := by decide +kernel
theorem dX4_takeImage_75 : decode cX4_takeImage 75 = .ok (.getfield 29, 3) := by decide +kernel
theorem dX4_takeImage_78 : decode cX4_takeImage 78 = .ok (.iconst 1, 1) := by decide +kernel
theorem dX4_takeImage_79 : decode cX4_takeImage 79 = .ok (.iadd, 1) := by decide +kernel
theorem dX4_takeImage_80 : decode cX4_takeImage 80 = .ok (.putfield 29, 3) := by decide +kernel
theorem dX4_takeImage_83 : decode cX4_takeImage 83 = .ok (.iconst 1, 1) := by decide +kernel
theorem dX4_takeImage_84 : decode cX4_takeImage 84 = .ok (.ireturn, 1) := by decide +kernel
theorem dX4_bringBack_0 : decode cX4_bringBack 0 = .ok (.aload_n 0, 1) := by decide +kernel
theorem dX4_bringBack_1 : decode cX4_bringBack 1 = .ok (.getfield 29, 3) := by decide +kernel
theorem dX4_bringBack_4 : decode cX4_bringBack 4 = .ok (.ifCond .gt 4, 3) := by decide +kernel
theorem dX4_bringBack_7 : decode cX4_bringBack 7 = .ok (.return_, 1) := by decide +kernel
theorem dX4_bringBack_8 : decode cX4_bringBack 8 = .ok (.aload_n 0, 1) := by decide +kernel
theorem dX4_bringBack_9 : decode cX4_bringBack 9 = .ok (.dup, 1) := by decide +kernel
theorem dX4_bringBack_10 : decode cX4_bringBack 10 = .ok (.getfield 29, 3) := by decide +kernel
theorem dX4_bringBack_13 : decode cX4_bringBack 13 = .ok (.iconst 1, 1) := by decide +kernel
theorem dX4_bringBack_14 : decode cX4_bringBack 14 = .ok (.isub, 1) := by decide +kernel
theorem dX4_bringBack_15 : decode cX4_bringBack 15 = .ok (.putfield 29, 3) := by decide +kernel
theorem dX4_bringBack_18 : decode cX4_bringBack 18 = .ok (.aload_n 0, 1) := by decide +kernel
theorem dX4_bringBack_19 : decode cX4_bringBack 19 = .ok (.getfield 15, 3) := by decide +kernel
theorem dX4_bringBack_22 : decode cX4_bringBack 22 = .ok (.aload_n 0, 1) := by decide +kernel
theorem dX4_bringBack_23 : decode cX4_bringBack 23 = .ok (.getfield 29, 3) := by decide +kernel
theorem dX4_bringBack_26 : decode cX4_bringBack 26 = .ok (.aload_n 1, 1) := by decide +kernel
theorem dX4_bringBack_27 : decode cX4_bringBack 27 = .ok (.invokestatic 36, 3) := by decide +kernel
theorem dX4_bringBack_30 : decode cX4_bringBack 30 = .ok (.aload_n 0, 1) := by decide +kernel
theorem dX4_bringBack_31 : decode cX4_bringBack 31 = .ok (.aload_n 0, 1) := by decide +kernel
theorem dX4_bringBack_32 : decode cX4_bringBack 32 = .ok (.getfield 21, 3) := by decide +kernel
theorem dX4_bringBack_35 : decode cX4_bringBack 35 = .ok (.aload_n 0, 1) := by decide +kernel
theorem dX4_bringBack_36 : decode cX4_bringBack 36 = .ok (.getfield 29, 3) := by decide +kernel
theorem dX4_bringBack_39 : decode cX4_bringBack 39 = .ok (.iaload, 1) := by decide +kernel
theorem dX4_bringBack_40 : decode cX4_bringBack 40 = .ok (.putfield 25, 3) := by decide +kernel
theorem dX4_bringBack_43 : decode cX4_bringBack 43 = .ok (.iconst 0, 1) := by decide +kernel
theorem dX4_bringBack_44 : decode cX4_bringBack 44 = .ok (.istore_n 2, 1) := by decide +kernel
theorem dX4_bringBack_45 : decode cX4_bringBack 45 = .ok (.iload_n 2, 1) := by decide +kernel
theorem dX4_bringBack_46 : decode cX4_bringBack 46 = .ok (.aload_n 0, 1) := by decide +kernel
theorem dX4_bringBack_47 : decode cX4_bringBack 47 = .ok (.getfield 25, 3) := by decide +kernel
theorem dX4_bringBack_50 : decode cX4_bringBack 50 = .ok (.if_icmp .ge 31, 3) := by decide +kernel
theorem dX4_bringBack_53 : decode cX4_bringBack 53 = .ok (.aload_n 0, 1) := by decide +kernel
theorem dX4_bringBack_54 : decode cX4_bringBack 54 = .ok (.getfield 11, 3) := by decide +kernel
theorem dX4_bringBack_57 : decode cX4_bringBack 57 = .ok (.iload_n 2, 1) := by decide +kernel
theorem dX4_bringBack_58 : decode cX4_bringBack 58 = .ok (.aload_n 0, 1) := by decide +kernel
theorem dX4_bringBack_59 : decode cX4_bringBack 59 = .ok (.getfield 18, 3) := by decide +kernel
theorem dX4_bringBack_62 : decode cX4_bringBack 62 = .ok (.aload_n 0, 1) := by decide +kernel
theorem dX4_bringBack_63 : decode cX4_bringBack 63 = .ok (.getfield 29, 3) := by decide +kernel
theorem dX4_bringBack_66 : decode cX4_bringBack 66 = .ok (.bipush 16, 2) := by decide +kernel
theorem dX4_bringBack_68 : decode cX4_bringBack 68 = .ok (.imul, 1) := by decide +kernel
theorem dX4_bringBack_69 : decode cX4_bringBack 69 = .ok (.iload_n 2, 1) := by decide +kernel
theorem dX4_bringBack_70 : decode cX4_bringBack 70 = .ok (.iadd, 1) := by decide +kernel
theorem dX4_bringBack_71 : decode cX4_bringBack 71 = .ok (.aaload, 1) := by decide +kernel
theorem dX4_bringBack_72 : decode cX4_bringBack 72 = .ok (.invokestatic 32, 3) := by decide +kernel
theorem dX4_bringBack_75 : decode cX4_bringBack 75 = .ok (.iinc 2 1, 3) := by decide +kernel
theorem dX4_bringBack_78 : decode cX4_bringBack 78 = .ok (.goto (-33), 3) := by decide +kernel
theorem dX4_bringBack_81 : decode cX4_bringBack 81 = .ok (.return_, 1) := by decide +kernel
theorem dX4_save_0 : decode cX4_save 0 = .ok (.aload_n 2, 1) := by decide +kernel
theorem dX4_save_1 : decode cX4_save 1 = .ok (.ifnull 13, 3) := by decide +kernel
theorem dX4_save_4 : decode cX4_save 4 = .ok (.iload_n 1, 1) := by decide +kernel
theorem dX4_save_5 : decode cX4_save 5 = .ok (.ifCond .lt 9, 3) := by decide +kernel
theorem dX4_save_8 : decode cX4_save 8 = .ok (.iload_n 1, 1) := by decide +kernel
theorem dX4_save_9 : decode cX4_save 9 = .ok (.aload_n 0, 1) := by decide +kernel
theorem dX4_save_10 : decode cX4_save 10 = .ok (.arraylength, 1) := by decide +kernel
theorem dX4_save_11 : decode cX4_save 11 = .ok (.if_icmp .lt 4, 3) := by decide +kernel
theorem dX4_save_14 : decode cX4_save 14 = .ok (.return_, 1) := by decide +kernel
theorem dX4_save_15 : decode cX4_save 15 = .ok (.aload_n 0, 1) := by decide +kernel
theorem dX4_save_16 : decode cX4_save 16 = .ok (.iload_n 1, 1) := by decide +kernel
theorem dX4_save_17 : decode cX4_save 17 = .ok (.aaload, 1) := by decide +kernel
theorem dX4_save_18 : decode cX4_save 18 = .ok (.ifnonnull 13, 3) := by decide +kernel
theorem dX4_save_21 : decode cX4_save 21 = .ok (.aload_n 0, 1) := by decide +kernel
theorem dX4_save_22 : decode cX4_save 22 = .ok (.iload_n 1, 1) := by decide +kernel
theorem dX4_save_23 : decode cX4_save 23 = .ok (.aload_n 2, 1) := by decide +kernel
theorem dX4_save_24 : decode cX4_save 24 = .ok (.invokevirtual 39, 3) := by decide +kernel
theorem dX4_save_27 : decode cX4_save 27 = .ok (.aastore, 1) := by decide +kernel
theorem dX4_save_28 : decode cX4_save 28 = .ok (.goto 10, 3) := by decide +kernel
theorem dX4_save_31 : decode cX4_save 31 = .ok (.aload_n 0, 1) := by decide +kernel
theorem dX4_save_32 : decode cX4_save 32 = .ok (.iload_n 1, 1) := by decide +kernel
theorem dX4_save_33 : decode cX4_save 33 = .ok (.aaload, 1) := by decide +kernel
theorem dX4_save_34 : decode cX4_save 34 = .ok (.aload_n 2, 1) := by decide +kernel
theorem dX4_save_35 : decode cX4_save 35 = .ok (.invokevirtual 43, 3) := by decide +kernel
theorem dX4_save_38 : decode cX4_save 38 = .ok (.return_, 1) := by decide +kernel
theorem dX4_load_0 : decode cX4_load 0 = .ok (.iload_n 1, 1) := by decide +kernel
theorem dX4_load_1 : decode cX4_load 1 = .ok (.ifCond .lt 22, 3) := by decide +kernel
theorem dX4_load_4 : decode cX4_load 4 = .ok (.iload_n 1, 1) := by decide +kernel
theorem dX4_load_5 : decode cX4_load 5 = .ok (.aload_n 0, 1) := by decide +kernel
theorem dX4_load_6 : decode cX4_load 6 = .ok (.arraylength, 1) := by decide +kernel
theorem dX4_load_7 : decode cX4_load 7 = .ok (.if_icmp .ge 16, 3) := by decide +kernel
theorem dX4_load_10 : decode cX4_load 10 = .ok (.aload_n 0, 1) := by decide +kernel
theorem dX4_load_11 : decode cX4_load 11 = .ok (.iload_n 1, 1) := by decide +kernel
theorem dX4_load_12 : decode cX4_load 12 = .ok (.aaload, 1) := by decide +kernel
theorem dX4_load_13 : decode cX4_load 13 = .ok (.ifnull 10, 3) := by decide +kernel
theorem dX4_load_16 : decode cX4_load 16 = .ok (.aload_n 2, 1) := by decide +kernel
theorem dX4_load_17 : decode cX4_load 17 = .ok (.aload_n 0, 1) := by decide +kernel
theorem dX4_load_18 : decode cX4_load 18 = .ok (.iload_n 1, 1) := by decide +kernel
theorem dX4_load_19 : decode cX4_load 19 = .ok (.aaload, 1) := by decide +kernel
theorem dX4_load_20 : decode cX4_load 20 = .ok (.invokevirtual 43, 3) := by decide +kernel
theorem dX4_load_23 : decode cX4_load 23 = .ok (.return_, 1) := by decide +kernel
theorem dX5_init_0 : decode cX5_init 0 = .ok (.aload_n 0, 1) := by decide +kernel
theorem dX5_init_1 : decode cX5_init 1 = .ok (.invokespecial 3, 3) := by decide +kernel
theorem dX5_init_4 : decode cX5_init 4 = .ok (.aload_n 0, 1) := by decide +kernel
theorem dX5_init_5 : decode cX5_init 5 = .ok (.bipush 48, 2) := by decide +kernel
theorem dX5_init_7 : decode cX5_init 7 = .ok (.newarray .int, 2) := by decide +kernel
theorem dX5_init_9 : decode cX5_init 9 = .ok (.putfield 9, 3) := by decide +kernel
theorem dX5_init_12 : decode cX5_init 12 = .ok (.aload_n 0, 1) := by decide +kernel
theorem dX5_init_13 : decode cX5_init 13 = .ok (.bipush 48, 2) := by decide +kernel
theorem dX5_init_15 : decode cX5_init 15 = .ok (.newarray .int, 2) := by decide +kernel
theorem dX5_init_17 : decode cX5_init 17 = .ok (.putfield 15, 3) := by decide +kernel
theorem dX5_init_20 : decode cX5_init 20 = .ok (.aload_n 0, 1) := by decide +kernel
theorem dX5_init_21 : decode cX5_init 21 = .ok (.bipush 6, 2) := by decide +kernel
theorem dX5_init_23 : decode cX5_init 23 = .ok (.newarray .int, 2) := by decide +kernel
theorem dX5_init_25 : decode cX5_init 25 = .ok (.putfield 18, 3) := by decide +kernel
theorem dX5_init_28 : decode cX5_init 28 = .ok (.aload_n 0, 1) := by decide +kernel
theorem dX5_init_29 : decode cX5_init 29 = .ok (.bipush 6, 2) := by decide +kernel
theorem dX5_init_31 : decode cX5_init 31 = .ok (.newarray .int, 2) := by decide +kernel
theorem dX5_init_33 : decode cX5_init 33 = .ok (.putfield 21, 3) := by decide +kernel
theorem dX5_init_36 : decode cX5_init 36 = .ok (.aload_n 0, 1) := by decide +kernel
theorem dX5_init_37 : decode cX5_init 37 = .ok (.bipush 6, 2) := by decide +kernel
theorem dX5_init_39 : decode cX5_init 39 = .ok (.newarray .int, 2) := by decide +kernel
theorem dX5_init_41 : decode cX5_init 41 = .ok (.putfield 24, 3) := by decide +kernel
theorem dX5_init_44 : decode cX5_init 44 = .ok (.aload_n 0, 1) := by decide +kernel
theorem dX5_init_45 : decode cX5_init 45 = .ok (.bipush 48, 2) := by decide +kernel
theorem dX5_init_47 : decode cX5_init 47 = .ok (.newarray .int, 2) := by decide +kernel
theorem dX5_init_49 : decode cX5_init 49 = .ok (.putfield 27, 3) := by decide +kernel
theorem dX5_init_52 : decode cX5_init 52 = .ok (.aload_n 0, 1) := by decide +kernel
theorem dX5_init_53 : decode cX5_init 53 = .ok (.invokevirtual 30, 3) := by decide +kernel
theorem dX5_init_56 : decode cX5_init 56 = .ok (.aload_n 0, 1) := by decide +kernel
theorem dX5_init_57 : decode cX5_init 57 = .ok (.invokevirtual 33, 3) := by decide +kernel
theorem dX5_init_60 : decode cX5_init 60 = .ok (.return_, 1) := by decide +kernel
theorem dX5_clear_0 : decode cX5_clear 0 = .ok (.aload_n 0, 1) := by decide +kernel
theorem dX5_clear_1 : decode cX5_clear 1 = .ok (.bipush 6, 2) := by decide +kernel
theorem dX5_clear_3 : decode cX5_clear 3 = .ok (.putfield 36, 3) := by decide +kernel
theorem dX5_clear_6 : decode cX5_clear 6 = .ok (.aload_n 0, 1) := by decide +kernel
theorem dX5_clear_7 : decode cX5_clear 7 = .ok (.iconst 4, 1) := by decide +kernel
theorem dX5_clear_8 : decode cX5_clear 8 = .ok (.putfield 40, 3) := by decide +kernel
theorem dX5_clear_11 : decode cX5_clear 11 = .ok (.aload_n 0, 1) := by decide +kernel
theorem dX5_clear_12 : decode cX5_clear 12 = .ok (.getfield 9, 3) := by decide +kernel
theorem dX5_clear_15 : decode cX5_clear 15 = .ok (.iconst 0, 1) := by decide +kernel
theorem dX5_clear_16 : decode cX5_clear 16 = .ok (.invokestatic 43, 3) := by decide +kernel
theorem dX5_clear_19 : decode cX5_clear 19 = .ok (.aload_n 0, 1) := by decide +kernel
theorem dX5_clear_20 : decode cX5_clear 20 = .ok (.getfield 15, 3) := by decide +kernel
theorem dX5_clear_23 : decode cX5_clear 23 = .ok (.iconst 0, 1) := by decide +kernel
theorem dX5_clear_24 : decode cX5_clear 24 = .ok (.invokestatic 43, 3) := by decide +kernel
theorem dX5_clear_27 : decode cX5_clear 27 = .ok (.aload_n 0, 1) := by decide +kernel
theorem dX5_clear_28 : decode cX5_clear 28 = .ok (.getfield 18, 3) := by decide +kernel
theorem dX5_clear_31 : decode cX5_clear 31 = .ok (.iconst 1, 1) := by decide +kernel
theorem dX5_clear_32 : decode cX5_clear 32 = .ok (.invokestatic 43, 3) := by decide +kernel
theorem dX5_clear_35 : decode cX5_clear 35 = .ok (.aload_n 0, 1) := by decide +kernel
theorem dX5_clear_36 : decode cX5_clear 36 = .ok (.lconst 0, 1) := by decide +kernel
theorem dX5_clear_37 : decode cX5_clear 37 = .ok (.putfield 49, 3) := by decide +kernel
theorem dX5_clear_40 : decode cX5_clear 40 = .ok (.aload_n 0, 1) := by decide +kernel
theorem dX5_clear_41 : decode cX5_clear 41 = .ok (.iconst 0, 1) := by decide +kernel
theorem dX5_clear_42 : decode cX5_clear 42 = .ok (.putfield 53, 3) := by decide +kernel
theorem dX5_clear_45 : decode cX5_clear 45 = .ok (.aload_n 0, 1) := by decide +kernel
theorem dX5_clear_46 : decode cX5_clear 46 = .ok (.iconst 4, 1) := by decide +kernel
theorem dX5_clear_47 : decode cX5_clear 47 = .ok (.putfield 56, 3) := by decide +kernel
theorem dX5_clear_50 : decode cX5_clear 50 = .ok (.aload_n 0, 1) := by decide +kernel
theorem dX5_clear_51 : decode cX5_clear 51 = .ok (.iconst 5, 1) := by decide +kernel
theorem dX5_clear_52 : decode cX5_clear 52 = .ok (.putfield 59, 3) := by decide +kernel
theorem dX5_clear_55 : decode cX5_clear 55 = .ok (.aload_n 0, 1) := by decide +kernel
theorem dX5_clear_56 : decode cX5_clear 56 = .ok (.iconst 0, 1) := by decide +kernel
theorem dX5_clear_57 : decode cX5_clear 57 = .ok (.putfield 62, 3) := by decide +kernel
theorem dX5_clear_60 : decode cX5_clear 60 = .ok (.return_, 1) := by decide +kernel
theorem dX5_tellAll_0 : decode cX5_tellAll 0 = .ok (.aload_n 0, 1) := by decide +kernel
theorem dX5_tellAll_1 : decode cX5_tellAll 1 = .ok (.lconst 0, 1) := by decide +kernel
theorem dX5_tellAll_2 : decode cX5_tellAll 2 = .ok (.putfield 65, 3) := by decide +kernel
theorem dX5_tellAll_5 : decode cX5_tellAll 5 = .ok (.iconst 0, 1) := by decide +kernel
theorem dX5_tellAll_6 : decode cX5_tellAll 6 = .ok (.istore_n 1, 1) := by decide +kernel
theorem dX5_tellAll_7 : decode cX5_tellAll 7 = .ok (.iload_n 1, 1) := by decide +kernel
theorem dX5_tellAll_8 : decode cX5_tellAll 8 = .ok (.aload_n 0, 1) := by decide +kernel
theorem dX5_tellAll_9 : decode cX5_tellAll 9 = .ok (.getfield 40, 3) := by decide +kernel
theorem dX5_tellAll_12 : decode cX5_tellAll 12 = .ok (.if_icmp .ge 31, 3) := by decide +kernel
theorem dX5_tellAll_15 : decode cX5_tellAll 15 = .ok (.aload_n 0, 1) := by decide +kernel
theorem dX5_tellAll_16 : decode cX5_tellAll 16 = .ok (.dup, 1) := by decide +kernel
theorem dX5_tellAll_17 : decode cX5_tellAll 17 = .ok (.getfield 65, 3) := by decide +kernel
theorem dX5_tellAll_20 : decode cX5_tellAll 20 = .ok (.lconst 1, 1) := by decide +kernel
theorem dX5_tellAll_21 : decode cX5_tellAll 21 = .ok (.aload_n 0, 1) := by decide +kernel
theorem dX5_tellAll_22 : decode cX5_tellAll 22 = .ok (.getfield 36, 3) := by decide +kernel
theorem dX5_tellAll_25 : decode cX5_tellAll 25 = .ok (.lshl, 1) := by decide +kernel
theorem dX5_tellAll_26 : decode cX5_tellAll 26 = .ok (.lconst 1, 1) := by decide +kernel
theorem dX5_tellAll_27 : decode cX5_tellAll 27 = .ok (.lsub, 1) := by decide +kernel
theorem dX5_tellAll_28 : decode cX5_tellAll 28 = .ok (.bipush 8, 2) := by decide +kernel
theorem dX5_tellAll_30 : decode cX5_tellAll 30 = .ok (.iload_n 1, 1) := by decide +kernel
theorem dX5_tellAll_31 : decode cX5_tellAll 31 = .ok (.imul, 1) := by decide +kernel
theorem dX5_tellAll_32 : decode cX5_tellAll 32 = .ok (.lshl, 1) := by decide +kernel
theorem dX5_tellAll_33 : decode cX5_tellAll 33 = .ok (.lor, 1) := by decide +kernel
theorem dX5_tellAll_34 : decode cX5_tellAll 34 = .ok (.putfield 65, 3) := by decide +kernel
theorem dX5_tellAll_37 : decode cX5_tellAll 37 = .ok (.iinc 1 1, 3) := by decide +kernel
theorem dX5_tellAll_40 : decode cX5_tellAll 40 = .ok (.goto (-33), 3) := by decide +kernel
theorem dX5_tellAll_43 : decode cX5_tellAll 43 = .ok (.return_, 1) := by decide +kernel
theorem dX5_copyFrom_0 : decode cX5_copyFrom 0 = .ok (.aload_n 0, 1) := by decide +kernel
theorem dX5_copyFrom_1 : decode cX5_copyFrom 1 = .ok (.aload_n 1, 1) := by decide +kernel
theorem dX5_copyFrom_2 : decode cX5_copyFrom 2 = .ok (.getfield 36, 3) := by decide +kernel
theorem dX5_copyFrom_5 : decode cX5_copyFrom 5 = .ok (.putfield 36, 3) := by decide +kernel
theorem dX5_copyFrom_8 : decode cX5_copyFrom 8 = .ok (.aload_n 0, 1) := by decide +kernel
theorem dX5_copyFrom_9 : decode cX5_copyFrom 9 = .ok (.aload_n 1, 1) := by decide +kernel
theorem dX5_copyFrom_10 : decode cX5_copyFrom 10 = .ok (.getfield 40, 3) := by decide +kernel
theorem dX5_copyFrom_13 : decode cX5_copyFrom 13 = .ok (.putfield 40, 3) := by decide +kernel
theorem dX5_copyFrom_16 : decode cX5_copyFrom 16 = .ok (.aload_n 1, 1) := by decide +kernel
theorem dX5_copyFrom_17 : decode cX5_copyFrom 17 = .ok (.getfield 9, 3) := by decide +kernel
theorem dX5_copyFrom_20 : decode cX5_copyFrom 20 = .ok (.iconst 0, 1) := by decide +kernel
theorem dX5_copyFrom_21 : decode cX5_copyFrom 21 = .ok (.aload_n 0, 1) := by decide +kernel
theorem dX5_copyFrom_22 : decode cX5_copyFrom 22 = .ok (.getfield 9, 3) := by decide +kernel
theorem dX5_copyFrom_25 : decode cX5_copyFrom 25 = .ok (.iconst 0, 1) := by decide +kernel
theorem dX5_copyFrom_26 : decode cX5_copyFrom 26 = .ok (.bipush 48, 2) := by decide +kernel
theorem dX5_copyFrom_28 : decode cX5_copyFrom 28 = .ok (.invokestatic 68, 3) := by decide +kernel
theorem dX5_copyFrom_31 : decode cX5_copyFrom 31 = .ok (.aload_n 1, 1) := by decide +kernel
theorem dX5_copyFrom_32 : decode cX5_copyFrom 32 = .ok (.getfield 15, 3) := by decide +kernel
theorem dX5_copyFrom_35 : decode cX5_copyFrom 35 = .ok (.iconst 0, 1) := by decide +kernel
theorem dX5_copyFrom_36 : decode cX5_copyFrom 36 = .ok (.aload_n 0, 1) := by decide +kernel
theorem dX5_copyFrom_37 : decode cX5_copyFrom 37 = .ok (.getfield 15, 3) := by decide +kernel
theorem dX5_copyFrom_40 : decode cX5_copyFrom 40 = .ok (.iconst 0, 1) := by decide +kernel
theorem dX5_copyFrom_41 : decode cX5_copyFrom 41 = .ok (.bipush 48, 2) := by decide +kernel
theorem dX5_copyFrom_43 : decode cX5_copyFrom 43 = .ok (.invokestatic 68, 3) := by decide +kernel
theorem dX5_copyFrom_46 : decode cX5_copyFrom 46 = .ok (.aload_n 1, 1) := by decide +kernel
theorem dX5_copyFrom_47 : decode cX5_copyFrom 47 = .ok (.getfield 18, 3) := by decide +kernel
theorem dX5_copyFrom_50 : decode cX5_copyFrom 50 = .ok (.iconst 0, 1) := by decide +kernel
theorem dX5_copyFrom_51 : decode cX5_copyFrom 51 = .ok (.aload_n 0, 1) := by decide +kernel
theorem dX5_copyFrom_52 : decode cX5_copyFrom 52 = .ok (.getfield 18, 3) := by decide +kernel
theorem dX5_copyFrom_55 : decode cX5_copyFrom 55 = .ok (.iconst 0, 1) := by decide +kernel
theorem dX5_copyFrom_56 : decode cX5_copyFrom 56 = .ok (.bipush 6, 2) := by decide +kernel
theorem dX5_copyFrom_58 : decode cX5_copyFrom 58 = .ok (.invokestatic 68, 3) := by decide +kernel
theorem dX5_copyFrom_61 : decode cX5_copyFrom 61 = .ok (.aload_n 0, 1) := by decide +kernel
theorem dX5_copyFrom_62 : decode cX5_copyFrom 62 = .ok (.aload_n 1, 1) := by decide +kernel
theorem dX5_copyFrom_63 : decode cX5_copyFrom 63 = .ok (.getfield 65, 3) := by decide +kernel
theorem dX5_copyFrom_66 : decode cX5_copyFrom 66 = .ok (.putfield 65, 3) := by decide +kernel
theorem dX5_copyFrom_69 : decode cX5_copyFrom 69 = .ok (.aload_n 0, 1) := by decide +kernel
theorem dX5_copyFrom_70 : decode cX5_copyFrom 70 = .ok (.aload_n 1, 1) := by decide +kernel
theorem dX5_copyFrom_71 : decode cX5_copyFrom 71 = .ok (.getfield 49, 3) := by decide +kernel
theorem dX5_copyFrom_74 : decode cX5_copyFrom 74 = .ok (.putfield 49, 3) := by decide +kernel
theorem dX5_copyFrom_77 : decode cX5_copyFrom 77 = .ok (.aload_n 0, 1) := by decide +kernel
theorem dX5_copyFrom_78 : decode cX5_copyFrom 78 = .ok (.aload_n 1, 1) := by decide +kernel
theorem dX5_copyFrom_79 : decode cX5_copyFrom 79 = .ok (.getfield 53, 3) := by decide +kernel
theorem dX5_copyFrom_82 : decode cX5_copyFrom 82 = .ok (.putfield 53, 3) := by decide +kernel
theorem dX5_copyFrom_85 : decode cX5_copyFrom 85 = .ok (.aload_n 0, 1) := by decide +kernel
theorem dX5_copyFrom_86 : decode cX5_copyFrom 86 = .ok (.aload_n 1, 1) := by decide +kernel
theorem dX5_copyFrom_87 : decode cX5_copyFrom 87 = .ok (.getfield 56, 3) := by decide +kernel
theorem dX5_copyFrom_90 : decode cX5_copyFrom 90 = .ok (.putfield 56, 3) := by decide +kernel
theorem dX5_copyFrom_93 : decode cX5_copyFrom 93 = .ok (.aload_n 0, 1) := by decide +kernel
theorem dX5_copyFrom_94 : decode cX5_copyFrom 94 = .ok (.aload_n 1, 1) := by decide +kernel
theorem dX5_copyFrom_95 : decode cX5_copyFrom 95 = .ok (.getfield 59, 3) := by decide +kernel
theorem dX5_copyFrom_98 : decode cX5_copyFrom 98 = .ok (.putfield 59, 3) := by decide +kernel
theorem dX5_copyFrom_101 : decode cX5_copyFrom 101 = .ok (.aload_n 0, 1) := by decide +kernel
theorem dX5_copyFrom_102 : decode cX5_copyFrom 102 = .ok (.aload_n 1, 1) := by decide +kernel
theorem dX5_copyFrom_103 : decode cX5_copyFrom 103 = .ok (.getfield 62, 3) := by decide +kernel
theorem dX5_copyFrom_106 : decode cX5_copyFrom 106 = .ok (.putfield 62, 3) := by decide +kernel
theorem dX5_copyFrom_109 : decode cX5_copyFrom 109 = .ok (.aload_n 1, 1) := by decide +kernel
theorem dX5_copyFrom_110 : decode cX5_copyFrom 110 = .ok (.getfield 21, 3) := by decide +kernel
theorem dX5_copyFrom_113 : decode cX5_copyFrom 113 = .ok (.iconst 0, 1) := by decide +kernel
theorem dX5_copyFrom_114 : decode cX5_copyFrom 114 = .ok (.aload_n 0, 1) := by decide +kernel
theorem dX5_copyFrom_115 : decode cX5_copyFrom 115 = .ok (.getfield 21, 3) := by decide +kernel
theorem dX5_copyFrom_118 : decode cX5_copyFrom 118 = .ok (.iconst 0, 1) := by decide +kernel
theorem dX5_copyFrom_119 : decode cX5_copyFrom 119 = .ok (.bipush 6, 2) := by decide +kernel
theorem dX5_copyFrom_121 : decode cX5_copyFrom 121 = .ok (.invokestatic 68, 3) := by decide +kernel
theorem dX5_copyFrom_124 : decode cX5_copyFrom 124 = .ok (.aload_n 1, 1) := by decide +kernel
theorem dX5_copyFrom_125 : decode cX5_copyFrom 125 = .ok (.getfield 24, 3) := by decide +kernel
theorem dX5_copyFrom_128 : decode cX5_copyFrom 128 = .ok (.iconst 0, 1) := by decide +kernel
theorem dX5_copyFrom_129 : decode cX5_copyFrom 129 = .ok (.aload_n 0, 1) := by decide +kernel
theorem dX5_copyFrom_130 : decode cX5_copyFrom 130 = .ok (.getfield 24, 3) := by decide +kernel
theorem dX5_copyFrom_133 : decode cX5_copyFrom 133 = .ok (.iconst 0, 1) := by decide +kernel
theorem dX5_copyFrom_134 : decode cX5_copyFrom 134 = .ok (.bipush 6, 2) := by decide +kernel
theorem dX5_copyFrom_136 : decode cX5_copyFrom 136 = .ok (.invokestatic 68, 3) := by decide +kernel
theorem dX5_copyFrom_139 : decode cX5_copyFrom 139 = .ok (.aload_n 1, 1) := by decide +kernel
theorem dX5_copyFrom_140 : decode cX5_copyFrom 140 = .ok (.getfield 27, 3) := by decide +kernel
theorem dX5_copyFrom_143 : decode cX5_copyFrom 143 = .ok (.iconst 0, 1) := by decide +kernel
theorem dX5_copyFrom_144 : decode cX5_copyFrom 144 = .ok (.aload_n 0, 1) := by decide +kernel
theorem dX5_copyFrom_145 : decode cX5_copyFrom 145 = .ok (.getfield 27, 3) := by decide +kernel
theorem dX5_copyFrom_148 : decode cX5_copyFrom 148 = .ok (.iconst 0, 1) := by decide +kernel
theorem dX5_copyFrom_149 : decode cX5_copyFrom 149 = .ok (.bipush 48, 2) := by decide +kernel
theorem dX5_copyFrom_151 : decode cX5_copyFrom 151 = .ok (.invokestatic 68, 3) := by decide +kernel
theorem dX5_copyFrom_154 : decode cX5_copyFrom 154 = .ok (.return_, 1) := by decide +kernel
theorem dX5_read_0 : decode cX5_read 0 = .ok (.aload_n 0, 1) := by decide +kernel
theorem dX5_read_1 : decode cX5_read 1 = .ok (.invokevirtual 30, 3) := by decide +kernel
theorem dX5_read_4 : decode cX5_read 4 = .ok (.iconst 0, 1) := by decide +kernel
theorem dX5_read_5 : decode cX5_read 5 = .ok (.istore_n 2, 1) := by decide +kernel
theorem dX5_read_6 : decode cX5_read 6 = .ok (.iload_n 2, 1) := by decide +kernel
theorem dX5_read_7 : decode cX5_read 7 = .ok (.sipush 600, 3) := by decide +kernel
theorem dX5_read_10 : decode cX5_read 10 = .ok (.if_icmp .ge 28, 3) := by decide +kernel
theorem dX5_read_13 : decode cX5_read 13 = .ok (.aload_n 1, 1) := by decide +kernel
theorem dX5_read_14 : decode cX5_read 14 = .ok (.invokevirtual 74, 3) := by decide +kernel
theorem dX5_read_17 : decode cX5_read 17 = .ok (.ifCond .eq 21, 3) := by decide +kernel
theorem dX5_read_20 : decode cX5_read 20 = .ok (.aload_n 0, 1) := by decide +kernel
theorem dX5_read_21 : decode cX5_read 21 = .ok (.aload_n 1, 1) := by decide +kernel
theorem dX5_read_22 : decode cX5_read 22 = .ok (.iload_n 2, 1) := by decide +kernel
theorem dX5_read_23 : decode cX5_read 23 = .ok (.invokevirtual 80, 3) := by decide +kernel
theorem dX5_read_26 : decode cX5_read 26 = .ok (.aload_n 1, 1) := by decide +kernel
theorem dX5_read_27 : decode cX5_read 27 = .ok (.bipush 59, 2) := by decide +kernel
theorem dX5_read_29 : decode cX5_read 29 = .ok (.invokevirtual 84, 3) := by decide +kernel
theorem dX5_read_32 : decode cX5_read 32 = .ok (.iinc 2 1, 3) := by decide +kernel
theorem dX5_read_35 : decode cX5_read 35 = .ok (.goto (-29), 3) := by decide +kernel
theorem dX5_read_38 : decode cX5_read 38 = .ok (.aload_n 0, 1) := by decide +kernel
theorem dX5_read_39 : decode cX5_read 39 = .ok (.invokevirtual 33, 3) := by decide +kernel
theorem dX5_read_42 : decode cX5_read 42 = .ok (.return_, 1) := by decide +kernel
theorem dX5_readClause_0 : decode cX5_readClause 0 = .ok (.aload_n 1, 1) := by decide +kernel
theorem dX5_readClause_1 : decode cX5_readClause 1 = .ok (.ldc 88, 2) := by decide +kernel
theorem dX5_readClause_3 : decode cX5_readClause 3 = .ok (.invokevirtual 90, 3) := by decide +kernel
theorem dX5_readClause_6 : decode cX5_readClause 6 = .ok (.istore_n 3, 1) := by decide +kernel
theorem dX5_readClause_7 : decode cX5_readClause 7 = .ok (.iload_n 2, 1) := by decide +kernel
theorem dX5_readClause_8 : decode cX5_readClause 8 = .ok (.bipush 60, 2) := by decide +kernel
theorem dX5_readClause_10 : decode cX5_readClause 10 = .ok (.if_icmp .lt 12, 3) := by decide +kernel
theorem dX5_readClause_13 : decode cX5_readClause 13 = .ok (.aload_n 1, 1) := by decide +kernel
theorem dX5_readClause_14 : decode cX5_readClause 14 = .ok (.iconst 3, 1) := by decide +kernel
theorem dX5_readClause_15 : decode cX5_readClause 15 = .ok (.aload_n 1, 1) := by decide +kernel
theorem dX5_readClause_16 : decode cX5_readClause 16 = .ok (.getfield 94, 3) := by decide +kernel
theorem dX5_readClause_19 : decode cX5_readClause 19 = .ok (.invokevirtual 97, 3) := by decide +kernel
theorem dX5_readClause_22 : decode cX5_readClause 22 = .ok (.aload_n 1, 1) := by decide +kernel
theorem dX5_readClause_23 : decode cX5_readClause 23 = .ok (.invokevirtual 101, 3) := by decide +kernel
theorem dX5_readClause_26 : decode cX5_readClause 26 = .ok (.ifCond .ne 4, 3) := by decide +kernel
theorem dX5_readClause_29 : decode cX5_readClause 29 = .ok (.return_, 1) := by decide +kernel
theorem dX5_readClause_30 : decode cX5_readClause 30 = .ok (.iload_n 3, 1) := by decide +kernel
theorem dX5_readClause_31 : decode cX5_readClause 31 = .ok (.tableswitch 110 0 6 #[41, 50, 58, 66, 74, 88, 102], 41) := by decide +kernel
theorem dX5_readClause_72 : decode cX5_readClause 72 = .ok (.aload_n 0, 1) := by decide +kernel
theorem dX5_readClause_73 : decode cX5_readClause 73 = .ok (.aload_n 1, 1) := by decide +kernel
theorem dX5_readClause_74 : decode cX5_readClause 74 = .ok (.iload_n 2, 1) := by decide +kernel
theorem dX5_readClause_75 : decode cX5_readClause 75 = .ok (.invokevirtual 104, 3) := by decide +kernel
theorem dX5_readClause_78 : decode cX5_readClause 78 = .ok (.goto 68, 3) := by decide +kernel
theorem dX5_readClause_81 : decode cX5_readClause 81 = .ok (.aload_n 0, 1) := by decide +kernel
theorem dX5_readClause_82 : decode cX5_readClause 82 = .ok (.aload_n 1, 1) := by decide +kernel
theorem dX5_readClause_83 : decode cX5_readClause 83 = .ok (.invokevirtual 107, 3) := by decide +kernel
theorem dX5_readClause_86 : decode cX5_readClause 86 = .ok (.goto 60, 3) := by decide +kernel
theorem dX5_readClause_89 : decode cX5_readClause 89 = .ok (.aload_n 0, 1) := by decide +kernel
theorem dX5_readClause_90 : decode cX5_readClause 90 = .ok (.aload_n 1, 1) := by decide +kernel
theorem dX5_readClause_91 : decode cX5_readClause 91 = .ok (.invokevirtual 111, 3) := by decide +kernel
theorem dX5_readClause_94 : decode cX5_readClause 94 = .ok (.goto 52, 3) := by decide +kernel
theorem dX5_readClause_97 : decode cX5_readClause 97 = .ok (.aload_n 0, 1) := by decide +kernel
theorem dX5_readClause_98 : decode cX5_readClause 98 = .ok (.aload_n 1, 1) := by decide +kernel
theorem dX5_readClause_99 : decode cX5_readClause 99 = .ok (.invokevirtual 114, 3) := by decide +kernel
theorem dX5_readClause_102 : decode cX5_readClause 102 = .ok (.goto 44, 3) := by decide +kernel
theorem dX5_readClause_105 : decode cX5_readClause 105 = .ok (.aload_n 0, 1) := by decide +kernel
theorem dX5_readClause_106 : decode cX5_readClause 106 = .ok (.aload_n 1, 1) := by decide +kernel
theorem dX5_readClause_107 : decode cX5_readClause 107 = .ok (.iconst 1, 1) := by decide +kernel
theorem dX5_readClause_108 : decode cX5_readClause 108 = .ok (.bipush 9, 2) := by decide +kernel
theorem dX5_readClause_110 : decode cX5_readClause 110 = .ok (.invokevirtual 117, 3) := by decide +kernel
theorem dX5_readClause_113 : decode cX5_readClause 113 = .ok (.putfield 56, 3) := by decide +kernel
theorem dX5_readClause_116 : decode cX5_readClause 116 = .ok (.goto 30, 3) := by decide +kernel
theorem dX5_readClause_119 : decode cX5_readClause 119 = .ok (.aload_n 0, 1) := by decide +kernel
theorem dX5_readClause_120 : decode cX5_readClause 120 = .ok (.aload_n 1, 1) := by decide +kernel
theorem dX5_readClause_121 : decode cX5_readClause 121 = .ok (.iconst 0, 1) := by decide +kernel
theorem dX5_readClause_122 : decode cX5_readClause 122 = .ok (.bipush 20, 2) := by decide +kernel
theorem dX5_readClause_124 : decode cX5_readClause 124 = .ok (.invokevirtual 117, 3) := by decide +kernel
theorem dX5_readClause_127 : decode cX5_readClause 127 = .ok (.putfield 59, 3) := by decide +kernel
theorem dX5_readClause_130 : decode cX5_readClause 130 = .ok (.goto 16, 3) := by decide +kernel
theorem dX5_readClause_133 : decode cX5_readClause 133 = .ok (.aload_n 0, 1) := by decide +kernel
theorem dX5_readClause_134 : decode cX5_readClause 134 = .ok (.aload_n 1, 1) := by decide +kernel
theorem dX5_readClause_135 : decode cX5_readClause 135 = .ok (.invokevirtual 121, 3) := by decide +kernel
theorem dX5_readClause_138 : decode cX5_readClause 138 = .ok (.goto 8, 3) := by decide +kernel
theorem dX5_readClause_141 : decode cX5_readClause 141 = .ok (.aload_n 0, 1) := by decide +kernel
theorem dX5_readClause_142 : decode cX5_readClause 142 = .ok (.aload_n 1, 1) := by decide +kernel
theorem dX5_readClause_143 : decode cX5_readClause 143 = .ok (.invokevirtual 124, 3) := by decide +kernel
theorem dX5_readClause_146 : decode cX5_readClause 146 = .ok (.return_, 1) := by decide +kernel
theorem dX5_readSize_0 : decode cX5_readSize 0 = .ok (.iload_n 2, 1) := by decide +kernel
theorem dX5_readSize_1 : decode cX5_readSize 1 = .ok (.ifCond .le 13, 3) := by decide +kernel
theorem dX5_readSize_4 : decode cX5_readSize 4 = .ok (.aload_n 1, 1) := by decide +kernel
theorem dX5_readSize_5 : decode cX5_readSize 5 = .ok (.iconst 4, 1) := by decide +kernel
theorem dX5_readSize_6 : decode cX5_readSize 6 = .ok (.aload_n 1, 1) := by decide +kernel
theorem dX5_readSize_7 : decode cX5_readSize 7 = .ok (.getfield 94, 3) := by decide +kernel
theorem dX5_readSize_10 : decode cX5_readSize 10 = .ok (.invokevirtual 97, 3) := by decide +kernel
theorem dX5_readSize_13 : decode cX5_readSize 13 = .ok (.return_, 1) := by decide +kernel
theorem dX5_readSize_14 : decode cX5_readSize 14 = .ok (.aload_n 0, 1) := by decide +kernel
theorem dX5_readSize_15 : decode cX5_readSize 15 = .ok (.aload_n 1, 1) := by decide +kernel
theorem dX5_readSize_16 : decode cX5_readSize 16 = .ok (.iconst 1, 1) := by decide +kernel
theorem dX5_readSize_17 : decode cX5_readSize 17 = .ok (.bipush 8, 2) := by decide +kernel
theorem dX5_readSize_19 : decode cX5_readSize 19 = .ok (.invokevirtual 117, 3) := by decide +kernel
theorem dX5_readSize_22 : decode cX5_readSize 22 = .ok (.putfield 36, 3) := by decide +kernel
theorem dX5_readSize_25 : decode cX5_readSize 25 = .ok (.aload_n 0, 1) := by decide +kernel
theorem dX5_readSize_26 : decode cX5_readSize 26 = .ok (.aload_n 1, 1) := by decide +kernel
theorem dX5_readSize_27 : decode cX5_readSize 27 = .ok (.iconst 1, 1) := by decide +kernel
theorem dX5_readSize_28 : decode cX5_readSize 28 = .ok (.bipush 6, 2) := by decide +kernel
theorem dX5_readSize_30 : decode cX5_readSize 30 = .ok (.invokevirtual 117, 3) := by decide +kernel
theorem dX5_readSize_33 : decode cX5_readSize 33 = .ok (.putfield 40, 3) := by decide +kernel
theorem dX5_readSize_36 : decode cX5_readSize 36 = .ok (.return_, 1) := by decide +kernel
theorem dX5_readSeam_0 : decode cX5_readSeam 0 = .ok (.aload_n 1, 1) := by decide +kernel
theorem dX5_readSeam_1 : decode cX5_readSeam 1 = .ok (.iconst 0, 1) := by decide +kernel
theorem dX5_readSeam_2 : decode cX5_readSeam 2 = .ok (.aload_n 0, 1) := by decide +kernel
theorem dX5_readSeam_3 : decode cX5_readSeam 3 = .ok (.getfield 36, 3) := by decide +kernel
theorem dX5_readSeam_6 : decode cX5_readSeam 6 = .ok (.iconst 1, 1) := by decide +kernel
theorem dX5_readSeam_7 : decode cX5_readSeam 7 = .ok (.isub, 1) := by decide +kernel
theorem dX5_readSeam_8 : decode cX5_readSeam 8 = .ok (.invokevirtual 117, 3) := by decide +kernel
theorem dX5_readSeam_11 : decode cX5_readSeam 11 = .ok (.istore_n 2, 1) := by decide +kernel
theorem dX5_readSeam_12 : decode cX5_readSeam 12 = .ok (.aload_n 1, 1) := by decide +kernel
theorem dX5_readSeam_13 : decode cX5_readSeam 13 = .ok (.iconst 0, 1) := by decide +kernel
theorem dX5_readSeam_14 : decode cX5_readSeam 14 = .ok (.aload_n 0, 1) := by decide +kernel
theorem dX5_readSeam_15 : decode cX5_readSeam 15 = .ok (.getfield 40, 3) := by decide +kernel
theorem dX5_readSeam_18 : decode cX5_readSeam 18 = .ok (.iconst 1, 1) := by decide +kernel
theorem dX5_readSeam_19 : decode cX5_readSeam 19 = .ok (.isub, 1) := by decide +kernel
theorem dX5_readSeam_20 : decode cX5_readSeam 20 = .ok (.invokevirtual 117, 3) := by decide +kernel
theorem dX5_readSeam_23 : decode cX5_readSeam 23 = .ok (.istore_n 3, 1) := by decide +kernel
theorem dX5_readSeam_24 : decode cX5_readSeam 24 = .ok (.aload_n 1, 1) := by decide +kernel
theorem dX5_readSeam_25 : decode cX5_readSeam 25 = .ok (.iconst 1, 1) := by decide +kernel
theorem dX5_readSeam_26 : decode cX5_readSeam 26 = .ok (.aload_n 0, 1) := by decide +kernel
theorem dX5_readSeam_27 : decode cX5_readSeam 27 = .ok (.getfield 36, 3) := by decide +kernel
theorem dX5_readSeam_30 : decode cX5_readSeam 30 = .ok (.iload_n 2, 1) := by decide +kernel
theorem dX5_readSeam_31 : decode cX5_readSeam 31 = .ok (.isub, 1) := by decide +kernel
theorem dX5_readSeam_32 : decode cX5_readSeam 32 = .ok (.invokevirtual 117, 3) := by decide +kernel
theorem dX5_readSeam_35 : decode cX5_readSeam 35 = .ok (.istore 4, 2) := by decide +kernel
theorem dX5_readSeam_37 : decode cX5_readSeam 37 = .ok (.aload_n 1, 1) := by decide +kernel
theorem dX5_readSeam_38 : decode cX5_readSeam 38 = .ok (.iconst 1, 1) := by decide +kernel
theorem dX5_readSeam_39 : decode cX5_readSeam 39 = .ok (.aload_n 0, 1) := by decide +kernel
theorem dX5_readSeam_40 : decode cX5_readSeam 40 = .ok (.getfield 40, 3) := by decide +kernel
theorem dX5_readSeam_43 : decode cX5_readSeam 43 = .ok (.iload_n 3, 1) := by decide +kernel
theorem dX5_readSeam_44 : decode cX5_readSeam 44 = .ok (.isub, 1) := by decide +kernel
theorem dX5_readSeam_45 : decode cX5_readSeam 45 = .ok (.invokevirtual 117, 3) := by decide +kernel
theorem dX5_readSeam_48 : decode cX5_readSeam 48 = .ok (.istore 5, 2) := by decide +kernel
theorem dX5_readSeam_50 : decode cX5_readSeam 50 = .ok (.aload_n 1, 1) := by decide +kernel
theorem dX5_readSeam_51 : decode cX5_readSeam 51 = .ok (.iconst 1, 1) := by decide +kernel
theorem dX5_readSeam_52 : decode cX5_readSeam 52 = .ok (.iconst 4, 1) := by decide +kernel
theorem dX5_readSeam_53 : decode cX5_readSeam 53 = .ok (.invokevirtual 117, 3) := by decide +kernel
theorem dX5_readSeam_56 : decode cX5_readSeam 56 = .ok (.istore 6, 2) := by decide +kernel
theorem dX5_readSeam_58 : decode cX5_readSeam 58 = .ok (.aload_n 1, 1) := by decide +kernel
theorem dX5_readSeam_59 : decode cX5_readSeam 59 = .ok (.iconst 1, 1) := by decide +kernel
