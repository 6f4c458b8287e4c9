theorem dX11_readSum_43 : decode cX11_readSum 43 = .ok (.istore_n 1, 1) := by decide +kernel
theorem dX11_readSum_44 : decode cX11_readSum 44 = .ok (.aload_n 0, 1) := by decide +kernel
theorem dX11_readSum_45 : decode cX11_readSum 45 = .ok (.dup, 1) := by decide +kernel
theorem dX11_readSum_46 : decode cX11_readSum 46 = .ok (.getfield 127, 3) := by decide +kernel
theorem dX11_readSum_49 : decode cX11_readSum 49 = .ok (.iconst 1, 1) := by decide +kernel
theorem dX11_readSum_50 : decode cX11_readSum 50 = .ok (.iadd, 1) := by decide +kernel
theorem dX11_readSum_51 : decode cX11_readSum 51 = .ok (.putfield 127, 3) := by decide +kernel
theorem dX11_readSum_54 : decode cX11_readSum 54 = .ok (.aload_n 0, 1) := by decide +kernel
theorem dX11_readSum_55 : decode cX11_readSum 55 = .ok (.invokevirtual 279, 3) := by decide +kernel
theorem dX11_readSum_58 : decode cX11_readSum 58 = .ok (.aload_n 0, 1) := by decide +kernel
theorem dX11_readSum_59 : decode cX11_readSum 59 = .ok (.iload_n 1, 1) := by decide +kernel
theorem dX11_readSum_60 : decode cX11_readSum 60 = .ok (.iconst 0, 1) := by decide +kernel
theorem dX11_readSum_61 : decode cX11_readSum 61 = .ok (.invokevirtual 282, 3) := by decide +kernel
theorem dX11_readSum_64 : decode cX11_readSum 64 = .ok (.goto (-60), 3) := by decide +kernel
theorem dX11_readSum_67 : decode cX11_readSum 67 = .ok (.return_, 1) := by decide +kernel
theorem dX11_readProduct_0 : decode cX11_readProduct 0 = .ok (.aload_n 0, 1) := by decide +kernel
theorem dX11_readProduct_1 : decode cX11_readProduct 1 = .ok (.invokevirtual 285, 3) := by decide +kernel
theorem dX11_readProduct_4 : decode cX11_readProduct 4 = .ok (.aload_n 0, 1) := by decide +kernel
theorem dX11_readProduct_5 : decode cX11_readProduct 5 = .ok (.invokevirtual 149, 3) := by decide +kernel
theorem dX11_readProduct_8 : decode cX11_readProduct 8 = .ok (.ifCond .eq 59, 3) := by decide +kernel
theorem dX11_readProduct_11 : decode cX11_readProduct 11 = .ok (.aload_n 0, 1) := by decide +kernel
theorem dX11_readProduct_12 : decode cX11_readProduct 12 = .ok (.invokevirtual 133, 3) := by decide +kernel
theorem dX11_readProduct_15 : decode cX11_readProduct 15 = .ok (.bipush 42, 2) := by decide +kernel
theorem dX11_readProduct_17 : decode cX11_readProduct 17 = .ok (.if_icmp .eq 12, 3) := by decide +kernel
theorem dX11_readProduct_20 : decode cX11_readProduct 20 = .ok (.aload_n 0, 1) := by decide +kernel
theorem dX11_readProduct_21 : decode cX11_readProduct 21 = .ok (.invokevirtual 133, 3) := by decide +kernel
theorem dX11_readProduct_24 : decode cX11_readProduct 24 = .ok (.bipush 47, 2) := by decide +kernel
theorem dX11_readProduct_26 : decode cX11_readProduct 26 = .ok (.if_icmp .ne 41, 3) := by decide +kernel
theorem dX11_readProduct_29 : decode cX11_readProduct 29 = .ok (.aload_n 0, 1) := by decide +kernel
theorem dX11_readProduct_30 : decode cX11_readProduct 30 = .ok (.invokevirtual 133, 3) := by decide +kernel
theorem dX11_readProduct_33 : decode cX11_readProduct 33 = .ok (.bipush 42, 2) := by decide +kernel
theorem dX11_readProduct_35 : decode cX11_readProduct 35 = .ok (.if_icmp .ne 7, 3) := by decide +kernel
theorem dX11_readProduct_38 : decode cX11_readProduct 38 = .ok (.iconst 4, 1) := by decide +kernel
theorem dX11_readProduct_39 : decode cX11_readProduct 39 = .ok (.goto 4, 3) := by decide +kernel
theorem dX11_readProduct_42 : decode cX11_readProduct 42 = .ok (.iconst 5, 1) := by decide +kernel
theorem dX11_readProduct_43 : decode cX11_readProduct 43 = .ok (.istore_n 1, 1) := by decide +kernel
theorem dX11_readProduct_44 : decode cX11_readProduct 44 = .ok (.aload_n 0, 1) := by decide +kernel
theorem dX11_readProduct_45 : decode cX11_readProduct 45 = .ok (.dup, 1) := by decide +kernel
theorem dX11_readProduct_46 : decode cX11_readProduct 46 = .ok (.getfield 127, 3) := by decide +kernel
theorem dX11_readProduct_49 : decode cX11_readProduct 49 = .ok (.iconst 1, 1) := by decide +kernel
theorem dX11_readProduct_50 : decode cX11_readProduct 50 = .ok (.iadd, 1) := by decide +kernel
theorem dX11_readProduct_51 : decode cX11_readProduct 51 = .ok (.putfield 127, 3) := by decide +kernel
theorem dX11_readProduct_54 : decode cX11_readProduct 54 = .ok (.aload_n 0, 1) := by decide +kernel
theorem dX11_readProduct_55 : decode cX11_readProduct 55 = .ok (.invokevirtual 285, 3) := by decide +kernel
theorem dX11_readProduct_58 : decode cX11_readProduct 58 = .ok (.aload_n 0, 1) := by decide +kernel
theorem dX11_readProduct_59 : decode cX11_readProduct 59 = .ok (.iload_n 1, 1) := by decide +kernel
theorem dX11_readProduct_60 : decode cX11_readProduct 60 = .ok (.iconst 0, 1) := by decide +kernel
theorem dX11_readProduct_61 : decode cX11_readProduct 61 = .ok (.invokevirtual 282, 3) := by decide +kernel
theorem dX11_readProduct_64 : decode cX11_readProduct 64 = .ok (.goto (-60), 3) := by decide +kernel
theorem dX11_readProduct_67 : decode cX11_readProduct 67 = .ok (.return_, 1) := by decide +kernel
theorem dX11_readTwo_0 : decode cX11_readTwo 0 = .ok (.aload_n 0, 1) := by decide +kernel
theorem dX11_readTwo_1 : decode cX11_readTwo 1 = .ok (.iload_n 1, 1) := by decide +kernel
theorem dX11_readTwo_2 : decode cX11_readTwo 2 = .ok (.invokevirtual 288, 3) := by decide +kernel
theorem dX11_readTwo_5 : decode cX11_readTwo 5 = .ok (.aload_n 0, 1) := by decide +kernel
theorem dX11_readTwo_6 : decode cX11_readTwo 6 = .ok (.bipush 91, 2) := by decide +kernel
theorem dX11_readTwo_8 : decode cX11_readTwo 8 = .ok (.invokevirtual 269, 3) := by decide +kernel
theorem dX11_readTwo_11 : decode cX11_readTwo 11 = .ok (.aload_n 0, 1) := by decide +kernel
theorem dX11_readTwo_12 : decode cX11_readTwo 12 = .ok (.invokevirtual 291, 3) := by decide +kernel
theorem dX11_readTwo_15 : decode cX11_readTwo 15 = .ok (.aload_n 0, 1) := by decide +kernel
theorem dX11_readTwo_16 : decode cX11_readTwo 16 = .ok (.bipush 44, 2) := by decide +kernel
theorem dX11_readTwo_18 : decode cX11_readTwo 18 = .ok (.invokevirtual 269, 3) := by decide +kernel
theorem dX11_readTwo_21 : decode cX11_readTwo 21 = .ok (.aload_n 0, 1) := by decide +kernel
theorem dX11_readTwo_22 : decode cX11_readTwo 22 = .ok (.invokevirtual 291, 3) := by decide +kernel
theorem dX11_readTwo_25 : decode cX11_readTwo 25 = .ok (.aload_n 0, 1) := by decide +kernel
theorem dX11_readTwo_26 : decode cX11_readTwo 26 = .ok (.bipush 93, 2) := by decide +kernel
theorem dX11_readTwo_28 : decode cX11_readTwo 28 = .ok (.invokevirtual 269, 3) := by decide +kernel
theorem dX11_readTwo_31 : decode cX11_readTwo 31 = .ok (.aload_n 0, 1) := by decide +kernel
theorem dX11_readTwo_32 : decode cX11_readTwo 32 = .ok (.dup, 1) := by decide +kernel
theorem dX11_readTwo_33 : decode cX11_readTwo 33 = .ok (.getfield 160, 3) := by decide +kernel
theorem dX11_readTwo_36 : decode cX11_readTwo 36 = .ok (.iconst 1, 1) := by decide +kernel
theorem dX11_readTwo_37 : decode cX11_readTwo 37 = .ok (.isub, 1) := by decide +kernel
theorem dX11_readTwo_38 : decode cX11_readTwo 38 = .ok (.putfield 160, 3) := by decide +kernel
theorem dX11_readTwo_41 : decode cX11_readTwo 41 = .ok (.aload_n 0, 1) := by decide +kernel
theorem dX11_readTwo_42 : decode cX11_readTwo 42 = .ok (.iload_n 2, 1) := by decide +kernel
theorem dX11_readTwo_43 : decode cX11_readTwo 43 = .ok (.iconst 0, 1) := by decide +kernel
theorem dX11_readTwo_44 : decode cX11_readTwo 44 = .ok (.invokevirtual 282, 3) := by decide +kernel
theorem dX11_readTwo_47 : decode cX11_readTwo 47 = .ok (.return_, 1) := by decide +kernel
theorem dX11_factHere_0 : decode cX11_factHere 0 = .ok (.aload_n 0, 1) := by decide +kernel
theorem dX11_factHere_1 : decode cX11_factHere 1 = .ok (.invokevirtual 222, 3) := by decide +kernel
theorem dX11_factHere_4 : decode cX11_factHere 4 = .ok (.istore_n 1, 1) := by decide +kernel
theorem dX11_factHere_5 : decode cX11_factHere 5 = .ok (.iload_n 1, 1) := by decide +kernel
theorem dX11_factHere_6 : decode cX11_factHere 6 = .ok (.ldc_w 294, 3) := by decide +kernel
theorem dX11_factHere_9 : decode cX11_factHere 9 = .ok (.invokestatic 227, 3) := by decide +kernel
theorem dX11_factHere_12 : decode cX11_factHere 12 = .ok (.if_icmp .ne 7, 3) := by decide +kernel
theorem dX11_factHere_15 : decode cX11_factHere 15 = .ok (.iconst 0, 1) := by decide +kernel
theorem dX11_factHere_16 : decode cX11_factHere 16 = .ok (.goto 104, 3) := by decide +kernel
theorem dX11_factHere_19 : decode cX11_factHere 19 = .ok (.iload_n 1, 1) := by decide +kernel
theorem dX11_factHere_20 : decode cX11_factHere 20 = .ok (.ldc_w 295, 3) := by decide +kernel
theorem dX11_factHere_23 : decode cX11_factHere 23 = .ok (.invokestatic 227, 3) := by decide +kernel
theorem dX11_factHere_26 : decode cX11_factHere 26 = .ok (.if_icmp .ne 7, 3) := by decide +kernel
theorem dX11_factHere_29 : decode cX11_factHere 29 = .ok (.iconst 1, 1) := by decide +kernel
theorem dX11_factHere_30 : decode cX11_factHere 30 = .ok (.goto 90, 3) := by decide +kernel
theorem dX11_factHere_33 : decode cX11_factHere 33 = .ok (.iload_n 1, 1) := by decide +kernel
theorem dX11_factHere_34 : decode cX11_factHere 34 = .ok (.ldc_w 297, 3) := by decide +kernel
theorem dX11_factHere_37 : decode cX11_factHere 37 = .ok (.invokestatic 227, 3) := by decide +kernel
theorem dX11_factHere_40 : decode cX11_factHere 40 = .ok (.if_icmp .ne 7, 3) := by decide +kernel
theorem dX11_factHere_43 : decode cX11_factHere 43 = .ok (.iconst 2, 1) := by decide +kernel
theorem dX11_factHere_44 : decode cX11_factHere 44 = .ok (.goto 76, 3) := by decide +kernel
theorem dX11_factHere_47 : decode cX11_factHere 47 = .ok (.iload_n 1, 1) := by decide +kernel
theorem dX11_factHere_48 : decode cX11_factHere 48 = .ok (.ldc_w 299, 3) := by decide +kernel
theorem dX11_factHere_51 : decode cX11_factHere 51 = .ok (.invokestatic 227, 3) := by decide +kernel
theorem dX11_factHere_54 : decode cX11_factHere 54 = .ok (.if_icmp .ne 7, 3) := by decide +kernel
theorem dX11_factHere_57 : decode cX11_factHere 57 = .ok (.iconst 3, 1) := by decide +kernel
theorem dX11_factHere_58 : decode cX11_factHere 58 = .ok (.goto 62, 3) := by decide +kernel
theorem dX11_factHere_61 : decode cX11_factHere 61 = .ok (.iload_n 1, 1) := by decide +kernel
theorem dX11_factHere_62 : decode cX11_factHere 62 = .ok (.ldc_w 301, 3) := by decide +kernel
theorem dX11_factHere_65 : decode cX11_factHere 65 = .ok (.invokestatic 227, 3) := by decide +kernel
theorem dX11_factHere_68 : decode cX11_factHere 68 = .ok (.if_icmp .ne 7, 3) := by decide +kernel
theorem dX11_factHere_71 : decode cX11_factHere 71 = .ok (.iconst 4, 1) := by decide +kernel
theorem dX11_factHere_72 : decode cX11_factHere 72 = .ok (.goto 48, 3) := by decide +kernel
theorem dX11_factHere_75 : decode cX11_factHere 75 = .ok (.iload_n 1, 1) := by decide +kernel
theorem dX11_factHere_76 : decode cX11_factHere 76 = .ok (.ldc_w 303, 3) := by decide +kernel
theorem dX11_factHere_79 : decode cX11_factHere 79 = .ok (.invokestatic 227, 3) := by decide +kernel
theorem dX11_factHere_82 : decode cX11_factHere 82 = .ok (.if_icmp .ne 7, 3) := by decide +kernel
theorem dX11_factHere_85 : decode cX11_factHere 85 = .ok (.iconst 5, 1) := by decide +kernel
theorem dX11_factHere_86 : decode cX11_factHere 86 = .ok (.goto 34, 3) := by decide +kernel
theorem dX11_factHere_89 : decode cX11_factHere 89 = .ok (.iload_n 1, 1) := by decide +kernel
theorem dX11_factHere_90 : decode cX11_factHere 90 = .ok (.ldc_w 304, 3) := by decide +kernel
theorem dX11_factHere_93 : decode cX11_factHere 93 = .ok (.invokestatic 227, 3) := by decide +kernel
theorem dX11_factHere_96 : decode cX11_factHere 96 = .ok (.if_icmp .ne 8, 3) := by decide +kernel
theorem dX11_factHere_99 : decode cX11_factHere 99 = .ok (.bipush 6, 2) := by decide +kernel
theorem dX11_factHere_101 : decode cX11_factHere 101 = .ok (.goto 19, 3) := by decide +kernel
theorem dX11_factHere_104 : decode cX11_factHere 104 = .ok (.iload_n 1, 1) := by decide +kernel
theorem dX11_factHere_105 : decode cX11_factHere 105 = .ok (.ldc_w 306, 3) := by decide +kernel
theorem dX11_factHere_108 : decode cX11_factHere 108 = .ok (.invokestatic 227, 3) := by decide +kernel
theorem dX11_factHere_111 : decode cX11_factHere 111 = .ok (.if_icmp .ne 8, 3) := by decide +kernel
theorem dX11_factHere_114 : decode cX11_factHere 114 = .ok (.bipush 7, 2) := by decide +kernel
theorem dX11_factHere_116 : decode cX11_factHere 116 = .ok (.goto 4, 3) := by decide +kernel
theorem dX11_factHere_119 : decode cX11_factHere 119 = .ok (.iconst (-1), 1) := by decide +kernel
theorem dX11_factHere_120 : decode cX11_factHere 120 = .ok (.ireturn, 1) := by decide +kernel
theorem dX11_readUnit_0 : decode cX11_readUnit 0 = .ok (.aload_n 0, 1) := by decide +kernel
theorem dX11_readUnit_1 : decode cX11_readUnit 1 = .ok (.invokevirtual 149, 3) := by decide +kernel
theorem dX11_readUnit_4 : decode cX11_readUnit 4 = .ok (.ifCond .ne 4, 3) := by decide +kernel
theorem dX11_readUnit_7 : decode cX11_readUnit 7 = .ok (.return_, 1) := by decide +kernel
theorem dX11_readUnit_8 : decode cX11_readUnit 8 = .ok (.aload_n 0, 1) := by decide +kernel
theorem dX11_readUnit_9 : decode cX11_readUnit 9 = .ok (.invokevirtual 133, 3) := by decide +kernel
theorem dX11_readUnit_12 : decode cX11_readUnit 12 = .ok (.bipush 40, 2) := by decide +kernel
theorem dX11_readUnit_14 : decode cX11_readUnit 14 = .ok (.if_icmp .ne 31, 3) := by decide +kernel
theorem dX11_readUnit_17 : decode cX11_readUnit 17 = .ok (.aload_n 0, 1) := by decide +kernel
theorem dX11_readUnit_18 : decode cX11_readUnit 18 = .ok (.iconst 1, 1) := by decide +kernel
theorem dX11_readUnit_19 : decode cX11_readUnit 19 = .ok (.invokevirtual 288, 3) := by decide +kernel
theorem dX11_readUnit_22 : decode cX11_readUnit 22 = .ok (.aload_n 0, 1) := by decide +kernel
theorem dX11_readUnit_23 : decode cX11_readUnit 23 = .ok (.invokevirtual 291, 3) := by decide +kernel
theorem dX11_readUnit_26 : decode cX11_readUnit 26 = .ok (.aload_n 0, 1) := by decide +kernel
theorem dX11_readUnit_27 : decode cX11_readUnit 27 = .ok (.bipush 41, 2) := by decide +kernel
theorem dX11_readUnit_29 : decode cX11_readUnit 29 = .ok (.invokevirtual 269, 3) := by decide +kernel
theorem dX11_readUnit_32 : decode cX11_readUnit 32 = .ok (.aload_n 0, 1) := by decide +kernel
theorem dX11_readUnit_33 : decode cX11_readUnit 33 = .ok (.dup, 1) := by decide +kernel
theorem dX11_readUnit_34 : decode cX11_readUnit 34 = .ok (.getfield 160, 3) := by decide +kernel
theorem dX11_readUnit_37 : decode cX11_readUnit 37 = .ok (.iconst 1, 1) := by decide +kernel
theorem dX11_readUnit_38 : decode cX11_readUnit 38 = .ok (.isub, 1) := by decide +kernel
theorem dX11_readUnit_39 : decode cX11_readUnit 39 = .ok (.putfield 160, 3) := by decide +kernel
theorem dX11_readUnit_42 : decode cX11_readUnit 42 = .ok (.goto 112, 3) := by decide +kernel
theorem dX11_readUnit_45 : decode cX11_readUnit 45 = .ok (.aload_n 0, 1) := by decide +kernel
theorem dX11_readUnit_46 : decode cX11_readUnit 46 = .ok (.invokevirtual 133, 3) := by decide +kernel
theorem dX11_readUnit_49 : decode cX11_readUnit 49 = .ok (.invokestatic 153, 3) := by decide +kernel
theorem dX11_readUnit_52 : decode cX11_readUnit 52 = .ok (.ifCond .eq 19, 3) := by decide +kernel
theorem dX11_readUnit_55 : decode cX11_readUnit 55 = .ok (.aload_n 0, 1) := by decide +kernel
theorem dX11_readUnit_56 : decode cX11_readUnit 56 = .ok (.iconst 0, 1) := by decide +kernel
theorem dX11_readUnit_57 : decode cX11_readUnit 57 = .ok (.aload_n 0, 1) := by decide +kernel
theorem dX11_readUnit_58 : decode cX11_readUnit 58 = .ok (.iconst 0, 1) := by decide +kernel
theorem dX11_readUnit_59 : decode cX11_readUnit 59 = .ok (.sipush 999, 3) := by decide +kernel
theorem dX11_readUnit_62 : decode cX11_readUnit 62 = .ok (.invokevirtual 218, 3) := by decide +kernel
theorem dX11_readUnit_65 : decode cX11_readUnit 65 = .ok (.invokevirtual 282, 3) := by decide +kernel
theorem dX11_readUnit_68 : decode cX11_readUnit 68 = .ok (.goto 86, 3) := by decide +kernel
theorem dX11_readUnit_71 : decode cX11_readUnit 71 = .ok (.aload_n 0, 1) := by decide +kernel
theorem dX11_readUnit_72 : decode cX11_readUnit 72 = .ok (.invokevirtual 222, 3) := by decide +kernel
theorem dX11_readUnit_75 : decode cX11_readUnit 75 = .ok (.ldc_w 308, 3) := by decide +kernel
theorem dX11_readUnit_78 : decode cX11_readUnit 78 = .ok (.invokestatic 227, 3) := by decide +kernel
theorem dX11_readUnit_81 : decode cX11_readUnit 81 = .ok (.if_icmp .ne 13, 3) := by decide +kernel
theorem dX11_readUnit_84 : decode cX11_readUnit 84 = .ok (.aload_n 0, 1) := by decide +kernel
theorem dX11_readUnit_85 : decode cX11_readUnit 85 = .ok (.iconst 5, 1) := by decide +kernel
theorem dX11_readUnit_86 : decode cX11_readUnit 86 = .ok (.bipush 6, 2) := by decide +kernel
theorem dX11_readUnit_88 : decode cX11_readUnit 88 = .ok (.invokevirtual 310, 3) := by decide +kernel
theorem dX11_readUnit_91 : decode cX11_readUnit 91 = .ok (.goto 63, 3) := by decide +kernel
theorem dX11_readUnit_94 : decode cX11_readUnit 94 = .ok (.aload_n 0, 1) := by decide +kernel
theorem dX11_readUnit_95 : decode cX11_readUnit 95 = .ok (.invokevirtual 222, 3) := by decide +kernel
theorem dX11_readUnit_98 : decode cX11_readUnit 98 = .ok (.ldc_w 313, 3) := by decide +kernel
theorem dX11_readUnit_101 : decode cX11_readUnit 101 = .ok (.invokestatic 227, 3) := by decide +kernel
theorem dX11_readUnit_104 : decode cX11_readUnit 104 = .ok (.if_icmp .ne 13, 3) := by decide +kernel
theorem dX11_readUnit_107 : decode cX11_readUnit 107 = .ok (.aload_n 0, 1) := by decide +kernel
theorem dX11_readUnit_108 : decode cX11_readUnit 108 = .ok (.iconst 4, 1) := by decide +kernel
theorem dX11_readUnit_109 : decode cX11_readUnit 109 = .ok (.bipush 7, 2) := by decide +kernel
theorem dX11_readUnit_111 : decode cX11_readUnit 111 = .ok (.invokevirtual 310, 3) := by decide +kernel
theorem dX11_readUnit_114 : decode cX11_readUnit 114 = .ok (.goto 40, 3) := by decide +kernel
theorem dX11_readUnit_117 : decode cX11_readUnit 117 = .ok (.aload_n 0, 1) := by decide +kernel
theorem dX11_readUnit_118 : decode cX11_readUnit 118 = .ok (.invokevirtual 314, 3) := by decide +kernel
theorem dX11_readUnit_121 : decode cX11_readUnit 121 = .ok (.istore_n 1, 1) := by decide +kernel
theorem dX11_readUnit_122 : decode cX11_readUnit 122 = .ok (.iload_n 1, 1) := by decide +kernel
theorem dX11_readUnit_123 : decode cX11_readUnit 123 = .ok (.iconst (-1), 1) := by decide +kernel
theorem dX11_readUnit_124 : decode cX11_readUnit 124 = .ok (.if_icmp .ne 12, 3) := by decide +kernel
theorem dX11_readUnit_127 : decode cX11_readUnit 127 = .ok (.aload_n 0, 1) := by decide +kernel
theorem dX11_readUnit_128 : decode cX11_readUnit 128 = .ok (.iconst 1, 1) := by decide +kernel
theorem dX11_readUnit_129 : decode cX11_readUnit 129 = .ok (.aload_n 0, 1) := by decide +kernel
theorem dX11_readUnit_130 : decode cX11_readUnit 130 = .ok (.getfield 127, 3) := by decide +kernel
theorem dX11_readUnit_133 : decode cX11_readUnit 133 = .ok (.invokevirtual 156, 3) := by decide +kernel
theorem dX11_readUnit_136 : decode cX11_readUnit 136 = .ok (.aload_n 0, 1) := by decide +kernel
theorem dX11_readUnit_137 : decode cX11_readUnit 137 = .ok (.invokevirtual 149, 3) := by decide +kernel
theorem dX11_readUnit_140 : decode cX11_readUnit 140 = .ok (.ifCond .ne 4, 3) := by decide +kernel
theorem dX11_readUnit_143 : decode cX11_readUnit 143 = .ok (.return_, 1) := by decide +kernel
theorem dX11_readUnit_144 : decode cX11_readUnit 144 = .ok (.aload_n 0, 1) := by decide +kernel
theorem dX11_readUnit_145 : decode cX11_readUnit 145 = .ok (.invokevirtual 231, 3) := by decide +kernel
theorem dX11_readUnit_148 : decode cX11_readUnit 148 = .ok (.aload_n 0, 1) := by decide +kernel
theorem dX11_readUnit_149 : decode cX11_readUnit 149 = .ok (.iconst 1, 1) := by decide +kernel
theorem dX11_readUnit_150 : decode cX11_readUnit 150 = .ok (.iload_n 1, 1) := by decide +kernel
theorem dX11_readUnit_151 : decode cX11_readUnit 151 = .ok (.invokevirtual 282, 3) := by decide +kernel
theorem dX11_readUnit_154 : decode cX11_readUnit 154 = .ok (.return_, 1) := by decide +kernel
theorem dX11_law_0 : decode cX11_law 0 = .ok (.aload_n 0, 1) := by decide +kernel
theorem dX11_law_1 : decode cX11_law 1 = .ok (.iconst 0, 1) := by decide +kernel
theorem dX11_law_2 : decode cX11_law 2 = .ok (.putfield 3, 3) := by decide +kernel
theorem dX11_law_5 : decode cX11_law 5 = .ok (.aload_n 0, 1) := by decide +kernel
theorem dX11_law_6 : decode cX11_law 6 = .ok (.iload_n 1, 1) := by decide +kernel
theorem dX11_law_7 : decode cX11_law 7 = .ok (.iconst 0, 1) := by decide +kernel
theorem dX11_law_8 : decode cX11_law 8 = .ok (.iconst 1, 1) := by decide +kernel
theorem dX11_law_9 : decode cX11_law 9 = .ok (.invokestatic 317, 3) := by decide +kernel
theorem dX11_law_12 : decode cX11_law 12 = .ok (.ifCond .eq 26, 3) := by decide +kernel
theorem dX11_law_15 : decode cX11_law 15 = .ok (.iload_n 2, 1) := by decide +kernel
theorem dX11_law_16 : decode cX11_law 16 = .ok (.ifCond .lt 22, 3) := by decide +kernel
theorem dX11_law_19 : decode cX11_law 19 = .ok (.iload_n 2, 1) := by decide +kernel
theorem dX11_law_20 : decode cX11_law 20 = .ok (.aload_n 0, 1) := by decide +kernel
theorem dX11_law_21 : decode cX11_law 21 = .ok (.getfield 118, 3) := by decide +kernel
theorem dX11_law_24 : decode cX11_law 24 = .ok (.if_icmp .gt 14, 3) := by decide +kernel
theorem dX11_law_27 : decode cX11_law 27 = .ok (.iload_n 2, 1) := by decide +kernel
theorem dX11_law_28 : decode cX11_law 28 = .ok (.sipush 150, 3) := by decide +kernel
theorem dX11_law_31 : decode cX11_law 31 = .ok (.if_icmp .gt 7, 3) := by decide +kernel
theorem dX11_law_34 : decode cX11_law 34 = .ok (.iconst 1, 1) := by decide +kernel
theorem dX11_law_35 : decode cX11_law 35 = .ok (.goto 4, 3) := by decide +kernel
theorem dX11_law_38 : decode cX11_law 38 = .ok (.iconst 0, 1) := by decide +kernel
theorem dX11_law_39 : decode cX11_law 39 = .ok (.iconst 1, 1) := by decide +kernel
theorem dX11_law_40 : decode cX11_law 40 = .ok (.iconst 2, 1) := by decide +kernel
theorem dX11_law_41 : decode cX11_law 41 = .ok (.invokevirtual 252, 3) := by decide +kernel
theorem dX11_law_44 : decode cX11_law 44 = .ok (.ifCond .ne 5, 3) := by decide +kernel
theorem dX11_law_47 : decode cX11_law 47 = .ok (.iconst 0, 1) := by decide +kernel
theorem dX11_law_48 : decode cX11_law 48 = .ok (.ireturn, 1) := by decide +kernel
theorem dX11_law_49 : decode cX11_law 49 = .ok (.aload_n 0, 1) := by decide +kernel
theorem dX11_law_50 : decode cX11_law 50 = .ok (.iload_n 2, 1) := by decide +kernel
theorem dX11_law_51 : decode cX11_law 51 = .ok (.invokevirtual 256, 3) := by decide +kernel
theorem dX11_law_54 : decode cX11_law 54 = .ok (.aload_n 0, 1) := by decide +kernel
theorem dX11_law_55 : decode cX11_law 55 = .ok (.iconst 0, 1) := by decide +kernel
theorem dX11_law_56 : decode cX11_law 56 = .ok (.putfield 276, 3) := by decide +kernel
theorem dX11_law_59 : decode cX11_law 59 = .ok (.aload_n 0, 1) := by decide +kernel
theorem dX11_law_60 : decode cX11_law 60 = .ok (.invokevirtual 291, 3) := by decide +kernel
theorem dX11_law_63 : decode cX11_law 63 = .ok (.aload_n 0, 1) := by decide +kernel
theorem dX11_law_64 : decode cX11_law 64 = .ok (.invokevirtual 149, 3) := by decide +kernel
theorem dX11_law_67 : decode cX11_law 67 = .ok (.ifCond .eq 19, 3) := by decide +kernel
theorem dX11_law_70 : decode cX11_law 70 = .ok (.aload_n 0, 1) := by decide +kernel
theorem dX11_law_71 : decode cX11_law 71 = .ok (.invokevirtual 260, 3) := by decide +kernel
theorem dX11_law_74 : decode cX11_law 74 = .ok (.ifCond .eq 12, 3) := by decide +kernel
theorem dX11_law_77 : decode cX11_law 77 = .ok (.aload_n 0, 1) := by decide +kernel
theorem dX11_law_78 : decode cX11_law 78 = .ok (.iconst 1, 1) := by decide +kernel
theorem dX11_law_79 : decode cX11_law 79 = .ok (.aload_n 0, 1) := by decide +kernel
theorem dX11_law_80 : decode cX11_law 80 = .ok (.getfield 127, 3) := by decide +kernel
theorem dX11_law_83 : decode cX11_law 83 = .ok (.invokevirtual 156, 3) := by decide +kernel
theorem dX11_law_86 : decode cX11_law 86 = .ok (.aload_n 0, 1) := by decide +kernel
theorem dX11_law_87 : decode cX11_law 87 = .ok (.iconst 1, 1) := by decide +kernel
theorem dX11_law_88 : decode cX11_law 88 = .ok (.invokevirtual 272, 3) := by decide +kernel
theorem dX11_law_91 : decode cX11_law 91 = .ok (.istore_n 3, 1) := by decide +kernel
theorem dX11_law_92 : decode cX11_law 92 = .ok (.aload_n 0, 1) := by decide +kernel
theorem dX11_law_93 : decode cX11_law 93 = .ok (.getfield 121, 3) := by decide +kernel
theorem dX11_law_96 : decode cX11_law 96 = .ok (.iconst (-1), 1) := by decide +kernel
theorem dX11_law_97 : decode cX11_law 97 = .ok (.if_icmp .eq 5, 3) := by decide +kernel
theorem dX11_law_100 : decode cX11_law 100 = .ok (.iload_n 3, 1) := by decide +kernel
theorem dX11_law_101 : decode cX11_law 101 = .ok (.ireturn, 1) := by decide +kernel
theorem dX11_law_102 : decode cX11_law 102 = .ok (.aload_n 0, 1) := by decide +kernel
theorem dX11_law_103 : decode cX11_law 103 = .ok (.getfield 59, 3) := by decide +kernel
theorem dX11_law_106 : decode cX11_law 106 = .ok (.iload_n 1, 1) := by decide +kernel
theorem dX11_law_107 : decode cX11_law 107 = .ok (.aload_n 0, 1) := by decide +kernel
theorem dX11_law_108 : decode cX11_law 108 = .ok (.getfield 276, 3) := by decide +kernel
theorem dX11_law_111 : decode cX11_law 111 = .ok (.iastore, 1) := by decide +kernel
theorem dX11_law_112 : decode cX11_law 112 = .ok (.iconst 0, 1) := by decide +kernel
theorem dX11_law_113 : decode cX11_law 113 = .ok (.istore 4, 2) := by decide +kernel
theorem dX11_law_115 : decode cX11_law 115 = .ok (.iload 4, 2) := by decide +kernel
theorem dX11_law_117 : decode cX11_law 117 = .ok (.aload_n 0, 1) := by decide +kernel
theorem dX11_law_118 : decode cX11_law 118 = .ok (.getfield 276, 3) := by decide +kernel
theorem dX11_law_121 : decode cX11_law 121 = .ok (.if_icmp .ge 49, 3) := by decide +kernel
theorem dX11_law_124 : decode cX11_law 124 = .ok (.aload_n 0, 1) := by decide +kernel
theorem dX11_law_125 : decode cX11_law 125 = .ok (.getfield 53, 3) := by decide +kernel
theorem dX11_law_128 : decode cX11_law 128 = .ok (.sipush 150, 3) := by decide +kernel
theorem dX11_law_131 : decode cX11_law 131 = .ok (.iload_n 1, 1) := by decide +kernel
theorem dX11_law_132 : decode cX11_law 132 = .ok (.imul, 1) := by decide +kernel
theorem dX11_law_133 : decode cX11_law 133 = .ok (.iload 4, 2) := by decide +kernel
theorem dX11_law_135 : decode cX11_law 135 = .ok (.iadd, 1) := by decide +kernel
theorem dX11_law_136 : decode cX11_law 136 = .ok (.aload_n 0, 1) := by decide +kernel
theorem dX11_law_137 : decode cX11_law 137 = .ok (.getfield 47, 3) := by decide +kernel
theorem dX11_law_140 : decode cX11_law 140 = .ok (.iload 4, 2) := by decide +kernel
theorem dX11_law_142 : decode cX11_law 142 = .ok (.iaload, 1) := by decide +kernel
theorem dX11_law_143 : decode cX11_law 143 = .ok (.iastore, 1) := by decide +kernel
theorem dX11_law_144 : decode cX11_law 144 = .ok (.aload_n 0, 1) := by decide +kernel
theorem dX11_law_145 : decode cX11_law 145 = .ok (.getfield 56, 3) := by decide +kernel
theorem dX11_law_148 : decode cX11_law 148 = .ok (.sipush 150, 3) := by decide +kernel
theorem dX11_law_151 : decode cX11_law 151 = .ok (.iload_n 1, 1) := by decide +kernel
theorem dX11_law_152 : decode cX11_law 152 = .ok (.imul, 1) := by decide +kernel
theorem dX11_law_153 : decode cX11_law 153 = .ok (.iload 4, 2) := by decide +kernel
theorem dX11_law_155 : decode cX11_law 155 = .ok (.iadd, 1) := by decide +kernel
theorem dX11_law_156 : decode cX11_law 156 = .ok (.aload_n 0, 1) := by decide +kernel
theorem dX11_law_157 : decode cX11_law 157 = .ok (.getfield 50, 3) := by decide +kernel
theorem dX11_law_160 : decode cX11_law 160 = .ok (.iload 4, 2) := by decide +kernel
theorem dX11_law_162 : decode cX11_law 162 = .ok (.iaload, 1) := by decide +kernel
theorem dX11_law_163 : decode cX11_law 163 = .ok (.iastore, 1) := by decide +kernel
theorem dX11_law_164 : decode cX11_law 164 = .ok (.iinc 4 1, 3) := by decide +kernel
theorem dX11_law_167 : decode cX11_law 167 = .ok (.goto (-52), 3) := by decide +kernel
theorem dX11_law_170 : decode cX11_law 170 = .ok (.iload_n 3, 1) := by decide +kernel
theorem dX11_law_171 : decode cX11_law 171 = .ok (.ireturn, 1) := by decide +kernel
theorem dX11_valueOf_0 : decode cX11_valueOf 0 = .ok (.iconst 0, 1) := by decide +kernel
theorem dX11_valueOf_1 : decode cX11_valueOf 1 = .ok (.istore_n 2, 1) := by decide +kernel
theorem dX11_valueOf_2 : decode cX11_valueOf 2 = .ok (.sipush 150, 3) := by decide +kernel
theorem dX11_valueOf_5 : decode cX11_valueOf 5 = .ok (.iload_n 1, 1) := by decide +kernel
theorem dX11_valueOf_6 : decode cX11_valueOf 6 = .ok (.imul, 1) := by decide +kernel
theorem dX11_valueOf_7 : decode cX11_valueOf 7 = .ok (.istore_n 3, 1) := by decide +kernel
theorem dX11_valueOf_8 : decode cX11_valueOf 8 = .ok (.iload_n 3, 1) := by decide +kernel
theorem dX11_valueOf_9 : decode cX11_valueOf 9 = .ok (.sipush 150, 3) := by decide +kernel
theorem dX11_valueOf_12 : decode cX11_valueOf 12 = .ok (.iload_n 1, 1) := by decide +kernel
theorem dX11_valueOf_13 : decode cX11_valueOf 13 = .ok (.imul, 1) := by decide +kernel
theorem dX11_valueOf_14 : decode cX11_valueOf 14 = .ok (.aload_n 0, 1) := by decide +kernel
theorem dX11_valueOf_15 : decode cX11_valueOf 15 = .ok (.getfield 59, 3) := by decide +kernel
theorem dX11_valueOf_18 : decode cX11_valueOf 18 = .ok (.iload_n 1, 1) := by decide +kernel
theorem dX11_valueOf_19 : decode cX11_valueOf 19 = .ok (.iaload, 1) := by decide +kernel
theorem dX11_valueOf_20 : decode cX11_valueOf 20 = .ok (.iadd, 1) := by decide +kernel
theorem dX11_valueOf_21 : decode cX11_valueOf 21 = .ok (.if_icmp .ge 90, 3) := by decide +kernel
theorem dX11_valueOf_24 : decode cX11_valueOf 24 = .ok (.aload_n 0, 1) := by decide +kernel
theorem dX11_valueOf_25 : decode cX11_valueOf 25 = .ok (.getfield 53, 3) := by decide +kernel
theorem dX11_valueOf_28 : decode cX11_valueOf 28 = .ok (.iload_n 3, 1) := by decide +kernel
theorem dX11_valueOf_29 : decode cX11_valueOf 29 = .ok (.iaload, 1) := by decide +kernel
theorem dX11_valueOf_30 : decode cX11_valueOf 30 = .ok (.istore 4, 2) := by decide +kernel
theorem dX11_valueOf_32 : decode cX11_valueOf 32 = .ok (.iload 4, 2) := by decide +kernel
theorem dX11_valueOf_34 : decode cX11_valueOf 34 = .ok (.iconst 1, 1) := by decide +kernel
theorem dX11_valueOf_35 : decode cX11_valueOf 35 = .ok (.if_icmp .gt 40, 3) := by decide +kernel
theorem dX11_valueOf_38 : decode cX11_valueOf 38 = .ok (.aload_n 0, 1) := by decide +kernel
theorem dX11_valueOf_39 : decode cX11_valueOf 39 = .ok (.getfield 62, 3) := by decide +kernel
theorem dX11_valueOf_42 : decode cX11_valueOf 42 = .ok (.iload_n 2, 1) := by decide +kernel
theorem dX11_valueOf_43 : decode cX11_valueOf 43 = .ok (.iload 4, 2) := by decide +kernel
theorem dX11_valueOf_45 : decode cX11_valueOf 45 = .ok (.ifCond .ne 12, 3) := by decide +kernel
theorem dX11_valueOf_48 : decode cX11_valueOf 48 = .ok (.aload_n 0, 1) := by decide +kernel
theorem dX11_valueOf_49 : decode cX11_valueOf 49 = .ok (.getfield 56, 3) := by decide +kernel
theorem dX11_valueOf_52 : decode cX11_valueOf 52 = .ok (.iload_n 3, 1) := by decide +kernel
theorem dX11_valueOf_53 : decode cX11_valueOf 53 = .ok (.iaload, 1) := by decide +kernel
theorem dX11_valueOf_54 : decode cX11_valueOf 54 = .ok (.goto 14, 3) := by decide +kernel
theorem dX11_valueOf_57 : decode cX11_valueOf 57 = .ok (.aload_n 0, 1) := by decide +kernel
theorem dX11_valueOf_58 : decode cX11_valueOf 58 = .ok (.getfield 65, 3) := by decide +kernel
theorem dX11_valueOf_61 : decode cX11_valueOf 61 = .ok (.aload_n 0, 1) := by decide +kernel
theorem dX11_valueOf_62 : decode cX11_valueOf 62 = .ok (.getfield 56, 3) := by decide +kernel
theorem dX11_valueOf_65 : decode cX11_valueOf 65 = .ok (.iload_n 3, 1) := by decide +kernel
theorem dX11_valueOf_66 : decode cX11_valueOf 66 = .ok (.iaload, 1) := by decide +kernel
theorem dX11_valueOf_67 : decode cX11_valueOf 67 = .ok (.iaload, 1) := by decide +kernel
theorem dX11_valueOf_68 : decode cX11_valueOf 68 = .ok (.iastore, 1) := by decide +kernel
theorem dX11_valueOf_69 : decode cX11_valueOf 69 = .ok (.iinc 2 1, 3) := by decide +kernel
theorem dX11_valueOf_72 : decode cX11_valueOf 72 = .ok (.goto 33, 3) := by decide +kernel
theorem dX11_valueOf_75 : decode cX11_valueOf 75 = .ok (.iinc 2 (-1), 3) := by decide +kernel
theorem dX11_valueOf_78 : decode cX11_valueOf 78 = .ok (.aload_n 0, 1) := by decide +kernel
theorem dX11_valueOf_79 : decode cX11_valueOf 79 = .ok (.getfield 62, 3) := by decide +kernel
theorem dX11_valueOf_82 : decode cX11_valueOf 82 = .ok (.iload_n 2, 1) := by decide +kernel
theorem dX11_valueOf_83 : decode cX11_valueOf 83 = .ok (.iconst 1, 1) := by decide +kernel
theorem dX11_valueOf_84 : decode cX11_valueOf 84 = .ok (.isub, 1) := by decide +kernel
theorem dX11_valueOf_85 : decode cX11_valueOf 85 = .ok (.iload 4, 2) := by decide +kernel
theorem dX11_valueOf_87 : decode cX11_valueOf 87 = .ok (.aload_n 0, 1) := by decide +kernel
theorem dX11_valueOf_88 : decode cX11_valueOf 88 = .ok (.getfield 62, 3) := by decide +kernel
theorem dX11_valueOf_91 : decode cX11_valueOf 91 = .ok (.iload_n 2, 1) := by decide +kernel
theorem dX11_valueOf_92 : decode cX11_valueOf 92 = .ok (.iconst 1, 1) := by decide +kernel
theorem dX11_valueOf_93 : decode cX11_valueOf 93 = .ok (.isub, 1) := by decide +kernel
theorem dX11_valueOf_94 : decode cX11_valueOf 94 = .ok (.iaload, 1) := by decide +kernel
theorem dX11_valueOf_95 : decode cX11_valueOf 95 = .ok (.aload_n 0, 1) := by decide +kernel
theorem dX11_valueOf_96 : decode cX11_valueOf 96 = .ok (.getfield 62, 3) := by decide +kernel
theorem dX11_valueOf_99 : decode cX11_valueOf 99 = .ok (.iload_n 2, 1) := by decide +kernel
theorem dX11_valueOf_100 : decode cX11_valueOf 100 = .ok (.iaload, 1) := by decide +kernel
theorem dX11_valueOf_101 : decode cX11_valueOf 101 = .ok (.invokestatic 321, 3) := by decide +kernel
theorem dX11_valueOf_104 : decode cX11_valueOf 104 = .ok (.iastore, 1) := by decide +kernel
theorem dX11_valueOf_105 : decode cX11_valueOf 105 = .ok (.iinc 3 1, 3) := by decide +kernel
theorem dX11_valueOf_108 : decode cX11_valueOf 108 = .ok (.goto (-100), 3) := by decide +kernel
theorem dX11_valueOf_111 : decode cX11_valueOf 111 = .ok (.aload_n 0, 1) := by decide +kernel
theorem dX11_valueOf_112 : decode cX11_valueOf 112 = .ok (.getfield 62, 3) := by decide +kernel
theorem dX11_valueOf_115 : decode cX11_valueOf 115 = .ok (.iconst 0, 1) := by decide +kernel
theorem dX11_valueOf_116 : decode cX11_valueOf 116 = .ok (.iaload, 1) := by decide +kernel
theorem dX11_valueOf_117 : decode cX11_valueOf 117 = .ok (.ireturn, 1) := by decide +kernel
theorem dX11_both_0 : decode cX11_both 0 = .ok (.iload_n 0, 1) := by decide +kernel
theorem dX11_both_1 : decode cX11_both 1 = .ok (.iconst 2, 1) := by decide +kernel
theorem dX11_both_2 : decode cX11_both 2 = .ok (.if_icmp .ne 7, 3) := by decide +kernel
theorem dX11_both_5 : decode cX11_both 5 = .ok (.iload_n 1, 1) := by decide +kernel
theorem dX11_both_6 : decode cX11_both 6 = .ok (.iload_n 2, 1) := by decide +kernel
theorem dX11_both_7 : decode cX11_both 7 = .ok (.iadd, 1) := by decide +kernel
theorem dX11_both_8 : decode cX11_both 8 = .ok (.ireturn, 1) := by decide +kernel
theorem dX11_both_9 : decode cX11_both 9 = .ok (.iload_n 0, 1) := by decide +kernel
theorem dX11_both_10 : decode cX11_both 10 = .ok (.iconst 3, 1) := by decide +kernel
theorem dX11_both_11 : decode cX11_both 11 = .ok (.if_icmp .ne 7, 3) := by decide +kernel
theorem dX11_both_14 : decode cX11_both 14 = .ok (.iload_n 1, 1) := by decide +kernel
theorem dX11_both_15 : decode cX11_both 15 = .ok (.iload_n 2, 1) := by decide +kernel
theorem dX11_both_16 : decode cX11_both 16 = .ok (.isub, 1) := by decide +kernel
theorem dX11_both_17 : decode cX11_both 17 = .ok (.ireturn, 1) := by decide +kernel
theorem dX11_both_18 : decode cX11_both 18 = .ok (.iload_n 0, 1) := by decide +kernel
theorem dX11_both_19 : decode cX11_both 19 = .ok (.iconst 4, 1) := by decide +kernel
theorem dX11_both_20 : decode cX11_both 20 = .ok (.if_icmp .ne 7, 3) := by decide +kernel
theorem dX11_both_23 : decode cX11_both 23 = .ok (.iload_n 1, 1) := by decide +kernel
theorem dX11_both_24 : decode cX11_both 24 = .ok (.iload_n 2, 1) := by decide +kernel
theorem dX11_both_25 : decode cX11_both 25 = .ok (.imul, 1) := by decide +kernel
theorem dX11_both_26 : decode cX11_both 26 = .ok (.ireturn, 1) := by decide +kernel
theorem dX11_both_27 : decode cX11_both 27 = .ok (.iload_n 0, 1) := by decide +kernel
theorem dX11_both_28 : decode cX11_both 28 = .ok (.iconst 5, 1) := by decide +kernel
theorem dX11_both_29 : decode cX11_both 29 = .ok (.if_icmp .ne 15, 3) := by decide +kernel
theorem dX11_both_32 : decode cX11_both 32 = .ok (.iload_n 2, 1) := by decide +kernel
theorem dX11_both_33 : decode cX11_both 33 = .ok (.ifCond .ne 7, 3) := by decide +kernel
theorem dX11_both_36 : decode cX11_both 36 = .ok (.iconst 0, 1) := by decide +kernel
theorem dX11_both_37 : decode cX11_both 37 = .ok (.goto 6, 3) := by decide +kernel
theorem dX11_both_40 : decode cX11_both 40 = .ok (.iload_n 1, 1) := by decide +kernel
theorem dX11_both_41 : decode cX11_both 41 = .ok (.iload_n 2, 1) := by decide +kernel
theorem dX11_both_42 : decode cX11_both 42 = .ok (.idiv, 1) := by decide +kernel
theorem dX11_both_43 : decode cX11_both 43 = .ok (.ireturn, 1) := by decide +kernel
theorem dX11_both_44 : decode cX11_both 44 = .ok (.iload_n 1, 1) := by decide +kernel
theorem dX11_both_45 : decode cX11_both 45 = .ok (.iload_n 2, 1) := by decide +kernel
theorem dX11_both_46 : decode cX11_both 46 = .ok (.if_icmp .ge 7, 3) := by decide +kernel
theorem dX11_both_49 : decode cX11_both 49 = .ok (.iconst 1, 1) := by decide +kernel
theorem dX11_both_50 : decode cX11_both 50 = .ok (.goto 4, 3) := by decide +kernel
theorem dX11_both_53 : decode cX11_both 53 = .ok (.iconst 0, 1) := by decide +kernel
theorem dX11_both_54 : decode cX11_both 54 = .ok (.iload_n 0, 1) := by decide +kernel
theorem dX11_both_55 : decode cX11_both 55 = .ok (.bipush 6, 2) := by decide +kernel
theorem dX11_both_57 : decode cX11_both 57 = .ok (.if_icmp .ne 7, 3) := by decide +kernel
theorem dX11_both_60 : decode cX11_both 60 = .ok (.iconst 1, 1) := by decide +kernel
theorem dX11_both_61 : decode cX11_both 61 = .ok (.goto 4, 3) := by decide +kernel
theorem dX11_both_64 : decode cX11_both 64 = .ok (.iconst 0, 1) := by decide +kernel
theorem dX11_both_65 : decode cX11_both 65 = .ok (.if_icmp .ne 7, 3) := by decide +kernel
theorem dX11_both_68 : decode cX11_both 68 = .ok (.iload_n 1, 1) := by decide +kernel
theorem dX11_both_69 : decode cX11_both 69 = .ok (.goto 4, 3) := by decide +kernel
theorem dX11_both_72 : decode cX11_both 72 = .ok (.iload_n 2, 1) := by decide +kernel
theorem dX11_both_73 : decode cX11_both 73 = .ok (.ireturn, 1) := by decide +kernel
theorem dX11_tellsStep_0 : decode cX11_tellsStep 0 = .ok (.aload_n 0, 1) := by decide +kernel
theorem dX11_tellsStep_1 : decode cX11_tellsStep 1 = .ok (.invokevirtual 149, 3) := by decide +kernel
theorem dX11_tellsStep_4 : decode cX11_tellsStep 4 = .ok (.ifCond .ne 4, 3) := by decide +kernel
theorem dX11_tellsStep_7 : decode cX11_tellsStep 7 = .ok (.return_, 1) := by decide +kernel
theorem dX11_tellsStep_8 : decode cX11_tellsStep 8 = .ok (.aload_n 0, 1) := by decide +kernel
theorem dX11_tellsStep_9 : decode cX11_tellsStep 9 = .ok (.getfield 68, 3) := by decide +kernel
theorem dX11_tellsStep_12 : decode cX11_tellsStep 12 = .ok (.aload_n 0, 1) := by decide +kernel
theorem dX11_tellsStep_13 : decode cX11_tellsStep 13 = .ok (.getfield 325, 3) := by decide +kernel
theorem dX11_tellsStep_16 : decode cX11_tellsStep 16 = .ok (.iload_n 1, 1) := by decide +kernel
theorem dX11_tellsStep_17 : decode cX11_tellsStep 17 = .ok (.iastore, 1) := by decide +kernel
theorem dX11_tellsStep_18 : decode cX11_tellsStep 18 = .ok (.aload_n 0, 1) := by decide +kernel
theorem dX11_tellsStep_19 : decode cX11_tellsStep 19 = .ok (.getfield 68, 3) := by decide +kernel
theorem dX11_tellsStep_22 : decode cX11_tellsStep 22 = .ok (.aload_n 0, 1) := by decide +kernel
theorem dX11_tellsStep_23 : decode cX11_tellsStep 23 = .ok (.getfield 325, 3) := by decide +kernel
theorem dX11_tellsStep_26 : decode cX11_tellsStep 26 = .ok (.iconst 1, 1) := by decide +kernel
theorem dX11_tellsStep_27 : decode cX11_tellsStep 27 = .ok (.iadd, 1) := by decide +kernel
theorem dX11_tellsStep_28 : decode cX11_tellsStep 28 = .ok (.iload_n 2, 1) := by decide +kernel
theorem dX11_tellsStep_29 : decode cX11_tellsStep 29 = .ok (.iastore, 1) := by decide +kernel
theorem dX11_tellsStep_30 : decode cX11_tellsStep 30 = .ok (.aload_n 0, 1) := by decide +kernel
theorem dX11_tellsStep_31 : decode cX11_tellsStep 31 = .ok (.getfield 68, 3) := by decide +kernel
theorem dX11_tellsStep_34 : decode cX11_tellsStep 34 = .ok (.aload_n 0, 1) := by decide +kernel
theorem dX11_tellsStep_35 : decode cX11_tellsStep 35 = .ok (.getfield 325, 3) := by decide +kernel
theorem dX11_tellsStep_38 : decode cX11_tellsStep 38 = .ok (.iconst 2, 1) := by decide +kernel
theorem dX11_tellsStep_39 : decode cX11_tellsStep 39 = .ok (.iadd, 1) := by decide +kernel
theorem dX11_tellsStep_40 : decode cX11_tellsStep 40 = .ok (.iload_n 3, 1) := by decide +kernel
theorem dX11_tellsStep_41 : decode cX11_tellsStep 41 = .ok (.iastore, 1) := by decide +kernel
theorem dX11_tellsStep_42 : decode cX11_tellsStep 42 = .ok (.aload_n 0, 1) := by decide +kernel
theorem dX11_tellsStep_43 : decode cX11_tellsStep 43 = .ok (.dup, 1) := by decide +kernel
theorem dX11_tellsStep_44 : decode cX11_tellsStep 44 = .ok (.getfield 325, 3) := by decide +kernel
theorem dX11_tellsStep_47 : decode cX11_tellsStep 47 = .ok (.iconst 3, 1) := by decide +kernel
theorem dX11_tellsStep_48 : decode cX11_tellsStep 48 = .ok (.iadd, 1) := by decide +kernel
theorem dX11_tellsStep_49 : decode cX11_tellsStep 49 = .ok (.putfield 325, 3) := by decide +kernel
theorem dX11_tellsStep_52 : decode cX11_tellsStep 52 = .ok (.return_, 1) := by decide +kernel
theorem dX11_readStep_0 : decode cX11_readStep 0 = .ok (.aload_n 0, 1) := by decide +kernel
theorem dX11_readStep_1 : decode cX11_readStep 1 = .ok (.invokevirtual 222, 3) := by decide +kernel
theorem dX11_readStep_4 : decode cX11_readStep 4 = .ok (.istore_n 1, 1) := by decide +kernel
theorem dX11_readStep_5 : decode cX11_readStep 5 = .ok (.iload_n 1, 1) := by decide +kernel
theorem dX11_readStep_6 : decode cX11_readStep 6 = .ok (.ldc_w 328, 3) := by decide +kernel
theorem dX11_readStep_9 : decode cX11_readStep 9 = .ok (.invokestatic 227, 3) := by decide +kernel
theorem dX11_readStep_12 : decode cX11_readStep 12 = .ok (.if_icmp .eq 13, 3) := by decide +kernel
theorem dX11_readStep_15 : decode cX11_readStep 15 = .ok (.iload_n 1, 1) := by decide +kernel
theorem dX11_readStep_16 : decode cX11_readStep 16 = .ok (.ldc_w 330, 3) := by decide +kernel
theorem dX11_readStep_19 : decode cX11_readStep 19 = .ok (.invokestatic 227, 3) := by decide +kernel
theorem dX11_readStep_22 : decode cX11_readStep 22 = .ok (.if_icmp .ne 58, 3) := by decide +kernel
theorem dX11_readStep_25 : decode cX11_readStep 25 = .ok (.aload_n 0, 1) := by decide +kernel
theorem dX11_readStep_26 : decode cX11_readStep 26 = .ok (.invokevirtual 231, 3) := by decide +kernel
theorem dX11_readStep_29 : decode cX11_readStep 29 = .ok (.aload_n 0, 1) := by decide +kernel
theorem dX11_readStep_30 : decode cX11_readStep 30 = .ok (.iconst 0, 1) := by decide +kernel
theorem dX11_readStep_31 : decode cX11_readStep 31 = .ok (.aload_n 0, 1) := by decide +kernel
theorem dX11_readStep_32 : decode cX11_readStep 32 = .ok (.getfield 184, 3) := by decide +kernel
theorem dX11_readStep_35 : decode cX11_readStep 35 = .ok (.iconst 1, 1) := by decide +kernel
theorem dX11_readStep_36 : decode cX11_readStep 36 = .ok (.isub, 1) := by decide +kernel
theorem dX11_readStep_37 : decode cX11_readStep 37 = .ok (.invokevirtual 218, 3) := by decide +kernel
theorem dX11_readStep_40 : decode cX11_readStep 40 = .ok (.istore_n 2, 1) := by decide +kernel
theorem dX11_readStep_41 : decode cX11_readStep 41 = .ok (.aload_n 0, 1) := by decide +kernel
theorem dX11_readStep_42 : decode cX11_readStep 42 = .ok (.iload_n 1, 1) := by decide +kernel
theorem dX11_readStep_43 : decode cX11_readStep 43 = .ok (.ldc_w 328, 3) := by decide +kernel
theorem dX11_readStep_46 : decode cX11_readStep 46 = .ok (.invokestatic 227, 3) := by decide +kernel
theorem dX11_readStep_49 : decode cX11_readStep 49 = .ok (.if_icmp .ne 7, 3) := by decide +kernel
theorem dX11_readStep_52 : decode cX11_readStep 52 = .ok (.iconst 0, 1) := by decide +kernel
theorem dX11_readStep_53 : decode cX11_readStep 53 = .ok (.goto 4, 3) := by decide +kernel
theorem dX11_readStep_56 : decode cX11_readStep 56 = .ok (.iconst 1, 1) := by decide +kernel
theorem dX11_readStep_57 : decode cX11_readStep 57 = .ok (.bipush 8, 2) := by decide +kernel
theorem dX11_readStep_59 : decode cX11_readStep 59 = .ok (.aload_n 0, 1) := by decide +kernel
theorem dX11_readStep_60 : decode cX11_readStep 60 = .ok (.iconst 0, 1) := by decide +kernel
theorem dX11_readStep_61 : decode cX11_readStep 61 = .ok (.aload_n 0, 1) := by decide +kernel
theorem dX11_readStep_62 : decode cX11_readStep 62 = .ok (.getfield 187, 3) := by decide +kernel
theorem dX11_readStep_65 : decode cX11_readStep 65 = .ok (.iconst 1, 1) := by decide +kernel
theorem dX11_readStep_66 : decode cX11_readStep 66 = .ok (.isub, 1) := by decide +kernel
theorem dX11_readStep_67 : decode cX11_readStep 67 = .ok (.invokevirtual 218, 3) := by decide +kernel
theorem dX11_readStep_70 : decode cX11_readStep 70 = .ok (.imul, 1) := by decide +kernel
theorem dX11_readStep_71 : decode cX11_readStep 71 = .ok (.iload_n 2, 1) := by decide +kernel
theorem dX11_readStep_72 : decode cX11_readStep 72 = .ok (.iadd, 1) := by decide +kernel
theorem dX11_readStep_73 : decode cX11_readStep 73 = .ok (.iconst 0, 1) := by decide +kernel
theorem dX11_readStep_74 : decode cX11_readStep 74 = .ok (.invokevirtual 332, 3) := by decide +kernel
theorem dX11_readStep_77 : decode cX11_readStep 77 = .ok (.goto 199, 3) := by decide +kernel
theorem dX11_readStep_80 : decode cX11_readStep 80 = .ok (.iload_n 1, 1) := by decide +kernel
theorem dX11_readStep_81 : decode cX11_readStep 81 = .ok (.ldc_w 336, 3) := by decide +kernel
theorem dX11_readStep_84 : decode cX11_readStep 84 = .ok (.invokestatic 227, 3) := by decide +kernel
theorem dX11_readStep_87 : decode cX11_readStep 87 = .ok (.if_icmp .eq 13, 3) := by decide +kernel
theorem dX11_readStep_90 : decode cX11_readStep 90 = .ok (.iload_n 1, 1) := by decide +kernel
theorem dX11_readStep_91 : decode cX11_readStep 91 = .ok (.ldc_w 306, 3) := by decide +kernel
theorem dX11_readStep_94 : decode cX11_readStep 94 = .ok (.invokestatic 227, 3) := by decide +kernel
theorem dX11_readStep_97 : decode cX11_readStep 97 = .ok (.if_icmp .ne 31, 3) := by decide +kernel
theorem dX11_readStep_100 : decode cX11_readStep 100 = .ok (.aload_n 0, 1) := by decide +kernel
theorem dX11_readStep_101 : decode cX11_readStep 101 = .ok (.invokevirtual 231, 3) := by decide +kernel
theorem dX11_readStep_104 : decode cX11_readStep 104 = .ok (.aload_n 0, 1) := by decide +kernel
theorem dX11_readStep_105 : decode cX11_readStep 105 = .ok (.iload_n 1, 1) := by decide +kernel
theorem dX11_readStep_106 : decode cX11_readStep 106 = .ok (.ldc_w 336, 3) := by decide +kernel
theorem dX11_readStep_109 : decode cX11_readStep 109 = .ok (.invokestatic 227, 3) := by decide +kernel
theorem dX11_readStep_112 : decode cX11_readStep 112 = .ok (.if_icmp .ne 7, 3) := by decide +kernel
theorem dX11_readStep_115 : decode cX11_readStep 115 = .ok (.iconst 2, 1) := by decide +kernel
theorem dX11_readStep_116 : decode cX11_readStep 116 = .ok (.goto 4, 3) := by decide +kernel
theorem dX11_readStep_119 : decode cX11_readStep 119 = .ok (.iconst 3, 1) := by decide +kernel
theorem dX11_readStep_120 : decode cX11_readStep 120 = .ok (.iconst 0, 1) := by decide +kernel
theorem dX11_readStep_121 : decode cX11_readStep 121 = .ok (.iconst 0, 1) := by decide +kernel
theorem dX11_readStep_122 : decode cX11_readStep 122 = .ok (.invokevirtual 332, 3) := by decide +kernel
theorem dX11_readStep_125 : decode cX11_readStep 125 = .ok (.goto 151, 3) := by decide +kernel
theorem dX11_readStep_128 : decode cX11_readStep 128 = .ok (.iload_n 1, 1) := by decide +kernel
theorem dX11_readStep_129 : decode cX11_readStep 129 = .ok (.ldc_w 338, 3) := by decide +kernel
theorem dX11_readStep_132 : decode cX11_readStep 132 = .ok (.invokestatic 227, 3) := by decide +kernel
theorem dX11_readStep_135 : decode cX11_readStep 135 = .ok (.if_icmp .ne 30, 3) := by decide +kernel
theorem dX11_readStep_138 : decode cX11_readStep 138 = .ok (.aload_n 0, 1) := by decide +kernel
theorem dX11_readStep_139 : decode cX11_readStep 139 = .ok (.invokevirtual 231, 3) := by decide +kernel
theorem dX11_readStep_142 : decode cX11_readStep 142 = .ok (.aload_n 0, 1) := by decide +kernel
theorem dX11_readStep_143 : decode cX11_readStep 143 = .ok (.iconst 1, 1) := by decide +kernel
theorem dX11_readStep_144 : decode cX11_readStep 144 = .ok (.iconst 4, 1) := by decide +kernel
theorem dX11_readStep_145 : decode cX11_readStep 145 = .ok (.invokevirtual 218, 3) := by decide +kernel
theorem dX11_readStep_148 : decode cX11_readStep 148 = .ok (.istore_n 2, 1) := by decide +kernel
theorem dX11_readStep_149 : decode cX11_readStep 149 = .ok (.aload_n 0, 1) := by decide +kernel
theorem dX11_readStep_150 : decode cX11_readStep 150 = .ok (.iconst 4, 1) := by decide +kernel
theorem dX11_readStep_151 : decode cX11_readStep 151 = .ok (.iload_n 2, 1) := by decide +kernel
theorem dX11_readStep_152 : decode cX11_readStep 152 = .ok (.aload_n 0, 1) := by decide +kernel
theorem dX11_readStep_153 : decode cX11_readStep 153 = .ok (.iconst 1, 1) := by decide +kernel
theorem dX11_readStep_154 : decode cX11_readStep 154 = .ok (.bipush 99, 2) := by decide +kernel
theorem dX11_readStep_156 : decode cX11_readStep 156 = .ok (.invokevirtual 218, 3) := by decide +kernel
theorem dX11_readStep_159 : decode cX11_readStep 159 = .ok (.invokevirtual 332, 3) := by decide +kernel
theorem dX11_readStep_162 : decode cX11_readStep 162 = .ok (.goto 114, 3) := by decide +kernel
theorem dX11_readStep_165 : decode cX11_readStep 165 = .ok (.iload_n 1, 1) := by decide +kernel
theorem dX11_readStep_166 : decode cX11_readStep 166 = .ok (.ldc_w 340, 3) := by decide +kernel
theorem dX11_readStep_169 : decode cX11_readStep 169 = .ok (.invokestatic 227, 3) := by decide +kernel
theorem dX11_readStep_172 : decode cX11_readStep 172 = .ok (.if_icmp .ne 95, 3) := by decide +kernel
theorem dX11_readStep_175 : decode cX11_readStep 175 = .ok (.aload_n 0, 1) := by decide +kernel
theorem dX11_readStep_176 : decode cX11_readStep 176 = .ok (.iconst 5, 1) := by decide +kernel
theorem dX11_readStep_177 : decode cX11_readStep 177 = .ok (.invokevirtual 288, 3) := by decide +kernel
theorem dX11_readStep_180 : decode cX11_readStep 180 = .ok (.aload_n 0, 1) := by decide +kernel
theorem dX11_readStep_181 : decode cX11_readStep 181 = .ok (.iconst 0, 1) := by decide +kernel
theorem dX11_readStep_182 : decode cX11_readStep 182 = .ok (.bipush 20, 2) := by decide +kernel
theorem dX11_readStep_184 : decode cX11_readStep 184 = .ok (.invokevirtual 218, 3) := by decide +kernel
theorem dX11_readStep_187 : decode cX11_readStep 187 = .ok (.istore_n 2, 1) := by decide +kernel
theorem dX11_readStep_188 : decode cX11_readStep 188 = .ok (.aload_n 0, 1) := by decide +kernel
theorem dX11_readStep_189 : decode cX11_readStep 189 = .ok (.bipush 91, 2) := by decide +kernel
theorem dX11_readStep_191 : decode cX11_readStep 191 = .ok (.invokevirtual 269, 3) := by decide +kernel
theorem dX11_readStep_194 : decode cX11_readStep 194 = .ok (.aload_n 0, 1) := by decide +kernel
theorem dX11_readStep_195 : decode cX11_readStep 195 = .ok (.getfield 325, 3) := by decide +kernel
theorem dX11_readStep_198 : decode cX11_readStep 198 = .ok (.istore_n 3, 1) := by decide +kernel
theorem dX11_readStep_199 : decode cX11_readStep 199 = .ok (.aload_n 0, 1) := by decide +kernel
theorem dX11_readStep_200 : decode cX11_readStep 200 = .ok (.iconst 5, 1) := by decide +kernel
theorem dX11_readStep_201 : decode cX11_readStep 201 = .ok (.iload_n 2, 1) := by decide +kernel
theorem dX11_readStep_202 : decode cX11_readStep 202 = .ok (.iconst 0, 1) := by decide +kernel
theorem dX11_readStep_203 : decode cX11_readStep 203 = .ok (.invokevirtual 332, 3) := by decide +kernel
theorem dX11_readStep_206 : decode cX11_readStep 206 = .ok (.aload_n 0, 1) := by decide +kernel
theorem dX11_readStep_207 : decode cX11_readStep 207 = .ok (.invokevirtual 149, 3) := by decide +kernel
theorem dX11_readStep_210 : decode cX11_readStep 210 = .ok (.ifCond .eq 19, 3) := by decide +kernel
theorem dX11_readStep_213 : decode cX11_readStep 213 = .ok (.aload_n 0, 1) := by decide +kernel
theorem dX11_readStep_214 : decode cX11_readStep 214 = .ok (.invokevirtual 133, 3) := by decide +kernel
theorem dX11_readStep_217 : decode cX11_readStep 217 = .ok (.bipush 93, 2) := by decide +kernel
theorem dX11_readStep_219 : decode cX11_readStep 219 = .ok (.if_icmp .eq 10, 3) := by decide +kernel
theorem dX11_readStep_222 : decode cX11_readStep 222 = .ok (.aload_n 0, 1) := by decide +kernel
theorem dX11_readStep_223 : decode cX11_readStep 223 = .ok (.invokevirtual 342, 3) := by decide +kernel
theorem dX11_readStep_226 : decode cX11_readStep 226 = .ok (.goto (-20), 3) := by decide +kernel
theorem dX11_readStep_229 : decode cX11_readStep 229 = .ok (.aload_n 0, 1) := by decide +kernel
theorem dX11_readStep_230 : decode cX11_readStep 230 = .ok (.bipush 93, 2) := by decide +kernel
theorem dX11_readStep_232 : decode cX11_readStep 232 = .ok (.invokevirtual 269, 3) := by decide +kernel
theorem dX11_readStep_235 : decode cX11_readStep 235 = .ok (.aload_n 0, 1) := by decide +kernel
theorem dX11_readStep_236 : decode cX11_readStep 236 = .ok (.dup, 1) := by decide +kernel
theorem dX11_readStep_237 : decode cX11_readStep 237 = .ok (.getfield 160, 3) := by decide +kernel
theorem dX11_readStep_240 : decode cX11_readStep 240 = .ok (.iconst 1, 1) := by decide +kernel
theorem dX11_readStep_241 : decode cX11_readStep 241 = .ok (.isub, 1) := by decide +kernel
theorem dX11_readStep_242 : decode cX11_readStep 242 = .ok (.putfield 160, 3) := by decide +kernel
theorem dX11_readStep_245 : decode cX11_readStep 245 = .ok (.aload_n 0, 1) := by decide +kernel
theorem dX11_readStep_246 : decode cX11_readStep 246 = .ok (.invokevirtual 149, 3) := by decide +kernel
theorem dX11_readStep_249 : decode cX11_readStep 249 = .ok (.ifCond .eq 15, 3) := by decide +kernel
theorem dX11_readStep_252 : decode cX11_readStep 252 = .ok (.aload_n 0, 1) := by decide +kernel
theorem dX11_readStep_253 : decode cX11_readStep 253 = .ok (.getfield 68, 3) := by decide +kernel
theorem dX11_readStep_256 : decode cX11_readStep 256 = .ok (.iload_n 3, 1) := by decide +kernel
theorem dX11_readStep_257 : decode cX11_readStep 257 = .ok (.iconst 2, 1) := by decide +kernel
theorem dX11_readStep_258 : decode cX11_readStep 258 = .ok (.iadd, 1) := by decide +kernel
theorem dX11_readStep_259 : decode cX11_readStep 259 = .ok (.aload_n 0, 1) := by decide +kernel
theorem dX11_readStep_260 : decode cX11_readStep 260 = .ok (.getfield 325, 3) := by decide +kernel
theorem dX11_readStep_263 : decode cX11_readStep 263 = .ok (.iastore, 1) := by decide +kernel
theorem dX11_readStep_264 : decode cX11_readStep 264 = .ok (.goto 12, 3) := by decide +kernel
theorem dX11_readStep_267 : decode cX11_readStep 267 = .ok (.aload_n 0, 1) := by decide +kernel
theorem dX11_readStep_268 : decode cX11_readStep 268 = .ok (.iconst 1, 1) := by decide +kernel
theorem dX11_readStep_269 : decode cX11_readStep 269 = .ok (.aload_n 0, 1) := by decide +kernel
theorem dX11_readStep_270 : decode cX11_readStep 270 = .ok (.getfield 127, 3) := by decide +kernel
theorem dX11_readStep_273 : decode cX11_readStep 273 = .ok (.invokevirtual 156, 3) := by decide +kernel
theorem dX11_readStep_276 : decode cX11_readStep 276 = .ok (.aload_n 0, 1) := by decide +kernel
theorem dX11_readStep_277 : decode cX11_readStep 277 = .ok (.bipush 59, 2) := by decide +kernel
theorem dX11_readStep_279 : decode cX11_readStep 279 = .ok (.invokevirtual 269, 3) := by decide +kernel
theorem dX11_readStep_282 : decode cX11_readStep 282 = .ok (.return_, 1) := by decide +kernel
theorem dX11_work_0 : decode cX11_work 0 = .ok (.aload_n 0, 1) := by decide +kernel
theorem dX11_work_1 : decode cX11_work 1 = .ok (.iconst 0, 1) := by decide +kernel
theorem dX11_work_2 : decode cX11_work 2 = .ok (.putfield 3, 3) := by decide +kernel
theorem dX11_work_5 : decode cX11_work 5 = .ok (.aload_n 0, 1) := by decide +kernel
theorem dX11_work_6 : decode cX11_work 6 = .ok (.iload_n 1, 1) := by decide +kernel
theorem dX11_work_7 : decode cX11_work 7 = .ok (.ifCond .lt 22, 3) := by decide +kernel
theorem dX11_work_10 : decode cX11_work 10 = .ok (.iload_n 1, 1) := by decide +kernel
theorem dX11_work_11 : decode cX11_work 11 = .ok (.aload_n 0, 1) := by decide +kernel
theorem dX11_work_12 : decode cX11_work 12 = .ok (.getfield 118, 3) := by decide +kernel
theorem dX11_work_15 : decode cX11_work 15 = .ok (.if_icmp .gt 14, 3) := by decide +kernel
theorem dX11_work_18 : decode cX11_work 18 = .ok (.iload_n 1, 1) := by decide +kernel
theorem dX11_work_19 : decode cX11_work 19 = .ok (.sipush 150, 3) := by decide +kernel
theorem dX11_work_22 : decode cX11_work 22 = .ok (.if_icmp .gt 7, 3) := by decide +kernel
theorem dX11_work_25 : decode cX11_work 25 = .ok (.iconst 1, 1) := by decide +kernel
theorem dX11_work_26 : decode cX11_work 26 = .ok (.goto 4, 3) := by decide +kernel
theorem dX11_work_29 : decode cX11_work 29 = .ok (.iconst 0, 1) := by decide +kernel
theorem dX11_work_30 : decode cX11_work 30 = .ok (.iconst 1, 1) := by decide +kernel
theorem dX11_work_31 : decode cX11_work 31 = .ok (.iconst 2, 1) := by decide +kernel
theorem dX11_work_32 : decode cX11_work 32 = .ok (.invokevirtual 252, 3) := by decide +kernel
theorem dX11_work_35 : decode cX11_work 35 = .ok (.ifCond .ne 5, 3) := by decide +kernel
theorem dX11_work_38 : decode cX11_work 38 = .ok (.iconst 0, 1) := by decide +kernel
theorem dX11_work_39 : decode cX11_work 39 = .ok (.ireturn, 1) := by decide +kernel
theorem dX11_work_40 : decode cX11_work 40 = .ok (.aload_n 0, 1) := by decide +kernel
theorem dX11_work_41 : decode cX11_work 41 = .ok (.iload_n 1, 1) := by decide +kernel
theorem dX11_work_42 : decode cX11_work 42 = .ok (.invokevirtual 256, 3) := by decide +kernel
theorem dX11_work_45 : decode cX11_work 45 = .ok (.aload_n 0, 1) := by decide +kernel
theorem dX11_work_46 : decode cX11_work 46 = .ok (.getfield 209, 3) := by decide +kernel
theorem dX11_work_49 : decode cX11_work 49 = .ok (.bipush 16, 2) := by decide +kernel
theorem dX11_work_51 : decode cX11_work 51 = .ok (.if_icmp .ne 12, 3) := by decide +kernel
theorem dX11_work_54 : decode cX11_work 54 = .ok (.aload_n 0, 1) := by decide +kernel
theorem dX11_work_55 : decode cX11_work 55 = .ok (.iconst 0, 1) := by decide +kernel
theorem dX11_work_56 : decode cX11_work 56 = .ok (.invokevirtual 272, 3) := by decide +kernel
theorem dX11_work_59 : decode cX11_work 59 = .ok (.pop, 1) := by decide +kernel
theorem dX11_work_60 : decode cX11_work 60 = .ok (.bipush (-20), 2) := by decide +kernel
theorem dX11_work_62 : decode cX11_work 62 = .ok (.ireturn, 1) := by decide +kernel
theorem dX11_work_63 : decode cX11_work 63 = .ok (.aload_n 0, 1) := by decide +kernel
theorem dX11_work_64 : decode cX11_work 64 = .ok (.iconst 0, 1) := by decide +kernel
theorem dX11_work_65 : decode cX11_work 65 = .ok (.putfield 325, 3) := by decide +kernel
theorem dX11_work_68 : decode cX11_work 68 = .ok (.aload_n 0, 1) := by decide +kernel
theorem dX11_work_69 : decode cX11_work 69 = .ok (.invokevirtual 149, 3) := by decide +kernel
theorem dX11_work_72 : decode cX11_work 72 = .ok (.ifCond .eq 17, 3) := by decide +kernel
theorem dX11_work_75 : decode cX11_work 75 = .ok (.aload_n 0, 1) := by decide +kernel
theorem dX11_work_76 : decode cX11_work 76 = .ok (.invokevirtual 260, 3) := by decide +kernel
theorem dX11_work_79 : decode cX11_work 79 = .ok (.ifCond .eq 10, 3) := by decide +kernel
theorem dX11_work_82 : decode cX11_work 82 = .ok (.aload_n 0, 1) := by decide +kernel
theorem dX11_work_83 : decode cX11_work 83 = .ok (.invokevirtual 342, 3) := by decide +kernel
theorem dX11_work_86 : decode cX11_work 86 = .ok (.goto (-18), 3) := by decide +kernel
theorem dX11_work_89 : decode cX11_work 89 = .ok (.aload_n 0, 1) := by decide +kernel
theorem dX11_work_90 : decode cX11_work 90 = .ok (.iconst 0, 1) := by decide +kernel
theorem dX11_work_91 : decode cX11_work 91 = .ok (.invokevirtual 272, 3) := by decide +kernel
theorem dX11_work_94 : decode cX11_work 94 = .ok (.istore_n 2, 1) := by decide +kernel
theorem dX11_work_95 : decode cX11_work 95 = .ok (.aload_n 0, 1) := by decide +kernel
theorem dX11_work_96 : decode cX11_work 96 = .ok (.getfield 121, 3) := by decide +kernel
theorem dX11_work_99 : decode cX11_work 99 = .ok (.iconst (-1), 1) := by decide +kernel
theorem dX11_work_100 : decode cX11_work 100 = .ok (.if_icmp .eq 5, 3) := by decide +kernel
theorem dX11_work_103 : decode cX11_work 103 = .ok (.iload_n 2, 1) := by decide +kernel
theorem dX11_work_104 : decode cX11_work 104 = .ok (.ireturn, 1) := by decide +kernel
theorem dX11_work_105 : decode cX11_work 105 = .ok (.aload_n 0, 1) := by decide +kernel
theorem dX11_work_106 : decode cX11_work 106 = .ok (.aload_n 0, 1) := by decide +kernel
theorem dX11_work_107 : decode cX11_work 107 = .ok (.getfield 68, 3) := by decide +kernel
theorem dX11_work_110 : decode cX11_work 110 = .ok (.aload_n 0, 1) := by decide +kernel
theorem dX11_work_111 : decode cX11_work 111 = .ok (.getfield 71, 3) := by decide +kernel
theorem dX11_work_114 : decode cX11_work 114 = .ok (.aload_n 0, 1) := by decide +kernel
theorem dX11_work_115 : decode cX11_work 115 = .ok (.getfield 325, 3) := by decide +kernel
theorem dX11_work_118 : decode cX11_work 118 = .ok (.invokevirtual 202, 3) := by decide +kernel
theorem dX11_work_121 : decode cX11_work 121 = .ok (.iconst 0, 1) := by decide +kernel
theorem dX11_work_122 : decode cX11_work 122 = .ok (.istore_n 3, 1) := by decide +kernel
theorem dX11_work_123 : decode cX11_work 123 = .ok (.iload_n 3, 1) := by decide +kernel
theorem dX11_work_124 : decode cX11_work 124 = .ok (.bipush 77, 2) := by decide +kernel
theorem dX11_work_126 : decode cX11_work 126 = .ok (.if_icmp .ge 29, 3) := by decide +kernel
theorem dX11_work_129 : decode cX11_work 129 = .ok (.aload_n 0, 1) := by decide +kernel
theorem dX11_work_130 : decode cX11_work 130 = .ok (.getfield 80, 3) := by decide +kernel
theorem dX11_work_133 : decode cX11_work 133 = .ok (.bipush 77, 2) := by decide +kernel
theorem dX11_work_135 : decode cX11_work 135 = .ok (.aload_n 0, 1) := by decide +kernel
theorem dX11_work_136 : decode cX11_work 136 = .ok (.getfield 209, 3) := by decide +kernel
theorem dX11_work_139 : decode cX11_work 139 = .ok (.imul, 1) := by decide +kernel
theorem dX11_work_140 : decode cX11_work 140 = .ok (.iload_n 3, 1) := by decide +kernel
theorem dX11_work_141 : decode cX11_work 141 = .ok (.iadd, 1) := by decide +kernel
theorem dX11_work_142 : decode cX11_work 142 = .ok (.aload_n 0, 1) := by decide +kernel
theorem dX11_work_143 : decode cX11_work 143 = .ok (.getfield 74, 3) := by decide +kernel
theorem dX11_work_146 : decode cX11_work 146 = .ok (.iload_n 3, 1) := by decide +kernel
theorem dX11_work_147 : decode cX11_work 147 = .ok (.iaload, 1) := by decide +kernel
theorem dX11_work_148 : decode cX11_work 148 = .ok (.iastore, 1) := by decide +kernel
theorem dX11_work_149 : decode cX11_work 149 = .ok (.iinc 3 1, 3) := by decide +kernel
theorem dX11_work_152 : decode cX11_work 152 = .ok (.goto (-29), 3) := by decide +kernel
theorem dX11_work_155 : decode cX11_work 155 = .ok (.aload_n 0, 1) := by decide +kernel
theorem dX11_work_156 : decode cX11_work 156 = .ok (.dup, 1) := by decide +kernel
theorem dX11_work_157 : decode cX11_work 157 = .ok (.getfield 209, 3) := by decide +kernel
theorem dX11_work_160 : decode cX11_work 160 = .ok (.iconst 1, 1) := by decide +kernel
theorem dX11_work_161 : decode cX11_work 161 = .ok (.iadd, 1) := by decide +kernel
theorem dX11_work_162 : decode cX11_work 162 = .ok (.putfield 209, 3) := by decide +kernel
theorem dX11_work_165 : decode cX11_work 165 = .ok (.aload_n 0, 1) := by decide +kernel
theorem dX11_work_166 : decode cX11_work 166 = .ok (.invokevirtual 345, 3) := by decide +kernel
theorem dX11_work_169 : decode cX11_work 169 = .ok (.aload_n 0, 1) := by decide +kernel
theorem dX11_work_170 : decode cX11_work 170 = .ok (.iconst 0, 1) := by decide +kernel
theorem dX11_work_171 : decode cX11_work 171 = .ok (.putfield 348, 3) := by decide +kernel
theorem dX11_work_174 : decode cX11_work 174 = .ok (.aload_n 0, 1) := by decide +kernel
theorem dX11_work_175 : decode cX11_work 175 = .ok (.iconst 0, 1) := by decide +kernel
theorem dX11_work_176 : decode cX11_work 176 = .ok (.putfield 351, 3) := by decide +kernel
theorem dX11_work_179 : decode cX11_work 179 = .ok (.aload_n 0, 1) := by decide +kernel
theorem dX11_work_180 : decode cX11_work 180 = .ok (.iconst 0, 1) := by decide +kernel
theorem dX11_work_181 : decode cX11_work 181 = .ok (.putfield 354, 3) := by decide +kernel
theorem dX11_work_184 : decode cX11_work 184 = .ok (.aload_n 0, 1) := by decide +kernel
theorem dX11_work_185 : decode cX11_work 185 = .ok (.iconst 0, 1) := by decide +kernel
theorem dX11_work_186 : decode cX11_work 186 = .ok (.aload_n 0, 1) := by decide +kernel
theorem dX11_work_187 : decode cX11_work 187 = .ok (.getfield 325, 3) := by decide +kernel
theorem dX11_work_190 : decode cX11_work 190 = .ok (.invokevirtual 357, 3) := by decide +kernel
theorem dX11_work_193 : decode cX11_work 193 = .ok (.aload_n 0, 1) := by decide +kernel
theorem dX11_work_194 : decode cX11_work 194 = .ok (.aload_n 0, 1) := by decide +kernel
theorem dX11_work_195 : decode cX11_work 195 = .ok (.getfield 77, 3) := by decide +kernel
theorem dX11_work_198 : decode cX11_work 198 = .ok (.aload_n 0, 1) := by decide +kernel
theorem dX11_work_199 : decode cX11_work 199 = .ok (.getfield 74, 3) := by decide +kernel
theorem dX11_work_202 : decode cX11_work 202 = .ok (.bipush 77, 2) := by decide +kernel
theorem dX11_work_204 : decode cX11_work 204 = .ok (.invokevirtual 202, 3) := by decide +kernel
theorem dX11_work_207 : decode cX11_work 207 = .ok (.aload_n 0, 1) := by decide +kernel
theorem dX11_work_208 : decode cX11_work 208 = .ok (.aload_n 0, 1) := by decide +kernel
theorem dX11_work_209 : decode cX11_work 209 = .ok (.getfield 354, 3) := by decide +kernel
theorem dX11_work_212 : decode cX11_work 212 = .ok (.putfield 215, 3) := by decide +kernel
theorem dX11_work_215 : decode cX11_work 215 = .ok (.aload_n 0, 1) := by decide +kernel
theorem dX11_work_216 : decode cX11_work 216 = .ok (.getfield 351, 3) := by decide +kernel
theorem dX11_work_219 : decode cX11_work 219 = .ok (.ireturn, 1) := by decide +kernel
theorem dX11_goesSteps_0 : decode cX11_goesSteps 0 = .ok (.iload_n 1, 1) := by decide +kernel
theorem dX11_goesSteps_1 : decode cX11_goesSteps 1 = .ok (.istore_n 3, 1) := by decide +kernel
theorem dX11_goesSteps_2 : decode cX11_goesSteps 2 = .ok (.iload_n 3, 1) := by decide +kernel
theorem dX11_goesSteps_3 : decode cX11_goesSteps 3 = .ok (.iload_n 2, 1) := by decide +kernel
theorem dX11_goesSteps_4 : decode cX11_goesSteps 4 = .ok (.if_icmp .ge 148, 3) := by decide +kernel
theorem dX11_goesSteps_7 : decode cX11_goesSteps 7 = .ok (.aload_n 0, 1) := by decide +kernel
theorem dX11_goesSteps_8 : decode cX11_goesSteps 8 = .ok (.getfield 348, 3) := by decide +kernel
theorem dX11_goesSteps_11 : decode cX11_goesSteps 11 = .ok (.sipush 200, 3) := by decide +kernel
theorem dX11_goesSteps_14 : decode cX11_goesSteps 14 = .ok (.if_icmp .ge 138, 3) := by decide +kernel
theorem dX11_goesSteps_17 : decode cX11_goesSteps 17 = .ok (.aload_n 0, 1) := by decide +kernel
theorem dX11_goesSteps_18 : decode cX11_goesSteps 18 = .ok (.dup, 1) := by decide +kernel
theorem dX11_goesSteps_19 : decode cX11_goesSteps 19 = .ok (.getfield 348, 3) := by decide +kernel
theorem dX11_goesSteps_22 : decode cX11_goesSteps 22 = .ok (.iconst 1, 1) := by decide +kernel
theorem dX11_goesSteps_23 : decode cX11_goesSteps 23 = .ok (.iadd, 1) := by decide +kernel
theorem dX11_goesSteps_24 : decode cX11_goesSteps 24 = .ok (.putfield 348, 3) := by decide +kernel
theorem dX11_goesSteps_27 : decode cX11_goesSteps 27 = .ok (.aload_n 0, 1) := by decide +kernel
theorem dX11_goesSteps_28 : decode cX11_goesSteps 28 = .ok (.getfield 71, 3) := by decide +kernel
theorem dX11_goesSteps_31 : decode cX11_goesSteps 31 = .ok (.iload_n 3, 1) := by decide +kernel
theorem dX11_goesSteps_32 : decode cX11_goesSteps 32 = .ok (.iaload, 1) := by decide +kernel
theorem dX11_goesSteps_33 : decode cX11_goesSteps 33 = .ok (.iconst 5, 1) := by decide +kernel
theorem dX11_goesSteps_34 : decode cX11_goesSteps 34 = .ok (.if_icmp .ne 60, 3) := by decide +kernel
theorem dX11_goesSteps_37 : decode cX11_goesSteps 37 = .ok (.aload_n 0, 1) := by decide +kernel
theorem dX11_goesSteps_38 : decode cX11_goesSteps 38 = .ok (.getfield 71, 3) := by decide +kernel
theorem dX11_goesSteps_41 : decode cX11_goesSteps 41 = .ok (.iload_n 3, 1) := by decide +kernel
theorem dX11_goesSteps_42 : decode cX11_goesSteps 42 = .ok (.iconst 2, 1) := by decide +kernel
theorem dX11_goesSteps_43 : decode cX11_goesSteps 43 = .ok (.iadd, 1) := by decide +kernel
theorem dX11_goesSteps_44 : decode cX11_goesSteps 44 = .ok (.iaload, 1) := by decide +kernel
theorem dX11_goesSteps_45 : decode cX11_goesSteps 45 = .ok (.istore 4, 2) := by decide +kernel
theorem dX11_goesSteps_47 : decode cX11_goesSteps 47 = .ok (.iconst 0, 1) := by decide +kernel
theorem dX11_goesSteps_48 : decode cX11_goesSteps 48 = .ok (.istore 5, 2) := by decide +kernel
theorem dX11_goesSteps_50 : decode cX11_goesSteps 50 = .ok (.iload 5, 2) := by decide +kernel
theorem dX11_goesSteps_52 : decode cX11_goesSteps 52 = .ok (.aload_n 0, 1) := by decide +kernel
theorem dX11_goesSteps_53 : decode cX11_goesSteps 53 = .ok (.getfield 71, 3) := by decide +kernel
theorem dX11_goesSteps_56 : decode cX11_goesSteps 56 = .ok (.iload_n 3, 1) := by decide +kernel
theorem dX11_goesSteps_57 : decode cX11_goesSteps 57 = .ok (.iconst 1, 1) := by decide +kernel
theorem dX11_goesSteps_58 : decode cX11_goesSteps 58 = .ok (.iadd, 1) := by decide +kernel
theorem dX11_goesSteps_59 : decode cX11_goesSteps 59 = .ok (.iaload, 1) := by decide +kernel
theorem dX11_goesSteps_60 : decode cX11_goesSteps 60 = .ok (.if_icmp .ge 28, 3) := by decide +kernel
theorem dX11_goesSteps_63 : decode cX11_goesSteps 63 = .ok (.aload_n 0, 1) := by decide +kernel
theorem dX11_goesSteps_64 : decode cX11_goesSteps 64 = .ok (.getfield 348, 3) := by decide +kernel
theorem dX11_goesSteps_67 : decode cX11_goesSteps 67 = .ok (.sipush 200, 3) := by decide +kernel
theorem dX11_goesSteps_70 : decode cX11_goesSteps 70 = .ok (.if_icmp .ge 18, 3) := by decide +kernel
theorem dX11_goesSteps_73 : decode cX11_goesSteps 73 = .ok (.aload_n 0, 1) := by decide +kernel
theorem dX11_goesSteps_74 : decode cX11_goesSteps 74 = .ok (.iload_n 3, 1) := by decide +kernel
theorem dX11_goesSteps_75 : decode cX11_goesSteps 75 = .ok (.iconst 3, 1) := by decide +kernel
theorem dX11_goesSteps_76 : decode cX11_goesSteps 76 = .ok (.iadd, 1) := by decide +kernel
theorem dX11_goesSteps_77 : decode cX11_goesSteps 77 = .ok (.iload 4, 2) := by decide +kernel
theorem dX11_goesSteps_79 : decode cX11_goesSteps 79 = .ok (.invokevirtual 357, 3) := by decide +kernel
theorem dX11_goesSteps_82 : decode cX11_goesSteps 82 = .ok (.iinc 5 1, 3) := by decide +kernel
theorem dX11_goesSteps_85 : decode cX11_goesSteps 85 = .ok (.goto (-35), 3) := by decide +kernel
theorem dX11_goesSteps_88 : decode cX11_goesSteps 88 = .ok (.iload 4, 2) := by decide +kernel
theorem dX11_goesSteps_90 : decode cX11_goesSteps 90 = .ok (.istore_n 3, 1) := by decide +kernel
theorem dX11_goesSteps_91 : decode cX11_goesSteps 91 = .ok (.goto (-89), 3) := by decide +kernel
theorem dX11_goesSteps_94 : decode cX11_goesSteps 94 = .ok (.aload_n 0, 1) := by decide +kernel
theorem dX11_goesSteps_95 : decode cX11_goesSteps 95 = .ok (.aload_n 0, 1) := by decide +kernel
theorem dX11_goesSteps_96 : decode cX11_goesSteps 96 = .ok (.getfield 71, 3) := by decide +kernel
theorem dX11_goesSteps_99 : decode cX11_goesSteps 99 = .ok (.iload_n 3, 1) := by decide +kernel
theorem dX11_goesSteps_100 : decode cX11_goesSteps 100 = .ok (.iaload, 1) := by decide +kernel
theorem dX11_goesSteps_101 : decode cX11_goesSteps 101 = .ok (.aload_n 0, 1) := by decide +kernel
theorem dX11_goesSteps_102 : decode cX11_goesSteps 102 = .ok (.getfield 71, 3) := by decide +kernel
theorem dX11_goesSteps_105 : decode cX11_goesSteps 105 = .ok (.iload_n 3, 1) := by decide +kernel
theorem dX11_goesSteps_106 : decode cX11_goesSteps 106 = .ok (.iconst 1, 1) := by decide +kernel
theorem dX11_goesSteps_107 : decode cX11_goesSteps 107 = .ok (.iadd, 1) := by decide +kernel
theorem dX11_goesSteps_108 : decode cX11_goesSteps 108 = .ok (.iaload, 1) := by decide +kernel
theorem dX11_goesSteps_109 : decode cX11_goesSteps 109 = .ok (.aload_n 0, 1) := by decide +kernel
theorem dX11_goesSteps_110 : decode cX11_goesSteps 110 = .ok (.getfield 71, 3) := by decide +kernel
theorem dX11_goesSteps_113 : decode cX11_goesSteps 113 = .ok (.iload_n 3, 1) := by decide +kernel
theorem dX11_goesSteps_114 : decode cX11_goesSteps 114 = .ok (.iconst 2, 1) := by decide +kernel
theorem dX11_goesSteps_115 : decode cX11_goesSteps 115 = .ok (.iadd, 1) := by decide +kernel
theorem dX11_goesSteps_116 : decode cX11_goesSteps 116 = .ok (.iaload, 1) := by decide +kernel
theorem dX11_goesSteps_117 : decode cX11_goesSteps 117 = .ok (.invokevirtual 360, 3) := by decide +kernel
theorem dX11_goesSteps_120 : decode cX11_goesSteps 120 = .ok (.ifCond .eq 16, 3) := by decide +kernel
theorem dX11_goesSteps_123 : decode cX11_goesSteps 123 = .ok (.aload_n 0, 1) := by decide +kernel
theorem dX11_goesSteps_124 : decode cX11_goesSteps 124 = .ok (.dup, 1) := by decide +kernel
theorem dX11_goesSteps_125 : decode cX11_goesSteps 125 = .ok (.getfield 351, 3) := by decide +kernel
theorem dX11_goesSteps_128 : decode cX11_goesSteps 128 = .ok (.iconst 1, 1) := by decide +kernel
theorem dX11_goesSteps_129 : decode cX11_goesSteps 129 = .ok (.iadd, 1) := by decide +kernel
theorem dX11_goesSteps_130 : decode cX11_goesSteps 130 = .ok (.putfield 351, 3) := by decide +kernel
theorem dX11_goesSteps_133 : decode cX11_goesSteps 133 = .ok (.goto 13, 3) := by decide +kernel
theorem dX11_goesSteps_136 : decode cX11_goesSteps 136 = .ok (.aload_n 0, 1) := by decide +kernel
theorem dX11_goesSteps_137 : decode cX11_goesSteps 137 = .ok (.dup, 1) := by decide +kernel
theorem dX11_goesSteps_138 : decode cX11_goesSteps 138 = .ok (.getfield 354, 3) := by decide +kernel
theorem dX11_goesSteps_141 : decode cX11_goesSteps 141 = .ok (.iconst 1, 1) := by decide +kernel
theorem dX11_goesSteps_142 : decode cX11_goesSteps 142 = .ok (.iadd, 1) := by decide +kernel
theorem dX11_goesSteps_143 : decode cX11_goesSteps 143 = .ok (.putfield 354, 3) := by decide +kernel
theorem dX11_goesSteps_146 : decode cX11_goesSteps 146 = .ok (.iinc 3 3, 3) := by decide +kernel
theorem dX11_goesSteps_149 : decode cX11_goesSteps 149 = .ok (.goto (-147), 3) := by decide +kernel
theorem dX11_goesSteps_152 : decode cX11_goesSteps 152 = .ok (.return_, 1) := by decide +kernel
theorem dX11_take_0 : decode cX11_take 0 = .ok (.aload_n 0, 1) := by decide +kernel
theorem dX11_take_1 : decode cX11_take 1 = .ok (.aload_n 0, 1) := by decide +kernel
theorem dX11_take_2 : decode cX11_take 2 = .ok (.getfield 74, 3) := by decide +kernel
theorem dX11_take_5 : decode cX11_take 5 = .ok (.aload_n 0, 1) := by decide +kernel
theorem dX11_take_6 : decode cX11_take 6 = .ok (.getfield 77, 3) := by decide +kernel
theorem dX11_take_9 : decode cX11_take 9 = .ok (.bipush 77, 2) := by decide +kernel
theorem dX11_take_11 : decode cX11_take 11 = .ok (.invokevirtual 202, 3) := by decide +kernel
theorem dX11_take_14 : decode cX11_take 14 = .ok (.return_, 1) := by decide +kernel
theorem dX11_isIn_0 : decode cX11_isIn 0 = .ok (.iload_n 1, 1) := by decide +kernel
theorem dX11_isIn_1 : decode cX11_isIn 1 = .ok (.ifCond .lt 27, 3) := by decide +kernel
theorem dX11_isIn_4 : decode cX11_isIn 4 = .ok (.iload_n 1, 1) := by decide +kernel
theorem dX11_isIn_5 : decode cX11_isIn 5 = .ok (.aload_n 0, 1) := by decide +kernel
theorem dX11_isIn_6 : decode cX11_isIn 6 = .ok (.getfield 184, 3) := by decide +kernel
theorem dX11_isIn_9 : decode cX11_isIn 9 = .ok (.if_icmp .ge 19, 3) := by decide +kernel
theorem dX11_isIn_12 : decode cX11_isIn 12 = .ok (.iload_n 2, 1) := by decide +kernel
theorem dX11_isIn_13 : decode cX11_isIn 13 = .ok (.ifCond .lt 15, 3) := by decide +kernel
theorem dX11_isIn_16 : decode cX11_isIn 16 = .ok (.iload_n 2, 1) := by decide +kernel
theorem dX11_isIn_17 : decode cX11_isIn 17 = .ok (.aload_n 0, 1) := by decide +kernel
theorem dX11_isIn_18 : decode cX11_isIn 18 = .ok (.getfield 187, 3) := by decide +kernel
theorem dX11_isIn_21 : decode cX11_isIn 21 = .ok (.if_icmp .ge 7, 3) := by decide +kernel
theorem dX11_isIn_24 : decode cX11_isIn 24 = .ok (.iconst 1, 1) := by decide +kernel
theorem dX11_isIn_25 : decode cX11_isIn 25 = .ok (.goto 4, 3) := by decide +kernel
theorem dX11_isIn_28 : decode cX11_isIn 28 = .ok (.iconst 0, 1) := by decide +kernel
theorem dX11_isIn_29 : decode cX11_isIn 29 = .ok (.ireturn, 1) := by decide +kernel
theorem dX11_isOpen_0 : decode cX11_isOpen 0 = .ok (.aload_n 0, 1) := by decide +kernel
theorem dX11_isOpen_1 : decode cX11_isOpen 1 = .ok (.iload_n 1, 1) := by decide +kernel
theorem dX11_isOpen_2 : decode cX11_isOpen 2 = .ok (.iload_n 2, 1) := by decide +kernel
theorem dX11_isOpen_3 : decode cX11_isOpen 3 = .ok (.invokevirtual 363, 3) := by decide +kernel
theorem dX11_isOpen_6 : decode cX11_isOpen 6 = .ok (.ifCond .eq 37, 3) := by decide +kernel
theorem dX11_isOpen_9 : decode cX11_isOpen 9 = .ok (.aload_n 0, 1) := by decide +kernel
theorem dX11_isOpen_10 : decode cX11_isOpen 10 = .ok (.getfield 77, 3) := by decide +kernel
theorem dX11_isOpen_13 : decode cX11_isOpen 13 = .ok (.bipush 8, 2) := by decide +kernel
theorem dX11_isOpen_15 : decode cX11_isOpen 15 = .ok (.iload_n 2, 1) := by decide +kernel
theorem dX11_isOpen_16 : decode cX11_isOpen 16 = .ok (.imul, 1) := by decide +kernel
theorem dX11_isOpen_17 : decode cX11_isOpen 17 = .ok (.iload_n 1, 1) := by decide +kernel
theorem dX11_isOpen_18 : decode cX11_isOpen 18 = .ok (.iadd, 1) := by decide +kernel
theorem dX11_isOpen_19 : decode cX11_isOpen 19 = .ok (.iaload, 1) := by decide +kernel
theorem dX11_isOpen_20 : decode cX11_isOpen 20 = .ok (.iconst 1, 1) := by decide +kernel
theorem dX11_isOpen_21 : decode cX11_isOpen 21 = .ok (.if_icmp .eq 18, 3) := by decide +kernel
theorem dX11_isOpen_24 : decode cX11_isOpen 24 = .ok (.aload_n 0, 1) := by decide +kernel
theorem dX11_isOpen_25 : decode cX11_isOpen 25 = .ok (.getfield 77, 3) := by decide +kernel
theorem dX11_isOpen_28 : decode cX11_isOpen 28 = .ok (.bipush 8, 2) := by decide +kernel
theorem dX11_isOpen_30 : decode cX11_isOpen 30 = .ok (.iload_n 2, 1) := by decide +kernel
theorem dX11_isOpen_31 : decode cX11_isOpen 31 = .ok (.imul, 1) := by decide +kernel
theorem dX11_isOpen_32 : decode cX11_isOpen 32 = .ok (.iload_n 1, 1) := by decide +kernel
theorem dX11_isOpen_33 : decode cX11_isOpen 33 = .ok (.iadd, 1) := by decide +kernel
theorem dX11_isOpen_34 : decode cX11_isOpen 34 = .ok (.iaload, 1) := by decide +kernel
theorem dX11_isOpen_35 : decode cX11_isOpen 35 = .ok (.iconst 2, 1) := by decide +kernel
theorem dX11_isOpen_36 : decode cX11_isOpen 36 = .ok (.if_icmp .ne 7, 3) := by decide +kernel
theorem dX11_isOpen_39 : decode cX11_isOpen 39 = .ok (.iconst 1, 1) := by decide +kernel
theorem dX11_isOpen_40 : decode cX11_isOpen 40 = .ok (.goto 4, 3) := by decide +kernel
theorem dX11_isOpen_43 : decode cX11_isOpen 43 = .ok (.iconst 0, 1) := by decide +kernel
theorem dX11_isOpen_44 : decode cX11_isOpen 44 = .ok (.ireturn, 1) := by decide +kernel
theorem dX11_isAtHand_0 : decode cX11_isAtHand 0 = .ok (.iload_n 1, 1) := by decide +kernel
theorem dX11_isAtHand_1 : decode cX11_isAtHand 1 = .ok (.bipush 8, 2) := by decide +kernel
theorem dX11_isAtHand_3 : decode cX11_isAtHand 3 = .ok (.irem, 1) := by decide +kernel
theorem dX11_isAtHand_4 : decode cX11_isAtHand 4 = .ok (.istore_n 2, 1) := by decide +kernel
theorem dX11_isAtHand_5 : decode cX11_isAtHand 5 = .ok (.iload_n 1, 1) := by decide +kernel
theorem dX11_isAtHand_6 : decode cX11_isAtHand 6 = .ok (.bipush 8, 2) := by decide +kernel
theorem dX11_isAtHand_8 : decode cX11_isAtHand 8 = .ok (.idiv, 1) := by decide +kernel
theorem dX11_isAtHand_9 : decode cX11_isAtHand 9 = .ok (.istore_n 3, 1) := by decide +kernel
theorem dX11_isAtHand_10 : decode cX11_isAtHand 10 = .ok (.aload_n 0, 1) := by decide +kernel
theorem dX11_isAtHand_11 : decode cX11_isAtHand 11 = .ok (.iload_n 2, 1) := by decide +kernel
theorem dX11_isAtHand_12 : decode cX11_isAtHand 12 = .ok (.iconst 1, 1) := by decide +kernel
theorem dX11_isAtHand_13 : decode cX11_isAtHand 13 = .ok (.isub, 1) := by decide +kernel
theorem dX11_isAtHand_14 : decode cX11_isAtHand 14 = .ok (.iload_n 3, 1) := by decide +kernel
theorem dX11_isAtHand_15 : decode cX11_isAtHand 15 = .ok (.invokevirtual 367, 3) := by decide +kernel
theorem dX11_isAtHand_18 : decode cX11_isAtHand 18 = .ok (.ifCond .ne 52, 3) := by decide +kernel
theorem dX11_isAtHand_21 : decode cX11_isAtHand 21 = .ok (.aload_n 0, 1) := by decide +kernel
theorem dX11_isAtHand_22 : decode cX11_isAtHand 22 = .ok (.iload_n 2, 1) := by decide +kernel
theorem dX11_isAtHand_23 : decode cX11_isAtHand 23 = .ok (.iconst 1, 1) := by decide +kernel
theorem dX11_isAtHand_24 : decode cX11_isAtHand 24 = .ok (.iadd, 1) := by decide +kernel
theorem dX11_isAtHand_25 : decode cX11_isAtHand 25 = .ok (.iload_n 3, 1) := by decide +kernel
theorem dX11_isAtHand_26 : decode cX11_isAtHand 26 = .ok (.invokevirtual 367, 3) := by decide +kernel
theorem dX11_isAtHand_29 : decode cX11_isAtHand 29 = .ok (.ifCond .ne 41, 3) := by decide +kernel
theorem dX11_isAtHand_32 : decode cX11_isAtHand 32 = .ok (.aload_n 0, 1) := by decide +kernel
theorem dX11_isAtHand_33 : decode cX11_isAtHand 33 = .ok (.iload_n 2, 1) := by decide +kernel
theorem dX11_isAtHand_34 : decode cX11_isAtHand 34 = .ok (.iload_n 3, 1) := by decide +kernel
theorem dX11_isAtHand_35 : decode cX11_isAtHand 35 = .ok (.iconst 1, 1) := by decide +kernel
theorem dX11_isAtHand_36 : decode cX11_isAtHand 36 = .ok (.isub, 1) := by decide +kernel
theorem dX11_isAtHand_37 : decode cX11_isAtHand 37 = .ok (.invokevirtual 367, 3) := by decide +kernel
theorem dX11_isAtHand_40 : decode cX11_isAtHand 40 = .ok (.ifCond .ne 30, 3) := by decide +kernel
theorem dX11_isAtHand_43 : decode cX11_isAtHand 43 = .ok (.aload_n 0, 1) := by decide +kernel
theorem dX11_isAtHand_44 : decode cX11_isAtHand 44 = .ok (.iload_n 2, 1) := by decide +kernel
theorem dX11_isAtHand_45 : decode cX11_isAtHand 45 = .ok (.iload_n 3, 1) := by decide +kernel
theorem dX11_isAtHand_46 : decode cX11_isAtHand 46 = .ok (.iconst 1, 1) := by decide +kernel
theorem dX11_isAtHand_47 : decode cX11_isAtHand 47 = .ok (.iadd, 1) := by decide +kernel
theorem dX11_isAtHand_48 : decode cX11_isAtHand 48 = .ok (.invokevirtual 367, 3) := by decide +kernel
theorem dX11_isAtHand_51 : decode cX11_isAtHand 51 = .ok (.ifCond .ne 19, 3) := by decide +kernel
theorem dX11_isAtHand_54 : decode cX11_isAtHand 54 = .ok (.iload_n 3, 1) := by decide +kernel
theorem dX11_isAtHand_55 : decode cX11_isAtHand 55 = .ok (.ifCond .ne 19, 3) := by decide +kernel
theorem dX11_isAtHand_58 : decode cX11_isAtHand 58 = .ok (.aload_n 0, 1) := by decide +kernel
theorem dX11_isAtHand_59 : decode cX11_isAtHand 59 = .ok (.getfield 190, 3) := by decide +kernel
theorem dX11_isAtHand_62 : decode cX11_isAtHand 62 = .ok (.iload_n 2, 1) := by decide +kernel
theorem dX11_isAtHand_63 : decode cX11_isAtHand 63 = .ok (.ishr, 1) := by decide +kernel
theorem dX11_isAtHand_64 : decode cX11_isAtHand 64 = .ok (.iconst 1, 1) := by decide +kernel
theorem dX11_isAtHand_65 : decode cX11_isAtHand 65 = .ok (.iand, 1) := by decide +kernel
theorem dX11_isAtHand_66 : decode cX11_isAtHand 66 = .ok (.iconst 1, 1) := by decide +kernel
theorem dX11_isAtHand_67 : decode cX11_isAtHand 67 = .ok (.if_icmp .ne 7, 3) := by decide +kernel
theorem dX11_isAtHand_70 : decode cX11_isAtHand 70 = .ok (.iconst 1, 1) := by decide +kernel
theorem dX11_isAtHand_71 : decode cX11_isAtHand 71 = .ok (.goto 4, 3) := by decide +kernel
theorem dX11_isAtHand_74 : decode cX11_isAtHand 74 = .ok (.iconst 0, 1) := by decide +kernel
theorem dX11_isAtHand_75 : decode cX11_isAtHand 75 = .ok (.ireturn, 1) := by decide +kernel
theorem dX11_wideAt_0 : decode cX11_wideAt 0 = .ok (.iconst 1, 1) := by decide +kernel
theorem dX11_wideAt_1 : decode cX11_wideAt 1 = .ok (.istore_n 2, 1) := by decide +kernel
theorem dX11_wideAt_2 : decode cX11_wideAt 2 = .ok (.iload_n 1, 1) := by decide +kernel
theorem dX11_wideAt_3 : decode cX11_wideAt 3 = .ok (.bipush 8, 2) := by decide +kernel
theorem dX11_wideAt_5 : decode cX11_wideAt 5 = .ok (.irem, 1) := by decide +kernel
theorem dX11_wideAt_6 : decode cX11_wideAt 6 = .ok (.iconst 1, 1) := by decide +kernel
theorem dX11_wideAt_7 : decode cX11_wideAt 7 = .ok (.isub, 1) := by decide +kernel
theorem dX11_wideAt_8 : decode cX11_wideAt 8 = .ok (.istore_n 3, 1) := by decide +kernel
theorem dX11_wideAt_9 : decode cX11_wideAt 9 = .ok (.iload_n 3, 1) := by decide +kernel
theorem dX11_wideAt_10 : decode cX11_wideAt 10 = .ok (.ifCond .lt 29, 3) := by decide +kernel
theorem dX11_wideAt_13 : decode cX11_wideAt 13 = .ok (.aload_n 0, 1) := by decide +kernel
theorem dX11_wideAt_14 : decode cX11_wideAt 14 = .ok (.getfield 77, 3) := by decide +kernel
theorem dX11_wideAt_17 : decode cX11_wideAt 17 = .ok (.iload_n 1, 1) := by decide +kernel
theorem dX11_wideAt_18 : decode cX11_wideAt 18 = .ok (.iload_n 1, 1) := by decide +kernel
theorem dX11_wideAt_19 : decode cX11_wideAt 19 = .ok (.bipush 8, 2) := by decide +kernel
theorem dX11_wideAt_21 : decode cX11_wideAt 21 = .ok (.irem, 1) := by decide +kernel
theorem dX11_wideAt_22 : decode cX11_wideAt 22 = .ok (.isub, 1) := by decide +kernel
theorem dX11_wideAt_23 : decode cX11_wideAt 23 = .ok (.iload_n 3, 1) := by decide +kernel
theorem dX11_wideAt_24 : decode cX11_wideAt 24 = .ok (.iadd, 1) := by decide +kernel
theorem dX11_wideAt_25 : decode cX11_wideAt 25 = .ok (.iaload, 1) := by decide +kernel
theorem dX11_wideAt_26 : decode cX11_wideAt 26 = .ok (.iconst 1, 1) := by decide +kernel
theorem dX11_wideAt_27 : decode cX11_wideAt 27 = .ok (.if_icmp .ne 12, 3) := by decide +kernel
theorem dX11_wideAt_30 : decode cX11_wideAt 30 = .ok (.iinc 2 1, 3) := by decide +kernel
theorem dX11_wideAt_33 : decode cX11_wideAt 33 = .ok (.iinc 3 (-1), 3) := by decide +kernel
theorem dX11_wideAt_36 : decode cX11_wideAt 36 = .ok (.goto (-27), 3) := by decide +kernel
theorem dX11_wideAt_39 : decode cX11_wideAt 39 = .ok (.iload_n 1, 1) := by decide +kernel
theorem dX11_wideAt_40 : decode cX11_wideAt 40 = .ok (.bipush 8, 2) := by decide +kernel
theorem dX11_wideAt_42 : decode cX11_wideAt 42 = .ok (.irem, 1) := by decide +kernel
theorem dX11_wideAt_43 : decode cX11_wideAt 43 = .ok (.iconst 1, 1) := by decide +kernel
theorem dX11_wideAt_44 : decode cX11_wideAt 44 = .ok (.iadd, 1) := by decide +kernel
theorem dX11_wideAt_45 : decode cX11_wideAt 45 = .ok (.istore_n 3, 1) := by decide +kernel
theorem dX11_wideAt_46 : decode cX11_wideAt 46 = .ok (.iload_n 3, 1) := by decide +kernel
theorem dX11_wideAt_47 : decode cX11_wideAt 47 = .ok (.aload_n 0, 1) := by decide +kernel
theorem dX11_wideAt_48 : decode cX11_wideAt 48 = .ok (.getfield 184, 3) := by decide +kernel
theorem dX11_wideAt_51 : decode cX11_wideAt 51 = .ok (.if_icmp .ge 29, 3) := by decide +kernel
theorem dX11_wideAt_54 : decode cX11_wideAt 54 = .ok (.aload_n 0, 1) := by decide +kernel
theorem dX11_wideAt_55 : decode cX11_wideAt 55 = .ok (.getfield 77, 3) := by decide +kernel
theorem dX11_wideAt_58 : decode cX11_wideAt 58 = .ok (.iload_n 1, 1) := by decide +kernel
theorem dX11_wideAt_59 : decode cX11_wideAt 59 = .ok (.iload_n 1, 1) := by decide +kernel
theorem dX11_wideAt_60 : decode cX11_wideAt 60 = .ok (.bipush 8, 2) := by decide +kernel
theorem dX11_wideAt_62 : decode cX11_wideAt 62 = .ok (.irem, 1) := by decide +kernel
theorem dX11_wideAt_63 : decode cX11_wideAt 63 = .ok (.isub, 1) := by decide +kernel
theorem dX11_wideAt_64 : decode cX11_wideAt 64 = .ok (.iload_n 3, 1) := by decide +kernel
theorem dX11_wideAt_65 : decode cX11_wideAt 65 = .ok (.iadd, 1) := by decide +kernel
theorem dX11_wideAt_66 : decode cX11_wideAt 66 = .ok (.iaload, 1) := by decide +kernel
theorem dX11_wideAt_67 : decode cX11_wideAt 67 = .ok (.iconst 1, 1) := by decide +kernel
theorem dX11_wideAt_68 : decode cX11_wideAt 68 = .ok (.if_icmp .ne 12, 3) := by decide +kernel
theorem dX11_wideAt_71 : decode cX11_wideAt 71 = .ok (.iinc 2 1, 3) := by decide +kernel
theorem dX11_wideAt_74 : decode cX11_wideAt 74 = .ok (.iinc 3 1, 3) := by decide +kernel
theorem dX11_wideAt_77 : decode cX11_wideAt 77 = .ok (.goto (-31), 3) := by decide +kernel
theorem dX11_wideAt_80 : decode cX11_wideAt 80 = .ok (.iload_n 2, 1) := by decide +kernel
theorem dX11_wideAt_81 : decode cX11_wideAt 81 = .ok (.ireturn, 1) := by decide +kernel
theorem dX11_propped_0 : decode cX11_propped 0 = .ok (.aload_n 0, 1) := by decide +kernel
theorem dX11_propped_1 : decode cX11_propped 1 = .ok (.iload_n 1, 1) := by decide +kernel
theorem dX11_propped_2 : decode cX11_propped 2 = .ok (.iload_n 2, 1) := by decide +kernel
theorem dX11_propped_3 : decode cX11_propped 3 = .ok (.invokevirtual 363, 3) := by decide +kernel
theorem dX11_propped_6 : decode cX11_propped 6 = .ok (.ifCond .eq 22, 3) := by decide +kernel
theorem dX11_propped_9 : decode cX11_propped 9 = .ok (.aload_n 0, 1) := by decide +kernel
theorem dX11_propped_10 : decode cX11_propped 10 = .ok (.getfield 77, 3) := by decide +kernel
theorem dX11_propped_13 : decode cX11_propped 13 = .ok (.bipush 8, 2) := by decide +kernel
theorem dX11_propped_15 : decode cX11_propped 15 = .ok (.iload_n 2, 1) := by decide +kernel
theorem dX11_propped_16 : decode cX11_propped 16 = .ok (.imul, 1) := by decide +kernel
theorem dX11_propped_17 : decode cX11_propped 17 = .ok (.iload_n 1, 1) := by decide +kernel
theorem dX11_propped_18 : decode cX11_propped 18 = .ok (.iadd, 1) := by decide +kernel
theorem dX11_propped_19 : decode cX11_propped 19 = .ok (.iaload, 1) := by decide +kernel
theorem dX11_propped_20 : decode cX11_propped 20 = .ok (.iconst 2, 1) := by decide +kernel
theorem dX11_propped_21 : decode cX11_propped 21 = .ok (.if_icmp .ne 7, 3) := by decide +kernel
theorem dX11_propped_24 : decode cX11_propped 24 = .ok (.iconst 1, 1) := by decide +kernel
theorem dX11_propped_25 : decode cX11_propped 25 = .ok (.goto 4, 3) := by decide +kernel
theorem dX11_propped_28 : decode cX11_propped 28 = .ok (.iconst 0, 1) := by decide +kernel
theorem dX11_propped_29 : decode cX11_propped 29 = .ok (.ireturn, 1) := by decide +kernel
theorem dX11_findFacts_0 : decode cX11_findFacts 0 = .ok (.iload_n 1, 1) := by decide +kernel
theorem dX11_findFacts_1 : decode cX11_findFacts 1 = .ok (.bipush 8, 2) := by decide +kernel
theorem dX11_findFacts_3 : decode cX11_findFacts 3 = .ok (.irem, 1) := by decide +kernel
theorem dX11_findFacts_4 : decode cX11_findFacts 4 = .ok (.istore_n 3, 1) := by decide +kernel
theorem dX11_findFacts_5 : decode cX11_findFacts 5 = .ok (.iload_n 1, 1) := by decide +kernel
theorem dX11_findFacts_6 : decode cX11_findFacts 6 = .ok (.bipush 8, 2) := by decide +kernel
theorem dX11_findFacts_8 : decode cX11_findFacts 8 = .ok (.idiv, 1) := by decide +kernel
theorem dX11_findFacts_9 : decode cX11_findFacts 9 = .ok (.istore 4, 2) := by decide +kernel
theorem dX11_findFacts_11 : decode cX11_findFacts 11 = .ok (.aload_n 0, 1) := by decide +kernel
theorem dX11_findFacts_12 : decode cX11_findFacts 12 = .ok (.getfield 65, 3) := by decide +kernel
theorem dX11_findFacts_15 : decode cX11_findFacts 15 = .ok (.iconst 0, 1) := by decide +kernel
theorem dX11_findFacts_16 : decode cX11_findFacts 16 = .ok (.iload_n 2, 1) := by decide +kernel
theorem dX11_findFacts_17 : decode cX11_findFacts 17 = .ok (.iastore, 1) := by decide +kernel
theorem dX11_findFacts_18 : decode cX11_findFacts 18 = .ok (.aload_n 0, 1) := by decide +kernel
theorem dX11_findFacts_19 : decode cX11_findFacts 19 = .ok (.getfield 65, 3) := by decide +kernel
theorem dX11_findFacts_22 : decode cX11_findFacts 22 = .ok (.iconst 1, 1) := by decide +kernel
theorem dX11_findFacts_23 : decode cX11_findFacts 23 = .ok (.iload 4, 2) := by decide +kernel
theorem dX11_findFacts_25 : decode cX11_findFacts 25 = .ok (.iastore, 1) := by decide +kernel
theorem dX11_findFacts_26 : decode cX11_findFacts 26 = .ok (.aload_n 0, 1) := by decide +kernel
theorem dX11_findFacts_27 : decode cX11_findFacts 27 = .ok (.getfield 65, 3) := by decide +kernel
theorem dX11_findFacts_30 : decode cX11_findFacts 30 = .ok (.iconst 2, 1) := by decide +kernel
theorem dX11_findFacts_31 : decode cX11_findFacts 31 = .ok (.iload 4, 2) := by decide +kernel
theorem dX11_findFacts_33 : decode cX11_findFacts 33 = .ok (.ifCond .ne 7, 3) := by decide +kernel
theorem dX11_findFacts_36 : decode cX11_findFacts 36 = .ok (.iconst 0, 1) := by decide +kernel
theorem dX11_findFacts_37 : decode cX11_findFacts 37 = .ok (.goto 12, 3) := by decide +kernel
theorem dX11_findFacts_40 : decode cX11_findFacts 40 = .ok (.aload_n 0, 1) := by decide +kernel
theorem dX11_findFacts_41 : decode cX11_findFacts 41 = .ok (.getfield 35, 3) := by decide +kernel
theorem dX11_findFacts_44 : decode cX11_findFacts 44 = .ok (.iload_n 1, 1) := by decide +kernel
theorem dX11_findFacts_45 : decode cX11_findFacts 45 = .ok (.bipush 8, 2) := by decide +kernel
theorem dX11_findFacts_47 : decode cX11_findFacts 47 = .ok (.isub, 1) := by decide +kernel
theorem dX11_findFacts_48 : decode cX11_findFacts 48 = .ok (.iaload, 1) := by decide +kernel
theorem dX11_findFacts_49 : decode cX11_findFacts 49 = .ok (.iastore, 1) := by decide +kernel
theorem dX11_findFacts_50 : decode cX11_findFacts 50 = .ok (.aload_n 0, 1) := by decide +kernel
theorem dX11_findFacts_51 : decode cX11_findFacts 51 = .ok (.getfield 65, 3) := by decide +kernel
theorem dX11_findFacts_54 : decode cX11_findFacts 54 = .ok (.iconst 3, 1) := by decide +kernel
theorem dX11_findFacts_55 : decode cX11_findFacts 55 = .ok (.aload_n 0, 1) := by decide +kernel
theorem dX11_findFacts_56 : decode cX11_findFacts 56 = .ok (.iload_n 3, 1) := by decide +kernel
theorem dX11_findFacts_57 : decode cX11_findFacts 57 = .ok (.iload 4, 2) := by decide +kernel
theorem dX11_findFacts_59 : decode cX11_findFacts 59 = .ok (.iconst 1, 1) := by decide +kernel
theorem dX11_findFacts_60 : decode cX11_findFacts 60 = .ok (.isub, 1) := by decide +kernel
theorem dX11_findFacts_61 : decode cX11_findFacts 61 = .ok (.invokevirtual 367, 3) := by decide +kernel
theorem dX11_findFacts_64 : decode cX11_findFacts 64 = .ok (.ifCond .eq 7, 3) := by decide +kernel
theorem dX11_findFacts_67 : decode cX11_findFacts 67 = .ok (.iconst 1, 1) := by decide +kernel
theorem dX11_findFacts_68 : decode cX11_findFacts 68 = .ok (.goto 4, 3) := by decide +kernel
theorem dX11_findFacts_71 : decode cX11_findFacts 71 = .ok (.iconst 0, 1) := by decide +kernel
theorem dX11_findFacts_72 : decode cX11_findFacts 72 = .ok (.iastore, 1) := by decide +kernel
theorem dX11_findFacts_73 : decode cX11_findFacts 73 = .ok (.aload_n 0, 1) := by decide +kernel
theorem dX11_findFacts_74 : decode cX11_findFacts 74 = .ok (.getfield 65, 3) := by decide +kernel
theorem dX11_findFacts_77 : decode cX11_findFacts 77 = .ok (.iconst 4, 1) := by decide +kernel
theorem dX11_findFacts_78 : decode cX11_findFacts 78 = .ok (.aload_n 0, 1) := by decide +kernel
theorem dX11_findFacts_79 : decode cX11_findFacts 79 = .ok (.iload_n 3, 1) := by decide +kernel
theorem dX11_findFacts_80 : decode cX11_findFacts 80 = .ok (.iconst 1, 1) := by decide +kernel
theorem dX11_findFacts_81 : decode cX11_findFacts 81 = .ok (.isub, 1) := by decide +kernel
theorem dX11_findFacts_82 : decode cX11_findFacts 82 = .ok (.iload 4, 2) := by decide +kernel
theorem dX11_findFacts_84 : decode cX11_findFacts 84 = .ok (.invokevirtual 370, 3) := by decide +kernel
theorem dX11_findFacts_87 : decode cX11_findFacts 87 = .ok (.aload_n 0, 1) := by decide +kernel
theorem dX11_findFacts_88 : decode cX11_findFacts 88 = .ok (.iload_n 3, 1) := by decide +kernel
theorem dX11_findFacts_89 : decode cX11_findFacts 89 = .ok (.iconst 1, 1) := by decide +kernel
theorem dX11_findFacts_90 : decode cX11_findFacts 90 = .ok (.iadd, 1) := by decide +kernel
theorem dX11_findFacts_91 : decode cX11_findFacts 91 = .ok (.iload 4, 2) := by decide +kernel
theorem dX11_findFacts_93 : decode cX11_findFacts 93 = .ok (.invokevirtual 370, 3) := by decide +kernel
theorem dX11_findFacts_96 : decode cX11_findFacts 96 = .ok (.iadd, 1) := by decide +kernel
theorem dX11_findFacts_97 : decode cX11_findFacts 97 = .ok (.iastore, 1) := by decide +kernel
theorem dX11_findFacts_98 : decode cX11_findFacts 98 = .ok (.aload_n 0, 1) := by decide +kernel
theorem dX11_findFacts_99 : decode cX11_findFacts 99 = .ok (.getfield 65, 3) := by decide +kernel
theorem dX11_findFacts_102 : decode cX11_findFacts 102 = .ok (.iconst 5, 1) := by decide +kernel
theorem dX11_findFacts_103 : decode cX11_findFacts 103 = .ok (.aload_n 0, 1) := by decide +kernel
theorem dX11_findFacts_104 : decode cX11_findFacts 104 = .ok (.getfield 38, 3) := by decide +kernel
theorem dX11_findFacts_107 : decode cX11_findFacts 107 = .ok (.iload_n 1, 1) := by decide +kernel
theorem dX11_findFacts_108 : decode cX11_findFacts 108 = .ok (.iaload, 1) := by decide +kernel
theorem dX11_findFacts_109 : decode cX11_findFacts 109 = .ok (.iastore, 1) := by decide +kernel
theorem dX11_findFacts_110 : decode cX11_findFacts 110 = .ok (.aload_n 0, 1) := by decide +kernel
theorem dX11_findFacts_111 : decode cX11_findFacts 111 = .ok (.getfield 65, 3) := by decide +kernel
theorem dX11_findFacts_114 : decode cX11_findFacts 114 = .ok (.bipush 6, 2) := by decide +kernel
theorem dX11_findFacts_116 : decode cX11_findFacts 116 = .ok (.aload_n 0, 1) := by decide +kernel
theorem dX11_findFacts_117 : decode cX11_findFacts 117 = .ok (.getfield 35, 3) := by decide +kernel
theorem dX11_findFacts_120 : decode cX11_findFacts 120 = .ok (.iload_n 1, 1) := by decide +kernel
theorem dX11_findFacts_121 : decode cX11_findFacts 121 = .ok (.iaload, 1) := by decide +kernel
theorem dX11_findFacts_122 : decode cX11_findFacts 122 = .ok (.iastore, 1) := by decide +kernel
theorem dX11_findFacts_123 : decode cX11_findFacts 123 = .ok (.aload_n 0, 1) := by decide +kernel
theorem dX11_findFacts_124 : decode cX11_findFacts 124 = .ok (.getfield 65, 3) := by decide +kernel
theorem dX11_findFacts_127 : decode cX11_findFacts 127 = .ok (.bipush 7, 2) := by decide +kernel
theorem dX11_findFacts_129 : decode cX11_findFacts 129 = .ok (.aload_n 0, 1) := by decide +kernel
theorem dX11_findFacts_130 : decode cX11_findFacts 130 = .ok (.getfield 77, 3) := by decide +kernel
theorem dX11_findFacts_133 : decode cX11_findFacts 133 = .ok (.bipush 69, 2) := by decide +kernel
theorem dX11_findFacts_135 : decode cX11_findFacts 135 = .ok (.iaload, 1) := by decide +kernel
theorem dX11_findFacts_136 : decode cX11_findFacts 136 = .ok (.iastore, 1) := by decide +kernel
theorem dX11_findFacts_137 : decode cX11_findFacts 137 = .ok (.return_, 1) := by decide +kernel
theorem dX11_isFalling_0 : decode cX11_isFalling 0 = .ok (.aload_n 0, 1) := by decide +kernel
theorem dX11_isFalling_1 : decode cX11_isFalling 1 = .ok (.getfield 77, 3) := by decide +kernel
theorem dX11_isFalling_4 : decode cX11_isFalling 4 = .ok (.iload_n 1, 1) := by decide +kernel
theorem dX11_isFalling_5 : decode cX11_isFalling 5 = .ok (.iaload, 1) := by decide +kernel
theorem dX11_isFalling_6 : decode cX11_isFalling 6 = .ok (.iconst 1, 1) := by decide +kernel
theorem dX11_isFalling_7 : decode cX11_isFalling 7 = .ok (.if_icmp .eq 5, 3) := by decide +kernel
theorem dX11_isFalling_10 : decode cX11_isFalling 10 = .ok (.iconst 0, 1) := by decide +kernel
theorem dX11_isFalling_11 : decode cX11_isFalling 11 = .ok (.ireturn, 1) := by decide +kernel
theorem dX11_isFalling_12 : decode cX11_isFalling 12 = .ok (.aload_n 0, 1) := by decide +kernel
theorem dX11_isFalling_13 : decode cX11_isFalling 13 = .ok (.iload_n 1, 1) := by decide +kernel
theorem dX11_isFalling_14 : decode cX11_isFalling 14 = .ok (.aload_n 0, 1) := by decide +kernel
theorem dX11_isFalling_15 : decode cX11_isFalling 15 = .ok (.iload_n 1, 1) := by decide +kernel
theorem dX11_isFalling_16 : decode cX11_isFalling 16 = .ok (.invokevirtual 373, 3) := by decide +kernel
theorem dX11_isFalling_19 : decode cX11_isFalling 19 = .ok (.invokevirtual 376, 3) := by decide +kernel
theorem dX11_isFalling_22 : decode cX11_isFalling 22 = .ok (.aload_n 0, 1) := by decide +kernel
theorem dX11_isFalling_23 : decode cX11_isFalling 23 = .ok (.getfield 59, 3) := by decide +kernel
theorem dX11_isFalling_26 : decode cX11_isFalling 26 = .ok (.iconst 0, 1) := by decide +kernel
theorem dX11_isFalling_27 : decode cX11_isFalling 27 = .ok (.iaload, 1) := by decide +kernel
theorem dX11_isFalling_28 : decode cX11_isFalling 28 = .ok (.ifCond .ne 14, 3) := by decide +kernel
theorem dX11_isFalling_31 : decode cX11_isFalling 31 = .ok (.aload_n 0, 1) := by decide +kernel
theorem dX11_isFalling_32 : decode cX11_isFalling 32 = .ok (.getfield 65, 3) := by decide +kernel
theorem dX11_isFalling_35 : decode cX11_isFalling 35 = .ok (.iconst 0, 1) := by decide +kernel
theorem dX11_isFalling_36 : decode cX11_isFalling 36 = .ok (.iaload, 1) := by decide +kernel
theorem dX11_isFalling_37 : decode cX11_isFalling 37 = .ok (.iconst 2, 1) := by decide +kernel
theorem dX11_isFalling_38 : decode cX11_isFalling 38 = .ok (.isub, 1) := by decide +kernel
theorem dX11_isFalling_39 : decode cX11_isFalling 39 = .ok (.goto 8, 3) := by decide +kernel
theorem dX11_isFalling_42 : decode cX11_isFalling 42 = .ok (.aload_n 0, 1) := by decide +kernel
theorem dX11_isFalling_43 : decode cX11_isFalling 43 = .ok (.iconst 0, 1) := by decide +kernel
theorem dX11_isFalling_44 : decode cX11_isFalling 44 = .ok (.invokevirtual 379, 3) := by decide +kernel
theorem dX11_isFalling_47 : decode cX11_isFalling 47 = .ok (.ifCond .le 7, 3) := by decide +kernel
theorem dX11_isFalling_50 : decode cX11_isFalling 50 = .ok (.iconst 1, 1) := by decide +kernel
theorem dX11_isFalling_51 : decode cX11_isFalling 51 = .ok (.goto 4, 3) := by decide +kernel
theorem dX11_isFalling_54 : decode cX11_isFalling 54 = .ok (.iconst 0, 1) := by decide +kernel
theorem dX11_isFalling_55 : decode cX11_isFalling 55 = .ok (.ireturn, 1) := by decide +kernel
theorem dX11_harmOf_0 : decode cX11_harmOf 0 = .ok (.aload_n 0, 1) := by decide +kernel
theorem dX11_harmOf_1 : decode cX11_harmOf 1 = .ok (.iload_n 1, 1) := by decide +kernel
theorem dX11_harmOf_2 : decode cX11_harmOf 2 = .ok (.iconst 1, 1) := by decide +kernel
theorem dX11_harmOf_3 : decode cX11_harmOf 3 = .ok (.invokevirtual 376, 3) := by decide +kernel
theorem dX11_harmOf_6 : decode cX11_harmOf 6 = .ok (.aload_n 0, 1) := by decide +kernel
theorem dX11_harmOf_7 : decode cX11_harmOf 7 = .ok (.getfield 59, 3) := by decide +kernel
theorem dX11_harmOf_10 : decode cX11_harmOf 10 = .ok (.iconst 1, 1) := by decide +kernel
theorem dX11_harmOf_11 : decode cX11_harmOf 11 = .ok (.iaload, 1) := by decide +kernel
theorem dX11_harmOf_12 : decode cX11_harmOf 12 = .ok (.ifCond .ne 13, 3) := by decide +kernel
theorem dX11_harmOf_15 : decode cX11_harmOf 15 = .ok (.aload_n 0, 1) := by decide +kernel
theorem dX11_harmOf_16 : decode cX11_harmOf 16 = .ok (.getfield 65, 3) := by decide +kernel
theorem dX11_harmOf_19 : decode cX11_harmOf 19 = .ok (.bipush 6, 2) := by decide +kernel
theorem dX11_harmOf_21 : decode cX11_harmOf 21 = .ok (.iaload, 1) := by decide +kernel
theorem dX11_harmOf_22 : decode cX11_harmOf 22 = .ok (.goto 8, 3) := by decide +kernel
theorem dX11_harmOf_25 : decode cX11_harmOf 25 = .ok (.aload_n 0, 1) := by decide +kernel
theorem dX11_harmOf_26 : decode cX11_harmOf 26 = .ok (.iconst 1, 1) := by decide +kernel
theorem dX11_harmOf_27 : decode cX11_harmOf 27 = .ok (.invokevirtual 379, 3) := by decide +kernel
theorem dX11_harmOf_30 : decode cX11_harmOf 30 = .ok (.istore_n 2, 1) := by decide +kernel
theorem dX11_harmOf_31 : decode cX11_harmOf 31 = .ok (.iload_n 2, 1) := by decide +kernel
theorem dX11_harmOf_32 : decode cX11_harmOf 32 = .ok (.ifCond .ge 7, 3) := by decide +kernel
theorem dX11_harmOf_35 : decode cX11_harmOf 35 = .ok (.iconst 0, 1) := by decide +kernel
theorem dX11_harmOf_36 : decode cX11_harmOf 36 = .ok (.goto 15, 3) := by decide +kernel
theorem dX11_harmOf_39 : decode cX11_harmOf 39 = .ok (.iload_n 2, 1) := by decide +kernel
theorem dX11_harmOf_40 : decode cX11_harmOf 40 = .ok (.bipush 99, 2) := by decide +kernel
theorem dX11_harmOf_42 : decode cX11_harmOf 42 = .ok (.if_icmp .le 8, 3) := by decide +kernel
theorem dX11_harmOf_45 : decode cX11_harmOf 45 = .ok (.bipush 99, 2) := by decide +kernel
theorem dX11_harmOf_47 : decode cX11_harmOf 47 = .ok (.goto 4, 3) := by decide +kernel
theorem dX11_harmOf_50 : decode cX11_harmOf 50 = .ok (.iload_n 2, 1) := by decide +kernel
theorem dX11_harmOf_51 : decode cX11_harmOf 51 = .ok (.ireturn, 1) := by decide +kernel
theorem dX11_fallNow_0 : decode cX11_fallNow 0 = .ok (.iconst 0, 1) := by decide +kernel
theorem dX11_fallNow_1 : decode cX11_fallNow 1 = .ok (.istore_n 1, 1) := by decide +kernel
theorem dX11_fallNow_2 : decode cX11_fallNow 2 = .ok (.iconst 0, 1) := by decide +kernel
theorem dX11_fallNow_3 : decode cX11_fallNow 3 = .ok (.istore_n 2, 1) := by decide +kernel
theorem dX11_fallNow_4 : decode cX11_fallNow 4 = .ok (.iload_n 2, 1) := by decide +kernel
theorem dX11_fallNow_5 : decode cX11_fallNow 5 = .ok (.bipush 48, 2) := by decide +kernel
theorem dX11_fallNow_7 : decode cX11_fallNow 7 = .ok (.if_icmp .ge 37, 3) := by decide +kernel
theorem dX11_fallNow_10 : decode cX11_fallNow 10 = .ok (.aload_n 0, 1) := by decide +kernel
theorem dX11_fallNow_11 : decode cX11_fallNow 11 = .ok (.getfield 83, 3) := by decide +kernel
theorem dX11_fallNow_14 : decode cX11_fallNow 14 = .ok (.iload_n 2, 1) := by decide +kernel
theorem dX11_fallNow_15 : decode cX11_fallNow 15 = .ok (.aload_n 0, 1) := by decide +kernel
theorem dX11_fallNow_16 : decode cX11_fallNow 16 = .ok (.iload_n 2, 1) := by decide +kernel
theorem dX11_fallNow_17 : decode cX11_fallNow 17 = .ok (.invokevirtual 382, 3) := by decide +kernel
theorem dX11_fallNow_20 : decode cX11_fallNow 20 = .ok (.bastore, 1) := by decide +kernel
theorem dX11_fallNow_21 : decode cX11_fallNow 21 = .ok (.iload_n 1, 1) := by decide +kernel
theorem dX11_fallNow_22 : decode cX11_fallNow 22 = .ok (.aload_n 0, 1) := by decide +kernel
theorem dX11_fallNow_23 : decode cX11_fallNow 23 = .ok (.getfield 83, 3) := by decide +kernel
theorem dX11_fallNow_26 : decode cX11_fallNow 26 = .ok (.iload_n 2, 1) := by decide +kernel
theorem dX11_fallNow_27 : decode cX11_fallNow 27 = .ok (.baload, 1) := by decide +kernel
theorem dX11_fallNow_28 : decode cX11_fallNow 28 = .ok (.ifCond .eq 7, 3) := by decide +kernel
theorem dX11_fallNow_31 : decode cX11_fallNow 31 = .ok (.iconst 1, 1) := by decide +kernel
theorem dX11_fallNow_32 : decode cX11_fallNow 32 = .ok (.goto 4, 3) := by decide +kernel
theorem dX11_fallNow_35 : decode cX11_fallNow 35 = .ok (.iconst 0, 1) := by decide +kernel
theorem dX11_fallNow_36 : decode cX11_fallNow 36 = .ok (.iadd, 1) := by decide +kernel
theorem dX11_fallNow_37 : decode cX11_fallNow 37 = .ok (.istore_n 1, 1) := by decide +kernel
theorem dX11_fallNow_38 : decode cX11_fallNow 38 = .ok (.iinc 2 1, 3) := by decide +kernel
theorem dX11_fallNow_41 : decode cX11_fallNow 41 = .ok (.goto (-37), 3) := by decide +kernel
theorem dX11_fallNow_44 : decode cX11_fallNow 44 = .ok (.iload_n 1, 1) := by decide +kernel
theorem dX11_fallNow_45 : decode cX11_fallNow 45 = .ok (.ireturn, 1) := by decide +kernel
theorem dX11_whyNot_0 : decode cX11_whyNot 0 = .ok (.aload_n 0, 1) := by decide +kernel
theorem dX11_whyNot_1 : decode cX11_whyNot 1 = .ok (.iload_n 1, 1) := by decide +kernel
theorem dX11_whyNot_2 : decode cX11_whyNot 2 = .ok (.bipush 8, 2) := by decide +kernel
theorem dX11_whyNot_4 : decode cX11_whyNot 4 = .ok (.irem, 1) := by decide +kernel
theorem dX11_whyNot_5 : decode cX11_whyNot 5 = .ok (.iload_n 1, 1) := by decide +kernel
theorem dX11_whyNot_6 : decode cX11_whyNot 6 = .ok (.bipush 8, 2) := by decide +kernel
theorem dX11_whyNot_8 : decode cX11_whyNot 8 = .ok (.idiv, 1) := by decide +kernel
theorem dX11_whyNot_9 : decode cX11_whyNot 9 = .ok (.invokevirtual 367, 3) := by decide +kernel
theorem dX11_whyNot_12 : decode cX11_whyNot 12 = .ok (.ifCond .eq 7, 3) := by decide +kernel
theorem dX11_whyNot_15 : decode cX11_whyNot 15 = .ok (.iconst 1, 1) := by decide +kernel
theorem dX11_whyNot_16 : decode cX11_whyNot 16 = .ok (.goto 34, 3) := by decide +kernel
theorem dX11_whyNot_19 : decode cX11_whyNot 19 = .ok (.aload_n 0, 1) := by decide +kernel
theorem dX11_whyNot_20 : decode cX11_whyNot 20 = .ok (.iload_n 1, 1) := by decide +kernel
theorem dX11_whyNot_21 : decode cX11_whyNot 21 = .ok (.invokevirtual 385, 3) := by decide +kernel
theorem dX11_whyNot_24 : decode cX11_whyNot 24 = .ok (.ifCond .ne 7, 3) := by decide +kernel
theorem dX11_whyNot_27 : decode cX11_whyNot 27 = .ok (.iconst 2, 1) := by decide +kernel
theorem dX11_whyNot_28 : decode cX11_whyNot 28 = .ok (.goto 22, 3) := by decide +kernel
theorem dX11_whyNot_31 : decode cX11_whyNot 31 = .ok (.iload_n 1, 1) := by decide +kernel
theorem dX11_whyNot_32 : decode cX11_whyNot 32 = .ok (.bipush 8, 2) := by decide +kernel
theorem dX11_whyNot_34 : decode cX11_whyNot 34 = .ok (.idiv, 1) := by decide +kernel
theorem dX11_whyNot_35 : decode cX11_whyNot 35 = .ok (.aload_n 0, 1) := by decide +kernel
theorem dX11_whyNot_36 : decode cX11_whyNot 36 = .ok (.getfield 77, 3) := by decide +kernel
theorem dX11_whyNot_39 : decode cX11_whyNot 39 = .ok (.bipush 74, 2) := by decide +kernel
theorem dX11_whyNot_41 : decode cX11_whyNot 41 = .ok (.iaload, 1) := by decide +kernel
theorem dX11_whyNot_42 : decode cX11_whyNot 42 = .ok (.if_icmp .lt 7, 3) := by decide +kernel
theorem dX11_whyNot_45 : decode cX11_whyNot 45 = .ok (.iconst 3, 1) := by decide +kernel
theorem dX11_whyNot_46 : decode cX11_whyNot 46 = .ok (.goto 4, 3) := by decide +kernel
theorem dX11_whyNot_49 : decode cX11_whyNot 49 = .ok (.iconst 0, 1) := by decide +kernel
theorem dX11_whyNot_50 : decode cX11_whyNot 50 = .ok (.ireturn, 1) := by decide +kernel
theorem dX11_digs_0 : decode cX11_digs 0 = .ok (.aload_n 0, 1) := by decide +kernel
theorem dX11_digs_1 : decode cX11_digs 1 = .ok (.getfield 77, 3) := by decide +kernel
theorem dX11_digs_4 : decode cX11_digs 4 = .ok (.iload_n 1, 1) := by decide +kernel
theorem dX11_digs_5 : decode cX11_digs 5 = .ok (.iaload, 1) := by decide +kernel
theorem dX11_digs_6 : decode cX11_digs 6 = .ok (.ifCond .ne 105, 3) := by decide +kernel
theorem dX11_digs_9 : decode cX11_digs 9 = .ok (.aload_n 0, 1) := by decide +kernel
theorem dX11_digs_10 : decode cX11_digs 10 = .ok (.getfield 35, 3) := by decide +kernel
theorem dX11_digs_13 : decode cX11_digs 13 = .ok (.iload_n 1, 1) := by decide +kernel
theorem dX11_digs_14 : decode cX11_digs 14 = .ok (.iaload, 1) := by decide +kernel
theorem dX11_digs_15 : decode cX11_digs 15 = .ok (.istore_n 2, 1) := by decide +kernel
theorem dX11_digs_16 : decode cX11_digs 16 = .ok (.aload_n 0, 1) := by decide +kernel
theorem dX11_digs_17 : decode cX11_digs 17 = .ok (.getfield 38, 3) := by decide +kernel
theorem dX11_digs_20 : decode cX11_digs 20 = .ok (.iload_n 1, 1) := by decide +kernel
theorem dX11_digs_21 : decode cX11_digs 21 = .ok (.iaload, 1) := by decide +kernel
theorem dX11_digs_22 : decode cX11_digs 22 = .ok (.ifCond .le 59, 3) := by decide +kernel
theorem dX11_digs_25 : decode cX11_digs 25 = .ok (.aload_n 0, 1) := by decide +kernel
theorem dX11_digs_26 : decode cX11_digs 26 = .ok (.getfield 77, 3) := by decide +kernel
theorem dX11_digs_29 : decode cX11_digs 29 = .ok (.bipush 73, 2) := by decide +kernel
theorem dX11_digs_31 : decode cX11_digs 31 = .ok (.dup2, 1) := by decide +kernel
theorem dX11_digs_32 : decode cX11_digs 32 = .ok (.iaload, 1) := by decide +kernel
theorem dX11_digs_33 : decode cX11_digs 33 = .ok (.aload_n 0, 1) := by decide +kernel
theorem dX11_digs_34 : decode cX11_digs 34 = .ok (.getfield 38, 3) := by decide +kernel
theorem dX11_digs_37 : decode cX11_digs 37 = .ok (.iload_n 1, 1) := by decide +kernel
theorem dX11_digs_38 : decode cX11_digs 38 = .ok (.iaload, 1) := by decide +kernel
theorem dX11_digs_39 : decode cX11_digs 39 = .ok (.aload_n 0, 1) := by decide +kernel
theorem dX11_digs_40 : decode cX11_digs 40 = .ok (.iload_n 1, 1) := by decide +kernel
theorem dX11_digs_41 : decode cX11_digs 41 = .ok (.invokevirtual 388, 3) := by decide +kernel
theorem dX11_digs_44 : decode cX11_digs 44 = .ok (.imul, 1) := by decide +kernel
theorem dX11_digs_45 : decode cX11_digs 45 = .ok (.iadd, 1) := by decide +kernel
theorem dX11_digs_46 : decode cX11_digs 46 = .ok (.iastore, 1) := by decide +kernel
theorem dX11_digs_47 : decode cX11_digs 47 = .ok (.aload_n 0, 1) := by decide +kernel
theorem dX11_digs_48 : decode cX11_digs 48 = .ok (.getfield 77, 3) := by decide +kernel
theorem dX11_digs_51 : decode cX11_digs 51 = .ok (.bipush 48, 2) := by decide +kernel
theorem dX11_digs_53 : decode cX11_digs 53 = .ok (.iload_n 2, 1) := by decide +kernel
theorem dX11_digs_54 : decode cX11_digs 54 = .ok (.iadd, 1) := by decide +kernel
theorem dX11_digs_55 : decode cX11_digs 55 = .ok (.dup2, 1) := by decide +kernel
theorem dX11_digs_56 : decode cX11_digs 56 = .ok (.iaload, 1) := by decide +kernel
theorem dX11_digs_57 : decode cX11_digs 57 = .ok (.aload_n 0, 1) := by decide +kernel
theorem dX11_digs_58 : decode cX11_digs 58 = .ok (.getfield 38, 3) := by decide +kernel
theorem dX11_digs_61 : decode cX11_digs 61 = .ok (.iload_n 1, 1) := by decide +kernel
theorem dX11_digs_62 : decode cX11_digs 62 = .ok (.iaload, 1) := by decide +kernel
theorem dX11_digs_63 : decode cX11_digs 63 = .ok (.iadd, 1) := by decide +kernel
theorem dX11_digs_64 : decode cX11_digs 64 = .ok (.iastore, 1) := by decide +kernel
theorem dX11_digs_65 : decode cX11_digs 65 = .ok (.aload_n 0, 1) := by decide +kernel
theorem dX11_digs_66 : decode cX11_digs 66 = .ok (.getfield 77, 3) := by decide +kernel
theorem dX11_digs_69 : decode cX11_digs 69 = .ok (.bipush 75, 2) := by decide +kernel
theorem dX11_digs_71 : decode cX11_digs 71 = .ok (.dup2, 1) := by decide +kernel
theorem dX11_digs_72 : decode cX11_digs 72 = .ok (.iaload, 1) := by decide +kernel
theorem dX11_digs_73 : decode cX11_digs 73 = .ok (.aload_n 0, 1) := by decide +kernel
theorem dX11_digs_74 : decode cX11_digs 74 = .ok (.getfield 38, 3) := by decide +kernel
theorem dX11_digs_77 : decode cX11_digs 77 = .ok (.iload_n 1, 1) := by decide +kernel
theorem dX11_digs_78 : decode cX11_digs 78 = .ok (.iaload, 1) := by decide +kernel
theorem dX11_digs_79 : decode cX11_digs 79 = .ok (.iadd, 1) := by decide +kernel
theorem dX11_digs_80 : decode cX11_digs 80 = .ok (.iastore, 1) := by decide +kernel
theorem dX11_digs_81 : decode cX11_digs 81 = .ok (.iload_n 2, 1) := by decide +kernel
theorem dX11_digs_82 : decode cX11_digs 82 = .ok (.iconst 5, 1) := by decide +kernel
theorem dX11_digs_83 : decode cX11_digs 83 = .ok (.if_icmp .ne 28, 3) := by decide +kernel
theorem dX11_digs_86 : decode cX11_digs 86 = .ok (.iload_n 1, 1) := by decide +kernel
theorem dX11_digs_87 : decode cX11_digs 87 = .ok (.bipush 8, 2) := by decide +kernel
theorem dX11_digs_89 : decode cX11_digs 89 = .ok (.idiv, 1) := by decide +kernel
theorem dX11_digs_90 : decode cX11_digs 90 = .ok (.aload_n 0, 1) := by decide +kernel
theorem dX11_digs_91 : decode cX11_digs 91 = .ok (.getfield 77, 3) := by decide +kernel
theorem dX11_digs_94 : decode cX11_digs 94 = .ok (.bipush 74, 2) := by decide +kernel
theorem dX11_digs_96 : decode cX11_digs 96 = .ok (.iaload, 1) := by decide +kernel
theorem dX11_digs_97 : decode cX11_digs 97 = .ok (.if_icmp .ge 14, 3) := by decide +kernel
theorem dX11_digs_100 : decode cX11_digs 100 = .ok (.aload_n 0, 1) := by decide +kernel
theorem dX11_digs_101 : decode cX11_digs 101 = .ok (.getfield 77, 3) := by decide +kernel
theorem dX11_digs_104 : decode cX11_digs 104 = .ok (.bipush 74, 2) := by decide +kernel
theorem dX11_digs_106 : decode cX11_digs 106 = .ok (.iload_n 1, 1) := by decide +kernel
theorem dX11_digs_107 : decode cX11_digs 107 = .ok (.bipush 8, 2) := by decide +kernel
theorem dX11_digs_109 : decode cX11_digs 109 = .ok (.idiv, 1) := by decide +kernel
theorem dX11_digs_110 : decode cX11_digs 110 = .ok (.iastore, 1) := by decide +kernel
theorem dX11_digs_111 : decode cX11_digs 111 = .ok (.aload_n 0, 1) := by decide +kernel
theorem dX11_digs_112 : decode cX11_digs 112 = .ok (.getfield 77, 3) := by decide +kernel
theorem dX11_digs_115 : decode cX11_digs 115 = .ok (.iload_n 1, 1) := by decide +kernel
theorem dX11_digs_116 : decode cX11_digs 116 = .ok (.iconst 1, 1) := by decide +kernel
theorem dX11_digs_117 : decode cX11_digs 117 = .ok (.iastore, 1) := by decide +kernel
theorem dX11_digs_118 : decode cX11_digs 118 = .ok (.aload_n 0, 1) := by decide +kernel
theorem dX11_digs_119 : decode cX11_digs 119 = .ok (.getfield 77, 3) := by decide +kernel
theorem dX11_digs_122 : decode cX11_digs 122 = .ok (.bipush 76, 2) := by decide +kernel
theorem dX11_digs_124 : decode cX11_digs 124 = .ok (.dup2, 1) := by decide +kernel
theorem dX11_digs_125 : decode cX11_digs 125 = .ok (.iaload, 1) := by decide +kernel
theorem dX11_digs_126 : decode cX11_digs 126 = .ok (.aload_n 0, 1) := by decide +kernel
theorem dX11_digs_127 : decode cX11_digs 127 = .ok (.invokevirtual 391, 3) := by decide +kernel
theorem dX11_digs_130 : decode cX11_digs 130 = .ok (.iadd, 1) := by decide +kernel
theorem dX11_digs_131 : decode cX11_digs 131 = .ok (.iastore, 1) := by decide +kernel
theorem dX11_digs_132 : decode cX11_digs 132 = .ok (.iconst 0, 1) := by decide +kernel
theorem dX11_digs_133 : decode cX11_digs 133 = .ok (.istore_n 2, 1) := by decide +kernel
theorem dX11_digs_134 : decode cX11_digs 134 = .ok (.iload_n 2, 1) := by decide +kernel
theorem dX11_digs_135 : decode cX11_digs 135 = .ok (.bipush 48, 2) := by decide +kernel
theorem dX11_digs_137 : decode cX11_digs 137 = .ok (.if_icmp .ge 25, 3) := by decide +kernel
theorem dX11_digs_140 : decode cX11_digs 140 = .ok (.aload_n 0, 1) := by decide +kernel
theorem dX11_digs_141 : decode cX11_digs 141 = .ok (.getfield 83, 3) := by decide +kernel
theorem dX11_digs_144 : decode cX11_digs 144 = .ok (.iload_n 2, 1) := by decide +kernel
theorem dX11_digs_145 : decode cX11_digs 145 = .ok (.baload, 1) := by decide +kernel
theorem dX11_digs_146 : decode cX11_digs 146 = .ok (.ifCond .eq 10, 3) := by decide +kernel
theorem dX11_digs_149 : decode cX11_digs 149 = .ok (.aload_n 0, 1) := by decide +kernel
theorem dX11_digs_150 : decode cX11_digs 150 = .ok (.getfield 77, 3) := by decide +kernel
theorem dX11_digs_153 : decode cX11_digs 153 = .ok (.iload_n 2, 1) := by decide +kernel
theorem dX11_digs_154 : decode cX11_digs 154 = .ok (.iconst 3, 1) := by decide +kernel
theorem dX11_digs_155 : decode cX11_digs 155 = .ok (.iastore, 1) := by decide +kernel
theorem dX11_digs_156 : decode cX11_digs 156 = .ok (.iinc 2 1, 3) := by decide +kernel
theorem dX11_digs_159 : decode cX11_digs 159 = .ok (.goto (-25), 3) := by decide +kernel
theorem dX11_digs_162 : decode cX11_digs 162 = .ok (.return_, 1) := by decide +kernel
theorem dX11_worthOf_0 : decode cX11_worthOf 0 = .ok (.iconst 0, 1) := by decide +kernel
theorem dX11_worthOf_1 : decode cX11_worthOf 1 = .ok (.istore_n 2, 1) := by decide +kernel
theorem dX11_worthOf_2 : decode cX11_worthOf 2 = .ok (.iconst 0, 1) := by decide +kernel
theorem dX11_worthOf_3 : decode cX11_worthOf 3 = .ok (.istore_n 3, 1) := by decide +kernel
theorem dX11_worthOf_4 : decode cX11_worthOf 4 = .ok (.iload_n 3, 1) := by decide +kernel
theorem dX11_worthOf_5 : decode cX11_worthOf 5 = .ok (.aload_n 0, 1) := by decide +kernel
theorem dX11_worthOf_6 : decode cX11_worthOf 6 = .ok (.getfield 44, 3) := by decide +kernel
theorem dX11_worthOf_9 : decode cX11_worthOf 9 = .ok (.bipush 10, 2) := by decide +kernel
theorem dX11_worthOf_11 : decode cX11_worthOf 11 = .ok (.iload_n 1, 1) := by decide +kernel
theorem dX11_worthOf_12 : decode cX11_worthOf 12 = .ok (.imul, 1) := by decide +kernel
theorem dX11_worthOf_13 : decode cX11_worthOf 13 = .ok (.iconst 1, 1) := by decide +kernel
theorem dX11_worthOf_14 : decode cX11_worthOf 14 = .ok (.iadd, 1) := by decide +kernel
theorem dX11_worthOf_15 : decode cX11_worthOf 15 = .ok (.iaload, 1) := by decide +kernel
theorem dX11_worthOf_16 : decode cX11_worthOf 16 = .ok (.if_icmp .ge 30, 3) := by decide +kernel
theorem dX11_worthOf_19 : decode cX11_worthOf 19 = .ok (.iload_n 2, 1) := by decide +kernel
theorem dX11_worthOf_20 : decode cX11_worthOf 20 = .ok (.aload_n 0, 1) := by decide +kernel
theorem dX11_worthOf_21 : decode cX11_worthOf 21 = .ok (.getfield 41, 3) := by decide +kernel
theorem dX11_worthOf_24 : decode cX11_worthOf 24 = .ok (.aload_n 0, 1) := by decide +kernel
theorem dX11_worthOf_25 : decode cX11_worthOf 25 = .ok (.getfield 44, 3) := by decide +kernel
theorem dX11_worthOf_28 : decode cX11_worthOf 28 = .ok (.bipush 10, 2) := by decide +kernel
theorem dX11_worthOf_30 : decode cX11_worthOf 30 = .ok (.iload_n 1, 1) := by decide +kernel
theorem dX11_worthOf_31 : decode cX11_worthOf 31 = .ok (.imul, 1) := by decide +kernel
theorem dX11_worthOf_32 : decode cX11_worthOf 32 = .ok (.iconst 2, 1) := by decide +kernel
theorem dX11_worthOf_33 : decode cX11_worthOf 33 = .ok (.iadd, 1) := by decide +kernel
theorem dX11_worthOf_34 : decode cX11_worthOf 34 = .ok (.iload_n 3, 1) := by decide +kernel
theorem dX11_worthOf_35 : decode cX11_worthOf 35 = .ok (.iadd, 1) := by decide +kernel
theorem dX11_worthOf_36 : decode cX11_worthOf 36 = .ok (.iaload, 1) := by decide +kernel
theorem dX11_worthOf_37 : decode cX11_worthOf 37 = .ok (.iaload, 1) := by decide +kernel
theorem dX11_worthOf_38 : decode cX11_worthOf 38 = .ok (.iadd, 1) := by decide +kernel
theorem dX11_worthOf_39 : decode cX11_worthOf 39 = .ok (.istore_n 2, 1) := by decide +kernel
theorem dX11_worthOf_40 : decode cX11_worthOf 40 = .ok (.iinc 3 1, 3) := by decide +kernel
theorem dX11_worthOf_43 : decode cX11_worthOf 43 = .ok (.goto (-39), 3) := by decide +kernel
theorem dX11_worthOf_46 : decode cX11_worthOf 46 = .ok (.iload_n 2, 1) := by decide +kernel
theorem dX11_worthOf_47 : decode cX11_worthOf 47 = .ok (.ireturn, 1) := by decide +kernel
theorem dX11_adds_0 : decode cX11_adds 0 = .ok (.iconst 0, 1) := by decide +kernel
theorem dX11_adds_1 : decode cX11_adds 1 = .ok (.istore_n 2, 1) := by decide +kernel
theorem dX11_adds_2 : decode cX11_adds 2 = .ok (.iload_n 2, 1) := by decide +kernel
theorem dX11_adds_3 : decode cX11_adds 3 = .ok (.aload_n 0, 1) := by decide +kernel
theorem dX11_adds_4 : decode cX11_adds 4 = .ok (.getfield 44, 3) := by decide +kernel
theorem dX11_adds_7 : decode cX11_adds 7 = .ok (.bipush 10, 2) := by decide +kernel
theorem dX11_adds_9 : decode cX11_adds 9 = .ok (.iload_n 1, 1) := by decide +kernel
theorem dX11_adds_10 : decode cX11_adds 10 = .ok (.imul, 1) := by decide +kernel
theorem dX11_adds_11 : decode cX11_adds 11 = .ok (.iconst 1, 1) := by decide +kernel
theorem dX11_adds_12 : decode cX11_adds 12 = .ok (.iadd, 1) := by decide +kernel
theorem dX11_adds_13 : decode cX11_adds 13 = .ok (.iaload, 1) := by decide +kernel
theorem dX11_adds_14 : decode cX11_adds 14 = .ok (.if_icmp .ge 31, 3) := by decide +kernel
theorem dX11_adds_17 : decode cX11_adds 17 = .ok (.aload_n 0, 1) := by decide +kernel
theorem dX11_adds_18 : decode cX11_adds 18 = .ok (.getfield 87, 3) := by decide +kernel
theorem dX11_adds_21 : decode cX11_adds 21 = .ok (.aload_n 0, 1) := by decide +kernel
theorem dX11_adds_22 : decode cX11_adds 22 = .ok (.getfield 44, 3) := by decide +kernel
theorem dX11_adds_25 : decode cX11_adds 25 = .ok (.bipush 10, 2) := by decide +kernel
theorem dX11_adds_27 : decode cX11_adds 27 = .ok (.iload_n 1, 1) := by decide +kernel
theorem dX11_adds_28 : decode cX11_adds 28 = .ok (.imul, 1) := by decide +kernel
theorem dX11_adds_29 : decode cX11_adds 29 = .ok (.iconst 2, 1) := by decide +kernel
theorem dX11_adds_30 : decode cX11_adds 30 = .ok (.iadd, 1) := by decide +kernel
theorem dX11_adds_31 : decode cX11_adds 31 = .ok (.iload_n 2, 1) := by decide +kernel
theorem dX11_adds_32 : decode cX11_adds 32 = .ok (.iadd, 1) := by decide +kernel
theorem dX11_adds_33 : decode cX11_adds 33 = .ok (.iaload, 1) := by decide +kernel
theorem dX11_adds_34 : decode cX11_adds 34 = .ok (.dup2, 1) := by decide +kernel
theorem dX11_adds_35 : decode cX11_adds 35 = .ok (.iaload, 1) := by decide +kernel
theorem dX11_adds_36 : decode cX11_adds 36 = .ok (.iconst 1, 1) := by decide +kernel
theorem dX11_adds_37 : decode cX11_adds 37 = .ok (.iadd, 1) := by decide +kernel
theorem dX11_adds_38 : decode cX11_adds 38 = .ok (.iastore, 1) := by decide +kernel
theorem dX11_adds_39 : decode cX11_adds 39 = .ok (.iinc 2 1, 3) := by decide +kernel
theorem dX11_adds_42 : decode cX11_adds 42 = .ok (.goto (-40), 3) := by decide +kernel
theorem dX11_adds_45 : decode cX11_adds 45 = .ok (.return_, 1) := by decide +kernel
theorem dX11_wantsNothing_0 : decode cX11_wantsNothing 0 = .ok (.iconst 0, 1) := by decide +kernel
theorem dX11_wantsNothing_1 : decode cX11_wantsNothing 1 = .ok (.istore_n 1, 1) := by decide +kernel
theorem dX11_wantsNothing_2 : decode cX11_wantsNothing 2 = .ok (.iload_n 1, 1) := by decide +kernel
theorem dX11_wantsNothing_3 : decode cX11_wantsNothing 3 = .ok (.iconst 5, 1) := by decide +kernel
theorem dX11_wantsNothing_4 : decode cX11_wantsNothing 4 = .ok (.if_icmp .ge 16, 3) := by decide +kernel
theorem dX11_wantsNothing_7 : decode cX11_wantsNothing 7 = .ok (.aload_n 0, 1) := by decide +kernel
theorem dX11_wantsNothing_8 : decode cX11_wantsNothing 8 = .ok (.getfield 87, 3) := by decide +kernel
theorem dX11_wantsNothing_11 : decode cX11_wantsNothing 11 = .ok (.iload_n 1, 1) := by decide +kernel
theorem dX11_wantsNothing_12 : decode cX11_wantsNothing 12 = .ok (.iconst 0, 1) := by decide +kernel
theorem dX11_wantsNothing_13 : decode cX11_wantsNothing 13 = .ok (.iastore, 1) := by decide +kernel
theorem dX11_wantsNothing_14 : decode cX11_wantsNothing 14 = .ok (.iinc 1 1, 3) := by decide +kernel
theorem dX11_wantsNothing_17 : decode cX11_wantsNothing 17 = .ok (.goto (-15), 3) := by decide +kernel
theorem dX11_wantsNothing_20 : decode cX11_wantsNothing 20 = .ok (.return_, 1) := by decide +kernel
theorem dX11_lackNow_0 : decode cX11_lackNow 0 = .ok (.iconst 0, 1) := by decide +kernel
theorem dX11_lackNow_1 : decode cX11_lackNow 1 = .ok (.istore_n 1, 1) := by decide +kernel
theorem dX11_lackNow_2 : decode cX11_lackNow 2 = .ok (.iconst 0, 1) := by decide +kernel
theorem dX11_lackNow_3 : decode cX11_lackNow 3 = .ok (.istore_n 2, 1) := by decide +kernel
theorem dX11_lackNow_4 : decode cX11_lackNow 4 = .ok (.iload_n 2, 1) := by decide +kernel
theorem dX11_lackNow_5 : decode cX11_lackNow 5 = .ok (.iconst 5, 1) := by decide +kernel
theorem dX11_lackNow_6 : decode cX11_lackNow 6 = .ok (.if_icmp .ge 50, 3) := by decide +kernel
theorem dX11_lackNow_9 : decode cX11_lackNow 9 = .ok (.iload_n 1, 1) := by decide +kernel
theorem dX11_lackNow_10 : decode cX11_lackNow 10 = .ok (.aload_n 0, 1) := by decide +kernel
theorem dX11_lackNow_11 : decode cX11_lackNow 11 = .ok (.getfield 87, 3) := by decide +kernel
theorem dX11_lackNow_14 : decode cX11_lackNow 14 = .ok (.iload_n 2, 1) := by decide +kernel
theorem dX11_lackNow_15 : decode cX11_lackNow 15 = .ok (.iaload, 1) := by decide +kernel
theorem dX11_lackNow_16 : decode cX11_lackNow 16 = .ok (.aload_n 0, 1) := by decide +kernel
theorem dX11_lackNow_17 : decode cX11_lackNow 17 = .ok (.getfield 77, 3) := by decide +kernel
theorem dX11_lackNow_20 : decode cX11_lackNow 20 = .ok (.bipush 48, 2) := by decide +kernel
theorem dX11_lackNow_22 : decode cX11_lackNow 22 = .ok (.iload_n 2, 1) := by decide +kernel
theorem dX11_lackNow_23 : decode cX11_lackNow 23 = .ok (.iadd, 1) := by decide +kernel
theorem dX11_lackNow_24 : decode cX11_lackNow 24 = .ok (.iaload, 1) := by decide +kernel
theorem dX11_lackNow_25 : decode cX11_lackNow 25 = .ok (.if_icmp .le 22, 3) := by decide +kernel
theorem dX11_lackNow_28 : decode cX11_lackNow 28 = .ok (.aload_n 0, 1) := by decide +kernel
theorem dX11_lackNow_29 : decode cX11_lackNow 29 = .ok (.getfield 87, 3) := by decide +kernel
theorem dX11_lackNow_32 : decode cX11_lackNow 32 = .ok (.iload_n 2, 1) := by decide +kernel
theorem dX11_lackNow_33 : decode cX11_lackNow 33 = .ok (.iaload, 1) := by decide +kernel
theorem dX11_lackNow_34 : decode cX11_lackNow 34 = .ok (.aload_n 0, 1) := by decide +kernel
theorem dX11_lackNow_35 : decode cX11_lackNow 35 = .ok (.getfield 77, 3) := by decide +kernel
theorem dX11_lackNow_38 : decode cX11_lackNow 38 = .ok (.bipush 48, 2) := by decide +kernel
theorem dX11_lackNow_40 : decode cX11_lackNow 40 = .ok (.iload_n 2, 1) := by decide +kernel
theorem dX11_lackNow_41 : decode cX11_lackNow 41 = .ok (.iadd, 1) := by decide +kernel
theorem dX11_lackNow_42 : decode cX11_lackNow 42 = .ok (.iaload, 1) := by decide +kernel
theorem dX11_lackNow_43 : decode cX11_lackNow 43 = .ok (.isub, 1) := by decide +kernel
theorem dX11_lackNow_44 : decode cX11_lackNow 44 = .ok (.goto 4, 3) := by decide +kernel
theorem dX11_lackNow_47 : decode cX11_lackNow 47 = .ok (.iconst 0, 1) := by decide +kernel
theorem dX11_lackNow_48 : decode cX11_lackNow 48 = .ok (.iadd, 1) := by decide +kernel
theorem dX11_lackNow_49 : decode cX11_lackNow 49 = .ok (.istore_n 1, 1) := by decide +kernel
theorem dX11_lackNow_50 : decode cX11_lackNow 50 = .ok (.iinc 2 1, 3) := by decide +kernel
theorem dX11_lackNow_53 : decode cX11_lackNow 53 = .ok (.goto (-49), 3) := by decide +kernel
theorem dX11_lackNow_56 : decode cX11_lackNow 56 = .ok (.iload_n 1, 1) := by decide +kernel
theorem dX11_lackNow_57 : decode cX11_lackNow 57 = .ok (.ireturn, 1) := by decide +kernel
theorem dX11_next_0 : decode cX11_next 0 = .ok (.aload_n 0, 1) := by decide +kernel
theorem dX11_next_1 : decode cX11_next 1 = .ok (.getfield 77, 3) := by decide +kernel
theorem dX11_next_4 : decode cX11_next 4 = .ok (.bipush 69, 2) := by decide +kernel
theorem dX11_next_6 : decode cX11_next 6 = .ok (.iaload, 1) := by decide +kernel
theorem dX11_next_7 : decode cX11_next 7 = .ok (.sipush 200, 3) := by decide +kernel
theorem dX11_next_10 : decode cX11_next 10 = .ok (.if_icmp .ne 5, 3) := by decide +kernel
theorem dX11_next_13 : decode cX11_next 13 = .ok (.iconst 0, 1) := by decide +kernel
theorem dX11_next_14 : decode cX11_next 14 = .ok (.ireturn, 1) := by decide +kernel
theorem dX11_next_15 : decode cX11_next 15 = .ok (.iconst 0, 1) := by decide +kernel
theorem dX11_next_16 : decode cX11_next 16 = .ok (.istore_n 1, 1) := by decide +kernel
theorem dX11_next_17 : decode cX11_next 17 = .ok (.iload_n 1, 1) := by decide +kernel
theorem dX11_next_18 : decode cX11_next 18 = .ok (.aload_n 0, 1) := by decide +kernel
theorem dX11_next_19 : decode cX11_next 19 = .ok (.getfield 199, 3) := by decide +kernel
theorem dX11_next_22 : decode cX11_next 22 = .ok (.if_icmp .ge 142, 3) := by decide +kernel
theorem dX11_next_25 : decode cX11_next 25 = .ok (.aload_n 0, 1) := by decide +kernel
theorem dX11_next_26 : decode cX11_next 26 = .ok (.getfield 44, 3) := by decide +kernel
theorem dX11_next_29 : decode cX11_next 29 = .ok (.bipush 10, 2) := by decide +kernel
theorem dX11_next_31 : decode cX11_next 31 = .ok (.iload_n 1, 1) := by decide +kernel
theorem dX11_next_32 : decode cX11_next 32 = .ok (.imul, 1) := by decide +kernel
theorem dX11_next_33 : decode cX11_next 33 = .ok (.iaload, 1) := by decide +kernel
theorem dX11_next_34 : decode cX11_next 34 = .ok (.aload_n 0, 1) := by decide +kernel
theorem dX11_next_35 : decode cX11_next 35 = .ok (.getfield 77, 3) := by decide +kernel
theorem dX11_next_38 : decode cX11_next 38 = .ok (.bipush 69, 2) := by decide +kernel
theorem dX11_next_40 : decode cX11_next 40 = .ok (.iaload, 1) := by decide +kernel
theorem dX11_next_41 : decode cX11_next 41 = .ok (.if_icmp .eq 6, 3) := by decide +kernel
theorem dX11_next_44 : decode cX11_next 44 = .ok (.goto 114, 3) := by decide +kernel
theorem dX11_next_47 : decode cX11_next 47 = .ok (.aload_n 0, 1) := by decide +kernel
theorem dX11_next_48 : decode cX11_next 48 = .ok (.invokevirtual 394, 3) := by decide +kernel
theorem dX11_next_51 : decode cX11_next 51 = .ok (.aload_n 0, 1) := by decide +kernel
theorem dX11_next_52 : decode cX11_next 52 = .ok (.iload_n 1, 1) := by decide +kernel
theorem dX11_next_53 : decode cX11_next 53 = .ok (.invokevirtual 397, 3) := by decide +kernel
theorem dX11_next_56 : decode cX11_next 56 = .ok (.aload_n 0, 1) := by decide +kernel
theorem dX11_next_57 : decode cX11_next 57 = .ok (.invokevirtual 400, 3) := by decide +kernel
theorem dX11_next_60 : decode cX11_next 60 = .ok (.ifCond .ne 7, 3) := by decide +kernel
theorem dX11_next_63 : decode cX11_next 63 = .ok (.iconst 1, 1) := by decide +kernel
theorem dX11_next_64 : decode cX11_next 64 = .ok (.goto 4, 3) := by decide +kernel
theorem dX11_next_67 : decode cX11_next 67 = .ok (.iconst 0, 1) := by decide +kernel
theorem dX11_next_68 : decode cX11_next 68 = .ok (.istore_n 2, 1) := by decide +kernel
theorem dX11_next_69 : decode cX11_next 69 = .ok (.aload_n 0, 1) := by decide +kernel
theorem dX11_next_70 : decode cX11_next 70 = .ok (.getfield 77, 3) := by decide +kernel
theorem dX11_next_73 : decode cX11_next 73 = .ok (.bipush 63, 2) := by decide +kernel
theorem dX11_next_75 : decode cX11_next 75 = .ok (.iload_n 1, 1) := by decide +kernel
theorem dX11_next_76 : decode cX11_next 76 = .ok (.iadd, 1) := by decide +kernel
theorem dX11_next_77 : decode cX11_next 77 = .ok (.iload_n 2, 1) := by decide +kernel
theorem dX11_next_78 : decode cX11_next 78 = .ok (.ifCond .eq 7, 3) := by decide +kernel
theorem dX11_next_81 : decode cX11_next 81 = .ok (.iconst 1, 1) := by decide +kernel
theorem dX11_next_82 : decode cX11_next 82 = .ok (.goto 4, 3) := by decide +kernel
theorem dX11_next_85 : decode cX11_next 85 = .ok (.iconst 2, 1) := by decide +kernel
theorem dX11_next_86 : decode cX11_next 86 = .ok (.iastore, 1) := by decide +kernel
theorem dX11_next_87 : decode cX11_next 87 = .ok (.iload_n 2, 1) := by decide +kernel
theorem dX11_next_88 : decode cX11_next 88 = .ok (.ifCond .ne 6, 3) := by decide +kernel
theorem dX11_next_91 : decode cX11_next 91 = .ok (.goto 67, 3) := by decide +kernel
theorem dX11_next_94 : decode cX11_next 94 = .ok (.aload_n 0, 1) := by decide +kernel
theorem dX11_next_95 : decode cX11_next 95 = .ok (.getfield 77, 3) := by decide +kernel
theorem dX11_next_98 : decode cX11_next 98 = .ok (.bipush 72, 2) := by decide +kernel
theorem dX11_next_100 : decode cX11_next 100 = .ok (.dup2, 1) := by decide +kernel
theorem dX11_next_101 : decode cX11_next 101 = .ok (.iaload, 1) := by decide +kernel
theorem dX11_next_102 : decode cX11_next 102 = .ok (.aload_n 0, 1) := by decide +kernel
theorem dX11_next_103 : decode cX11_next 103 = .ok (.iload_n 1, 1) := by decide +kernel
theorem dX11_next_104 : decode cX11_next 104 = .ok (.invokevirtual 403, 3) := by decide +kernel
theorem dX11_next_107 : decode cX11_next 107 = .ok (.iadd, 1) := by decide +kernel
theorem dX11_next_108 : decode cX11_next 108 = .ok (.iastore, 1) := by decide +kernel
theorem dX11_next_109 : decode cX11_next 109 = .ok (.iconst 0, 1) := by decide +kernel
theorem dX11_next_110 : decode cX11_next 110 = .ok (.istore_n 3, 1) := by decide +kernel
theorem dX11_next_111 : decode cX11_next 111 = .ok (.iload_n 3, 1) := by decide +kernel
theorem dX11_next_112 : decode cX11_next 112 = .ok (.iconst 5, 1) := by decide +kernel
theorem dX11_next_113 : decode cX11_next 113 = .ok (.if_icmp .ge 45, 3) := by decide +kernel
theorem dX11_next_116 : decode cX11_next 116 = .ok (.aload_n 0, 1) := by decide +kernel
theorem dX11_next_117 : decode cX11_next 117 = .ok (.getfield 77, 3) := by decide +kernel
theorem dX11_next_120 : decode cX11_next 120 = .ok (.bipush 48, 2) := by decide +kernel
theorem dX11_next_122 : decode cX11_next 122 = .ok (.iload_n 3, 1) := by decide +kernel
theorem dX11_next_123 : decode cX11_next 123 = .ok (.iadd, 1) := by decide +kernel
theorem dX11_next_124 : decode cX11_next 124 = .ok (.dup2, 1) := by decide +kernel
theorem dX11_next_125 : decode cX11_next 125 = .ok (.iaload, 1) := by decide +kernel
theorem dX11_next_126 : decode cX11_next 126 = .ok (.aload_n 0, 1) := by decide +kernel
theorem dX11_next_127 : decode cX11_next 127 = .ok (.getfield 87, 3) := by decide +kernel
theorem dX11_next_130 : decode cX11_next 130 = .ok (.iload_n 3, 1) := by decide +kernel
theorem dX11_next_131 : decode cX11_next 131 = .ok (.iaload, 1) := by decide +kernel
theorem dX11_next_132 : decode cX11_next 132 = .ok (.isub, 1) := by decide +kernel
theorem dX11_next_133 : decode cX11_next 133 = .ok (.iastore, 1) := by decide +kernel
theorem dX11_next_134 : decode cX11_next 134 = .ok (.aload_n 0, 1) := by decide +kernel
theorem dX11_next_135 : decode cX11_next 135 = .ok (.getfield 77, 3) := by decide +kernel
theorem dX11_next_138 : decode cX11_next 138 = .ok (.bipush 58, 2) := by decide +kernel
theorem dX11_next_140 : decode cX11_next 140 = .ok (.iload_n 3, 1) := by decide +kernel
theorem dX11_next_141 : decode cX11_next 141 = .ok (.iadd, 1) := by decide +kernel
theorem dX11_next_142 : decode cX11_next 142 = .ok (.dup2, 1) := by decide +kernel
theorem dX11_next_143 : decode cX11_next 143 = .ok (.iaload, 1) := by decide +kernel
theorem dX11_next_144 : decode cX11_next 144 = .ok (.aload_n 0, 1) := by decide +kernel
theorem dX11_next_145 : decode cX11_next 145 = .ok (.getfield 87, 3) := by decide +kernel
theorem dX11_next_148 : decode cX11_next 148 = .ok (.iload_n 3, 1) := by decide +kernel
theorem dX11_next_149 : decode cX11_next 149 = .ok (.iaload, 1) := by decide +kernel
theorem dX11_next_150 : decode cX11_next 150 = .ok (.iadd, 1) := by decide +kernel
theorem dX11_next_151 : decode cX11_next 151 = .ok (.iastore, 1) := by decide +kernel
theorem dX11_next_152 : decode cX11_next 152 = .ok (.iinc 3 1, 3) := by decide +kernel
theorem dX11_next_155 : decode cX11_next 155 = .ok (.goto (-44), 3) := by decide +kernel
theorem dX11_next_158 : decode cX11_next 158 = .ok (.iinc 1 1, 3) := by decide +kernel
theorem dX11_next_161 : decode cX11_next 161 = .ok (.goto (-144), 3) := by decide +kernel
theorem dX11_next_164 : decode cX11_next 164 = .ok (.aload_n 0, 1) := by decide +kernel
theorem dX11_next_165 : decode cX11_next 165 = .ok (.getfield 77, 3) := by decide +kernel
theorem dX11_next_168 : decode cX11_next 168 = .ok (.bipush 69, 2) := by decide +kernel
theorem dX11_next_170 : decode cX11_next 170 = .ok (.dup2, 1) := by decide +kernel
theorem dX11_next_171 : decode cX11_next 171 = .ok (.iaload, 1) := by decide +kernel
theorem dX11_next_172 : decode cX11_next 172 = .ok (.iconst 1, 1) := by decide +kernel
theorem dX11_next_173 : decode cX11_next 173 = .ok (.iadd, 1) := by decide +kernel
theorem dX11_next_174 : decode cX11_next 174 = .ok (.iastore, 1) := by decide +kernel
theorem dX11_next_175 : decode cX11_next 175 = .ok (.aload_n 0, 1) := by decide +kernel
theorem dX11_next_176 : decode cX11_next 176 = .ok (.getfield 77, 3) := by decide +kernel
theorem dX11_next_179 : decode cX11_next 179 = .ok (.bipush 70, 2) := by decide +kernel
theorem dX11_next_181 : decode cX11_next 181 = .ok (.iconst 0, 1) := by decide +kernel
theorem dX11_next_182 : decode cX11_next 182 = .ok (.iastore, 1) := by decide +kernel
theorem dX11_next_183 : decode cX11_next 183 = .ok (.iconst 1, 1) := by decide +kernel
theorem dX11_next_184 : decode cX11_next 184 = .ok (.ireturn, 1) := by decide +kernel
theorem dX11_goes_0 : decode cX11_goes 0 = .ok (.iload_n 1, 1) := by decide +kernel
theorem dX11_goes_1 : decode cX11_goes 1 = .ok (.iconst 3, 1) := by decide +kernel
theorem dX11_goes_2 : decode cX11_goes 2 = .ok (.if_icmp .ne 8, 3) := by decide +kernel
theorem dX11_goes_5 : decode cX11_goes 5 = .ok (.aload_n 0, 1) := by decide +kernel
theorem dX11_goes_6 : decode cX11_goes 6 = .ok (.invokevirtual 406, 3) := by decide +kernel
theorem dX11_goes_9 : decode cX11_goes 9 = .ok (.ireturn, 1) := by decide +kernel
theorem dX11_goes_10 : decode cX11_goes 10 = .ok (.iload_n 1, 1) := by decide +kernel
theorem dX11_goes_11 : decode cX11_goes 11 = .ok (.ifCond .ne 45, 3) := by decide +kernel
theorem dX11_goes_14 : decode cX11_goes 14 = .ok (.aload_n 0, 1) := by decide +kernel
theorem dX11_goes_15 : decode cX11_goes 15 = .ok (.iload_n 2, 1) := by decide +kernel
theorem dX11_goes_16 : decode cX11_goes 16 = .ok (.invokevirtual 409, 3) := by decide +kernel
theorem dX11_goes_19 : decode cX11_goes 19 = .ok (.ifCond .ne 17, 3) := by decide +kernel
theorem dX11_goes_22 : decode cX11_goes 22 = .ok (.aload_n 0, 1) := by decide +kernel
theorem dX11_goes_23 : decode cX11_goes 23 = .ok (.getfield 77, 3) := by decide +kernel
theorem dX11_goes_26 : decode cX11_goes 26 = .ok (.bipush 70, 2) := by decide +kernel
theorem dX11_goes_28 : decode cX11_goes 28 = .ok (.iaload, 1) := by decide +kernel
theorem dX11_goes_29 : decode cX11_goes 29 = .ok (.aload_n 0, 1) := by decide +kernel
theorem dX11_goes_30 : decode cX11_goes 30 = .ok (.getfield 193, 3) := by decide +kernel
theorem dX11_goes_33 : decode cX11_goes 33 = .ok (.if_icmp .ne 5, 3) := by decide +kernel
theorem dX11_goes_36 : decode cX11_goes 36 = .ok (.iconst 0, 1) := by decide +kernel
theorem dX11_goes_37 : decode cX11_goes 37 = .ok (.ireturn, 1) := by decide +kernel
theorem dX11_goes_38 : decode cX11_goes 38 = .ok (.aload_n 0, 1) := by decide +kernel
theorem dX11_goes_39 : decode cX11_goes 39 = .ok (.getfield 77, 3) := by decide +kernel
theorem dX11_goes_42 : decode cX11_goes 42 = .ok (.bipush 70, 2) := by decide +kernel
theorem dX11_goes_44 : decode cX11_goes 44 = .ok (.dup2, 1) := by decide +kernel
theorem dX11_goes_45 : decode cX11_goes 45 = .ok (.iaload, 1) := by decide +kernel
theorem dX11_goes_46 : decode cX11_goes 46 = .ok (.iconst 1, 1) := by decide +kernel
theorem dX11_goes_47 : decode cX11_goes 47 = .ok (.iadd, 1) := by decide +kernel
theorem dX11_goes_48 : decode cX11_goes 48 = .ok (.iastore, 1) := by decide +kernel
theorem dX11_goes_49 : decode cX11_goes 49 = .ok (.aload_n 0, 1) := by decide +kernel
theorem dX11_goes_50 : decode cX11_goes 50 = .ok (.iload_n 2, 1) := by decide +kernel
theorem dX11_goes_51 : decode cX11_goes 51 = .ok (.invokevirtual 412, 3) := by decide +kernel
theorem dX11_goes_54 : decode cX11_goes 54 = .ok (.iconst 1, 1) := by decide +kernel
theorem dX11_goes_55 : decode cX11_goes 55 = .ok (.ireturn, 1) := by decide +kernel
theorem dX11_goes_56 : decode cX11_goes 56 = .ok (.iload_n 1, 1) := by decide +kernel
theorem dX11_goes_57 : decode cX11_goes 57 = .ok (.iconst 1, 1) := by decide +kernel
theorem dX11_goes_58 : decode cX11_goes 58 = .ok (.if_icmp .ne 59, 3) := by decide +kernel
theorem dX11_goes_61 : decode cX11_goes 61 = .ok (.aload_n 0, 1) := by decide +kernel
theorem dX11_goes_62 : decode cX11_goes 62 = .ok (.getfield 77, 3) := by decide +kernel
theorem dX11_goes_65 : decode cX11_goes 65 = .ok (.iload_n 2, 1) := by decide +kernel
theorem dX11_goes_66 : decode cX11_goes 66 = .ok (.iaload, 1) := by decide +kernel
theorem dX11_goes_67 : decode cX11_goes 67 = .ok (.iconst 1, 1) := by decide +kernel
theorem dX11_goes_68 : decode cX11_goes 68 = .ok (.if_icmp .ne 27, 3) := by decide +kernel
theorem dX11_goes_71 : decode cX11_goes 71 = .ok (.iload_n 2, 1) := by decide +kernel
theorem dX11_goes_72 : decode cX11_goes 72 = .ok (.bipush 8, 2) := by decide +kernel
theorem dX11_goes_74 : decode cX11_goes 74 = .ok (.idiv, 1) := by decide +kernel
theorem dX11_goes_75 : decode cX11_goes 75 = .ok (.aload_n 0, 1) := by decide +kernel
theorem dX11_goes_76 : decode cX11_goes 76 = .ok (.getfield 77, 3) := by decide +kernel
theorem dX11_goes_79 : decode cX11_goes 79 = .ok (.bipush 74, 2) := by decide +kernel
theorem dX11_goes_81 : decode cX11_goes 81 = .ok (.iaload, 1) := by decide +kernel
theorem dX11_goes_82 : decode cX11_goes 82 = .ok (.if_icmp .ge 13, 3) := by decide +kernel
theorem dX11_goes_85 : decode cX11_goes 85 = .ok (.aload_n 0, 1) := by decide +kernel
theorem dX11_goes_86 : decode cX11_goes 86 = .ok (.getfield 77, 3) := by decide +kernel
theorem dX11_goes_89 : decode cX11_goes 89 = .ok (.bipush 71, 2) := by decide +kernel
theorem dX11_goes_91 : decode cX11_goes 91 = .ok (.iaload, 1) := by decide +kernel
theorem dX11_goes_92 : decode cX11_goes 92 = .ok (.ifCond .ne 5, 3) := by decide +kernel
theorem dX11_goes_95 : decode cX11_goes 95 = .ok (.iconst 0, 1) := by decide +kernel
theorem dX11_goes_96 : decode cX11_goes 96 = .ok (.ireturn, 1) := by decide +kernel
theorem dX11_goes_97 : decode cX11_goes 97 = .ok (.aload_n 0, 1) := by decide +kernel
theorem dX11_goes_98 : decode cX11_goes 98 = .ok (.getfield 77, 3) := by decide +kernel
theorem dX11_goes_101 : decode cX11_goes 101 = .ok (.iload_n 2, 1) := by decide +kernel
theorem dX11_goes_102 : decode cX11_goes 102 = .ok (.iconst 2, 1) := by decide +kernel
theorem dX11_goes_103 : decode cX11_goes 103 = .ok (.iastore, 1) := by decide +kernel
theorem dX11_goes_104 : decode cX11_goes 104 = .ok (.aload_n 0, 1) := by decide +kernel
theorem dX11_goes_105 : decode cX11_goes 105 = .ok (.getfield 77, 3) := by decide +kernel
theorem dX11_goes_108 : decode cX11_goes 108 = .ok (.bipush 71, 2) := by decide +kernel
theorem dX11_goes_110 : decode cX11_goes 110 = .ok (.dup2, 1) := by decide +kernel
theorem dX11_goes_111 : decode cX11_goes 111 = .ok (.iaload, 1) := by decide +kernel
theorem dX11_goes_112 : decode cX11_goes 112 = .ok (.iconst 1, 1) := by decide +kernel
theorem dX11_goes_113 : decode cX11_goes 113 = .ok (.isub, 1) := by decide +kernel
theorem dX11_goes_114 : decode cX11_goes 114 = .ok (.iastore, 1) := by decide +kernel
theorem dX11_goes_115 : decode cX11_goes 115 = .ok (.iconst 1, 1) := by decide +kernel
theorem dX11_goes_116 : decode cX11_goes 116 = .ok (.ireturn, 1) := by decide +kernel
theorem dX11_goes_117 : decode cX11_goes 117 = .ok (.iload_n 1, 1) := by decide +kernel
theorem dX11_goes_118 : decode cX11_goes 118 = .ok (.iconst 2, 1) := by decide +kernel
theorem dX11_goes_119 : decode cX11_goes 119 = .ok (.if_icmp .ne 57, 3) := by decide +kernel
theorem dX11_goes_122 : decode cX11_goes 122 = .ok (.aload_n 0, 1) := by decide +kernel
theorem dX11_goes_123 : decode cX11_goes 123 = .ok (.getfield 77, 3) := by decide +kernel
theorem dX11_goes_126 : decode cX11_goes 126 = .ok (.bipush 74, 2) := by decide +kernel
theorem dX11_goes_128 : decode cX11_goes 128 = .ok (.iaload, 1) := by decide +kernel
theorem dX11_goes_129 : decode cX11_goes 129 = .ok (.aload_n 0, 1) := by decide +kernel
theorem dX11_goes_130 : decode cX11_goes 130 = .ok (.getfield 187, 3) := by decide +kernel
theorem dX11_goes_133 : decode cX11_goes 133 = .ok (.if_icmp .eq 17, 3) := by decide +kernel
theorem dX11_goes_136 : decode cX11_goes 136 = .ok (.aload_n 0, 1) := by decide +kernel
theorem dX11_goes_137 : decode cX11_goes 137 = .ok (.getfield 77, 3) := by decide +kernel
theorem dX11_goes_140 : decode cX11_goes 140 = .ok (.bipush 70, 2) := by decide +kernel
theorem dX11_goes_142 : decode cX11_goes 142 = .ok (.iaload, 1) := by decide +kernel
theorem dX11_goes_143 : decode cX11_goes 143 = .ok (.aload_n 0, 1) := by decide +kernel
theorem dX11_goes_144 : decode cX11_goes 144 = .ok (.getfield 193, 3) := by decide +kernel
theorem dX11_goes_147 : decode cX11_goes 147 = .ok (.if_icmp .ne 5, 3) := by decide +kernel
theorem dX11_goes_150 : decode cX11_goes 150 = .ok (.iconst 0, 1) := by decide +kernel
theorem dX11_goes_151 : decode cX11_goes 151 = .ok (.ireturn, 1) := by decide +kernel
theorem dX11_goes_152 : decode cX11_goes 152 = .ok (.aload_n 0, 1) := by decide +kernel
theorem dX11_goes_153 : decode cX11_goes 153 = .ok (.getfield 77, 3) := by decide +kernel
theorem dX11_goes_156 : decode cX11_goes 156 = .ok (.bipush 74, 2) := by decide +kernel
theorem dX11_goes_158 : decode cX11_goes 158 = .ok (.aload_n 0, 1) := by decide +kernel
theorem dX11_goes_159 : decode cX11_goes 159 = .ok (.getfield 187, 3) := by decide +kernel
theorem dX11_goes_162 : decode cX11_goes 162 = .ok (.iastore, 1) := by decide +kernel
theorem dX11_goes_163 : decode cX11_goes 163 = .ok (.aload_n 0, 1) := by decide +kernel
theorem dX11_goes_164 : decode cX11_goes 164 = .ok (.getfield 77, 3) := by decide +kernel
theorem dX11_goes_167 : decode cX11_goes 167 = .ok (.bipush 70, 2) := by decide +kernel
theorem dX11_goes_169 : decode cX11_goes 169 = .ok (.dup2, 1) := by decide +kernel
theorem dX11_goes_170 : decode cX11_goes 170 = .ok (.iaload, 1) := by decide +kernel
theorem dX11_goes_171 : decode cX11_goes 171 = .ok (.iconst 1, 1) := by decide +kernel
theorem dX11_goes_172 : decode cX11_goes 172 = .ok (.iadd, 1) := by decide +kernel
theorem dX11_goes_173 : decode cX11_goes 173 = .ok (.iastore, 1) := by decide +kernel
theorem dX11_goes_174 : decode cX11_goes 174 = .ok (.iconst 1, 1) := by decide +kernel
theorem dX11_goes_175 : decode cX11_goes 175 = .ok (.ireturn, 1) := by decide +kernel
theorem dX11_goes_176 : decode cX11_goes 176 = .ok (.aload_n 0, 1) := by decide +kernel
theorem dX11_goes_177 : decode cX11_goes 177 = .ok (.getfield 77, 3) := by decide +kernel
theorem dX11_goes_180 : decode cX11_goes 180 = .ok (.bipush 48, 2) := by decide +kernel
theorem dX11_goes_182 : decode cX11_goes 182 = .ok (.iload_n 2, 1) := by decide +kernel
theorem dX11_goes_183 : decode cX11_goes 183 = .ok (.iadd, 1) := by decide +kernel
theorem dX11_goes_184 : decode cX11_goes 184 = .ok (.iaload, 1) := by decide +kernel
theorem dX11_goes_185 : decode cX11_goes 185 = .ok (.iload_n 3, 1) := by decide +kernel
theorem dX11_goes_186 : decode cX11_goes 186 = .ok (.if_icmp .ge 5, 3) := by decide +kernel
theorem dX11_goes_189 : decode cX11_goes 189 = .ok (.iconst 0, 1) := by decide +kernel
theorem dX11_goes_190 : decode cX11_goes 190 = .ok (.ireturn, 1) := by decide +kernel
theorem dX11_goes_191 : decode cX11_goes 191 = .ok (.aload_n 0, 1) := by decide +kernel
theorem dX11_goes_192 : decode cX11_goes 192 = .ok (.getfield 77, 3) := by decide +kernel
theorem dX11_goes_195 : decode cX11_goes 195 = .ok (.bipush 48, 2) := by decide +kernel
theorem dX11_goes_197 : decode cX11_goes 197 = .ok (.iload_n 2, 1) := by decide +kernel
theorem dX11_goes_198 : decode cX11_goes 198 = .ok (.iadd, 1) := by decide +kernel
theorem dX11_goes_199 : decode cX11_goes 199 = .ok (.dup2, 1) := by decide +kernel
theorem dX11_goes_200 : decode cX11_goes 200 = .ok (.iaload, 1) := by decide +kernel
theorem dX11_goes_201 : decode cX11_goes 201 = .ok (.iload_n 3, 1) := by decide +kernel
theorem dX11_goes_202 : decode cX11_goes 202 = .ok (.isub, 1) := by decide +kernel
theorem dX11_goes_203 : decode cX11_goes 203 = .ok (.iastore, 1) := by decide +kernel
theorem dX11_goes_204 : decode cX11_goes 204 = .ok (.aload_n 0, 1) := by decide +kernel
theorem dX11_goes_205 : decode cX11_goes 205 = .ok (.getfield 77, 3) := by decide +kernel
theorem dX11_goes_208 : decode cX11_goes 208 = .ok (.bipush 53, 2) := by decide +kernel
theorem dX11_goes_210 : decode cX11_goes 210 = .ok (.iload_n 2, 1) := by decide +kernel
theorem dX11_goes_211 : decode cX11_goes 211 = .ok (.iadd, 1) := by decide +kernel
theorem dX11_goes_212 : decode cX11_goes 212 = .ok (.dup2, 1) := by decide +kernel
theorem dX11_goes_213 : decode cX11_goes 213 = .ok (.iaload, 1) := by decide +kernel
theorem dX11_goes_214 : decode cX11_goes 214 = .ok (.iload_n 3, 1) := by decide +kernel
theorem dX11_goes_215 : decode cX11_goes 215 = .ok (.iadd, 1) := by decide +kernel
theorem dX11_goes_216 : decode cX11_goes 216 = .ok (.iastore, 1) := by decide +kernel
theorem dX11_goes_217 : decode cX11_goes 217 = .ok (.aload_n 0, 1) := by decide +kernel
theorem dX11_goes_218 : decode cX11_goes 218 = .ok (.getfield 77, 3) := by decide +kernel
theorem dX11_goes_221 : decode cX11_goes 221 = .ok (.bipush 72, 2) := by decide +kernel
theorem dX11_goes_223 : decode cX11_goes 223 = .ok (.dup2, 1) := by decide +kernel
theorem dX11_goes_224 : decode cX11_goes 224 = .ok (.iaload, 1) := by decide +kernel
theorem dX11_goes_225 : decode cX11_goes 225 = .ok (.iload_n 3, 1) := by decide +kernel
theorem dX11_goes_226 : decode cX11_goes 226 = .ok (.aload_n 0, 1) := by decide +kernel
theorem dX11_goes_227 : decode cX11_goes 227 = .ok (.getfield 41, 3) := by decide +kernel
theorem dX11_goes_230 : decode cX11_goes 230 = .ok (.iload_n 2, 1) := by decide +kernel
theorem dX11_goes_231 : decode cX11_goes 231 = .ok (.iaload, 1) := by decide +kernel
theorem dX11_goes_232 : decode cX11_goes 232 = .ok (.imul, 1) := by decide +kernel
theorem dX11_goes_233 : decode cX11_goes 233 = .ok (.iadd, 1) := by decide +kernel
theorem dX11_goes_234 : decode cX11_goes 234 = .ok (.iastore, 1) := by decide +kernel
theorem dX11_goes_235 : decode cX11_goes 235 = .ok (.iconst 1, 1) := by decide +kernel
theorem dX11_goes_236 : decode cX11_goes 236 = .ok (.ireturn, 1) := by decide +kernel
theorem dX11_book_0 : decode cX11_book 0 = .ok (.aload_n 0, 1) := by decide +kernel
theorem dX11_book_1 : decode cX11_book 1 = .ok (.iconst 0, 1) := by decide +kernel
theorem dX11_book_2 : decode cX11_book 2 = .ok (.putfield 3, 3) := by decide +kernel
theorem dX11_book_5 : decode cX11_book 5 = .ok (.aload_n 0, 1) := by decide +kernel
theorem dX11_book_6 : decode cX11_book 6 = .ok (.iload_n 1, 1) := by decide +kernel
theorem dX11_book_7 : decode cX11_book 7 = .ok (.ifCond .lt 21, 3) := by decide +kernel
theorem dX11_book_10 : decode cX11_book 10 = .ok (.iload_n 1, 1) := by decide +kernel
theorem dX11_book_11 : decode cX11_book 11 = .ok (.aload_n 0, 1) := by decide +kernel
theorem dX11_book_12 : decode cX11_book 12 = .ok (.getfield 118, 3) := by decide +kernel
theorem dX11_book_15 : decode cX11_book 15 = .ok (.if_icmp .gt 13, 3) := by decide +kernel
theorem dX11_book_18 : decode cX11_book 18 = .ok (.iload_n 1, 1) := by decide +kernel
theorem dX11_book_19 : decode cX11_book 19 = .ok (.bipush 100, 2) := by decide +kernel
theorem dX11_book_21 : decode cX11_book 21 = .ok (.if_icmp .gt 7, 3) := by decide +kernel
theorem dX11_book_24 : decode cX11_book 24 = .ok (.iconst 1, 1) := by decide +kernel
theorem dX11_book_25 : decode cX11_book 25 = .ok (.goto 4, 3) := by decide +kernel
theorem dX11_book_28 : decode cX11_book 28 = .ok (.iconst 0, 1) := by decide +kernel
theorem dX11_book_29 : decode cX11_book 29 = .ok (.iconst 1, 1) := by decide +kernel
theorem dX11_book_30 : decode cX11_book 30 = .ok (.iconst 2, 1) := by decide +kernel
theorem dX11_book_31 : decode cX11_book 31 = .ok (.invokevirtual 252, 3) := by decide +kernel
theorem dX11_book_34 : decode cX11_book 34 = .ok (.ifCond .ne 5, 3) := by decide +kernel
theorem dX11_book_37 : decode cX11_book 37 = .ok (.iconst 0, 1) := by decide +kernel
theorem dX11_book_38 : decode cX11_book 38 = .ok (.ireturn, 1) := by decide +kernel
theorem dX11_book_39 : decode cX11_book 39 = .ok (.aload_n 0, 1) := by decide +kernel
theorem dX11_book_40 : decode cX11_book 40 = .ok (.iload_n 1, 1) := by decide +kernel
theorem dX11_book_41 : decode cX11_book 41 = .ok (.invokevirtual 256, 3) := by decide +kernel
theorem dX11_book_44 : decode cX11_book 44 = .ok (.iconst 0, 1) := by decide +kernel
theorem dX11_book_45 : decode cX11_book 45 = .ok (.istore_n 2, 1) := by decide +kernel
theorem dX11_book_46 : decode cX11_book 46 = .ok (.iconst 0, 1) := by decide +kernel
theorem dX11_book_47 : decode cX11_book 47 = .ok (.istore_n 3, 1) := by decide +kernel
theorem dX11_book_48 : decode cX11_book 48 = .ok (.aload_n 0, 1) := by decide +kernel
theorem dX11_book_49 : decode cX11_book 49 = .ok (.invokevirtual 149, 3) := by decide +kernel
theorem dX11_book_52 : decode cX11_book 52 = .ok (.ifCond .eq 129, 3) := by decide +kernel
theorem dX11_book_55 : decode cX11_book 55 = .ok (.aload_n 0, 1) := by decide +kernel
theorem dX11_book_56 : decode cX11_book 56 = .ok (.invokevirtual 260, 3) := by decide +kernel
theorem dX11_book_59 : decode cX11_book 59 = .ok (.ifCond .eq 122, 3) := by decide +kernel
theorem dX11_book_62 : decode cX11_book 62 = .ok (.aload_n 0, 1) := by decide +kernel
theorem dX11_book_63 : decode cX11_book 63 = .ok (.getfield 127, 3) := by decide +kernel
theorem dX11_book_66 : decode cX11_book 66 = .ok (.istore 4, 2) := by decide +kernel
theorem dX11_book_68 : decode cX11_book 68 = .ok (.aload_n 0, 1) := by decide +kernel
theorem dX11_book_69 : decode cX11_book 69 = .ok (.iconst 0, 1) := by decide +kernel
theorem dX11_book_70 : decode cX11_book 70 = .ok (.bipush 7, 2) := by decide +kernel
theorem dX11_book_72 : decode cX11_book 72 = .ok (.invokevirtual 218, 3) := by decide +kernel
theorem dX11_book_75 : decode cX11_book 75 = .ok (.istore 5, 2) := by decide +kernel
theorem dX11_book_77 : decode cX11_book 77 = .ok (.aload_n 0, 1) := by decide +kernel
theorem dX11_book_78 : decode cX11_book 78 = .ok (.invokevirtual 149, 3) := by decide +kernel
theorem dX11_book_81 : decode cX11_book 81 = .ok (.ifCond .eq 20, 3) := by decide +kernel
theorem dX11_book_84 : decode cX11_book 84 = .ok (.iload_n 3, 1) := by decide +kernel
theorem dX11_book_85 : decode cX11_book 85 = .ok (.iload 5, 2) := by decide +kernel
theorem dX11_book_87 : decode cX11_book 87 = .ok (.ishr, 1) := by decide +kernel
theorem dX11_book_88 : decode cX11_book 88 = .ok (.iconst 1, 1) := by decide +kernel
theorem dX11_book_89 : decode cX11_book 89 = .ok (.iand, 1) := by decide +kernel
theorem dX11_book_90 : decode cX11_book 90 = .ok (.iconst 1, 1) := by decide +kernel
theorem dX11_book_91 : decode cX11_book 91 = .ok (.if_icmp .ne 10, 3) := by decide +kernel
theorem dX11_book_94 : decode cX11_book 94 = .ok (.aload_n 0, 1) := by decide +kernel
theorem dX11_book_95 : decode cX11_book 95 = .ok (.iconst 2, 1) := by decide +kernel
theorem dX11_book_96 : decode cX11_book 96 = .ok (.iload 4, 2) := by decide +kernel
theorem dX11_book_98 : decode cX11_book 98 = .ok (.invokevirtual 156, 3) := by decide +kernel
theorem dX11_book_101 : decode cX11_book 101 = .ok (.aload_n 0, 1) := by decide +kernel
theorem dX11_book_102 : decode cX11_book 102 = .ok (.invokevirtual 149, 3) := by decide +kernel
theorem dX11_book_105 : decode cX11_book 105 = .ok (.ifCond .eq 16, 3) := by decide +kernel
theorem dX11_book_108 : decode cX11_book 108 = .ok (.iload_n 2, 1) := by decide +kernel
theorem dX11_book_109 : decode cX11_book 109 = .ok (.bipush 8, 2) := by decide +kernel
theorem dX11_book_111 : decode cX11_book 111 = .ok (.if_icmp .ne 10, 3) := by decide +kernel
theorem dX11_book_114 : decode cX11_book 114 = .ok (.aload_n 0, 1) := by decide +kernel
theorem dX11_book_115 : decode cX11_book 115 = .ok (.iconst 3, 1) := by decide +kernel
theorem dX11_book_116 : decode cX11_book 116 = .ok (.iload 4, 2) := by decide +kernel
theorem dX11_book_118 : decode cX11_book 118 = .ok (.invokevirtual 156, 3) := by decide +kernel
theorem dX11_book_121 : decode cX11_book 121 = .ok (.aload_n 0, 1) := by decide +kernel
theorem dX11_book_122 : decode cX11_book 122 = .ok (.iconst 0, 1) := by decide +kernel
theorem dX11_book_123 : decode cX11_book 123 = .ok (.bipush 6, 2) := by decide +kernel
theorem dX11_book_125 : decode cX11_book 125 = .ok (.invokevirtual 218, 3) := by decide +kernel
theorem dX11_book_128 : decode cX11_book 128 = .ok (.istore 6, 2) := by decide +kernel
theorem dX11_book_130 : decode cX11_book 130 = .ok (.aload_n 0, 1) := by decide +kernel
theorem dX11_book_131 : decode cX11_book 131 = .ok (.bipush 59, 2) := by decide +kernel
theorem dX11_book_133 : decode cX11_book 133 = .ok (.invokevirtual 269, 3) := by decide +kernel
theorem dX11_book_136 : decode cX11_book 136 = .ok (.aload_n 0, 1) := by decide +kernel
theorem dX11_book_137 : decode cX11_book 137 = .ok (.invokevirtual 149, 3) := by decide +kernel
theorem dX11_book_140 : decode cX11_book 140 = .ok (.ifCond .ne 6, 3) := by decide +kernel
theorem dX11_book_143 : decode cX11_book 143 = .ok (.goto 38, 3) := by decide +kernel
theorem dX11_book_146 : decode cX11_book 146 = .ok (.iload_n 3, 1) := by decide +kernel
theorem dX11_book_147 : decode cX11_book 147 = .ok (.iconst 1, 1) := by decide +kernel
theorem dX11_book_148 : decode cX11_book 148 = .ok (.iload 5, 2) := by decide +kernel
theorem dX11_book_150 : decode cX11_book 150 = .ok (.ishl, 1) := by decide +kernel
theorem dX11_book_151 : decode cX11_book 151 = .ok (.ior, 1) := by decide +kernel
theorem dX11_book_152 : decode cX11_book 152 = .ok (.istore_n 3, 1) := by decide +kernel
theorem dX11_book_153 : decode cX11_book 153 = .ok (.aload_n 0, 1) := by decide +kernel
theorem dX11_book_154 : decode cX11_book 154 = .ok (.getfield 90, 3) := by decide +kernel
theorem dX11_book_157 : decode cX11_book 157 = .ok (.iconst 2, 1) := by decide +kernel
theorem dX11_book_158 : decode cX11_book 158 = .ok (.iload_n 2, 1) := by decide +kernel
theorem dX11_book_159 : decode cX11_book 159 = .ok (.imul, 1) := by decide +kernel
theorem dX11_book_160 : decode cX11_book 160 = .ok (.iload 5, 2) := by decide +kernel
theorem dX11_book_162 : decode cX11_book 162 = .ok (.iastore, 1) := by decide +kernel
theorem dX11_book_163 : decode cX11_book 163 = .ok (.aload_n 0, 1) := by decide +kernel
theorem dX11_book_164 : decode cX11_book 164 = .ok (.getfield 90, 3) := by decide +kernel
theorem dX11_book_167 : decode cX11_book 167 = .ok (.iconst 2, 1) := by decide +kernel
theorem dX11_book_168 : decode cX11_book 168 = .ok (.iload_n 2, 1) := by decide +kernel
theorem dX11_book_169 : decode cX11_book 169 = .ok (.imul, 1) := by decide +kernel
theorem dX11_book_170 : decode cX11_book 170 = .ok (.iconst 1, 1) := by decide +kernel
theorem dX11_book_171 : decode cX11_book 171 = .ok (.iadd, 1) := by decide +kernel
theorem dX11_book_172 : decode cX11_book 172 = .ok (.iload 6, 2) := by decide +kernel
theorem dX11_book_174 : decode cX11_book 174 = .ok (.iastore, 1) := by decide +kernel
theorem dX11_book_175 : decode cX11_book 175 = .ok (.iinc 2 1, 3) := by decide +kernel
theorem dX11_book_178 : decode cX11_book 178 = .ok (.goto (-130), 3) := by decide +kernel
theorem dX11_book_181 : decode cX11_book 181 = .ok (.aload_n 0, 1) := by decide +kernel
theorem dX11_book_182 : decode cX11_book 182 = .ok (.iload_n 2, 1) := by decide +kernel
theorem dX11_book_183 : decode cX11_book 183 = .ok (.invokevirtual 272, 3) := by decide +kernel
theorem dX11_book_186 : decode cX11_book 186 = .ok (.istore 4, 2) := by decide +kernel
theorem dX11_book_188 : decode cX11_book 188 = .ok (.aload_n 0, 1) := by decide +kernel
theorem dX11_book_189 : decode cX11_book 189 = .ok (.getfield 121, 3) := by decide +kernel
theorem dX11_book_192 : decode cX11_book 192 = .ok (.iconst (-1), 1) := by decide +kernel
theorem dX11_book_193 : decode cX11_book 193 = .ok (.if_icmp .eq 6, 3) := by decide +kernel
theorem dX11_book_196 : decode cX11_book 196 = .ok (.iload 4, 2) := by decide +kernel
theorem dX11_book_198 : decode cX11_book 198 = .ok (.ireturn, 1) := by decide +kernel
theorem dX11_book_199 : decode cX11_book 199 = .ok (.aload_n 0, 1) := by decide +kernel
theorem dX11_book_200 : decode cX11_book 200 = .ok (.iload_n 2, 1) := by decide +kernel
theorem dX11_book_201 : decode cX11_book 201 = .ok (.putfield 206, 3) := by decide +kernel
theorem dX11_book_204 : decode cX11_book 204 = .ok (.aload_n 0, 1) := by decide +kernel
theorem dX11_book_205 : decode cX11_book 205 = .ok (.aload_n 0, 1) := by decide +kernel
theorem dX11_book_206 : decode cX11_book 206 = .ok (.getfield 90, 3) := by decide +kernel
theorem dX11_book_209 : decode cX11_book 209 = .ok (.aload_n 0, 1) := by decide +kernel
theorem dX11_book_210 : decode cX11_book 210 = .ok (.getfield 93, 3) := by decide +kernel
theorem dX11_book_213 : decode cX11_book 213 = .ok (.iconst 2, 1) := by decide +kernel
theorem dX11_book_214 : decode cX11_book 214 = .ok (.iload_n 2, 1) := by decide +kernel
theorem dX11_book_215 : decode cX11_book 215 = .ok (.imul, 1) := by decide +kernel
theorem dX11_book_216 : decode cX11_book 216 = .ok (.invokevirtual 202, 3) := by decide +kernel
theorem dX11_book_219 : decode cX11_book 219 = .ok (.iload 4, 2) := by decide +kernel
theorem dX11_book_221 : decode cX11_book 221 = .ok (.ireturn, 1) := by decide +kernel
theorem dX11_undo_0 : decode cX11_undo 0 = .ok (.aload_n 0, 1) := by decide +kernel
theorem dX11_undo_1 : decode cX11_undo 1 = .ok (.iconst 0, 1) := by decide +kernel
theorem dX11_undo_2 : decode cX11_undo 2 = .ok (.putfield 3, 3) := by decide +kernel
theorem dX11_undo_5 : decode cX11_undo 5 = .ok (.aload_n 0, 1) := by decide +kernel
theorem dX11_undo_6 : decode cX11_undo 6 = .ok (.getfield 209, 3) := by decide +kernel
theorem dX11_undo_9 : decode cX11_undo 9 = .ok (.ifCond .ne 5, 3) := by decide +kernel
theorem dX11_undo_12 : decode cX11_undo 12 = .ok (.iconst (-1), 1) := by decide +kernel
theorem dX11_undo_13 : decode cX11_undo 13 = .ok (.ireturn, 1) := by decide +kernel
theorem dX11_undo_14 : decode cX11_undo 14 = .ok (.aload_n 0, 1) := by decide +kernel
theorem dX11_undo_15 : decode cX11_undo 15 = .ok (.dup, 1) := by decide +kernel
theorem dX11_undo_16 : decode cX11_undo 16 = .ok (.getfield 209, 3) := by decide +kernel
theorem dX11_undo_19 : decode cX11_undo 19 = .ok (.iconst 1, 1) := by decide +kernel
theorem dX11_undo_20 : decode cX11_undo 20 = .ok (.isub, 1) := by decide +kernel
theorem dX11_undo_21 : decode cX11_undo 21 = .ok (.putfield 209, 3) := by decide +kernel
theorem dX11_undo_24 : decode cX11_undo 24 = .ok (.iconst 0, 1) := by decide +kernel
theorem dX11_undo_25 : decode cX11_undo 25 = .ok (.istore_n 1, 1) := by decide +kernel
theorem dX11_undo_26 : decode cX11_undo 26 = .ok (.iload_n 1, 1) := by decide +kernel
theorem dX11_undo_27 : decode cX11_undo 27 = .ok (.bipush 77, 2) := by decide +kernel
theorem dX11_undo_29 : decode cX11_undo 29 = .ok (.if_icmp .ge 29, 3) := by decide +kernel
theorem dX11_undo_32 : decode cX11_undo 32 = .ok (.aload_n 0, 1) := by decide +kernel
theorem dX11_undo_33 : decode cX11_undo 33 = .ok (.getfield 74, 3) := by decide +kernel
theorem dX11_undo_36 : decode cX11_undo 36 = .ok (.iload_n 1, 1) := by decide +kernel
theorem dX11_undo_37 : decode cX11_undo 37 = .ok (.aload_n 0, 1) := by decide +kernel
theorem dX11_undo_38 : decode cX11_undo 38 = .ok (.getfield 80, 3) := by decide +kernel
theorem dX11_undo_41 : decode cX11_undo 41 = .ok (.bipush 77, 2) := by decide +kernel
theorem dX11_undo_43 : decode cX11_undo 43 = .ok (.aload_n 0, 1) := by decide +kernel
theorem dX11_undo_44 : decode cX11_undo 44 = .ok (.getfield 209, 3) := by decide +kernel
theorem dX11_undo_47 : decode cX11_undo 47 = .ok (.imul, 1) := by decide +kernel
theorem dX11_undo_48 : decode cX11_undo 48 = .ok (.iload_n 1, 1) := by decide +kernel
theorem dX11_undo_49 : decode cX11_undo 49 = .ok (.iadd, 1) := by decide +kernel
theorem dX11_undo_50 : decode cX11_undo 50 = .ok (.iaload, 1) := by decide +kernel
theorem dX11_undo_51 : decode cX11_undo 51 = .ok (.iastore, 1) := by decide +kernel
theorem dX11_undo_52 : decode cX11_undo 52 = .ok (.iinc 1 1, 3) := by decide +kernel
theorem dX11_undo_55 : decode cX11_undo 55 = .ok (.goto (-29), 3) := by decide +kernel
theorem dX11_undo_58 : decode cX11_undo 58 = .ok (.aload_n 0, 1) := by decide +kernel
theorem dX11_undo_59 : decode cX11_undo 59 = .ok (.iconst 0, 1) := by decide +kernel
theorem dX11_undo_60 : decode cX11_undo 60 = .ok (.putfield 215, 3) := by decide +kernel
theorem dX11_undo_63 : decode cX11_undo 63 = .ok (.aload_n 0, 1) := by decide +kernel
theorem dX11_undo_64 : decode cX11_undo 64 = .ok (.getfield 209, 3) := by decide +kernel
theorem dX11_undo_67 : decode cX11_undo 67 = .ok (.ireturn, 1) := by decide +kernel
theorem dX11_told_0 : decode cX11_told 0 = .ok (.aload_n 0, 1) := by decide +kernel
theorem dX11_told_1 : decode cX11_told 1 = .ok (.iconst 0, 1) := by decide +kernel
theorem dX11_told_2 : decode cX11_told 2 = .ok (.putfield 3, 3) := by decide +kernel
theorem dX11_told_5 : decode cX11_told 5 = .ok (.aload_n 0, 1) := by decide +kernel
theorem dX11_told_6 : decode cX11_told 6 = .ok (.iload_n 1, 1) := by decide +kernel
theorem dX11_told_7 : decode cX11_told 7 = .ok (.iconst 0, 1) := by decide +kernel
theorem dX11_told_8 : decode cX11_told 8 = .ok (.bipush 10, 2) := by decide +kernel
theorem dX11_told_10 : decode cX11_told 10 = .ok (.invokestatic 317, 3) := by decide +kernel
theorem dX11_told_13 : decode cX11_told 13 = .ok (.iconst 1, 1) := by decide +kernel
theorem dX11_told_14 : decode cX11_told 14 = .ok (.iconst 2, 1) := by decide +kernel
theorem dX11_told_15 : decode cX11_told 15 = .ok (.invokevirtual 252, 3) := by decide +kernel
theorem dX11_told_18 : decode cX11_told 18 = .ok (.ifCond .ne 5, 3) := by decide +kernel
theorem dX11_told_21 : decode cX11_told 21 = .ok (.iconst 0, 1) := by decide +kernel
theorem dX11_told_22 : decode cX11_told 22 = .ok (.ireturn, 1) := by decide +kernel
theorem dX11_told_23 : decode cX11_told 23 = .ok (.iload_n 1, 1) := by decide +kernel
theorem dX11_told_24 : decode cX11_told 24 = .ok (.iconst 3, 1) := by decide +kernel
theorem dX11_told_25 : decode cX11_told 25 = .ok (.if_icmp .ge 31, 3) := by decide +kernel
theorem dX11_told_28 : decode cX11_told 28 = .ok (.iload_n 1, 1) := by decide +kernel
theorem dX11_told_29 : decode cX11_told 29 = .ok (.ifCond .ne 10, 3) := by decide +kernel
theorem dX11_told_32 : decode cX11_told 32 = .ok (.aload_n 0, 1) := by decide +kernel
theorem dX11_told_33 : decode cX11_told 33 = .ok (.getfield 184, 3) := by decide +kernel
theorem dX11_told_36 : decode cX11_told 36 = .ok (.goto 19, 3) := by decide +kernel
theorem dX11_told_39 : decode cX11_told 39 = .ok (.iload_n 1, 1) := by decide +kernel
theorem dX11_told_40 : decode cX11_told 40 = .ok (.iconst 1, 1) := by decide +kernel
theorem dX11_told_41 : decode cX11_told 41 = .ok (.if_icmp .ne 10, 3) := by decide +kernel
theorem dX11_told_44 : decode cX11_told 44 = .ok (.aload_n 0, 1) := by decide +kernel
theorem dX11_told_45 : decode cX11_told 45 = .ok (.getfield 187, 3) := by decide +kernel
theorem dX11_told_48 : decode cX11_told 48 = .ok (.goto 7, 3) := by decide +kernel
theorem dX11_told_51 : decode cX11_told 51 = .ok (.aload_n 0, 1) := by decide +kernel
theorem dX11_told_52 : decode cX11_told 52 = .ok (.getfield 199, 3) := by decide +kernel
theorem dX11_told_55 : decode cX11_told 55 = .ok (.ireturn, 1) := by decide +kernel
theorem dX11_told_56 : decode cX11_told 56 = .ok (.iload_n 1, 1) := by decide +kernel
theorem dX11_told_57 : decode cX11_told 57 = .ok (.bipush 6, 2) := by decide +kernel
theorem dX11_told_59 : decode cX11_told 59 = .ok (.if_icmp .ge 46, 3) := by decide +kernel
theorem dX11_told_62 : decode cX11_told 62 = .ok (.iload_n 1, 1) := by decide +kernel
theorem dX11_told_63 : decode cX11_told 63 = .ok (.iconst 3, 1) := by decide +kernel
theorem dX11_told_64 : decode cX11_told 64 = .ok (.if_icmp .ne 13, 3) := by decide +kernel
theorem dX11_told_67 : decode cX11_told 67 = .ok (.aload_n 0, 1) := by decide +kernel
theorem dX11_told_68 : decode cX11_told 68 = .ok (.getfield 74, 3) := by decide +kernel
theorem dX11_told_71 : decode cX11_told 71 = .ok (.bipush 69, 2) := by decide +kernel
theorem dX11_told_73 : decode cX11_told 73 = .ok (.iaload, 1) := by decide +kernel
theorem dX11_told_74 : decode cX11_told 74 = .ok (.goto 30, 3) := by decide +kernel
theorem dX11_told_77 : decode cX11_told 77 = .ok (.iload_n 1, 1) := by decide +kernel
theorem dX11_told_78 : decode cX11_told 78 = .ok (.iconst 4, 1) := by decide +kernel
theorem dX11_told_79 : decode cX11_told 79 = .ok (.if_icmp .ne 18, 3) := by decide +kernel
theorem dX11_told_82 : decode cX11_told 82 = .ok (.aload_n 0, 1) := by decide +kernel
theorem dX11_told_83 : decode cX11_told 83 = .ok (.getfield 193, 3) := by decide +kernel
theorem dX11_told_86 : decode cX11_told 86 = .ok (.aload_n 0, 1) := by decide +kernel
theorem dX11_told_87 : decode cX11_told 87 = .ok (.getfield 74, 3) := by decide +kernel
theorem dX11_told_90 : decode cX11_told 90 = .ok (.bipush 70, 2) := by decide +kernel
theorem dX11_told_92 : decode cX11_told 92 = .ok (.iaload, 1) := by decide +kernel
theorem dX11_told_93 : decode cX11_told 93 = .ok (.isub, 1) := by decide +kernel
theorem dX11_told_94 : decode cX11_told 94 = .ok (.goto 10, 3) := by decide +kernel
theorem dX11_told_97 : decode cX11_told 97 = .ok (.aload_n 0, 1) := by decide +kernel
theorem dX11_told_98 : decode cX11_told 98 = .ok (.getfield 74, 3) := by decide +kernel
theorem dX11_told_101 : decode cX11_told 101 = .ok (.bipush 71, 2) := by decide +kernel
theorem dX11_told_103 : decode cX11_told 103 = .ok (.iaload, 1) := by decide +kernel
theorem dX11_told_104 : decode cX11_told 104 = .ok (.ireturn, 1) := by decide +kernel
theorem dX11_told_105 : decode cX11_told 105 = .ok (.iload_n 1, 1) := by decide +kernel
theorem dX11_told_106 : decode cX11_told 106 = .ok (.bipush 9, 2) := by decide +kernel
theorem dX11_told_108 : decode cX11_told 108 = .ok (.if_icmp .ge 43, 3) := by decide +kernel
theorem dX11_told_111 : decode cX11_told 111 = .ok (.iload_n 1, 1) := by decide +kernel
theorem dX11_told_112 : decode cX11_told 112 = .ok (.bipush 6, 2) := by decide +kernel
theorem dX11_told_114 : decode cX11_told 114 = .ok (.if_icmp .ne 13, 3) := by decide +kernel
theorem dX11_told_117 : decode cX11_told 117 = .ok (.aload_n 0, 1) := by decide +kernel
theorem dX11_told_118 : decode cX11_told 118 = .ok (.getfield 74, 3) := by decide +kernel
theorem dX11_told_121 : decode cX11_told 121 = .ok (.bipush 72, 2) := by decide +kernel
theorem dX11_told_123 : decode cX11_told 123 = .ok (.iaload, 1) := by decide +kernel
theorem dX11_told_124 : decode cX11_told 124 = .ok (.goto 26, 3) := by decide +kernel
theorem dX11_told_127 : decode cX11_told 127 = .ok (.iload_n 1, 1) := by decide +kernel
theorem dX11_told_128 : decode cX11_told 128 = .ok (.bipush 7, 2) := by decide +kernel
theorem dX11_told_130 : decode cX11_told 130 = .ok (.if_icmp .ne 13, 3) := by decide +kernel
theorem dX11_told_133 : decode cX11_told 133 = .ok (.aload_n 0, 1) := by decide +kernel
theorem dX11_told_134 : decode cX11_told 134 = .ok (.getfield 74, 3) := by decide +kernel
theorem dX11_told_137 : decode cX11_told 137 = .ok (.bipush 73, 2) := by decide +kernel
theorem dX11_told_139 : decode cX11_told 139 = .ok (.iaload, 1) := by decide +kernel
theorem dX11_told_140 : decode cX11_told 140 = .ok (.goto 10, 3) := by decide +kernel
theorem dX11_told_143 : decode cX11_told 143 = .ok (.aload_n 0, 1) := by decide +kernel
theorem dX11_told_144 : decode cX11_told 144 = .ok (.getfield 74, 3) := by decide +kernel
theorem dX11_told_147 : decode cX11_told 147 = .ok (.bipush 74, 2) := by decide +kernel
theorem dX11_told_149 : decode cX11_told 149 = .ok (.iaload, 1) := by decide +kernel
theorem dX11_told_150 : decode cX11_told 150 = .ok (.ireturn, 1) := by decide +kernel
theorem dX11_told_151 : decode cX11_told 151 = .ok (.iload_n 1, 1) := by decide +kernel
theorem dX11_told_152 : decode cX11_told 152 = .ok (.bipush 9, 2) := by decide +kernel
theorem dX11_told_154 : decode cX11_told 154 = .ok (.if_icmp .ne 10, 3) := by decide +kernel
theorem dX11_told_157 : decode cX11_told 157 = .ok (.aload_n 0, 1) := by decide +kernel
theorem dX11_told_158 : decode cX11_told 158 = .ok (.getfield 215, 3) := by decide +kernel
theorem dX11_told_161 : decode cX11_told 161 = .ok (.goto 7, 3) := by decide +kernel
theorem dX11_told_164 : decode cX11_told 164 = .ok (.aload_n 0, 1) := by decide +kernel
theorem dX11_told_165 : decode cX11_told 165 = .ok (.getfield 206, 3) := by decide +kernel
theorem dX11_told_168 : decode cX11_told 168 = .ok (.ireturn, 1) := by decide +kernel
theorem dX11_isCell_0 : decode cX11_isCell 0 = .ok (.aload_n 0, 1) := by decide +kernel
theorem dX11_isCell_1 : decode cX11_isCell 1 = .ok (.aload_n 0, 1) := by decide +kernel
theorem dX11_isCell_2 : decode cX11_isCell 2 = .ok (.iload_n 1, 1) := by decide +kernel
theorem dX11_isCell_3 : decode cX11_isCell 3 = .ok (.iload_n 2, 1) := by decide +kernel
theorem dX11_isCell_4 : decode cX11_isCell 4 = .ok (.invokevirtual 363, 3) := by decide +kernel
theorem dX11_isCell_7 : decode cX11_isCell 7 = .ok (.iload_n 3, 1) := by decide +kernel
theorem dX11_isCell_8 : decode cX11_isCell 8 = .ok (.iconst 0, 1) := by decide +kernel
theorem dX11_isCell_9 : decode cX11_isCell 9 = .ok (.invokevirtual 252, 3) := by decide +kernel
theorem dX11_isCell_12 : decode cX11_isCell 12 = .ok (.ireturn, 1) := by decide +kernel
theorem dX11_cell_0 : decode cX11_cell 0 = .ok (.aload_n 0, 1) := by decide +kernel
theorem dX11_cell_1 : decode cX11_cell 1 = .ok (.iconst 0, 1) := by decide +kernel
theorem dX11_cell_2 : decode cX11_cell 2 = .ok (.putfield 3, 3) := by decide +kernel
theorem dX11_cell_5 : decode cX11_cell 5 = .ok (.aload_n 0, 1) := by decide +kernel
theorem dX11_cell_6 : decode cX11_cell 6 = .ok (.iload_n 1, 1) := by decide +kernel
theorem dX11_cell_7 : decode cX11_cell 7 = .ok (.iload_n 2, 1) := by decide +kernel
theorem dX11_cell_8 : decode cX11_cell 8 = .ok (.iconst 1, 1) := by decide +kernel
theorem dX11_cell_9 : decode cX11_cell 9 = .ok (.invokevirtual 415, 3) := by decide +kernel
theorem dX11_cell_12 : decode cX11_cell 12 = .ok (.ifCond .eq 18, 3) := by decide +kernel
theorem dX11_cell_15 : decode cX11_cell 15 = .ok (.aload_n 0, 1) := by decide +kernel
theorem dX11_cell_16 : decode cX11_cell 16 = .ok (.iload_n 3, 1) := by decide +kernel
theorem dX11_cell_17 : decode cX11_cell 17 = .ok (.iconst 0, 1) := by decide +kernel
theorem dX11_cell_18 : decode cX11_cell 18 = .ok (.iconst 3, 1) := by decide +kernel
theorem dX11_cell_19 : decode cX11_cell 19 = .ok (.invokestatic 317, 3) := by decide +kernel
theorem dX11_cell_22 : decode cX11_cell 22 = .ok (.iconst 2, 1) := by decide +kernel
theorem dX11_cell_23 : decode cX11_cell 23 = .ok (.iconst 2, 1) := by decide +kernel
theorem dX11_cell_24 : decode cX11_cell 24 = .ok (.invokevirtual 252, 3) := by decide +kernel
theorem dX11_cell_27 : decode cX11_cell 27 = .ok (.ifCond .ne 5, 3) := by decide +kernel
theorem dX11_cell_30 : decode cX11_cell 30 = .ok (.iconst 0, 1) := by decide +kernel
theorem dX11_cell_31 : decode cX11_cell 31 = .ok (.ireturn, 1) := by decide +kernel
theorem dX11_cell_32 : decode cX11_cell 32 = .ok (.aload_n 0, 1) := by decide +kernel
theorem dX11_cell_33 : decode cX11_cell 33 = .ok (.invokevirtual 345, 3) := by decide +kernel
theorem dX11_cell_36 : decode cX11_cell 36 = .ok (.bipush 8, 2) := by decide +kernel
theorem dX11_cell_38 : decode cX11_cell 38 = .ok (.iload_n 2, 1) := by decide +kernel
theorem dX11_cell_39 : decode cX11_cell 39 = .ok (.imul, 1) := by decide +kernel
theorem dX11_cell_40 : decode cX11_cell 40 = .ok (.iload_n 1, 1) := by decide +kernel
theorem dX11_cell_41 : decode cX11_cell 41 = .ok (.iadd, 1) := by decide +kernel
theorem dX11_cell_42 : decode cX11_cell 42 = .ok (.istore 4, 2) := by decide +kernel
theorem dX11_cell_44 : decode cX11_cell 44 = .ok (.iload_n 3, 1) := by decide +kernel
theorem dX11_cell_45 : decode cX11_cell 45 = .ok (.iconst 2, 1) := by decide +kernel
theorem dX11_cell_46 : decode cX11_cell 46 = .ok (.if_icmp .ge 25, 3) := by decide +kernel
theorem dX11_cell_49 : decode cX11_cell 49 = .ok (.iload_n 3, 1) := by decide +kernel
theorem dX11_cell_50 : decode cX11_cell 50 = .ok (.ifCond .ne 13, 3) := by decide +kernel
theorem dX11_cell_53 : decode cX11_cell 53 = .ok (.aload_n 0, 1) := by decide +kernel
theorem dX11_cell_54 : decode cX11_cell 54 = .ok (.getfield 35, 3) := by decide +kernel
theorem dX11_cell_57 : decode cX11_cell 57 = .ok (.iload 4, 2) := by decide +kernel
theorem dX11_cell_59 : decode cX11_cell 59 = .ok (.iaload, 1) := by decide +kernel
theorem dX11_cell_60 : decode cX11_cell 60 = .ok (.goto 10, 3) := by decide +kernel
theorem dX11_cell_63 : decode cX11_cell 63 = .ok (.aload_n 0, 1) := by decide +kernel
theorem dX11_cell_64 : decode cX11_cell 64 = .ok (.getfield 38, 3) := by decide +kernel
theorem dX11_cell_67 : decode cX11_cell 67 = .ok (.iload 4, 2) := by decide +kernel
theorem dX11_cell_69 : decode cX11_cell 69 = .ok (.iaload, 1) := by decide +kernel
theorem dX11_cell_70 : decode cX11_cell 70 = .ok (.ireturn, 1) := by decide +kernel
theorem dX11_cell_71 : decode cX11_cell 71 = .ok (.iload_n 3, 1) := by decide +kernel
theorem dX11_cell_72 : decode cX11_cell 72 = .ok (.iconst 2, 1) := by decide +kernel
theorem dX11_cell_73 : decode cX11_cell 73 = .ok (.if_icmp .ne 13, 3) := by decide +kernel
theorem dX11_cell_76 : decode cX11_cell 76 = .ok (.aload_n 0, 1) := by decide +kernel
theorem dX11_cell_77 : decode cX11_cell 77 = .ok (.getfield 77, 3) := by decide +kernel
theorem dX11_cell_80 : decode cX11_cell 80 = .ok (.iload 4, 2) := by decide +kernel
theorem dX11_cell_82 : decode cX11_cell 82 = .ok (.iaload, 1) := by decide +kernel
theorem dX11_cell_83 : decode cX11_cell 83 = .ok (.goto 24, 3) := by decide +kernel
theorem dX11_cell_86 : decode cX11_cell 86 = .ok (.aload_n 0, 1) := by decide +kernel
theorem dX11_cell_87 : decode cX11_cell 87 = .ok (.getfield 77, 3) := by decide +kernel
theorem dX11_cell_90 : decode cX11_cell 90 = .ok (.iload 4, 2) := by decide +kernel
theorem dX11_cell_92 : decode cX11_cell 92 = .ok (.iaload, 1) := by decide +kernel
theorem dX11_cell_93 : decode cX11_cell 93 = .ok (.iconst 1, 1) := by decide +kernel
theorem dX11_cell_94 : decode cX11_cell 94 = .ok (.if_icmp .ne 12, 3) := by decide +kernel
theorem dX11_cell_97 : decode cX11_cell 97 = .ok (.aload_n 0, 1) := by decide +kernel
theorem dX11_cell_98 : decode cX11_cell 98 = .ok (.iload 4, 2) := by decide +kernel
theorem dX11_cell_100 : decode cX11_cell 100 = .ok (.invokevirtual 373, 3) := by decide +kernel
theorem dX11_cell_103 : decode cX11_cell 103 = .ok (.goto 4, 3) := by decide +kernel
theorem dX11_cell_106 : decode cX11_cell 106 = .ok (.iconst 0, 1) := by decide +kernel
theorem dX11_cell_107 : decode cX11_cell 107 = .ok (.ireturn, 1) := by decide +kernel
theorem dX11_kind_0 : decode cX11_kind 0 = .ok (.aload_n 0, 1) := by decide +kernel
theorem dX11_kind_1 : decode cX11_kind 1 = .ok (.iconst 0, 1) := by decide +kernel
theorem dX11_kind_2 : decode cX11_kind 2 = .ok (.putfield 3, 3) := by decide +kernel
theorem dX11_kind_5 : decode cX11_kind 5 = .ok (.aload_n 0, 1) := by decide +kernel
theorem dX11_kind_6 : decode cX11_kind 6 = .ok (.iload_n 1, 1) := by decide +kernel
theorem dX11_kind_7 : decode cX11_kind 7 = .ok (.iconst 1, 1) := by decide +kernel
theorem dX11_kind_8 : decode cX11_kind 8 = .ok (.iconst 4, 1) := by decide +kernel
theorem dX11_kind_9 : decode cX11_kind 9 = .ok (.invokestatic 317, 3) := by decide +kernel
theorem dX11_kind_12 : decode cX11_kind 12 = .ok (.ifCond .eq 16, 3) := by decide +kernel
theorem dX11_kind_15 : decode cX11_kind 15 = .ok (.iload_n 2, 1) := by decide +kernel
theorem dX11_kind_16 : decode cX11_kind 16 = .ok (.iconst 0, 1) := by decide +kernel
theorem dX11_kind_17 : decode cX11_kind 17 = .ok (.iconst 4, 1) := by decide +kernel
theorem dX11_kind_18 : decode cX11_kind 18 = .ok (.invokestatic 317, 3) := by decide +kernel
theorem dX11_kind_21 : decode cX11_kind 21 = .ok (.ifCond .eq 7, 3) := by decide +kernel
theorem dX11_kind_24 : decode cX11_kind 24 = .ok (.iconst 1, 1) := by decide +kernel
theorem dX11_kind_25 : decode cX11_kind 25 = .ok (.goto 4, 3) := by decide +kernel
theorem dX11_kind_28 : decode cX11_kind 28 = .ok (.iconst 0, 1) := by decide +kernel
theorem dX11_kind_29 : decode cX11_kind 29 = .ok (.iconst 1, 1) := by decide +kernel
theorem dX11_kind_30 : decode cX11_kind 30 = .ok (.iconst 2, 1) := by decide +kernel
theorem dX11_kind_31 : decode cX11_kind 31 = .ok (.invokevirtual 252, 3) := by decide +kernel
theorem dX11_kind_34 : decode cX11_kind 34 = .ok (.ifCond .ne 5, 3) := by decide +kernel
theorem dX11_kind_37 : decode cX11_kind 37 = .ok (.iconst 0, 1) := by decide +kernel
theorem dX11_kind_38 : decode cX11_kind 38 = .ok (.ireturn, 1) := by decide +kernel
theorem dX11_kind_39 : decode cX11_kind 39 = .ok (.iload_n 2, 1) := by decide +kernel
theorem dX11_kind_40 : decode cX11_kind 40 = .ok (.ifCond .le 61, 3) := by decide +kernel
theorem dX11_kind_43 : decode cX11_kind 43 = .ok (.iload_n 2, 1) := by decide +kernel
theorem dX11_kind_44 : decode cX11_kind 44 = .ok (.iconst 1, 1) := by decide +kernel
theorem dX11_kind_45 : decode cX11_kind 45 = .ok (.if_icmp .ne 15, 3) := by decide +kernel
theorem dX11_kind_48 : decode cX11_kind 48 = .ok (.aload_n 0, 1) := by decide +kernel
theorem dX11_kind_49 : decode cX11_kind 49 = .ok (.getfield 74, 3) := by decide +kernel
theorem dX11_kind_52 : decode cX11_kind 52 = .ok (.bipush 48, 2) := by decide +kernel
theorem dX11_kind_54 : decode cX11_kind 54 = .ok (.iload_n 1, 1) := by decide +kernel
theorem dX11_kind_55 : decode cX11_kind 55 = .ok (.iadd, 1) := by decide +kernel
theorem dX11_kind_56 : decode cX11_kind 56 = .ok (.iaload, 1) := by decide +kernel
theorem dX11_kind_57 : decode cX11_kind 57 = .ok (.goto 43, 3) := by decide +kernel
theorem dX11_kind_60 : decode cX11_kind 60 = .ok (.iload_n 2, 1) := by decide +kernel
theorem dX11_kind_61 : decode cX11_kind 61 = .ok (.iconst 2, 1) := by decide +kernel
theorem dX11_kind_62 : decode cX11_kind 62 = .ok (.if_icmp .ne 15, 3) := by decide +kernel
theorem dX11_kind_65 : decode cX11_kind 65 = .ok (.aload_n 0, 1) := by decide +kernel
theorem dX11_kind_66 : decode cX11_kind 66 = .ok (.getfield 74, 3) := by decide +kernel
theorem dX11_kind_69 : decode cX11_kind 69 = .ok (.bipush 53, 2) := by decide +kernel
theorem dX11_kind_71 : decode cX11_kind 71 = .ok (.iload_n 1, 1) := by decide +kernel
theorem dX11_kind_72 : decode cX11_kind 72 = .ok (.iadd, 1) := by decide +kernel
theorem dX11_kind_73 : decode cX11_kind 73 = .ok (.iaload, 1) := by decide +kernel
theorem dX11_kind_74 : decode cX11_kind 74 = .ok (.goto 26, 3) := by decide +kernel
theorem dX11_kind_77 : decode cX11_kind 77 = .ok (.iload_n 2, 1) := by decide +kernel
theorem dX11_kind_78 : decode cX11_kind 78 = .ok (.iconst 3, 1) := by decide +kernel
theorem dX11_kind_79 : decode cX11_kind 79 = .ok (.if_icmp .ne 15, 3) := by decide +kernel
theorem dX11_kind_82 : decode cX11_kind 82 = .ok (.aload_n 0, 1) := by decide +kernel
theorem dX11_kind_83 : decode cX11_kind 83 = .ok (.getfield 74, 3) := by decide +kernel
theorem dX11_kind_86 : decode cX11_kind 86 = .ok (.bipush 58, 2) := by decide +kernel
theorem dX11_kind_88 : decode cX11_kind 88 = .ok (.iload_n 1, 1) := by decide +kernel
theorem dX11_kind_89 : decode cX11_kind 89 = .ok (.iadd, 1) := by decide +kernel
theorem dX11_kind_90 : decode cX11_kind 90 = .ok (.iaload, 1) := by decide +kernel
theorem dX11_kind_91 : decode cX11_kind 91 = .ok (.goto 9, 3) := by decide +kernel
theorem dX11_kind_94 : decode cX11_kind 94 = .ok (.aload_n 0, 1) := by decide +kernel
theorem dX11_kind_95 : decode cX11_kind 95 = .ok (.getfield 41, 3) := by decide +kernel
theorem dX11_kind_98 : decode cX11_kind 98 = .ok (.iload_n 1, 1) := by decide +kernel
theorem dX11_kind_99 : decode cX11_kind 99 = .ok (.iaload, 1) := by decide +kernel
theorem dX11_kind_100 : decode cX11_kind 100 = .ok (.ireturn, 1) := by decide +kernel
theorem dX11_kind_101 : decode cX11_kind 101 = .ok (.iconst 0, 1) := by decide +kernel
theorem dX11_kind_102 : decode cX11_kind 102 = .ok (.istore_n 3, 1) := by decide +kernel
theorem dX11_kind_103 : decode cX11_kind 103 = .ok (.iconst 0, 1) := by decide +kernel
theorem dX11_kind_104 : decode cX11_kind 104 = .ok (.istore 4, 2) := by decide +kernel
theorem dX11_kind_106 : decode cX11_kind 106 = .ok (.iload 4, 2) := by decide +kernel
theorem dX11_kind_108 : decode cX11_kind 108 = .ok (.bipush 48, 2) := by decide +kernel
theorem dX11_kind_110 : decode cX11_kind 110 = .ok (.if_icmp .ge 44, 3) := by decide +kernel
theorem dX11_kind_113 : decode cX11_kind 113 = .ok (.iload_n 3, 1) := by decide +kernel
theorem dX11_kind_114 : decode cX11_kind 114 = .ok (.aload_n 0, 1) := by decide +kernel
theorem dX11_kind_115 : decode cX11_kind 115 = .ok (.getfield 35, 3) := by decide +kernel
theorem dX11_kind_118 : decode cX11_kind 118 = .ok (.iload 4, 2) := by decide +kernel
theorem dX11_kind_120 : decode cX11_kind 120 = .ok (.iaload, 1) := by decide +kernel
theorem dX11_kind_121 : decode cX11_kind 121 = .ok (.iload_n 1, 1) := by decide +kernel
theorem dX11_kind_122 : decode cX11_kind 122 = .ok (.if_icmp .ne 23, 3) := by decide +kernel
theorem dX11_kind_125 : decode cX11_kind 125 = .ok (.aload_n 0, 1) := by decide +kernel
theorem dX11_kind_126 : decode cX11_kind 126 = .ok (.getfield 74, 3) := by decide +kernel
theorem dX11_kind_129 : decode cX11_kind 129 = .ok (.iload 4, 2) := by decide +kernel
theorem dX11_kind_131 : decode cX11_kind 131 = .ok (.iaload, 1) := by decide +kernel
theorem dX11_kind_132 : decode cX11_kind 132 = .ok (.ifCond .ne 13, 3) := by decide +kernel
theorem dX11_kind_135 : decode cX11_kind 135 = .ok (.aload_n 0, 1) := by decide +kernel
theorem dX11_kind_136 : decode cX11_kind 136 = .ok (.getfield 38, 3) := by decide +kernel
theorem dX11_kind_139 : decode cX11_kind 139 = .ok (.iload 4, 2) := by decide +kernel
theorem dX11_kind_141 : decode cX11_kind 141 = .ok (.iaload, 1) := by decide +kernel
theorem dX11_kind_142 : decode cX11_kind 142 = .ok (.goto 4, 3) := by decide +kernel
theorem dX11_kind_145 : decode cX11_kind 145 = .ok (.iconst 0, 1) := by decide +kernel
theorem dX11_kind_146 : decode cX11_kind 146 = .ok (.iadd, 1) := by decide +kernel
theorem dX11_kind_147 : decode cX11_kind 147 = .ok (.istore_n 3, 1) := by decide +kernel
theorem dX11_kind_148 : decode cX11_kind 148 = .ok (.iinc 4 1, 3) := by decide +kernel
theorem dX11_kind_151 : decode cX11_kind 151 = .ok (.goto (-45), 3) := by decide +kernel
theorem dX11_kind_154 : decode cX11_kind 154 = .ok (.iload_n 3, 1) := by decide +kernel
theorem dX11_kind_155 : decode cX11_kind 155 = .ok (.ireturn, 1) := by decide +kernel
theorem dX11_isOrder_0 : decode cX11_isOrder 0 = .ok (.aload_n 0, 1) := by decide +kernel
theorem dX11_isOrder_1 : decode cX11_isOrder 1 = .ok (.iload_n 1, 1) := by decide +kernel
theorem dX11_isOrder_2 : decode cX11_isOrder 2 = .ok (.iconst 0, 1) := by decide +kernel
theorem dX11_isOrder_3 : decode cX11_isOrder 3 = .ok (.aload_n 0, 1) := by decide +kernel
theorem dX11_isOrder_4 : decode cX11_isOrder 4 = .ok (.getfield 199, 3) := by decide +kernel
theorem dX11_isOrder_7 : decode cX11_isOrder 7 = .ok (.iconst 1, 1) := by decide +kernel
theorem dX11_isOrder_8 : decode cX11_isOrder 8 = .ok (.isub, 1) := by decide +kernel
theorem dX11_isOrder_9 : decode cX11_isOrder 9 = .ok (.invokestatic 317, 3) := by decide +kernel
theorem dX11_isOrder_12 : decode cX11_isOrder 12 = .ok (.iload_n 2, 1) := by decide +kernel
theorem dX11_isOrder_13 : decode cX11_isOrder 13 = .ok (.iconst 1, 1) := by decide +kernel
theorem dX11_isOrder_14 : decode cX11_isOrder 14 = .ok (.invokevirtual 252, 3) := by decide +kernel
theorem dX11_isOrder_17 : decode cX11_isOrder 17 = .ok (.ireturn, 1) := by decide +kernel
theorem dX11_order_0 : decode cX11_order 0 = .ok (.aload_n 0, 1) := by decide +kernel
theorem dX11_order_1 : decode cX11_order 1 = .ok (.iconst 0, 1) := by decide +kernel
theorem dX11_order_2 : decode cX11_order 2 = .ok (.putfield 3, 3) := by decide +kernel
theorem dX11_order_5 : decode cX11_order 5 = .ok (.aload_n 0, 1) := by decide +kernel
theorem dX11_order_6 : decode cX11_order 6 = .ok (.iload_n 1, 1) := by decide +kernel
theorem dX11_order_7 : decode cX11_order 7 = .ok (.iconst 1, 1) := by decide +kernel
theorem dX11_order_8 : decode cX11_order 8 = .ok (.invokevirtual 418, 3) := by decide +kernel
theorem dX11_order_11 : decode cX11_order 11 = .ok (.ifCond .eq 18, 3) := by decide +kernel
theorem dX11_order_14 : decode cX11_order 14 = .ok (.aload_n 0, 1) := by decide +kernel
theorem dX11_order_15 : decode cX11_order 15 = .ok (.iload_n 2, 1) := by decide +kernel
theorem dX11_order_16 : decode cX11_order 16 = .ok (.iconst 0, 1) := by decide +kernel
theorem dX11_order_17 : decode cX11_order 17 = .ok (.iconst 3, 1) := by decide +kernel
theorem dX11_order_18 : decode cX11_order 18 = .ok (.invokestatic 317, 3) := by decide +kernel
theorem dX11_order_21 : decode cX11_order 21 = .ok (.iconst 2, 1) := by decide +kernel
theorem dX11_order_22 : decode cX11_order 22 = .ok (.iconst 2, 1) := by decide +kernel
theorem dX11_order_23 : decode cX11_order 23 = .ok (.invokevirtual 252, 3) := by decide +kernel
theorem dX11_order_26 : decode cX11_order 26 = .ok (.ifCond .ne 5, 3) := by decide +kernel
theorem dX11_order_29 : decode cX11_order 29 = .ok (.iconst 0, 1) := by decide +kernel
theorem dX11_order_30 : decode cX11_order 30 = .ok (.ireturn, 1) := by decide +kernel
theorem dX11_order_31 : decode cX11_order 31 = .ok (.iload_n 2, 1) := by decide +kernel
theorem dX11_order_32 : decode cX11_order 32 = .ok (.iconst 2, 1) := by decide +kernel
theorem dX11_order_33 : decode cX11_order 33 = .ok (.if_icmp .ge 17, 3) := by decide +kernel
theorem dX11_order_36 : decode cX11_order 36 = .ok (.aload_n 0, 1) := by decide +kernel
theorem dX11_order_37 : decode cX11_order 37 = .ok (.getfield 44, 3) := by decide +kernel
theorem dX11_order_40 : decode cX11_order 40 = .ok (.bipush 10, 2) := by decide +kernel
theorem dX11_order_42 : decode cX11_order 42 = .ok (.iload_n 1, 1) := by decide +kernel
theorem dX11_order_43 : decode cX11_order 43 = .ok (.imul, 1) := by decide +kernel
theorem dX11_order_44 : decode cX11_order 44 = .ok (.iload_n 2, 1) := by decide +kernel
theorem dX11_order_45 : decode cX11_order 45 = .ok (.iadd, 1) := by decide +kernel
theorem dX11_order_46 : decode cX11_order 46 = .ok (.iaload, 1) := by decide +kernel
theorem dX11_order_47 : decode cX11_order 47 = .ok (.goto 25, 3) := by decide +kernel
theorem dX11_order_50 : decode cX11_order 50 = .ok (.iload_n 2, 1) := by decide +kernel
theorem dX11_order_51 : decode cX11_order 51 = .ok (.iconst 2, 1) := by decide +kernel
theorem dX11_order_52 : decode cX11_order 52 = .ok (.if_icmp .ne 11, 3) := by decide +kernel
theorem dX11_order_55 : decode cX11_order 55 = .ok (.aload_n 0, 1) := by decide +kernel
theorem dX11_order_56 : decode cX11_order 56 = .ok (.iload_n 1, 1) := by decide +kernel
theorem dX11_order_57 : decode cX11_order 57 = .ok (.invokevirtual 403, 3) := by decide +kernel
theorem dX11_order_60 : decode cX11_order 60 = .ok (.goto 12, 3) := by decide +kernel
theorem dX11_order_63 : decode cX11_order 63 = .ok (.aload_n 0, 1) := by decide +kernel
theorem dX11_order_64 : decode cX11_order 64 = .ok (.getfield 74, 3) := by decide +kernel
theorem dX11_order_67 : decode cX11_order 67 = .ok (.bipush 63, 2) := by decide +kernel
theorem dX11_order_69 : decode cX11_order 69 = .ok (.iload_n 1, 1) := by decide +kernel
theorem dX11_order_70 : decode cX11_order 70 = .ok (.iadd, 1) := by decide +kernel
theorem dX11_order_71 : decode cX11_order 71 = .ok (.iaload, 1) := by decide +kernel
theorem dX11_order_72 : decode cX11_order 72 = .ok (.ireturn, 1) := by decide +kernel
theorem dX11_note_0 : decode cX11_note 0 = .ok (.aload_n 0, 1) := by decide +kernel
theorem dX11_note_1 : decode cX11_note 1 = .ok (.iconst 0, 1) := by decide +kernel
theorem dX11_note_2 : decode cX11_note 2 = .ok (.putfield 3, 3) := by decide +kernel
theorem dX11_note_5 : decode cX11_note 5 = .ok (.aload_n 0, 1) := by decide +kernel
theorem dX11_note_6 : decode cX11_note 6 = .ok (.iload_n 1, 1) := by decide +kernel
theorem dX11_note_7 : decode cX11_note 7 = .ok (.iconst 1, 1) := by decide +kernel
theorem dX11_note_8 : decode cX11_note 8 = .ok (.invokevirtual 418, 3) := by decide +kernel
theorem dX11_note_11 : decode cX11_note 11 = .ok (.ifCond .eq 36, 3) := by decide +kernel
theorem dX11_note_14 : decode cX11_note 14 = .ok (.aload_n 0, 1) := by decide +kernel
theorem dX11_note_15 : decode cX11_note 15 = .ok (.iload_n 2, 1) := by decide +kernel
theorem dX11_note_16 : decode cX11_note 16 = .ok (.ifCond .lt 22, 3) := by decide +kernel
theorem dX11_note_19 : decode cX11_note 19 = .ok (.iload_n 2, 1) := by decide +kernel
theorem dX11_note_20 : decode cX11_note 20 = .ok (.aload_n 0, 1) := by decide +kernel
theorem dX11_note_21 : decode cX11_note 21 = .ok (.getfield 44, 3) := by decide +kernel
theorem dX11_note_24 : decode cX11_note 24 = .ok (.bipush 10, 2) := by decide +kernel
theorem dX11_note_26 : decode cX11_note 26 = .ok (.iload_n 1, 1) := by decide +kernel
theorem dX11_note_27 : decode cX11_note 27 = .ok (.imul, 1) := by decide +kernel
theorem dX11_note_28 : decode cX11_note 28 = .ok (.iconst 1, 1) := by decide +kernel
theorem dX11_note_29 : decode cX11_note 29 = .ok (.iadd, 1) := by decide +kernel
theorem dX11_note_30 : decode cX11_note 30 = .ok (.iaload, 1) := by decide +kernel
theorem dX11_note_31 : decode cX11_note 31 = .ok (.if_icmp .ge 7, 3) := by decide +kernel
theorem dX11_note_34 : decode cX11_note 34 = .ok (.iconst 1, 1) := by decide +kernel
theorem dX11_note_35 : decode cX11_note 35 = .ok (.goto 4, 3) := by decide +kernel
theorem dX11_note_38 : decode cX11_note 38 = .ok (.iconst 0, 1) := by decide +kernel
theorem dX11_note_39 : decode cX11_note 39 = .ok (.iconst 2, 1) := by decide +kernel
theorem dX11_note_40 : decode cX11_note 40 = .ok (.iconst 2, 1) := by decide +kernel
theorem dX11_note_41 : decode cX11_note 41 = .ok (.invokevirtual 252, 3) := by decide +kernel
theorem dX11_note_44 : decode cX11_note 44 = .ok (.ifCond .ne 5, 3) := by decide +kernel
theorem dX11_note_47 : decode cX11_note 47 = .ok (.iconst 0, 1) := by decide +kernel
theorem dX11_note_48 : decode cX11_note 48 = .ok (.ireturn, 1) := by decide +kernel
theorem dX11_note_49 : decode cX11_note 49 = .ok (.aload_n 0, 1) := by decide +kernel
theorem dX11_note_50 : decode cX11_note 50 = .ok (.getfield 44, 3) := by decide +kernel
theorem dX11_note_53 : decode cX11_note 53 = .ok (.bipush 10, 2) := by decide +kernel
theorem dX11_note_55 : decode cX11_note 55 = .ok (.iload_n 1, 1) := by decide +kernel
theorem dX11_note_56 : decode cX11_note 56 = .ok (.imul, 1) := by decide +kernel
theorem dX11_note_57 : decode cX11_note 57 = .ok (.iconst 2, 1) := by decide +kernel
theorem dX11_note_58 : decode cX11_note 58 = .ok (.iadd, 1) := by decide +kernel
theorem dX11_note_59 : decode cX11_note 59 = .ok (.iload_n 2, 1) := by decide +kernel
theorem dX11_note_60 : decode cX11_note 60 = .ok (.iadd, 1) := by decide +kernel
theorem dX11_note_61 : decode cX11_note 61 = .ok (.iaload, 1) := by decide +kernel
theorem dX11_note_62 : decode cX11_note 62 = .ok (.ireturn, 1) := by decide +kernel
