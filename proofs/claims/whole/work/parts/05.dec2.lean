theorem dX5_readSeam_60 : decode cX5_readSeam 60 = .ok (.bipush 9, 2) := by decide +kernel
theorem dX5_readSeam_62 : decode cX5_readSeam 62 = .ok (.invokevirtual 117, 3) := by decide +kernel
theorem dX5_readSeam_65 : decode cX5_readSeam 65 = .ok (.istore 7, 2) := by decide +kernel
theorem dX5_readSeam_67 : decode cX5_readSeam 67 = .ok (.iload_n 3, 1) := by decide +kernel
theorem dX5_readSeam_68 : decode cX5_readSeam 68 = .ok (.istore 8, 2) := by decide +kernel
theorem dX5_readSeam_70 : decode cX5_readSeam 70 = .ok (.iload 8, 2) := by decide +kernel
theorem dX5_readSeam_72 : decode cX5_readSeam 72 = .ok (.iload_n 3, 1) := by decide +kernel
theorem dX5_readSeam_73 : decode cX5_readSeam 73 = .ok (.iload 5, 2) := by decide +kernel
theorem dX5_readSeam_75 : decode cX5_readSeam 75 = .ok (.iadd, 1) := by decide +kernel
theorem dX5_readSeam_76 : decode cX5_readSeam 76 = .ok (.if_icmp .ge 39, 3) := by decide +kernel
theorem dX5_readSeam_79 : decode cX5_readSeam 79 = .ok (.iload_n 2, 1) := by decide +kernel
theorem dX5_readSeam_80 : decode cX5_readSeam 80 = .ok (.istore 9, 2) := by decide +kernel
theorem dX5_readSeam_82 : decode cX5_readSeam 82 = .ok (.iload 9, 2) := by decide +kernel
theorem dX5_readSeam_84 : decode cX5_readSeam 84 = .ok (.iload_n 2, 1) := by decide +kernel
theorem dX5_readSeam_85 : decode cX5_readSeam 85 = .ok (.iload 4, 2) := by decide +kernel
theorem dX5_readSeam_87 : decode cX5_readSeam 87 = .ok (.iadd, 1) := by decide +kernel
theorem dX5_readSeam_88 : decode cX5_readSeam 88 = .ok (.if_icmp .ge 21, 3) := by decide +kernel
theorem dX5_readSeam_91 : decode cX5_readSeam 91 = .ok (.aload_n 0, 1) := by decide +kernel
theorem dX5_readSeam_92 : decode cX5_readSeam 92 = .ok (.iload 9, 2) := by decide +kernel
theorem dX5_readSeam_94 : decode cX5_readSeam 94 = .ok (.iload 8, 2) := by decide +kernel
theorem dX5_readSeam_96 : decode cX5_readSeam 96 = .ok (.iload 6, 2) := by decide +kernel
theorem dX5_readSeam_98 : decode cX5_readSeam 98 = .ok (.iload 7, 2) := by decide +kernel
theorem dX5_readSeam_100 : decode cX5_readSeam 100 = .ok (.invokevirtual 127, 3) := by decide +kernel
theorem dX5_readSeam_103 : decode cX5_readSeam 103 = .ok (.iinc 9 1, 3) := by decide +kernel
theorem dX5_readSeam_106 : decode cX5_readSeam 106 = .ok (.goto (-24), 3) := by decide +kernel
theorem dX5_readSeam_109 : decode cX5_readSeam 109 = .ok (.iinc 8 1, 3) := by decide +kernel
theorem dX5_readSeam_112 : decode cX5_readSeam 112 = .ok (.goto (-42), 3) := by decide +kernel
theorem dX5_readSeam_115 : decode cX5_readSeam 115 = .ok (.return_, 1) := by decide +kernel
theorem dX5_readWater_0 : decode cX5_readWater 0 = .ok (.aload_n 1, 1) := by decide +kernel
theorem dX5_readWater_1 : decode cX5_readWater 1 = .ok (.iconst 0, 1) := by decide +kernel
theorem dX5_readWater_2 : decode cX5_readWater 2 = .ok (.aload_n 0, 1) := by decide +kernel
theorem dX5_readWater_3 : decode cX5_readWater 3 = .ok (.getfield 36, 3) := by decide +kernel
theorem dX5_readWater_6 : decode cX5_readWater 6 = .ok (.iconst 1, 1) := by decide +kernel
theorem dX5_readWater_7 : decode cX5_readWater 7 = .ok (.isub, 1) := by decide +kernel
theorem dX5_readWater_8 : decode cX5_readWater 8 = .ok (.invokevirtual 117, 3) := by decide +kernel
theorem dX5_readWater_11 : decode cX5_readWater 11 = .ok (.istore_n 2, 1) := by decide +kernel
theorem dX5_readWater_12 : decode cX5_readWater 12 = .ok (.aload_n 1, 1) := by decide +kernel
theorem dX5_readWater_13 : decode cX5_readWater 13 = .ok (.iconst 0, 1) := by decide +kernel
theorem dX5_readWater_14 : decode cX5_readWater 14 = .ok (.aload_n 0, 1) := by decide +kernel
theorem dX5_readWater_15 : decode cX5_readWater 15 = .ok (.getfield 40, 3) := by decide +kernel
theorem dX5_readWater_18 : decode cX5_readWater 18 = .ok (.iconst 1, 1) := by decide +kernel
theorem dX5_readWater_19 : decode cX5_readWater 19 = .ok (.isub, 1) := by decide +kernel
theorem dX5_readWater_20 : decode cX5_readWater 20 = .ok (.invokevirtual 117, 3) := by decide +kernel
theorem dX5_readWater_23 : decode cX5_readWater 23 = .ok (.istore_n 3, 1) := by decide +kernel
theorem dX5_readWater_24 : decode cX5_readWater 24 = .ok (.aload_n 0, 1) := by decide +kernel
theorem dX5_readWater_25 : decode cX5_readWater 25 = .ok (.iload_n 2, 1) := by decide +kernel
theorem dX5_readWater_26 : decode cX5_readWater 26 = .ok (.iload_n 3, 1) := by decide +kernel
theorem dX5_readWater_27 : decode cX5_readWater 27 = .ok (.iconst 5, 1) := by decide +kernel
theorem dX5_readWater_28 : decode cX5_readWater 28 = .ok (.iconst 0, 1) := by decide +kernel
theorem dX5_readWater_29 : decode cX5_readWater 29 = .ok (.invokevirtual 127, 3) := by decide +kernel
theorem dX5_readWater_32 : decode cX5_readWater 32 = .ok (.return_, 1) := by decide +kernel
theorem dX5_lay_0 : decode cX5_lay 0 = .ok (.bipush 8, 2) := by decide +kernel
theorem dX5_lay_2 : decode cX5_lay 2 = .ok (.iload_n 2, 1) := by decide +kernel
theorem dX5_lay_3 : decode cX5_lay 3 = .ok (.imul, 1) := by decide +kernel
theorem dX5_lay_4 : decode cX5_lay 4 = .ok (.iload_n 1, 1) := by decide +kernel
theorem dX5_lay_5 : decode cX5_lay 5 = .ok (.iadd, 1) := by decide +kernel
theorem dX5_lay_6 : decode cX5_lay 6 = .ok (.istore 5, 2) := by decide +kernel
theorem dX5_lay_8 : decode cX5_lay 8 = .ok (.iload 5, 2) := by decide +kernel
theorem dX5_lay_10 : decode cX5_lay 10 = .ok (.ifCond .lt 27, 3) := by decide +kernel
theorem dX5_lay_13 : decode cX5_lay 13 = .ok (.iload 5, 2) := by decide +kernel
theorem dX5_lay_15 : decode cX5_lay 15 = .ok (.bipush 48, 2) := by decide +kernel
theorem dX5_lay_17 : decode cX5_lay 17 = .ok (.if_icmp .ge 20, 3) := by decide +kernel
theorem dX5_lay_20 : decode cX5_lay 20 = .ok (.aload_n 0, 1) := by decide +kernel
theorem dX5_lay_21 : decode cX5_lay 21 = .ok (.getfield 9, 3) := by decide +kernel
theorem dX5_lay_24 : decode cX5_lay 24 = .ok (.iload 5, 2) := by decide +kernel
theorem dX5_lay_26 : decode cX5_lay 26 = .ok (.iload_n 3, 1) := by decide +kernel
theorem dX5_lay_27 : decode cX5_lay 27 = .ok (.iastore, 1) := by decide +kernel
theorem dX5_lay_28 : decode cX5_lay 28 = .ok (.aload_n 0, 1) := by decide +kernel
theorem dX5_lay_29 : decode cX5_lay 29 = .ok (.getfield 15, 3) := by decide +kernel
theorem dX5_lay_32 : decode cX5_lay 32 = .ok (.iload 5, 2) := by decide +kernel
theorem dX5_lay_34 : decode cX5_lay 34 = .ok (.iload 4, 2) := by decide +kernel
theorem dX5_lay_36 : decode cX5_lay 36 = .ok (.iastore, 1) := by decide +kernel
theorem dX5_lay_37 : decode cX5_lay 37 = .ok (.return_, 1) := by decide +kernel
theorem dX5_readShaft_0 : decode cX5_readShaft 0 = .ok (.aload_n 0, 1) := by decide +kernel
theorem dX5_readShaft_1 : decode cX5_readShaft 1 = .ok (.getfield 53, 3) := by decide +kernel
theorem dX5_readShaft_4 : decode cX5_readShaft 4 = .ok (.iconst 4, 1) := by decide +kernel
theorem dX5_readShaft_5 : decode cX5_readShaft 5 = .ok (.if_icmp .lt 13, 3) := by decide +kernel
theorem dX5_readShaft_8 : decode cX5_readShaft 8 = .ok (.aload_n 1, 1) := by decide +kernel
theorem dX5_readShaft_9 : decode cX5_readShaft 9 = .ok (.iconst 3, 1) := by decide +kernel
theorem dX5_readShaft_10 : decode cX5_readShaft 10 = .ok (.aload_n 1, 1) := by decide +kernel
theorem dX5_readShaft_11 : decode cX5_readShaft 11 = .ok (.getfield 94, 3) := by decide +kernel
theorem dX5_readShaft_14 : decode cX5_readShaft 14 = .ok (.invokevirtual 97, 3) := by decide +kernel
theorem dX5_readShaft_17 : decode cX5_readShaft 17 = .ok (.return_, 1) := by decide +kernel
theorem dX5_readShaft_18 : decode cX5_readShaft 18 = .ok (.aload_n 0, 1) := by decide +kernel
theorem dX5_readShaft_19 : decode cX5_readShaft 19 = .ok (.dup, 1) := by decide +kernel
theorem dX5_readShaft_20 : decode cX5_readShaft 20 = .ok (.getfield 53, 3) := by decide +kernel
theorem dX5_readShaft_23 : decode cX5_readShaft 23 = .ok (.iconst 1, 1) := by decide +kernel
theorem dX5_readShaft_24 : decode cX5_readShaft 24 = .ok (.iadd, 1) := by decide +kernel
theorem dX5_readShaft_25 : decode cX5_readShaft 25 = .ok (.putfield 53, 3) := by decide +kernel
theorem dX5_readShaft_28 : decode cX5_readShaft 28 = .ok (.aload_n 0, 1) := by decide +kernel
theorem dX5_readShaft_29 : decode cX5_readShaft 29 = .ok (.dup, 1) := by decide +kernel
theorem dX5_readShaft_30 : decode cX5_readShaft 30 = .ok (.getfield 49, 3) := by decide +kernel
theorem dX5_readShaft_33 : decode cX5_readShaft 33 = .ok (.lconst 1, 1) := by decide +kernel
theorem dX5_readShaft_34 : decode cX5_readShaft 34 = .ok (.aload_n 1, 1) := by decide +kernel
theorem dX5_readShaft_35 : decode cX5_readShaft 35 = .ok (.iconst 0, 1) := by decide +kernel
theorem dX5_readShaft_36 : decode cX5_readShaft 36 = .ok (.aload_n 0, 1) := by decide +kernel
theorem dX5_readShaft_37 : decode cX5_readShaft 37 = .ok (.getfield 36, 3) := by decide +kernel
theorem dX5_readShaft_40 : decode cX5_readShaft 40 = .ok (.iconst 1, 1) := by decide +kernel
theorem dX5_readShaft_41 : decode cX5_readShaft 41 = .ok (.isub, 1) := by decide +kernel
theorem dX5_readShaft_42 : decode cX5_readShaft 42 = .ok (.invokevirtual 117, 3) := by decide +kernel
theorem dX5_readShaft_45 : decode cX5_readShaft 45 = .ok (.lshl, 1) := by decide +kernel
theorem dX5_readShaft_46 : decode cX5_readShaft 46 = .ok (.lor, 1) := by decide +kernel
theorem dX5_readShaft_47 : decode cX5_readShaft 47 = .ok (.putfield 49, 3) := by decide +kernel
theorem dX5_readShaft_50 : decode cX5_readShaft 50 = .ok (.return_, 1) := by decide +kernel
theorem dX5_readPrice_0 : decode cX5_readPrice 0 = .ok (.aload_n 1, 1) := by decide +kernel
theorem dX5_readPrice_1 : decode cX5_readPrice 1 = .ok (.iconst 1, 1) := by decide +kernel
theorem dX5_readPrice_2 : decode cX5_readPrice 2 = .ok (.iconst 4, 1) := by decide +kernel
theorem dX5_readPrice_3 : decode cX5_readPrice 3 = .ok (.invokevirtual 117, 3) := by decide +kernel
theorem dX5_readPrice_6 : decode cX5_readPrice 6 = .ok (.istore_n 2, 1) := by decide +kernel
theorem dX5_readPrice_7 : decode cX5_readPrice 7 = .ok (.aload_n 0, 1) := by decide +kernel
theorem dX5_readPrice_8 : decode cX5_readPrice 8 = .ok (.getfield 18, 3) := by decide +kernel
theorem dX5_readPrice_11 : decode cX5_readPrice 11 = .ok (.iload_n 2, 1) := by decide +kernel
theorem dX5_readPrice_12 : decode cX5_readPrice 12 = .ok (.aload_n 1, 1) := by decide +kernel
theorem dX5_readPrice_13 : decode cX5_readPrice 13 = .ok (.iconst 0, 1) := by decide +kernel
theorem dX5_readPrice_14 : decode cX5_readPrice 14 = .ok (.bipush 99, 2) := by decide +kernel
theorem dX5_readPrice_16 : decode cX5_readPrice 16 = .ok (.invokevirtual 117, 3) := by decide +kernel
theorem dX5_readPrice_19 : decode cX5_readPrice 19 = .ok (.iastore, 1) := by decide +kernel
theorem dX5_readPrice_20 : decode cX5_readPrice 20 = .ok (.return_, 1) := by decide +kernel
theorem dX5_readOrder_0 : decode cX5_readOrder 0 = .ok (.aload_n 0, 1) := by decide +kernel
theorem dX5_readOrder_1 : decode cX5_readOrder 1 = .ok (.getfield 62, 3) := by decide +kernel
theorem dX5_readOrder_4 : decode cX5_readOrder 4 = .ok (.bipush 6, 2) := by decide +kernel
theorem dX5_readOrder_6 : decode cX5_readOrder 6 = .ok (.if_icmp .lt 13, 3) := by decide +kernel
theorem dX5_readOrder_9 : decode cX5_readOrder 9 = .ok (.aload_n 1, 1) := by decide +kernel
theorem dX5_readOrder_10 : decode cX5_readOrder 10 = .ok (.iconst 3, 1) := by decide +kernel
theorem dX5_readOrder_11 : decode cX5_readOrder 11 = .ok (.aload_n 1, 1) := by decide +kernel
theorem dX5_readOrder_12 : decode cX5_readOrder 12 = .ok (.getfield 94, 3) := by decide +kernel
theorem dX5_readOrder_15 : decode cX5_readOrder 15 = .ok (.invokevirtual 97, 3) := by decide +kernel
theorem dX5_readOrder_18 : decode cX5_readOrder 18 = .ok (.return_, 1) := by decide +kernel
theorem dX5_readOrder_19 : decode cX5_readOrder 19 = .ok (.aload_n 0, 1) := by decide +kernel
theorem dX5_readOrder_20 : decode cX5_readOrder 20 = .ok (.getfield 21, 3) := by decide +kernel
theorem dX5_readOrder_23 : decode cX5_readOrder 23 = .ok (.aload_n 0, 1) := by decide +kernel
theorem dX5_readOrder_24 : decode cX5_readOrder 24 = .ok (.getfield 62, 3) := by decide +kernel
theorem dX5_readOrder_27 : decode cX5_readOrder 27 = .ok (.aload_n 1, 1) := by decide +kernel
theorem dX5_readOrder_28 : decode cX5_readOrder 28 = .ok (.iconst 1, 1) := by decide +kernel
theorem dX5_readOrder_29 : decode cX5_readOrder 29 = .ok (.bipush 60, 2) := by decide +kernel
theorem dX5_readOrder_31 : decode cX5_readOrder 31 = .ok (.invokevirtual 117, 3) := by decide +kernel
theorem dX5_readOrder_34 : decode cX5_readOrder 34 = .ok (.iastore, 1) := by decide +kernel
theorem dX5_readOrder_35 : decode cX5_readOrder 35 = .ok (.iconst 0, 1) := by decide +kernel
theorem dX5_readOrder_36 : decode cX5_readOrder 36 = .ok (.istore_n 2, 1) := by decide +kernel
theorem dX5_readOrder_37 : decode cX5_readOrder 37 = .ok (.iload_n 2, 1) := by decide +kernel
theorem dX5_readOrder_38 : decode cX5_readOrder 38 = .ok (.bipush 8, 2) := by decide +kernel
theorem dX5_readOrder_40 : decode cX5_readOrder 40 = .ok (.if_icmp .gt 67, 3) := by decide +kernel
theorem dX5_readOrder_43 : decode cX5_readOrder 43 = .ok (.aload_n 1, 1) := by decide +kernel
theorem dX5_readOrder_44 : decode cX5_readOrder 44 = .ok (.invokevirtual 101, 3) := by decide +kernel
theorem dX5_readOrder_47 : decode cX5_readOrder 47 = .ok (.ifCond .eq 60, 3) := by decide +kernel
theorem dX5_readOrder_50 : decode cX5_readOrder 50 = .ok (.iload_n 2, 1) := by decide +kernel
theorem dX5_readOrder_51 : decode cX5_readOrder 51 = .ok (.ifCond .eq 10, 3) := by decide +kernel
theorem dX5_readOrder_54 : decode cX5_readOrder 54 = .ok (.aload_n 1, 1) := by decide +kernel
theorem dX5_readOrder_55 : decode cX5_readOrder 55 = .ok (.invokevirtual 131, 3) := by decide +kernel
theorem dX5_readOrder_58 : decode cX5_readOrder 58 = .ok (.ifCond .eq 49, 3) := by decide +kernel
theorem dX5_readOrder_61 : decode cX5_readOrder 61 = .ok (.aload_n 1, 1) := by decide +kernel
theorem dX5_readOrder_62 : decode cX5_readOrder 62 = .ok (.iconst 1, 1) := by decide +kernel
theorem dX5_readOrder_63 : decode cX5_readOrder 63 = .ok (.iconst 4, 1) := by decide +kernel
theorem dX5_readOrder_64 : decode cX5_readOrder 64 = .ok (.invokevirtual 117, 3) := by decide +kernel
theorem dX5_readOrder_67 : decode cX5_readOrder 67 = .ok (.istore_n 3, 1) := by decide +kernel
theorem dX5_readOrder_68 : decode cX5_readOrder 68 = .ok (.iload_n 2, 1) := by decide +kernel
theorem dX5_readOrder_69 : decode cX5_readOrder 69 = .ok (.bipush 8, 2) := by decide +kernel
theorem dX5_readOrder_71 : decode cX5_readOrder 71 = .ok (.if_icmp .ge 21, 3) := by decide +kernel
theorem dX5_readOrder_74 : decode cX5_readOrder 74 = .ok (.aload_n 0, 1) := by decide +kernel
theorem dX5_readOrder_75 : decode cX5_readOrder 75 = .ok (.getfield 27, 3) := by decide +kernel
theorem dX5_readOrder_78 : decode cX5_readOrder 78 = .ok (.aload_n 0, 1) := by decide +kernel
theorem dX5_readOrder_79 : decode cX5_readOrder 79 = .ok (.getfield 62, 3) := by decide +kernel
theorem dX5_readOrder_82 : decode cX5_readOrder 82 = .ok (.bipush 8, 2) := by decide +kernel
theorem dX5_readOrder_84 : decode cX5_readOrder 84 = .ok (.imul, 1) := by decide +kernel
theorem dX5_readOrder_85 : decode cX5_readOrder 85 = .ok (.iload_n 2, 1) := by decide +kernel
theorem dX5_readOrder_86 : decode cX5_readOrder 86 = .ok (.iadd, 1) := by decide +kernel
theorem dX5_readOrder_87 : decode cX5_readOrder 87 = .ok (.iload_n 3, 1) := by decide +kernel
theorem dX5_readOrder_88 : decode cX5_readOrder 88 = .ok (.iastore, 1) := by decide +kernel
theorem dX5_readOrder_89 : decode cX5_readOrder 89 = .ok (.goto 12, 3) := by decide +kernel
theorem dX5_readOrder_92 : decode cX5_readOrder 92 = .ok (.aload_n 1, 1) := by decide +kernel
theorem dX5_readOrder_93 : decode cX5_readOrder 93 = .ok (.iconst 3, 1) := by decide +kernel
theorem dX5_readOrder_94 : decode cX5_readOrder 94 = .ok (.aload_n 1, 1) := by decide +kernel
theorem dX5_readOrder_95 : decode cX5_readOrder 95 = .ok (.getfield 94, 3) := by decide +kernel
theorem dX5_readOrder_98 : decode cX5_readOrder 98 = .ok (.invokevirtual 97, 3) := by decide +kernel
theorem dX5_readOrder_101 : decode cX5_readOrder 101 = .ok (.iinc 2 1, 3) := by decide +kernel
theorem dX5_readOrder_104 : decode cX5_readOrder 104 = .ok (.goto (-67), 3) := by decide +kernel
theorem dX5_readOrder_107 : decode cX5_readOrder 107 = .ok (.aload_n 1, 1) := by decide +kernel
theorem dX5_readOrder_108 : decode cX5_readOrder 108 = .ok (.ldc 134, 2) := by decide +kernel
theorem dX5_readOrder_110 : decode cX5_readOrder 110 = .ok (.invokevirtual 90, 3) := by decide +kernel
theorem dX5_readOrder_113 : decode cX5_readOrder 113 = .ok (.pop, 1) := by decide +kernel
theorem dX5_readOrder_114 : decode cX5_readOrder 114 = .ok (.aload_n 0, 1) := by decide +kernel
theorem dX5_readOrder_115 : decode cX5_readOrder 115 = .ok (.getfield 24, 3) := by decide +kernel
theorem dX5_readOrder_118 : decode cX5_readOrder 118 = .ok (.aload_n 0, 1) := by decide +kernel
theorem dX5_readOrder_119 : decode cX5_readOrder 119 = .ok (.getfield 62, 3) := by decide +kernel
theorem dX5_readOrder_122 : decode cX5_readOrder 122 = .ok (.iload_n 2, 1) := by decide +kernel
theorem dX5_readOrder_123 : decode cX5_readOrder 123 = .ok (.bipush 8, 2) := by decide +kernel
theorem dX5_readOrder_125 : decode cX5_readOrder 125 = .ok (.invokestatic 136, 3) := by decide +kernel
theorem dX5_readOrder_128 : decode cX5_readOrder 128 = .ok (.iastore, 1) := by decide +kernel
theorem dX5_readOrder_129 : decode cX5_readOrder 129 = .ok (.aload_n 0, 1) := by decide +kernel
theorem dX5_readOrder_130 : decode cX5_readOrder 130 = .ok (.dup, 1) := by decide +kernel
theorem dX5_readOrder_131 : decode cX5_readOrder 131 = .ok (.getfield 62, 3) := by decide +kernel
theorem dX5_readOrder_134 : decode cX5_readOrder 134 = .ok (.iconst 1, 1) := by decide +kernel
theorem dX5_readOrder_135 : decode cX5_readOrder 135 = .ok (.iadd, 1) := by decide +kernel
theorem dX5_readOrder_136 : decode cX5_readOrder 136 = .ok (.putfield 62, 3) := by decide +kernel
theorem dX5_readOrder_139 : decode cX5_readOrder 139 = .ok (.return_, 1) := by decide +kernel
theorem dX5_allBars_0 : decode cX5_allBars 0 = .ok (.iconst 0, 1) := by decide +kernel
theorem dX5_allBars_1 : decode cX5_allBars 1 = .ok (.istore_n 1, 1) := by decide +kernel
theorem dX5_allBars_2 : decode cX5_allBars 2 = .ok (.iconst 0, 1) := by decide +kernel
theorem dX5_allBars_3 : decode cX5_allBars 3 = .ok (.istore_n 2, 1) := by decide +kernel
theorem dX5_allBars_4 : decode cX5_allBars 4 = .ok (.iload_n 2, 1) := by decide +kernel
theorem dX5_allBars_5 : decode cX5_allBars 5 = .ok (.bipush 48, 2) := by decide +kernel
theorem dX5_allBars_7 : decode cX5_allBars 7 = .ok (.if_icmp .ge 18, 3) := by decide +kernel
theorem dX5_allBars_10 : decode cX5_allBars 10 = .ok (.iload_n 1, 1) := by decide +kernel
theorem dX5_allBars_11 : decode cX5_allBars 11 = .ok (.aload_n 0, 1) := by decide +kernel
theorem dX5_allBars_12 : decode cX5_allBars 12 = .ok (.getfield 15, 3) := by decide +kernel
theorem dX5_allBars_15 : decode cX5_allBars 15 = .ok (.iload_n 2, 1) := by decide +kernel
theorem dX5_allBars_16 : decode cX5_allBars 16 = .ok (.iaload, 1) := by decide +kernel
theorem dX5_allBars_17 : decode cX5_allBars 17 = .ok (.iadd, 1) := by decide +kernel
theorem dX5_allBars_18 : decode cX5_allBars 18 = .ok (.istore_n 1, 1) := by decide +kernel
theorem dX5_allBars_19 : decode cX5_allBars 19 = .ok (.iinc 2 1, 3) := by decide +kernel
theorem dX5_allBars_22 : decode cX5_allBars 22 = .ok (.goto (-18), 3) := by decide +kernel
theorem dX5_allBars_25 : decode cX5_allBars 25 = .ok (.iload_n 1, 1) := by decide +kernel
theorem dX5_allBars_26 : decode cX5_allBars 26 = .ok (.ireturn, 1) := by decide +kernel
theorem dX5_wanted_0 : decode cX5_wanted 0 = .ok (.iconst 0, 1) := by decide +kernel
theorem dX5_wanted_1 : decode cX5_wanted 1 = .ok (.istore_n 3, 1) := by decide +kernel
theorem dX5_wanted_2 : decode cX5_wanted 2 = .ok (.iload_n 1, 1) := by decide +kernel
theorem dX5_wanted_3 : decode cX5_wanted 3 = .ok (.ifCond .lt 55, 3) := by decide +kernel
theorem dX5_wanted_6 : decode cX5_wanted 6 = .ok (.iload_n 1, 1) := by decide +kernel
theorem dX5_wanted_7 : decode cX5_wanted 7 = .ok (.aload_n 0, 1) := by decide +kernel
theorem dX5_wanted_8 : decode cX5_wanted 8 = .ok (.getfield 62, 3) := by decide +kernel
theorem dX5_wanted_11 : decode cX5_wanted 11 = .ok (.if_icmp .ge 47, 3) := by decide +kernel
theorem dX5_wanted_14 : decode cX5_wanted 14 = .ok (.iconst 0, 1) := by decide +kernel
theorem dX5_wanted_15 : decode cX5_wanted 15 = .ok (.istore 4, 2) := by decide +kernel
theorem dX5_wanted_17 : decode cX5_wanted 17 = .ok (.iload 4, 2) := by decide +kernel
theorem dX5_wanted_19 : decode cX5_wanted 19 = .ok (.aload_n 0, 1) := by decide +kernel
theorem dX5_wanted_20 : decode cX5_wanted 20 = .ok (.getfield 24, 3) := by decide +kernel
theorem dX5_wanted_23 : decode cX5_wanted 23 = .ok (.iload_n 1, 1) := by decide +kernel
theorem dX5_wanted_24 : decode cX5_wanted 24 = .ok (.iaload, 1) := by decide +kernel
theorem dX5_wanted_25 : decode cX5_wanted 25 = .ok (.if_icmp .ge 33, 3) := by decide +kernel
theorem dX5_wanted_28 : decode cX5_wanted 28 = .ok (.iload_n 3, 1) := by decide +kernel
theorem dX5_wanted_29 : decode cX5_wanted 29 = .ok (.aload_n 0, 1) := by decide +kernel
theorem dX5_wanted_30 : decode cX5_wanted 30 = .ok (.getfield 27, 3) := by decide +kernel
theorem dX5_wanted_33 : decode cX5_wanted 33 = .ok (.iload_n 1, 1) := by decide +kernel
theorem dX5_wanted_34 : decode cX5_wanted 34 = .ok (.bipush 8, 2) := by decide +kernel
theorem dX5_wanted_36 : decode cX5_wanted 36 = .ok (.imul, 1) := by decide +kernel
theorem dX5_wanted_37 : decode cX5_wanted 37 = .ok (.iload 4, 2) := by decide +kernel
theorem dX5_wanted_39 : decode cX5_wanted 39 = .ok (.iadd, 1) := by decide +kernel
theorem dX5_wanted_40 : decode cX5_wanted 40 = .ok (.iaload, 1) := by decide +kernel
theorem dX5_wanted_41 : decode cX5_wanted 41 = .ok (.iload_n 2, 1) := by decide +kernel
theorem dX5_wanted_42 : decode cX5_wanted 42 = .ok (.if_icmp .ne 7, 3) := by decide +kernel
theorem dX5_wanted_45 : decode cX5_wanted 45 = .ok (.iconst 1, 1) := by decide +kernel
theorem dX5_wanted_46 : decode cX5_wanted 46 = .ok (.goto 4, 3) := by decide +kernel
theorem dX5_wanted_49 : decode cX5_wanted 49 = .ok (.iconst 0, 1) := by decide +kernel
theorem dX5_wanted_50 : decode cX5_wanted 50 = .ok (.iadd, 1) := by decide +kernel
theorem dX5_wanted_51 : decode cX5_wanted 51 = .ok (.istore_n 3, 1) := by decide +kernel
theorem dX5_wanted_52 : decode cX5_wanted 52 = .ok (.iinc 4 1, 3) := by decide +kernel
theorem dX5_wanted_55 : decode cX5_wanted 55 = .ok (.goto (-38), 3) := by decide +kernel
theorem dX5_wanted_58 : decode cX5_wanted 58 = .ok (.iload_n 3, 1) := by decide +kernel
theorem dX5_wanted_59 : decode cX5_wanted 59 = .ok (.ireturn, 1) := by decide +kernel
theorem dX5_orderWorth_0 : decode cX5_orderWorth 0 = .ok (.iconst 0, 1) := by decide +kernel
theorem dX5_orderWorth_1 : decode cX5_orderWorth 1 = .ok (.istore_n 2, 1) := by decide +kernel
theorem dX5_orderWorth_2 : decode cX5_orderWorth 2 = .ok (.iconst 1, 1) := by decide +kernel
theorem dX5_orderWorth_3 : decode cX5_orderWorth 3 = .ok (.istore_n 3, 1) := by decide +kernel
theorem dX5_orderWorth_4 : decode cX5_orderWorth 4 = .ok (.iload_n 3, 1) := by decide +kernel
theorem dX5_orderWorth_5 : decode cX5_orderWorth 5 = .ok (.iconst 4, 1) := by decide +kernel
theorem dX5_orderWorth_6 : decode cX5_orderWorth 6 = .ok (.if_icmp .gt 25, 3) := by decide +kernel
theorem dX5_orderWorth_9 : decode cX5_orderWorth 9 = .ok (.iload_n 2, 1) := by decide +kernel
theorem dX5_orderWorth_10 : decode cX5_orderWorth 10 = .ok (.aload_n 0, 1) := by decide +kernel
theorem dX5_orderWorth_11 : decode cX5_orderWorth 11 = .ok (.iload_n 1, 1) := by decide +kernel
theorem dX5_orderWorth_12 : decode cX5_orderWorth 12 = .ok (.iload_n 3, 1) := by decide +kernel
theorem dX5_orderWorth_13 : decode cX5_orderWorth 13 = .ok (.invokevirtual 141, 3) := by decide +kernel
theorem dX5_orderWorth_16 : decode cX5_orderWorth 16 = .ok (.aload_n 0, 1) := by decide +kernel
theorem dX5_orderWorth_17 : decode cX5_orderWorth 17 = .ok (.getfield 18, 3) := by decide +kernel
theorem dX5_orderWorth_20 : decode cX5_orderWorth 20 = .ok (.iload_n 3, 1) := by decide +kernel
theorem dX5_orderWorth_21 : decode cX5_orderWorth 21 = .ok (.iaload, 1) := by decide +kernel
theorem dX5_orderWorth_22 : decode cX5_orderWorth 22 = .ok (.imul, 1) := by decide +kernel
theorem dX5_orderWorth_23 : decode cX5_orderWorth 23 = .ok (.iadd, 1) := by decide +kernel
theorem dX5_orderWorth_24 : decode cX5_orderWorth 24 = .ok (.istore_n 2, 1) := by decide +kernel
theorem dX5_orderWorth_25 : decode cX5_orderWorth 25 = .ok (.iinc 3 1, 3) := by decide +kernel
theorem dX5_orderWorth_28 : decode cX5_orderWorth 28 = .ok (.goto (-24), 3) := by decide +kernel
theorem dX5_orderWorth_31 : decode cX5_orderWorth 31 = .ok (.iload_n 2, 1) := by decide +kernel
theorem dX5_orderWorth_32 : decode cX5_orderWorth 32 = .ok (.ireturn, 1) := by decide +kernel
theorem dX5_kindAbove_0 : decode cX5_kindAbove 0 = .ok (.iload_n 1, 1) := by decide +kernel
theorem dX5_kindAbove_1 : decode cX5_kindAbove 1 = .ok (.bipush 8, 2) := by decide +kernel
theorem dX5_kindAbove_3 : decode cX5_kindAbove 3 = .ok (.if_icmp .lt 21, 3) := by decide +kernel
theorem dX5_kindAbove_6 : decode cX5_kindAbove 6 = .ok (.iload_n 1, 1) := by decide +kernel
theorem dX5_kindAbove_7 : decode cX5_kindAbove 7 = .ok (.bipush 48, 2) := by decide +kernel
theorem dX5_kindAbove_9 : decode cX5_kindAbove 9 = .ok (.if_icmp .ge 15, 3) := by decide +kernel
theorem dX5_kindAbove_12 : decode cX5_kindAbove 12 = .ok (.aload_n 0, 1) := by decide +kernel
theorem dX5_kindAbove_13 : decode cX5_kindAbove 13 = .ok (.getfield 9, 3) := by decide +kernel
theorem dX5_kindAbove_16 : decode cX5_kindAbove 16 = .ok (.iload_n 1, 1) := by decide +kernel
theorem dX5_kindAbove_17 : decode cX5_kindAbove 17 = .ok (.bipush 8, 2) := by decide +kernel
theorem dX5_kindAbove_19 : decode cX5_kindAbove 19 = .ok (.isub, 1) := by decide +kernel
theorem dX5_kindAbove_20 : decode cX5_kindAbove 20 = .ok (.iaload, 1) := by decide +kernel
theorem dX5_kindAbove_21 : decode cX5_kindAbove 21 = .ok (.goto 4, 3) := by decide +kernel
theorem dX5_kindAbove_24 : decode cX5_kindAbove 24 = .ok (.iconst 0, 1) := by decide +kernel
theorem dX5_kindAbove_25 : decode cX5_kindAbove 25 = .ok (.ireturn, 1) := by decide +kernel
theorem dX6_init_0 : decode cX6_init 0 = .ok (.aload_n 0, 1) := by decide +kernel
theorem dX6_init_1 : decode cX6_init 1 = .ok (.invokespecial 3, 3) := by decide +kernel
theorem dX6_init_4 : decode cX6_init 4 = .ok (.aload_n 0, 1) := by decide +kernel
theorem dX6_init_5 : decode cX6_init 5 = .ok (.bipush 30, 2) := by decide +kernel
theorem dX6_init_7 : decode cX6_init 7 = .ok (.newarray .int, 2) := by decide +kernel
theorem dX6_init_9 : decode cX6_init 9 = .ok (.putfield 11, 3) := by decide +kernel
theorem dX6_init_12 : decode cX6_init 12 = .ok (.aload_n 0, 1) := by decide +kernel
theorem dX6_init_13 : decode cX6_init 13 = .ok (.bipush 30, 2) := by decide +kernel
theorem dX6_init_15 : decode cX6_init 15 = .ok (.newarray .int, 2) := by decide +kernel
theorem dX6_init_17 : decode cX6_init 17 = .ok (.putfield 15, 3) := by decide +kernel
theorem dX6_init_20 : decode cX6_init 20 = .ok (.aload_n 0, 1) := by decide +kernel
theorem dX6_init_21 : decode cX6_init 21 = .ok (.bipush 30, 2) := by decide +kernel
theorem dX6_init_23 : decode cX6_init 23 = .ok (.newarray .int, 2) := by decide +kernel
theorem dX6_init_25 : decode cX6_init 25 = .ok (.putfield 18, 3) := by decide +kernel
theorem dX6_init_28 : decode cX6_init 28 = .ok (.return_, 1) := by decide +kernel
theorem dX6_read_0 : decode cX6_read 0 = .ok (.aload_n 0, 1) := by decide +kernel
theorem dX6_read_1 : decode cX6_read 1 = .ok (.iconst 0, 1) := by decide +kernel
theorem dX6_read_2 : decode cX6_read 2 = .ok (.putfield 21, 3) := by decide +kernel
theorem dX6_read_5 : decode cX6_read 5 = .ok (.aload_n 0, 1) := by decide +kernel
theorem dX6_read_6 : decode cX6_read 6 = .ok (.iconst 0, 1) := by decide +kernel
theorem dX6_read_7 : decode cX6_read 7 = .ok (.putfield 25, 3) := by decide +kernel
theorem dX6_read_10 : decode cX6_read 10 = .ok (.aload_n 0, 1) := by decide +kernel
theorem dX6_read_11 : decode cX6_read 11 = .ok (.iconst 0, 1) := by decide +kernel
theorem dX6_read_12 : decode cX6_read 12 = .ok (.putfield 28, 3) := by decide +kernel
theorem dX6_read_15 : decode cX6_read 15 = .ok (.aload_n 0, 1) := by decide +kernel
theorem dX6_read_16 : decode cX6_read 16 = .ok (.iconst 0, 1) := by decide +kernel
theorem dX6_read_17 : decode cX6_read 17 = .ok (.putfield 31, 3) := by decide +kernel
theorem dX6_read_20 : decode cX6_read 20 = .ok (.aload_n 0, 1) := by decide +kernel
theorem dX6_read_21 : decode cX6_read 21 = .ok (.aload_n 1, 1) := by decide +kernel
theorem dX6_read_22 : decode cX6_read 22 = .ok (.aload_n 2, 1) := by decide +kernel
theorem dX6_read_23 : decode cX6_read 23 = .ok (.iconst 0, 1) := by decide +kernel
theorem dX6_read_24 : decode cX6_read 24 = .ok (.invokevirtual 34, 3) := by decide +kernel
theorem dX6_read_27 : decode cX6_read 27 = .ok (.return_, 1) := by decide +kernel
theorem dX6_readSteps_0 : decode cX6_readSteps 0 = .ok (.iconst 0, 1) := by decide +kernel
theorem dX6_readSteps_1 : decode cX6_readSteps 1 = .ok (.istore 4, 2) := by decide +kernel
theorem dX6_readSteps_3 : decode cX6_readSteps 3 = .ok (.iload 4, 2) := by decide +kernel
theorem dX6_readSteps_5 : decode cX6_readSteps 5 = .ok (.sipush 150, 3) := by decide +kernel
theorem dX6_readSteps_8 : decode cX6_readSteps 8 = .ok (.if_icmp .ge 43, 3) := by decide +kernel
theorem dX6_readSteps_11 : decode cX6_readSteps 11 = .ok (.aload_n 1, 1) := by decide +kernel
theorem dX6_readSteps_12 : decode cX6_readSteps 12 = .ok (.invokevirtual 38, 3) := by decide +kernel
theorem dX6_readSteps_15 : decode cX6_readSteps 15 = .ok (.ifCond .eq 36, 3) := by decide +kernel
theorem dX6_readSteps_18 : decode cX6_readSteps 18 = .ok (.iload_n 3, 1) := by decide +kernel
theorem dX6_readSteps_19 : decode cX6_readSteps 19 = .ok (.ifCond .le 13, 3) := by decide +kernel
theorem dX6_readSteps_22 : decode cX6_readSteps 22 = .ok (.aload_n 1, 1) := by decide +kernel
theorem dX6_readSteps_23 : decode cX6_readSteps 23 = .ok (.bipush 93, 2) := by decide +kernel
theorem dX6_readSteps_25 : decode cX6_readSteps 25 = .ok (.invokevirtual 44, 3) := by decide +kernel
theorem dX6_readSteps_28 : decode cX6_readSteps 28 = .ok (.ifCond .eq 4, 3) := by decide +kernel
theorem dX6_readSteps_31 : decode cX6_readSteps 31 = .ok (.return_, 1) := by decide +kernel
theorem dX6_readSteps_32 : decode cX6_readSteps 32 = .ok (.aload_n 0, 1) := by decide +kernel
theorem dX6_readSteps_33 : decode cX6_readSteps 33 = .ok (.aload_n 1, 1) := by decide +kernel
theorem dX6_readSteps_34 : decode cX6_readSteps 34 = .ok (.aload_n 2, 1) := by decide +kernel
theorem dX6_readSteps_35 : decode cX6_readSteps 35 = .ok (.iload_n 3, 1) := by decide +kernel
theorem dX6_readSteps_36 : decode cX6_readSteps 36 = .ok (.invokevirtual 48, 3) := by decide +kernel
theorem dX6_readSteps_39 : decode cX6_readSteps 39 = .ok (.aload_n 1, 1) := by decide +kernel
theorem dX6_readSteps_40 : decode cX6_readSteps 40 = .ok (.bipush 59, 2) := by decide +kernel
theorem dX6_readSteps_42 : decode cX6_readSteps 42 = .ok (.invokevirtual 51, 3) := by decide +kernel
theorem dX6_readSteps_45 : decode cX6_readSteps 45 = .ok (.iinc 4 1, 3) := by decide +kernel
theorem dX6_readSteps_48 : decode cX6_readSteps 48 = .ok (.goto (-45), 3) := by decide +kernel
theorem dX6_readSteps_51 : decode cX6_readSteps 51 = .ok (.return_, 1) := by decide +kernel
theorem dX6_readStep_0 : decode cX6_readStep 0 = .ok (.aload_n 1, 1) := by decide +kernel
theorem dX6_readStep_1 : decode cX6_readStep 1 = .ok (.ldc 55, 2) := by decide +kernel
theorem dX6_readStep_3 : decode cX6_readStep 3 = .ok (.invokevirtual 57, 3) := by decide +kernel
theorem dX6_readStep_6 : decode cX6_readStep 6 = .ok (.istore 4, 2) := by decide +kernel
theorem dX6_readStep_8 : decode cX6_readStep 8 = .ok (.aload_n 1, 1) := by decide +kernel
theorem dX6_readStep_9 : decode cX6_readStep 9 = .ok (.invokevirtual 61, 3) := by decide +kernel
theorem dX6_readStep_12 : decode cX6_readStep 12 = .ok (.ifCond .eq 12, 3) := by decide +kernel
theorem dX6_readStep_15 : decode cX6_readStep 15 = .ok (.aload_n 0, 1) := by decide +kernel
theorem dX6_readStep_16 : decode cX6_readStep 16 = .ok (.getfield 21, 3) := by decide +kernel
theorem dX6_readStep_19 : decode cX6_readStep 19 = .ok (.bipush 30, 2) := by decide +kernel
theorem dX6_readStep_21 : decode cX6_readStep 21 = .ok (.if_icmp .lt 4, 3) := by decide +kernel
theorem dX6_readStep_24 : decode cX6_readStep 24 = .ok (.return_, 1) := by decide +kernel
theorem dX6_readStep_25 : decode cX6_readStep 25 = .ok (.aload_n 0, 1) := by decide +kernel
theorem dX6_readStep_26 : decode cX6_readStep 26 = .ok (.getfield 21, 3) := by decide +kernel
theorem dX6_readStep_29 : decode cX6_readStep 29 = .ok (.istore 5, 2) := by decide +kernel
theorem dX6_readStep_31 : decode cX6_readStep 31 = .ok (.aload_n 0, 1) := by decide +kernel
theorem dX6_readStep_32 : decode cX6_readStep 32 = .ok (.dup, 1) := by decide +kernel
theorem dX6_readStep_33 : decode cX6_readStep 33 = .ok (.getfield 21, 3) := by decide +kernel
theorem dX6_readStep_36 : decode cX6_readStep 36 = .ok (.iconst 1, 1) := by decide +kernel
theorem dX6_readStep_37 : decode cX6_readStep 37 = .ok (.iadd, 1) := by decide +kernel
theorem dX6_readStep_38 : decode cX6_readStep 38 = .ok (.putfield 21, 3) := by decide +kernel
theorem dX6_readStep_41 : decode cX6_readStep 41 = .ok (.aload_n 0, 1) := by decide +kernel
theorem dX6_readStep_42 : decode cX6_readStep 42 = .ok (.getfield 11, 3) := by decide +kernel
theorem dX6_readStep_45 : decode cX6_readStep 45 = .ok (.iload 5, 2) := by decide +kernel
theorem dX6_readStep_47 : decode cX6_readStep 47 = .ok (.iload 4, 2) := by decide +kernel
theorem dX6_readStep_49 : decode cX6_readStep 49 = .ok (.iastore, 1) := by decide +kernel
theorem dX6_readStep_50 : decode cX6_readStep 50 = .ok (.iload 4, 2) := by decide +kernel
theorem dX6_readStep_52 : decode cX6_readStep 52 = .ok (.tableswitch 127 0 5 #[40, 40, 127, 127, 85, 115], 40) := by decide +kernel
theorem dX6_readStep_92 : decode cX6_readStep 92 = .ok (.aload_n 0, 1) := by decide +kernel
theorem dX6_readStep_93 : decode cX6_readStep 93 = .ok (.getfield 15, 3) := by decide +kernel
theorem dX6_readStep_96 : decode cX6_readStep 96 = .ok (.iload 5, 2) := by decide +kernel
theorem dX6_readStep_98 : decode cX6_readStep 98 = .ok (.aload_n 1, 1) := by decide +kernel
theorem dX6_readStep_99 : decode cX6_readStep 99 = .ok (.iconst 0, 1) := by decide +kernel
theorem dX6_readStep_100 : decode cX6_readStep 100 = .ok (.aload_n 2, 1) := by decide +kernel
theorem dX6_readStep_101 : decode cX6_readStep 101 = .ok (.getfield 64, 3) := by decide +kernel
theorem dX6_readStep_104 : decode cX6_readStep 104 = .ok (.iconst 1, 1) := by decide +kernel
theorem dX6_readStep_105 : decode cX6_readStep 105 = .ok (.isub, 1) := by decide +kernel
theorem dX6_readStep_106 : decode cX6_readStep 106 = .ok (.invokevirtual 69, 3) := by decide +kernel
theorem dX6_readStep_109 : decode cX6_readStep 109 = .ok (.iastore, 1) := by decide +kernel
theorem dX6_readStep_110 : decode cX6_readStep 110 = .ok (.aload_n 0, 1) := by decide +kernel
theorem dX6_readStep_111 : decode cX6_readStep 111 = .ok (.getfield 15, 3) := by decide +kernel
theorem dX6_readStep_114 : decode cX6_readStep 114 = .ok (.iload 5, 2) := by decide +kernel
theorem dX6_readStep_116 : decode cX6_readStep 116 = .ok (.dup2, 1) := by decide +kernel
theorem dX6_readStep_117 : decode cX6_readStep 117 = .ok (.iaload, 1) := by decide +kernel
theorem dX6_readStep_118 : decode cX6_readStep 118 = .ok (.bipush 8, 2) := by decide +kernel
theorem dX6_readStep_120 : decode cX6_readStep 120 = .ok (.aload_n 1, 1) := by decide +kernel
theorem dX6_readStep_121 : decode cX6_readStep 121 = .ok (.iconst 0, 1) := by decide +kernel
theorem dX6_readStep_122 : decode cX6_readStep 122 = .ok (.aload_n 2, 1) := by decide +kernel
theorem dX6_readStep_123 : decode cX6_readStep 123 = .ok (.getfield 73, 3) := by decide +kernel
theorem dX6_readStep_126 : decode cX6_readStep 126 = .ok (.iconst 1, 1) := by decide +kernel
theorem dX6_readStep_127 : decode cX6_readStep 127 = .ok (.isub, 1) := by decide +kernel
theorem dX6_readStep_128 : decode cX6_readStep 128 = .ok (.invokevirtual 69, 3) := by decide +kernel
theorem dX6_readStep_131 : decode cX6_readStep 131 = .ok (.imul, 1) := by decide +kernel
theorem dX6_readStep_132 : decode cX6_readStep 132 = .ok (.iadd, 1) := by decide +kernel
theorem dX6_readStep_133 : decode cX6_readStep 133 = .ok (.iastore, 1) := by decide +kernel
theorem dX6_readStep_134 : decode cX6_readStep 134 = .ok (.goto 45, 3) := by decide +kernel
theorem dX6_readStep_137 : decode cX6_readStep 137 = .ok (.aload_n 0, 1) := by decide +kernel
theorem dX6_readStep_138 : decode cX6_readStep 138 = .ok (.getfield 15, 3) := by decide +kernel
theorem dX6_readStep_141 : decode cX6_readStep 141 = .ok (.iload 5, 2) := by decide +kernel
theorem dX6_readStep_143 : decode cX6_readStep 143 = .ok (.aload_n 1, 1) := by decide +kernel
theorem dX6_readStep_144 : decode cX6_readStep 144 = .ok (.iconst 1, 1) := by decide +kernel
theorem dX6_readStep_145 : decode cX6_readStep 145 = .ok (.iconst 4, 1) := by decide +kernel
theorem dX6_readStep_146 : decode cX6_readStep 146 = .ok (.invokevirtual 69, 3) := by decide +kernel
theorem dX6_readStep_149 : decode cX6_readStep 149 = .ok (.iastore, 1) := by decide +kernel
theorem dX6_readStep_150 : decode cX6_readStep 150 = .ok (.aload_n 0, 1) := by decide +kernel
theorem dX6_readStep_151 : decode cX6_readStep 151 = .ok (.getfield 18, 3) := by decide +kernel
theorem dX6_readStep_154 : decode cX6_readStep 154 = .ok (.iload 5, 2) := by decide +kernel
theorem dX6_readStep_156 : decode cX6_readStep 156 = .ok (.aload_n 1, 1) := by decide +kernel
theorem dX6_readStep_157 : decode cX6_readStep 157 = .ok (.iconst 1, 1) := by decide +kernel
theorem dX6_readStep_158 : decode cX6_readStep 158 = .ok (.bipush 99, 2) := by decide +kernel
theorem dX6_readStep_160 : decode cX6_readStep 160 = .ok (.invokevirtual 69, 3) := by decide +kernel
theorem dX6_readStep_163 : decode cX6_readStep 163 = .ok (.iastore, 1) := by decide +kernel
theorem dX6_readStep_164 : decode cX6_readStep 164 = .ok (.goto 15, 3) := by decide +kernel
theorem dX6_readStep_167 : decode cX6_readStep 167 = .ok (.aload_n 0, 1) := by decide +kernel
theorem dX6_readStep_168 : decode cX6_readStep 168 = .ok (.aload_n 1, 1) := by decide +kernel
theorem dX6_readStep_169 : decode cX6_readStep 169 = .ok (.aload_n 2, 1) := by decide +kernel
theorem dX6_readStep_170 : decode cX6_readStep 170 = .ok (.iload_n 3, 1) := by decide +kernel
theorem dX6_readStep_171 : decode cX6_readStep 171 = .ok (.iload 5, 2) := by decide +kernel
theorem dX6_readStep_173 : decode cX6_readStep 173 = .ok (.invokevirtual 76, 3) := by decide +kernel
theorem dX6_readStep_176 : decode cX6_readStep 176 = .ok (.goto 3, 3) := by decide +kernel
theorem dX6_readStep_179 : decode cX6_readStep 179 = .ok (.return_, 1) := by decide +kernel
theorem dX6_readAgain_0 : decode cX6_readAgain 0 = .ok (.iload_n 3, 1) := by decide +kernel
theorem dX6_readAgain_1 : decode cX6_readAgain 1 = .ok (.bipush 6, 2) := by decide +kernel
theorem dX6_readAgain_3 : decode cX6_readAgain 3 = .ok (.if_icmp .lt 13, 3) := by decide +kernel
theorem dX6_readAgain_6 : decode cX6_readAgain 6 = .ok (.aload_n 1, 1) := by decide +kernel
theorem dX6_readAgain_7 : decode cX6_readAgain 7 = .ok (.iconst 3, 1) := by decide +kernel
theorem dX6_readAgain_8 : decode cX6_readAgain 8 = .ok (.aload_n 1, 1) := by decide +kernel
theorem dX6_readAgain_9 : decode cX6_readAgain 9 = .ok (.getfield 80, 3) := by decide +kernel
theorem dX6_readAgain_12 : decode cX6_readAgain 12 = .ok (.invokevirtual 83, 3) := by decide +kernel
theorem dX6_readAgain_15 : decode cX6_readAgain 15 = .ok (.return_, 1) := by decide +kernel
theorem dX6_readAgain_16 : decode cX6_readAgain 16 = .ok (.aload_n 1, 1) := by decide +kernel
theorem dX6_readAgain_17 : decode cX6_readAgain 17 = .ok (.iconst 0, 1) := by decide +kernel
theorem dX6_readAgain_18 : decode cX6_readAgain 18 = .ok (.bipush 20, 2) := by decide +kernel
theorem dX6_readAgain_20 : decode cX6_readAgain 20 = .ok (.invokevirtual 69, 3) := by decide +kernel
theorem dX6_readAgain_23 : decode cX6_readAgain 23 = .ok (.istore 5, 2) := by decide +kernel
theorem dX6_readAgain_25 : decode cX6_readAgain 25 = .ok (.aload_n 1, 1) := by decide +kernel
theorem dX6_readAgain_26 : decode cX6_readAgain 26 = .ok (.bipush 91, 2) := by decide +kernel
theorem dX6_readAgain_28 : decode cX6_readAgain 28 = .ok (.invokevirtual 51, 3) := by decide +kernel
theorem dX6_readAgain_31 : decode cX6_readAgain 31 = .ok (.aload_n 0, 1) := by decide +kernel
theorem dX6_readAgain_32 : decode cX6_readAgain 32 = .ok (.aload_n 1, 1) := by decide +kernel
theorem dX6_readAgain_33 : decode cX6_readAgain 33 = .ok (.aload_n 2, 1) := by decide +kernel
theorem dX6_readAgain_34 : decode cX6_readAgain 34 = .ok (.iload_n 3, 1) := by decide +kernel
theorem dX6_readAgain_35 : decode cX6_readAgain 35 = .ok (.iconst 1, 1) := by decide +kernel
theorem dX6_readAgain_36 : decode cX6_readAgain 36 = .ok (.iadd, 1) := by decide +kernel
theorem dX6_readAgain_37 : decode cX6_readAgain 37 = .ok (.invokevirtual 34, 3) := by decide +kernel
theorem dX6_readAgain_40 : decode cX6_readAgain 40 = .ok (.aload_n 1, 1) := by decide +kernel
theorem dX6_readAgain_41 : decode cX6_readAgain 41 = .ok (.bipush 93, 2) := by decide +kernel
theorem dX6_readAgain_43 : decode cX6_readAgain 43 = .ok (.invokevirtual 51, 3) := by decide +kernel
theorem dX6_readAgain_46 : decode cX6_readAgain 46 = .ok (.aload_n 0, 1) := by decide +kernel
theorem dX6_readAgain_47 : decode cX6_readAgain 47 = .ok (.getfield 15, 3) := by decide +kernel
theorem dX6_readAgain_50 : decode cX6_readAgain 50 = .ok (.iload 4, 2) := by decide +kernel
theorem dX6_readAgain_52 : decode cX6_readAgain 52 = .ok (.iload 5, 2) := by decide +kernel
theorem dX6_readAgain_54 : decode cX6_readAgain 54 = .ok (.iastore, 1) := by decide +kernel
theorem dX6_readAgain_55 : decode cX6_readAgain 55 = .ok (.aload_n 0, 1) := by decide +kernel
theorem dX6_readAgain_56 : decode cX6_readAgain 56 = .ok (.getfield 18, 3) := by decide +kernel
theorem dX6_readAgain_59 : decode cX6_readAgain 59 = .ok (.iload 4, 2) := by decide +kernel
theorem dX6_readAgain_61 : decode cX6_readAgain 61 = .ok (.aload_n 0, 1) := by decide +kernel
theorem dX6_readAgain_62 : decode cX6_readAgain 62 = .ok (.getfield 21, 3) := by decide +kernel
theorem dX6_readAgain_65 : decode cX6_readAgain 65 = .ok (.iload 4, 2) := by decide +kernel
theorem dX6_readAgain_67 : decode cX6_readAgain 67 = .ok (.isub, 1) := by decide +kernel
theorem dX6_readAgain_68 : decode cX6_readAgain 68 = .ok (.iconst 1, 1) := by decide +kernel
theorem dX6_readAgain_69 : decode cX6_readAgain 69 = .ok (.isub, 1) := by decide +kernel
theorem dX6_readAgain_70 : decode cX6_readAgain 70 = .ok (.iastore, 1) := by decide +kernel
theorem dX6_readAgain_71 : decode cX6_readAgain 71 = .ok (.return_, 1) := by decide +kernel
theorem dX6_run_0 : decode cX6_run 0 = .ok (.iload_n 2, 1) := by decide +kernel
theorem dX6_run_1 : decode cX6_run 1 = .ok (.istore 5, 2) := by decide +kernel
theorem dX6_run_3 : decode cX6_run 3 = .ok (.iload 5, 2) := by decide +kernel
theorem dX6_run_5 : decode cX6_run 5 = .ok (.iload_n 3, 1) := by decide +kernel
theorem dX6_run_6 : decode cX6_run 6 = .ok (.if_icmp .ge 159, 3) := by decide +kernel
theorem dX6_run_9 : decode cX6_run 9 = .ok (.iload 5, 2) := by decide +kernel
theorem dX6_run_11 : decode cX6_run 11 = .ok (.bipush 30, 2) := by decide +kernel
theorem dX6_run_13 : decode cX6_run 13 = .ok (.if_icmp .ge 152, 3) := by decide +kernel
theorem dX6_run_16 : decode cX6_run 16 = .ok (.aload_n 0, 1) := by decide +kernel
theorem dX6_run_17 : decode cX6_run 17 = .ok (.getfield 25, 3) := by decide +kernel
theorem dX6_run_20 : decode cX6_run 20 = .ok (.sipush 200, 3) := by decide +kernel
theorem dX6_run_23 : decode cX6_run 23 = .ok (.if_icmp .ge 142, 3) := by decide +kernel
theorem dX6_run_26 : decode cX6_run 26 = .ok (.aload_n 0, 1) := by decide +kernel
theorem dX6_run_27 : decode cX6_run 27 = .ok (.dup, 1) := by decide +kernel
theorem dX6_run_28 : decode cX6_run 28 = .ok (.getfield 25, 3) := by decide +kernel
theorem dX6_run_31 : decode cX6_run 31 = .ok (.iconst 1, 1) := by decide +kernel
theorem dX6_run_32 : decode cX6_run 32 = .ok (.iadd, 1) := by decide +kernel
theorem dX6_run_33 : decode cX6_run 33 = .ok (.putfield 25, 3) := by decide +kernel
theorem dX6_run_36 : decode cX6_run 36 = .ok (.aload_n 0, 1) := by decide +kernel
theorem dX6_run_37 : decode cX6_run 37 = .ok (.getfield 15, 3) := by decide +kernel
theorem dX6_run_40 : decode cX6_run 40 = .ok (.iload 5, 2) := by decide +kernel
theorem dX6_run_42 : decode cX6_run 42 = .ok (.iaload, 1) := by decide +kernel
theorem dX6_run_43 : decode cX6_run 43 = .ok (.istore 6, 2) := by decide +kernel
theorem dX6_run_45 : decode cX6_run 45 = .ok (.aload_n 0, 1) := by decide +kernel
theorem dX6_run_46 : decode cX6_run 46 = .ok (.getfield 18, 3) := by decide +kernel
theorem dX6_run_49 : decode cX6_run 49 = .ok (.iload 5, 2) := by decide +kernel
theorem dX6_run_51 : decode cX6_run 51 = .ok (.iaload, 1) := by decide +kernel
theorem dX6_run_52 : decode cX6_run 52 = .ok (.istore 7, 2) := by decide +kernel
theorem dX6_run_54 : decode cX6_run 54 = .ok (.aload_n 0, 1) := by decide +kernel
theorem dX6_run_55 : decode cX6_run 55 = .ok (.getfield 11, 3) := by decide +kernel
theorem dX6_run_58 : decode cX6_run 58 = .ok (.iload 5, 2) := by decide +kernel
theorem dX6_run_60 : decode cX6_run 60 = .ok (.iaload, 1) := by decide +kernel
theorem dX6_run_61 : decode cX6_run 61 = .ok (.iconst 5, 1) := by decide +kernel
theorem dX6_run_62 : decode cX6_run 62 = .ok (.if_icmp .ne 56, 3) := by decide +kernel
theorem dX6_run_65 : decode cX6_run 65 = .ok (.iconst 0, 1) := by decide +kernel
theorem dX6_run_66 : decode cX6_run 66 = .ok (.istore 8, 2) := by decide +kernel
theorem dX6_run_68 : decode cX6_run 68 = .ok (.iload 8, 2) := by decide +kernel
theorem dX6_run_70 : decode cX6_run 70 = .ok (.iload 6, 2) := by decide +kernel
theorem dX6_run_72 : decode cX6_run 72 = .ok (.if_icmp .ge 36, 3) := by decide +kernel
theorem dX6_run_75 : decode cX6_run 75 = .ok (.iload 4, 2) := by decide +kernel
theorem dX6_run_77 : decode cX6_run 77 = .ok (.bipush 6, 2) := by decide +kernel
theorem dX6_run_79 : decode cX6_run 79 = .ok (.if_icmp .ge 29, 3) := by decide +kernel
theorem dX6_run_82 : decode cX6_run 82 = .ok (.aload_n 0, 1) := by decide +kernel
theorem dX6_run_83 : decode cX6_run 83 = .ok (.aload_n 1, 1) := by decide +kernel
theorem dX6_run_84 : decode cX6_run 84 = .ok (.iload 5, 2) := by decide +kernel
theorem dX6_run_86 : decode cX6_run 86 = .ok (.iconst 1, 1) := by decide +kernel
theorem dX6_run_87 : decode cX6_run 87 = .ok (.iadd, 1) := by decide +kernel
theorem dX6_run_88 : decode cX6_run 88 = .ok (.iload 5, 2) := by decide +kernel
theorem dX6_run_90 : decode cX6_run 90 = .ok (.iconst 1, 1) := by decide +kernel
theorem dX6_run_91 : decode cX6_run 91 = .ok (.iadd, 1) := by decide +kernel
theorem dX6_run_92 : decode cX6_run 92 = .ok (.iload 7, 2) := by decide +kernel
theorem dX6_run_94 : decode cX6_run 94 = .ok (.iadd, 1) := by decide +kernel
theorem dX6_run_95 : decode cX6_run 95 = .ok (.iload 4, 2) := by decide +kernel
theorem dX6_run_97 : decode cX6_run 97 = .ok (.iconst 1, 1) := by decide +kernel
theorem dX6_run_98 : decode cX6_run 98 = .ok (.iadd, 1) := by decide +kernel
theorem dX6_run_99 : decode cX6_run 99 = .ok (.invokestatic 87, 3) := by decide +kernel
theorem dX6_run_102 : decode cX6_run 102 = .ok (.iinc 8 1, 3) := by decide +kernel
theorem dX6_run_105 : decode cX6_run 105 = .ok (.goto (-37), 3) := by decide +kernel
theorem dX6_run_108 : decode cX6_run 108 = .ok (.iload 5, 2) := by decide +kernel
theorem dX6_run_110 : decode cX6_run 110 = .ok (.iload 7, 2) := by decide +kernel
theorem dX6_run_112 : decode cX6_run 112 = .ok (.iadd, 1) := by decide +kernel
theorem dX6_run_113 : decode cX6_run 113 = .ok (.istore 5, 2) := by decide +kernel
theorem dX6_run_115 : decode cX6_run 115 = .ok (.goto 44, 3) := by decide +kernel
theorem dX6_run_118 : decode cX6_run 118 = .ok (.aload_n 1, 1) := by decide +kernel
theorem dX6_run_119 : decode cX6_run 119 = .ok (.aload_n 0, 1) := by decide +kernel
theorem dX6_run_120 : decode cX6_run 120 = .ok (.getfield 11, 3) := by decide +kernel
theorem dX6_run_123 : decode cX6_run 123 = .ok (.iload 5, 2) := by decide +kernel
theorem dX6_run_125 : decode cX6_run 125 = .ok (.iaload, 1) := by decide +kernel
theorem dX6_run_126 : decode cX6_run 126 = .ok (.iload 6, 2) := by decide +kernel
theorem dX6_run_128 : decode cX6_run 128 = .ok (.iload 7, 2) := by decide +kernel
theorem dX6_run_130 : decode cX6_run 130 = .ok (.invokestatic 91, 3) := by decide +kernel
theorem dX6_run_133 : decode cX6_run 133 = .ok (.ifCond .eq 16, 3) := by decide +kernel
theorem dX6_run_136 : decode cX6_run 136 = .ok (.aload_n 0, 1) := by decide +kernel
theorem dX6_run_137 : decode cX6_run 137 = .ok (.dup, 1) := by decide +kernel
theorem dX6_run_138 : decode cX6_run 138 = .ok (.getfield 28, 3) := by decide +kernel
theorem dX6_run_141 : decode cX6_run 141 = .ok (.iconst 1, 1) := by decide +kernel
theorem dX6_run_142 : decode cX6_run 142 = .ok (.iadd, 1) := by decide +kernel
theorem dX6_run_143 : decode cX6_run 143 = .ok (.putfield 28, 3) := by decide +kernel
theorem dX6_run_146 : decode cX6_run 146 = .ok (.goto 13, 3) := by decide +kernel
theorem dX6_run_149 : decode cX6_run 149 = .ok (.aload_n 0, 1) := by decide +kernel
theorem dX6_run_150 : decode cX6_run 150 = .ok (.dup, 1) := by decide +kernel
theorem dX6_run_151 : decode cX6_run 151 = .ok (.getfield 31, 3) := by decide +kernel
theorem dX6_run_154 : decode cX6_run 154 = .ok (.iconst 1, 1) := by decide +kernel
theorem dX6_run_155 : decode cX6_run 155 = .ok (.iadd, 1) := by decide +kernel
theorem dX6_run_156 : decode cX6_run 156 = .ok (.putfield 31, 3) := by decide +kernel
theorem dX6_run_159 : decode cX6_run 159 = .ok (.iinc 5 1, 3) := by decide +kernel
theorem dX6_run_162 : decode cX6_run 162 = .ok (.goto (-159), 3) := by decide +kernel
theorem dX6_run_165 : decode cX6_run 165 = .ok (.return_, 1) := by decide +kernel
theorem dX6_isDone_0 : decode cX6_isDone 0 = .ok (.iload_n 1, 1) := by decide +kernel
theorem dX6_isDone_1 : decode cX6_isDone 1 = .ok (.tableswitch 64 0 3 #[31, 48, 54, 59], 31) := by decide +kernel
theorem dX6_isDone_32 : decode cX6_isDone 32 = .ok (.aload_n 0, 1) := by decide +kernel
theorem dX6_isDone_33 : decode cX6_isDone 33 = .ok (.iload_n 2, 1) := by decide +kernel
theorem dX6_isDone_34 : decode cX6_isDone 34 = .ok (.invokevirtual 95, 3) := by decide +kernel
theorem dX6_isDone_37 : decode cX6_isDone 37 = .ok (.ifCond .eq 5, 3) := by decide +kernel
theorem dX6_isDone_40 : decode cX6_isDone 40 = .ok (.iconst 0, 1) := by decide +kernel
theorem dX6_isDone_41 : decode cX6_isDone 41 = .ok (.ireturn, 1) := by decide +kernel
theorem dX6_isDone_42 : decode cX6_isDone 42 = .ok (.aload_n 0, 1) := by decide +kernel
theorem dX6_isDone_43 : decode cX6_isDone 43 = .ok (.iload_n 2, 1) := by decide +kernel
theorem dX6_isDone_44 : decode cX6_isDone 44 = .ok (.invokevirtual 101, 3) := by decide +kernel
theorem dX6_isDone_47 : decode cX6_isDone 47 = .ok (.iconst 1, 1) := by decide +kernel
theorem dX6_isDone_48 : decode cX6_isDone 48 = .ok (.ireturn, 1) := by decide +kernel
theorem dX6_isDone_49 : decode cX6_isDone 49 = .ok (.aload_n 0, 1) := by decide +kernel
theorem dX6_isDone_50 : decode cX6_isDone 50 = .ok (.iload_n 2, 1) := by decide +kernel
theorem dX6_isDone_51 : decode cX6_isDone 51 = .ok (.invokevirtual 105, 3) := by decide +kernel
theorem dX6_isDone_54 : decode cX6_isDone 54 = .ok (.ireturn, 1) := by decide +kernel
theorem dX6_isDone_55 : decode cX6_isDone 55 = .ok (.aload_n 0, 1) := by decide +kernel
theorem dX6_isDone_56 : decode cX6_isDone 56 = .ok (.invokevirtual 109, 3) := by decide +kernel
theorem dX6_isDone_59 : decode cX6_isDone 59 = .ok (.ireturn, 1) := by decide +kernel
theorem dX6_isDone_60 : decode cX6_isDone 60 = .ok (.aload_n 0, 1) := by decide +kernel
theorem dX6_isDone_61 : decode cX6_isDone 61 = .ok (.invokevirtual 112, 3) := by decide +kernel
theorem dX6_isDone_64 : decode cX6_isDone 64 = .ok (.ireturn, 1) := by decide +kernel
theorem dX6_isDone_65 : decode cX6_isDone 65 = .ok (.aload_n 0, 1) := by decide +kernel
theorem dX6_isDone_66 : decode cX6_isDone 66 = .ok (.iload_n 2, 1) := by decide +kernel
theorem dX6_isDone_67 : decode cX6_isDone 67 = .ok (.iload_n 3, 1) := by decide +kernel
theorem dX6_isDone_68 : decode cX6_isDone 68 = .ok (.invokevirtual 115, 3) := by decide +kernel
theorem dX6_isDone_71 : decode cX6_isDone 71 = .ok (.ireturn, 1) := by decide +kernel
theorem dX7_init_0 : decode cX7_init 0 = .ok (.aload_n 0, 1) := by decide +kernel
theorem dX7_init_1 : decode cX7_init 1 = .ok (.invokespecial 3, 3) := by decide +kernel
theorem dX7_init_4 : decode cX7_init 4 = .ok (.aload_n 0, 1) := by decide +kernel
theorem dX7_init_5 : decode cX7_init 5 = .ok (.iconst 3, 1) := by decide +kernel
theorem dX7_init_6 : decode cX7_init 6 = .ok (.anewarray 11, 3) := by decide +kernel
theorem dX7_init_9 : decode cX7_init 9 = .ok (.putfield 13, 3) := by decide +kernel
theorem dX7_init_12 : decode cX7_init 12 = .ok (.aload_n 0, 1) := by decide +kernel
theorem dX7_init_13 : decode cX7_init 13 = .ok (.bipush 48, 2) := by decide +kernel
theorem dX7_init_15 : decode cX7_init 15 = .ok (.newarray .int, 2) := by decide +kernel
theorem dX7_init_17 : decode cX7_init 17 = .ok (.putfield 17, 3) := by decide +kernel
theorem dX7_init_20 : decode cX7_init 20 = .ok (.aload_n 0, 1) := by decide +kernel
theorem dX7_init_21 : decode cX7_init 21 = .ok (.aload_n 1, 1) := by decide +kernel
theorem dX7_init_22 : decode cX7_init 22 = .ok (.putfield 21, 3) := by decide +kernel
theorem dX7_init_25 : decode cX7_init 25 = .ok (.iconst 0, 1) := by decide +kernel
theorem dX7_init_26 : decode cX7_init 26 = .ok (.istore_n 3, 1) := by decide +kernel
theorem dX7_init_27 : decode cX7_init 27 = .ok (.iload_n 3, 1) := by decide +kernel
theorem dX7_init_28 : decode cX7_init 28 = .ok (.iconst 3, 1) := by decide +kernel
theorem dX7_init_29 : decode cX7_init 29 = .ok (.if_icmp .ge 19, 3) := by decide +kernel
theorem dX7_init_32 : decode cX7_init 32 = .ok (.aload_n 0, 1) := by decide +kernel
theorem dX7_init_33 : decode cX7_init 33 = .ok (.getfield 13, 3) := by decide +kernel
theorem dX7_init_36 : decode cX7_init 36 = .ok (.iload_n 3, 1) := by decide +kernel
theorem dX7_init_37 : decode cX7_init 37 = .ok (.aload_n 2, 1) := by decide +kernel
theorem dX7_init_38 : decode cX7_init 38 = .ok (.invokevirtual 25, 3) := by decide +kernel
theorem dX7_init_41 : decode cX7_init 41 = .ok (.aastore, 1) := by decide +kernel
theorem dX7_init_42 : decode cX7_init 42 = .ok (.iinc 3 1, 3) := by decide +kernel
theorem dX7_init_45 : decode cX7_init 45 = .ok (.goto (-18), 3) := by decide +kernel
theorem dX7_init_48 : decode cX7_init 48 = .ok (.return_, 1) := by decide +kernel
theorem dX7_risksOf_0 : decode cX7_risksOf 0 = .ok (.aload_n 0, 1) := by decide +kernel
theorem dX7_risksOf_1 : decode cX7_risksOf 1 = .ok (.getfield 13, 3) := by decide +kernel
theorem dX7_risksOf_4 : decode cX7_risksOf 4 = .ok (.iconst 0, 1) := by decide +kernel
theorem dX7_risksOf_5 : decode cX7_risksOf 5 = .ok (.aaload, 1) := by decide +kernel
theorem dX7_risksOf_6 : decode cX7_risksOf 6 = .ok (.astore_n 3, 1) := by decide +kernel
theorem dX7_risksOf_7 : decode cX7_risksOf 7 = .ok (.aload_n 3, 1) := by decide +kernel
theorem dX7_risksOf_8 : decode cX7_risksOf 8 = .ok (.aload_n 1, 1) := by decide +kernel
theorem dX7_risksOf_9 : decode cX7_risksOf 9 = .ok (.invokevirtual 29, 3) := by decide +kernel
theorem dX7_risksOf_12 : decode cX7_risksOf 12 = .ok (.aload_n 3, 1) := by decide +kernel
theorem dX7_risksOf_13 : decode cX7_risksOf 13 = .ok (.dup, 1) := by decide +kernel
theorem dX7_risksOf_14 : decode cX7_risksOf 14 = .ok (.getfield 33, 3) := by decide +kernel
theorem dX7_risksOf_17 : decode cX7_risksOf 17 = .ok (.lconst 1, 1) := by decide +kernel
theorem dX7_risksOf_18 : decode cX7_risksOf 18 = .ok (.iload_n 2, 1) := by decide +kernel
theorem dX7_risksOf_19 : decode cX7_risksOf 19 = .ok (.lshl, 1) := by decide +kernel
theorem dX7_risksOf_20 : decode cX7_risksOf 20 = .ok (.lor, 1) := by decide +kernel
theorem dX7_risksOf_21 : decode cX7_risksOf 21 = .ok (.putfield 33, 3) := by decide +kernel
theorem dX7_risksOf_24 : decode cX7_risksOf 24 = .ok (.aload_n 3, 1) := by decide +kernel
theorem dX7_risksOf_25 : decode cX7_risksOf 25 = .ok (.invokevirtual 37, 3) := by decide +kernel
theorem dX7_risksOf_28 : decode cX7_risksOf 28 = .ok (.invokestatic 41, 3) := by decide +kernel
theorem dX7_risksOf_31 : decode cX7_risksOf 31 = .ok (.ireturn, 1) := by decide +kernel
theorem dX7_findBest_0 : decode cX7_findBest 0 = .ok (.aload_n 0, 1) := by decide +kernel
theorem dX7_findBest_1 : decode cX7_findBest 1 = .ok (.iconst 0, 1) := by decide +kernel
theorem dX7_findBest_2 : decode cX7_findBest 2 = .ok (.putfield 47, 3) := by decide +kernel
theorem dX7_findBest_5 : decode cX7_findBest 5 = .ok (.aload_n 0, 1) := by decide +kernel
theorem dX7_findBest_6 : decode cX7_findBest 6 = .ok (.iconst 0, 1) := by decide +kernel
theorem dX7_findBest_7 : decode cX7_findBest 7 = .ok (.putfield 51, 3) := by decide +kernel
theorem dX7_findBest_10 : decode cX7_findBest 10 = .ok (.aload_n 0, 1) := by decide +kernel
theorem dX7_findBest_11 : decode cX7_findBest 11 = .ok (.lconst 0, 1) := by decide +kernel
theorem dX7_findBest_12 : decode cX7_findBest 12 = .ok (.putfield 54, 3) := by decide +kernel
theorem dX7_findBest_15 : decode cX7_findBest 15 = .ok (.aload_n 0, 1) := by decide +kernel
theorem dX7_findBest_16 : decode cX7_findBest 16 = .ok (.aload_n 1, 1) := by decide +kernel
theorem dX7_findBest_17 : decode cX7_findBest 17 = .ok (.iconst 0, 1) := by decide +kernel
theorem dX7_findBest_18 : decode cX7_findBest 18 = .ok (.iload_n 2, 1) := by decide +kernel
theorem dX7_findBest_19 : decode cX7_findBest 19 = .ok (.iconst 0, 1) := by decide +kernel
theorem dX7_findBest_20 : decode cX7_findBest 20 = .ok (.lconst 0, 1) := by decide +kernel
theorem dX7_findBest_21 : decode cX7_findBest 21 = .ok (.invokestatic 57, 3) := by decide +kernel
theorem dX7_findBest_24 : decode cX7_findBest 24 = .ok (.return_, 1) := by decide +kernel
theorem dX7_search_0 : decode cX7_search 0 = .ok (.iload_n 2, 1) := by decide +kernel
theorem dX7_search_1 : decode cX7_search 1 = .ok (.iload_n 3, 1) := by decide +kernel
theorem dX7_search_2 : decode cX7_search 2 = .ok (.if_icmp .ge 8, 3) := by decide +kernel
theorem dX7_search_5 : decode cX7_search 5 = .ok (.iload_n 2, 1) := by decide +kernel
theorem dX7_search_6 : decode cX7_search 6 = .ok (.iconst 3, 1) := by decide +kernel
theorem dX7_search_7 : decode cX7_search 7 = .ok (.if_icmp .lt 4, 3) := by decide +kernel
theorem dX7_search_10 : decode cX7_search 10 = .ok (.return_, 1) := by decide +kernel
theorem dX7_search_11 : decode cX7_search 11 = .ok (.aload_n 1, 1) := by decide +kernel
theorem dX7_search_12 : decode cX7_search 12 = .ok (.invokevirtual 61, 3) := by decide +kernel
theorem dX7_search_15 : decode cX7_search 15 = .ok (.lstore 7, 2) := by decide +kernel
theorem dX7_search_17 : decode cX7_search 17 = .ok (.aload_n 0, 1) := by decide +kernel
theorem dX7_search_18 : decode cX7_search 18 = .ok (.getfield 13, 3) := by decide +kernel
theorem dX7_search_21 : decode cX7_search 21 = .ok (.iload_n 2, 1) := by decide +kernel
theorem dX7_search_22 : decode cX7_search 22 = .ok (.aaload, 1) := by decide +kernel
theorem dX7_search_23 : decode cX7_search 23 = .ok (.astore 9, 2) := by decide +kernel
theorem dX7_search_25 : decode cX7_search 25 = .ok (.iconst 0, 1) := by decide +kernel
theorem dX7_search_26 : decode cX7_search 26 = .ok (.istore 10, 2) := by decide +kernel
theorem dX7_search_28 : decode cX7_search 28 = .ok (.iload 10, 2) := by decide +kernel
theorem dX7_search_30 : decode cX7_search 30 = .ok (.bipush 48, 2) := by decide +kernel
theorem dX7_search_32 : decode cX7_search 32 = .ok (.if_icmp .ge 94, 3) := by decide +kernel
theorem dX7_search_35 : decode cX7_search 35 = .ok (.lload 7, 2) := by decide +kernel
theorem dX7_search_37 : decode cX7_search 37 = .ok (.iload 10, 2) := by decide +kernel
theorem dX7_search_39 : decode cX7_search 39 = .ok (.lushr, 1) := by decide +kernel
theorem dX7_search_40 : decode cX7_search 40 = .ok (.lconst 1, 1) := by decide +kernel
theorem dX7_search_41 : decode cX7_search 41 = .ok (.land, 1) := by decide +kernel
theorem dX7_search_42 : decode cX7_search 42 = .ok (.lconst 0, 1) := by decide +kernel
theorem dX7_search_43 : decode cX7_search 43 = .ok (.lcmp, 1) := by decide +kernel
theorem dX7_search_44 : decode cX7_search 44 = .ok (.ifCond .ne 6, 3) := by decide +kernel
theorem dX7_search_47 : decode cX7_search 47 = .ok (.goto 73, 3) := by decide +kernel
theorem dX7_search_50 : decode cX7_search 50 = .ok (.iload 4, 2) := by decide +kernel
theorem dX7_search_52 : decode cX7_search 52 = .ok (.aload_n 1, 1) := by decide +kernel
theorem dX7_search_53 : decode cX7_search 53 = .ok (.iload 10, 2) := by decide +kernel
theorem dX7_search_55 : decode cX7_search 55 = .ok (.invokevirtual 64, 3) := by decide +kernel
theorem dX7_search_58 : decode cX7_search 58 = .ok (.iadd, 1) := by decide +kernel
theorem dX7_search_59 : decode cX7_search 59 = .ok (.istore 11, 2) := by decide +kernel
theorem dX7_search_61 : decode cX7_search 61 = .ok (.lload 5, 2) := by decide +kernel
theorem dX7_search_63 : decode cX7_search 63 = .ok (.ldc2_w 68, 3) := by decide +kernel
theorem dX7_search_66 : decode cX7_search 66 = .ok (.lmul, 1) := by decide +kernel
theorem dX7_search_67 : decode cX7_search 67 = .ok (.iload 10, 2) := by decide +kernel
theorem dX7_search_69 : decode cX7_search 69 = .ok (.i2l, 1) := by decide +kernel
theorem dX7_search_70 : decode cX7_search 70 = .ok (.ladd, 1) := by decide +kernel
theorem dX7_search_71 : decode cX7_search 71 = .ok (.lconst 1, 1) := by decide +kernel
theorem dX7_search_72 : decode cX7_search 72 = .ok (.ladd, 1) := by decide +kernel
theorem dX7_search_73 : decode cX7_search 73 = .ok (.lstore 12, 2) := by decide +kernel
theorem dX7_search_75 : decode cX7_search 75 = .ok (.aload_n 0, 1) := by decide +kernel
theorem dX7_search_76 : decode cX7_search 76 = .ok (.iload 11, 2) := by decide +kernel
theorem dX7_search_78 : decode cX7_search 78 = .ok (.iload_n 2, 1) := by decide +kernel
theorem dX7_search_79 : decode cX7_search 79 = .ok (.iconst 1, 1) := by decide +kernel
theorem dX7_search_80 : decode cX7_search 80 = .ok (.iadd, 1) := by decide +kernel
theorem dX7_search_81 : decode cX7_search 81 = .ok (.lload 12, 2) := by decide +kernel
theorem dX7_search_83 : decode cX7_search 83 = .ok (.invokevirtual 70, 3) := by decide +kernel
theorem dX7_search_86 : decode cX7_search 86 = .ok (.iload_n 2, 1) := by decide +kernel
theorem dX7_search_87 : decode cX7_search 87 = .ok (.iconst 1, 1) := by decide +kernel
theorem dX7_search_88 : decode cX7_search 88 = .ok (.iadd, 1) := by decide +kernel
theorem dX7_search_89 : decode cX7_search 89 = .ok (.iload_n 3, 1) := by decide +kernel
theorem dX7_search_90 : decode cX7_search 90 = .ok (.if_icmp .ge 30, 3) := by decide +kernel
theorem dX7_search_93 : decode cX7_search 93 = .ok (.aload 9, 2) := by decide +kernel
theorem dX7_search_95 : decode cX7_search 95 = .ok (.aload_n 1, 1) := by decide +kernel
theorem dX7_search_96 : decode cX7_search 96 = .ok (.invokevirtual 29, 3) := by decide +kernel
theorem dX7_search_99 : decode cX7_search 99 = .ok (.aload 9, 2) := by decide +kernel
theorem dX7_search_101 : decode cX7_search 101 = .ok (.iload 10, 2) := by decide +kernel
theorem dX7_search_103 : decode cX7_search 103 = .ok (.invokevirtual 74, 3) := by decide +kernel
theorem dX7_search_106 : decode cX7_search 106 = .ok (.aload_n 0, 1) := by decide +kernel
theorem dX7_search_107 : decode cX7_search 107 = .ok (.aload 9, 2) := by decide +kernel
theorem dX7_search_109 : decode cX7_search 109 = .ok (.iload_n 2, 1) := by decide +kernel
theorem dX7_search_110 : decode cX7_search 110 = .ok (.iconst 1, 1) := by decide +kernel
theorem dX7_search_111 : decode cX7_search 111 = .ok (.iadd, 1) := by decide +kernel
theorem dX7_search_112 : decode cX7_search 112 = .ok (.iload_n 3, 1) := by decide +kernel
theorem dX7_search_113 : decode cX7_search 113 = .ok (.iload 11, 2) := by decide +kernel
theorem dX7_search_115 : decode cX7_search 115 = .ok (.lload 12, 2) := by decide +kernel
theorem dX7_search_117 : decode cX7_search 117 = .ok (.invokestatic 57, 3) := by decide +kernel
theorem dX7_search_120 : decode cX7_search 120 = .ok (.iinc 10 1, 3) := by decide +kernel
theorem dX7_search_123 : decode cX7_search 123 = .ok (.goto (-95), 3) := by decide +kernel
theorem dX7_search_126 : decode cX7_search 126 = .ok (.return_, 1) := by decide +kernel
theorem dX7_consider_0 : decode cX7_consider 0 = .ok (.iload_n 1, 1) := by decide +kernel
theorem dX7_consider_1 : decode cX7_consider 1 = .ok (.aload_n 0, 1) := by decide +kernel
theorem dX7_consider_2 : decode cX7_consider 2 = .ok (.getfield 47, 3) := by decide +kernel
theorem dX7_consider_5 : decode cX7_consider 5 = .ok (.if_icmp .gt 19, 3) := by decide +kernel
theorem dX7_consider_8 : decode cX7_consider 8 = .ok (.iload_n 1, 1) := by decide +kernel
theorem dX7_consider_9 : decode cX7_consider 9 = .ok (.aload_n 0, 1) := by decide +kernel
theorem dX7_consider_10 : decode cX7_consider 10 = .ok (.getfield 47, 3) := by decide +kernel
theorem dX7_consider_13 : decode cX7_consider 13 = .ok (.if_icmp .ne 26, 3) := by decide +kernel
theorem dX7_consider_16 : decode cX7_consider 16 = .ok (.iload_n 2, 1) := by decide +kernel
theorem dX7_consider_17 : decode cX7_consider 17 = .ok (.aload_n 0, 1) := by decide +kernel
theorem dX7_consider_18 : decode cX7_consider 18 = .ok (.getfield 51, 3) := by decide +kernel
theorem dX7_consider_21 : decode cX7_consider 21 = .ok (.if_icmp .ge 18, 3) := by decide +kernel
theorem dX7_consider_24 : decode cX7_consider 24 = .ok (.aload_n 0, 1) := by decide +kernel
theorem dX7_consider_25 : decode cX7_consider 25 = .ok (.iload_n 1, 1) := by decide +kernel
theorem dX7_consider_26 : decode cX7_consider 26 = .ok (.putfield 47, 3) := by decide +kernel
theorem dX7_consider_29 : decode cX7_consider 29 = .ok (.aload_n 0, 1) := by decide +kernel
theorem dX7_consider_30 : decode cX7_consider 30 = .ok (.iload_n 2, 1) := by decide +kernel
theorem dX7_consider_31 : decode cX7_consider 31 = .ok (.putfield 51, 3) := by decide +kernel
theorem dX7_consider_34 : decode cX7_consider 34 = .ok (.aload_n 0, 1) := by decide +kernel
theorem dX7_consider_35 : decode cX7_consider 35 = .ok (.lload_n 3, 1) := by decide +kernel
theorem dX7_consider_36 : decode cX7_consider 36 = .ok (.putfield 54, 3) := by decide +kernel
theorem dX7_consider_39 : decode cX7_consider 39 = .ok (.return_, 1) := by decide +kernel
theorem dX7_wayTo_0 : decode cX7_wayTo 0 = .ok (.lconst 1, 1) := by decide +kernel
theorem dX7_wayTo_1 : decode cX7_wayTo 1 = .ok (.iload_n 2, 1) := by decide +kernel
theorem dX7_wayTo_2 : decode cX7_wayTo 2 = .ok (.lshl, 1) := by decide +kernel
theorem dX7_wayTo_3 : decode cX7_wayTo 3 = .ok (.lstore 4, 2) := by decide +kernel
theorem dX7_wayTo_5 : decode cX7_wayTo 5 = .ok (.aload_n 1, 1) := by decide +kernel
theorem dX7_wayTo_6 : decode cX7_wayTo 6 = .ok (.invokevirtual 78, 3) := by decide +kernel
theorem dX7_wayTo_9 : decode cX7_wayTo 9 = .ok (.lload 4, 2) := by decide +kernel
theorem dX7_wayTo_11 : decode cX7_wayTo 11 = .ok (.land, 1) := by decide +kernel
theorem dX7_wayTo_12 : decode cX7_wayTo 12 = .ok (.lconst 0, 1) := by decide +kernel
theorem dX7_wayTo_13 : decode cX7_wayTo 13 = .ok (.lcmp, 1) := by decide +kernel
theorem dX7_wayTo_14 : decode cX7_wayTo 14 = .ok (.ifCond .eq 5, 3) := by decide +kernel
theorem dX7_wayTo_17 : decode cX7_wayTo 17 = .ok (.iconst 0, 1) := by decide +kernel
theorem dX7_wayTo_18 : decode cX7_wayTo 18 = .ok (.ireturn, 1) := by decide +kernel
theorem dX7_wayTo_19 : decode cX7_wayTo 19 = .ok (.aload_n 1, 1) := by decide +kernel
theorem dX7_wayTo_20 : decode cX7_wayTo 20 = .ok (.invokevirtual 78, 3) := by decide +kernel
theorem dX7_wayTo_23 : decode cX7_wayTo 23 = .ok (.ldc2_w 81, 3) := by decide +kernel
theorem dX7_wayTo_26 : decode cX7_wayTo 26 = .ok (.lxor, 1) := by decide +kernel
theorem dX7_wayTo_27 : decode cX7_wayTo 27 = .ok (.aload_n 0, 1) := by decide +kernel
theorem dX7_wayTo_28 : decode cX7_wayTo 28 = .ok (.invokevirtual 83, 3) := by decide +kernel
theorem dX7_wayTo_31 : decode cX7_wayTo 31 = .ok (.lload 4, 2) := by decide +kernel
theorem dX7_wayTo_33 : decode cX7_wayTo 33 = .ok (.lor, 1) := by decide +kernel
theorem dX7_wayTo_34 : decode cX7_wayTo 34 = .ok (.land, 1) := by decide +kernel
theorem dX7_wayTo_35 : decode cX7_wayTo 35 = .ok (.lstore 6, 2) := by decide +kernel
theorem dX7_wayTo_37 : decode cX7_wayTo 37 = .ok (.aload_n 1, 1) := by decide +kernel
theorem dX7_wayTo_38 : decode cX7_wayTo 38 = .ok (.invokevirtual 86, 3) := by decide +kernel
theorem dX7_wayTo_41 : decode cX7_wayTo 41 = .ok (.lload 6, 2) := by decide +kernel
theorem dX7_wayTo_43 : decode cX7_wayTo 43 = .ok (.land, 1) := by decide +kernel
theorem dX7_wayTo_44 : decode cX7_wayTo 44 = .ok (.lstore 8, 2) := by decide +kernel
theorem dX7_wayTo_46 : decode cX7_wayTo 46 = .ok (.lload 8, 2) := by decide +kernel
theorem dX7_wayTo_48 : decode cX7_wayTo 48 = .ok (.lstore 10, 2) := by decide +kernel
theorem dX7_wayTo_50 : decode cX7_wayTo 50 = .ok (.aload_n 0, 1) := by decide +kernel
theorem dX7_wayTo_51 : decode cX7_wayTo 51 = .ok (.aload_n 1, 1) := by decide +kernel
theorem dX7_wayTo_52 : decode cX7_wayTo 52 = .ok (.lload 8, 2) := by decide +kernel
theorem dX7_wayTo_54 : decode cX7_wayTo 54 = .ok (.lconst 0, 1) := by decide +kernel
theorem dX7_wayTo_55 : decode cX7_wayTo 55 = .ok (.invokevirtual 89, 3) := by decide +kernel
theorem dX7_wayTo_58 : decode cX7_wayTo 58 = .ok (.iconst 1, 1) := by decide +kernel
theorem dX7_wayTo_59 : decode cX7_wayTo 59 = .ok (.istore 12, 2) := by decide +kernel
theorem dX7_wayTo_61 : decode cX7_wayTo 61 = .ok (.iload 12, 2) := by decide +kernel
theorem dX7_wayTo_63 : decode cX7_wayTo 63 = .ok (.bipush 48, 2) := by decide +kernel
theorem dX7_wayTo_65 : decode cX7_wayTo 65 = .ok (.if_icmp .gt 85, 3) := by decide +kernel
theorem dX7_wayTo_68 : decode cX7_wayTo 68 = .ok (.lload 8, 2) := by decide +kernel
theorem dX7_wayTo_70 : decode cX7_wayTo 70 = .ok (.lconst 0, 1) := by decide +kernel
theorem dX7_wayTo_71 : decode cX7_wayTo 71 = .ok (.lcmp, 1) := by decide +kernel
theorem dX7_wayTo_72 : decode cX7_wayTo 72 = .ok (.ifCond .eq 78, 3) := by decide +kernel
theorem dX7_wayTo_75 : decode cX7_wayTo 75 = .ok (.lload 8, 2) := by decide +kernel
theorem dX7_wayTo_77 : decode cX7_wayTo 77 = .ok (.lload 4, 2) := by decide +kernel
theorem dX7_wayTo_79 : decode cX7_wayTo 79 = .ok (.land, 1) := by decide +kernel
theorem dX7_wayTo_80 : decode cX7_wayTo 80 = .ok (.lconst 0, 1) := by decide +kernel
theorem dX7_wayTo_81 : decode cX7_wayTo 81 = .ok (.lcmp, 1) := by decide +kernel
theorem dX7_wayTo_82 : decode cX7_wayTo 82 = .ok (.ifCond .eq 25, 3) := by decide +kernel
theorem dX7_wayTo_85 : decode cX7_wayTo 85 = .ok (.iload_n 3, 1) := by decide +kernel
theorem dX7_wayTo_86 : decode cX7_wayTo 86 = .ok (.ifCond .eq 18, 3) := by decide +kernel
theorem dX7_wayTo_89 : decode cX7_wayTo 89 = .ok (.iload_n 2, 1) := by decide +kernel
theorem dX7_wayTo_90 : decode cX7_wayTo 90 = .ok (.bipush 48, 2) := by decide +kernel
theorem dX7_wayTo_92 : decode cX7_wayTo 92 = .ok (.if_icmp .ge 12, 3) := by decide +kernel
theorem dX7_wayTo_95 : decode cX7_wayTo 95 = .ok (.aload_n 0, 1) := by decide +kernel
theorem dX7_wayTo_96 : decode cX7_wayTo 96 = .ok (.getfield 17, 3) := by decide +kernel
theorem dX7_wayTo_99 : decode cX7_wayTo 99 = .ok (.iload_n 2, 1) := by decide +kernel
theorem dX7_wayTo_100 : decode cX7_wayTo 100 = .ok (.iaload, 1) := by decide +kernel
theorem dX7_wayTo_101 : decode cX7_wayTo 101 = .ok (.goto 5, 3) := by decide +kernel
theorem dX7_wayTo_104 : decode cX7_wayTo 104 = .ok (.iload 12, 2) := by decide +kernel
theorem dX7_wayTo_106 : decode cX7_wayTo 106 = .ok (.ireturn, 1) := by decide +kernel
theorem dX7_wayTo_107 : decode cX7_wayTo 107 = .ok (.lload 8, 2) := by decide +kernel
theorem dX7_wayTo_109 : decode cX7_wayTo 109 = .ok (.invokestatic 93, 3) := by decide +kernel
theorem dX7_wayTo_112 : decode cX7_wayTo 112 = .ok (.lload 6, 2) := by decide +kernel
theorem dX7_wayTo_114 : decode cX7_wayTo 114 = .ok (.land, 1) := by decide +kernel
theorem dX7_wayTo_115 : decode cX7_wayTo 115 = .ok (.lload 10, 2) := by decide +kernel
theorem dX7_wayTo_117 : decode cX7_wayTo 117 = .ok (.ldc2_w 81, 3) := by decide +kernel
theorem dX7_wayTo_120 : decode cX7_wayTo 120 = .ok (.lxor, 1) := by decide +kernel
theorem dX7_wayTo_121 : decode cX7_wayTo 121 = .ok (.land, 1) := by decide +kernel
theorem dX7_wayTo_122 : decode cX7_wayTo 122 = .ok (.lstore 13, 2) := by decide +kernel
theorem dX7_wayTo_124 : decode cX7_wayTo 124 = .ok (.aload_n 0, 1) := by decide +kernel
theorem dX7_wayTo_125 : decode cX7_wayTo 125 = .ok (.aload_n 1, 1) := by decide +kernel
theorem dX7_wayTo_126 : decode cX7_wayTo 126 = .ok (.lload 13, 2) := by decide +kernel
theorem dX7_wayTo_128 : decode cX7_wayTo 128 = .ok (.lload 8, 2) := by decide +kernel
theorem dX7_wayTo_130 : decode cX7_wayTo 130 = .ok (.invokevirtual 89, 3) := by decide +kernel
theorem dX7_wayTo_133 : decode cX7_wayTo 133 = .ok (.lload 10, 2) := by decide +kernel
theorem dX7_wayTo_135 : decode cX7_wayTo 135 = .ok (.lload 13, 2) := by decide +kernel
theorem dX7_wayTo_137 : decode cX7_wayTo 137 = .ok (.lor, 1) := by decide +kernel
theorem dX7_wayTo_138 : decode cX7_wayTo 138 = .ok (.lstore 10, 2) := by decide +kernel
theorem dX7_wayTo_140 : decode cX7_wayTo 140 = .ok (.lload 13, 2) := by decide +kernel
theorem dX7_wayTo_142 : decode cX7_wayTo 142 = .ok (.lstore 8, 2) := by decide +kernel
theorem dX7_wayTo_144 : decode cX7_wayTo 144 = .ok (.iinc 12 1, 3) := by decide +kernel
theorem dX7_wayTo_147 : decode cX7_wayTo 147 = .ok (.goto (-86), 3) := by decide +kernel
theorem dX7_wayTo_150 : decode cX7_wayTo 150 = .ok (.iconst (-1), 1) := by decide +kernel
theorem dX7_wayTo_151 : decode cX7_wayTo 151 = .ok (.ireturn, 1) := by decide +kernel
theorem dX7_dryCells_0 : decode cX7_dryCells 0 = .ok (.lconst 0, 1) := by decide +kernel
theorem dX7_dryCells_1 : decode cX7_dryCells 1 = .ok (.lstore_n 1, 1) := by decide +kernel
theorem dX7_dryCells_2 : decode cX7_dryCells 2 = .ok (.iconst 0, 1) := by decide +kernel
theorem dX7_dryCells_3 : decode cX7_dryCells 3 = .ok (.istore_n 3, 1) := by decide +kernel
theorem dX7_dryCells_4 : decode cX7_dryCells 4 = .ok (.iload_n 3, 1) := by decide +kernel
theorem dX7_dryCells_5 : decode cX7_dryCells 5 = .ok (.bipush 48, 2) := by decide +kernel
theorem dX7_dryCells_7 : decode cX7_dryCells 7 = .ok (.if_icmp .ge 32, 3) := by decide +kernel
theorem dX7_dryCells_10 : decode cX7_dryCells 10 = .ok (.lload_n 1, 1) := by decide +kernel
theorem dX7_dryCells_11 : decode cX7_dryCells 11 = .ok (.aload_n 0, 1) := by decide +kernel
theorem dX7_dryCells_12 : decode cX7_dryCells 12 = .ok (.getfield 21, 3) := by decide +kernel
theorem dX7_dryCells_15 : decode cX7_dryCells 15 = .ok (.getfield 97, 3) := by decide +kernel
theorem dX7_dryCells_18 : decode cX7_dryCells 18 = .ok (.iload_n 3, 1) := by decide +kernel
theorem dX7_dryCells_19 : decode cX7_dryCells 19 = .ok (.iaload, 1) := by decide +kernel
theorem dX7_dryCells_20 : decode cX7_dryCells 20 = .ok (.iconst 5, 1) := by decide +kernel
theorem dX7_dryCells_21 : decode cX7_dryCells 21 = .ok (.if_icmp .ne 7, 3) := by decide +kernel
theorem dX7_dryCells_24 : decode cX7_dryCells 24 = .ok (.lconst 0, 1) := by decide +kernel
theorem dX7_dryCells_25 : decode cX7_dryCells 25 = .ok (.goto 6, 3) := by decide +kernel
theorem dX7_dryCells_28 : decode cX7_dryCells 28 = .ok (.lconst 1, 1) := by decide +kernel
theorem dX7_dryCells_29 : decode cX7_dryCells 29 = .ok (.iload_n 3, 1) := by decide +kernel
theorem dX7_dryCells_30 : decode cX7_dryCells 30 = .ok (.lshl, 1) := by decide +kernel
theorem dX7_dryCells_31 : decode cX7_dryCells 31 = .ok (.lor, 1) := by decide +kernel
theorem dX7_dryCells_32 : decode cX7_dryCells 32 = .ok (.lstore_n 1, 1) := by decide +kernel
theorem dX7_dryCells_33 : decode cX7_dryCells 33 = .ok (.iinc 3 1, 3) := by decide +kernel
theorem dX7_dryCells_36 : decode cX7_dryCells 36 = .ok (.goto (-32), 3) := by decide +kernel
theorem dX7_dryCells_39 : decode cX7_dryCells 39 = .ok (.lload_n 1, 1) := by decide +kernel
theorem dX7_dryCells_40 : decode cX7_dryCells 40 = .ok (.aload_n 0, 1) := by decide +kernel
theorem dX7_dryCells_41 : decode cX7_dryCells 41 = .ok (.getfield 21, 3) := by decide +kernel
theorem dX7_dryCells_44 : decode cX7_dryCells 44 = .ok (.getfield 102, 3) := by decide +kernel
theorem dX7_dryCells_47 : decode cX7_dryCells 47 = .ok (.land, 1) := by decide +kernel
theorem dX7_dryCells_48 : decode cX7_dryCells 48 = .ok (.lreturn, 1) := by decide +kernel
theorem dX7_countBars_0 : decode cX7_countBars 0 = .ok (.iconst 0, 1) := by decide +kernel
theorem dX7_countBars_1 : decode cX7_countBars 1 = .ok (.istore 6, 2) := by decide +kernel
theorem dX7_countBars_3 : decode cX7_countBars 3 = .ok (.iload 6, 2) := by decide +kernel
theorem dX7_countBars_5 : decode cX7_countBars 5 = .ok (.bipush 48, 2) := by decide +kernel
theorem dX7_countBars_7 : decode cX7_countBars 7 = .ok (.if_icmp .ge 121, 3) := by decide +kernel
theorem dX7_countBars_10 : decode cX7_countBars 10 = .ok (.lload_n 2, 1) := by decide +kernel
theorem dX7_countBars_11 : decode cX7_countBars 11 = .ok (.iload 6, 2) := by decide +kernel
theorem dX7_countBars_13 : decode cX7_countBars 13 = .ok (.lushr, 1) := by decide +kernel
theorem dX7_countBars_14 : decode cX7_countBars 14 = .ok (.lconst 1, 1) := by decide +kernel
theorem dX7_countBars_15 : decode cX7_countBars 15 = .ok (.land, 1) := by decide +kernel
theorem dX7_countBars_16 : decode cX7_countBars 16 = .ok (.lconst 0, 1) := by decide +kernel
theorem dX7_countBars_17 : decode cX7_countBars 17 = .ok (.lcmp, 1) := by decide +kernel
theorem dX7_countBars_18 : decode cX7_countBars 18 = .ok (.ifCond .ne 6, 3) := by decide +kernel
theorem dX7_countBars_21 : decode cX7_countBars 21 = .ok (.goto 101, 3) := by decide +kernel
theorem dX7_countBars_24 : decode cX7_countBars 24 = .ok (.lconst 1, 1) := by decide +kernel
theorem dX7_countBars_25 : decode cX7_countBars 25 = .ok (.iload 6, 2) := by decide +kernel
theorem dX7_countBars_27 : decode cX7_countBars 27 = .ok (.lshl, 1) := by decide +kernel
theorem dX7_countBars_28 : decode cX7_countBars 28 = .ok (.invokestatic 93, 3) := by decide +kernel
theorem dX7_countBars_31 : decode cX7_countBars 31 = .ok (.lload 4, 2) := by decide +kernel
theorem dX7_countBars_33 : decode cX7_countBars 33 = .ok (.land, 1) := by decide +kernel
theorem dX7_countBars_34 : decode cX7_countBars 34 = .ok (.lstore 7, 2) := by decide +kernel
theorem dX7_countBars_36 : decode cX7_countBars 36 = .ok (.iconst 0, 1) := by decide +kernel
theorem dX7_countBars_37 : decode cX7_countBars 37 = .ok (.istore 9, 2) := by decide +kernel
theorem dX7_countBars_39 : decode cX7_countBars 39 = .ok (.iconst 0, 1) := by decide +kernel
theorem dX7_countBars_40 : decode cX7_countBars 40 = .ok (.istore 10, 2) := by decide +kernel
theorem dX7_countBars_42 : decode cX7_countBars 42 = .ok (.iload 10, 2) := by decide +kernel
theorem dX7_countBars_44 : decode cX7_countBars 44 = .ok (.getstatic 105, 3) := by decide +kernel
theorem dX7_countBars_47 : decode cX7_countBars 47 = .ok (.arraylength, 1) := by decide +kernel
theorem dX7_countBars_48 : decode cX7_countBars 48 = .ok (.if_icmp .ge 58, 3) := by decide +kernel
theorem dX7_countBars_51 : decode cX7_countBars 51 = .ok (.iload 6, 2) := by decide +kernel
theorem dX7_countBars_53 : decode cX7_countBars 53 = .ok (.getstatic 105, 3) := by decide +kernel
theorem dX7_countBars_56 : decode cX7_countBars 56 = .ok (.iload 10, 2) := by decide +kernel
theorem dX7_countBars_58 : decode cX7_countBars 58 = .ok (.iaload, 1) := by decide +kernel
theorem dX7_countBars_59 : decode cX7_countBars 59 = .ok (.iadd, 1) := by decide +kernel
theorem dX7_countBars_60 : decode cX7_countBars 60 = .ok (.istore 11, 2) := by decide +kernel
theorem dX7_countBars_62 : decode cX7_countBars 62 = .ok (.iload 11, 2) := by decide +kernel
theorem dX7_countBars_64 : decode cX7_countBars 64 = .ok (.ifCond .lt 36, 3) := by decide +kernel
theorem dX7_countBars_67 : decode cX7_countBars 67 = .ok (.iload 11, 2) := by decide +kernel
theorem dX7_countBars_69 : decode cX7_countBars 69 = .ok (.bipush 48, 2) := by decide +kernel
theorem dX7_countBars_71 : decode cX7_countBars 71 = .ok (.if_icmp .ge 29, 3) := by decide +kernel
theorem dX7_countBars_74 : decode cX7_countBars 74 = .ok (.lload 7, 2) := by decide +kernel
theorem dX7_countBars_76 : decode cX7_countBars 76 = .ok (.iload 11, 2) := by decide +kernel
theorem dX7_countBars_78 : decode cX7_countBars 78 = .ok (.lushr, 1) := by decide +kernel
theorem dX7_countBars_79 : decode cX7_countBars 79 = .ok (.lconst 1, 1) := by decide +kernel
theorem dX7_countBars_80 : decode cX7_countBars 80 = .ok (.land, 1) := by decide +kernel
theorem dX7_countBars_81 : decode cX7_countBars 81 = .ok (.lconst 0, 1) := by decide +kernel
theorem dX7_countBars_82 : decode cX7_countBars 82 = .ok (.lcmp, 1) := by decide +kernel
theorem dX7_countBars_83 : decode cX7_countBars 83 = .ok (.ifCond .eq 17, 3) := by decide +kernel
theorem dX7_countBars_86 : decode cX7_countBars 86 = .ok (.iload 9, 2) := by decide +kernel
theorem dX7_countBars_88 : decode cX7_countBars 88 = .ok (.aload_n 0, 1) := by decide +kernel
theorem dX7_countBars_89 : decode cX7_countBars 89 = .ok (.getfield 17, 3) := by decide +kernel
theorem dX7_countBars_92 : decode cX7_countBars 92 = .ok (.iload 11, 2) := by decide +kernel
theorem dX7_countBars_94 : decode cX7_countBars 94 = .ok (.iaload, 1) := by decide +kernel
theorem dX7_countBars_95 : decode cX7_countBars 95 = .ok (.invokestatic 108, 3) := by decide +kernel
theorem dX7_countBars_98 : decode cX7_countBars 98 = .ok (.istore 9, 2) := by decide +kernel
theorem dX7_countBars_100 : decode cX7_countBars 100 = .ok (.iinc 10 1, 3) := by decide +kernel
theorem dX7_countBars_103 : decode cX7_countBars 103 = .ok (.goto (-61), 3) := by decide +kernel
theorem dX7_countBars_106 : decode cX7_countBars 106 = .ok (.aload_n 0, 1) := by decide +kernel
theorem dX7_countBars_107 : decode cX7_countBars 107 = .ok (.getfield 17, 3) := by decide +kernel
theorem dX7_countBars_110 : decode cX7_countBars 110 = .ok (.iload 6, 2) := by decide +kernel
theorem dX7_countBars_112 : decode cX7_countBars 112 = .ok (.iload 9, 2) := by decide +kernel
theorem dX7_countBars_114 : decode cX7_countBars 114 = .ok (.aload_n 1, 1) := by decide +kernel
theorem dX7_countBars_115 : decode cX7_countBars 115 = .ok (.iload 6, 2) := by decide +kernel
theorem dX7_countBars_117 : decode cX7_countBars 117 = .ok (.invokevirtual 114, 3) := by decide +kernel
theorem dX7_countBars_120 : decode cX7_countBars 120 = .ok (.iadd, 1) := by decide +kernel
theorem dX7_countBars_121 : decode cX7_countBars 121 = .ok (.iastore, 1) := by decide +kernel
theorem dX7_countBars_122 : decode cX7_countBars 122 = .ok (.iinc 6 1, 3) := by decide +kernel
theorem dX7_countBars_125 : decode cX7_countBars 125 = .ok (.goto (-122), 3) := by decide +kernel
theorem dX7_countBars_128 : decode cX7_countBars 128 = .ok (.return_, 1) := by decide +kernel
theorem dX7_propsToHold_0 : decode cX7_propsToHold 0 = .ok (.aload_n 0, 1) := by decide +kernel
theorem dX7_propsToHold_1 : decode cX7_propsToHold 1 = .ok (.getfield 13, 3) := by decide +kernel
theorem dX7_propsToHold_4 : decode cX7_propsToHold 4 = .ok (.iconst 0, 1) := by decide +kernel
theorem dX7_propsToHold_5 : decode cX7_propsToHold 5 = .ok (.aaload, 1) := by decide +kernel
theorem dX7_propsToHold_6 : decode cX7_propsToHold 6 = .ok (.astore_n 3, 1) := by decide +kernel
theorem dX7_propsToHold_7 : decode cX7_propsToHold 7 = .ok (.aload_n 3, 1) := by decide +kernel
theorem dX7_propsToHold_8 : decode cX7_propsToHold 8 = .ok (.aload_n 1, 1) := by decide +kernel
theorem dX7_propsToHold_9 : decode cX7_propsToHold 9 = .ok (.invokevirtual 29, 3) := by decide +kernel
theorem dX7_propsToHold_12 : decode cX7_propsToHold 12 = .ok (.iconst 0, 1) := by decide +kernel
theorem dX7_propsToHold_13 : decode cX7_propsToHold 13 = .ok (.istore 4, 2) := by decide +kernel
theorem dX7_propsToHold_15 : decode cX7_propsToHold 15 = .ok (.lconst 0, 1) := by decide +kernel
theorem dX7_propsToHold_16 : decode cX7_propsToHold 16 = .ok (.lstore 5, 2) := by decide +kernel
theorem dX7_propsToHold_18 : decode cX7_propsToHold 18 = .ok (.iconst 0, 1) := by decide +kernel
theorem dX7_propsToHold_19 : decode cX7_propsToHold 19 = .ok (.istore 7, 2) := by decide +kernel
theorem dX7_propsToHold_21 : decode cX7_propsToHold 21 = .ok (.iload 7, 2) := by decide +kernel
theorem dX7_propsToHold_23 : decode cX7_propsToHold 23 = .ok (.aload_n 0, 1) := by decide +kernel
theorem dX7_propsToHold_24 : decode cX7_propsToHold 24 = .ok (.getfield 21, 3) := by decide +kernel
theorem dX7_propsToHold_27 : decode cX7_propsToHold 27 = .ok (.getfield 117, 3) := by decide +kernel
theorem dX7_propsToHold_30 : decode cX7_propsToHold 30 = .ok (.if_icmp .ge 88, 3) := by decide +kernel
theorem dX7_propsToHold_33 : decode cX7_propsToHold 33 = .ok (.aload_n 3, 1) := by decide +kernel
theorem dX7_propsToHold_34 : decode cX7_propsToHold 34 = .ok (.iload 7, 2) := by decide +kernel
theorem dX7_propsToHold_36 : decode cX7_propsToHold 36 = .ok (.iconst 4, 1) := by decide +kernel
theorem dX7_propsToHold_37 : decode cX7_propsToHold 37 = .ok (.iload 4, 2) := by decide +kernel
theorem dX7_propsToHold_39 : decode cX7_propsToHold 39 = .ok (.isub, 1) := by decide +kernel
theorem dX7_propsToHold_40 : decode cX7_propsToHold 40 = .ok (.invokestatic 120, 3) := by decide +kernel
theorem dX7_propsToHold_43 : decode cX7_propsToHold 43 = .ok (.istore 8, 2) := by decide +kernel
theorem dX7_propsToHold_45 : decode cX7_propsToHold 45 = .ok (.iload 8, 2) := by decide +kernel
theorem dX7_propsToHold_47 : decode cX7_propsToHold 47 = .ok (.iconst (-1), 1) := by decide +kernel
theorem dX7_propsToHold_48 : decode cX7_propsToHold 48 = .ok (.if_icmp .ne 7, 3) := by decide +kernel
theorem dX7_propsToHold_51 : decode cX7_propsToHold 51 = .ok (.ldc2_w 81, 3) := by decide +kernel
theorem dX7_propsToHold_54 : decode cX7_propsToHold 54 = .ok (.lreturn, 1) := by decide +kernel
theorem dX7_propsToHold_55 : decode cX7_propsToHold 55 = .ok (.iload 4, 2) := by decide +kernel
theorem dX7_propsToHold_57 : decode cX7_propsToHold 57 = .ok (.iload 8, 2) := by decide +kernel
theorem dX7_propsToHold_59 : decode cX7_propsToHold 59 = .ok (.invokestatic 124, 3) := by decide +kernel
theorem dX7_propsToHold_62 : decode cX7_propsToHold 62 = .ok (.iadd, 1) := by decide +kernel
theorem dX7_propsToHold_63 : decode cX7_propsToHold 63 = .ok (.istore 4, 2) := by decide +kernel
theorem dX7_propsToHold_65 : decode cX7_propsToHold 65 = .ok (.iconst 0, 1) := by decide +kernel
theorem dX7_propsToHold_66 : decode cX7_propsToHold 66 = .ok (.istore 9, 2) := by decide +kernel
theorem dX7_propsToHold_68 : decode cX7_propsToHold 68 = .ok (.iload 9, 2) := by decide +kernel
theorem dX7_propsToHold_70 : decode cX7_propsToHold 70 = .ok (.bipush 8, 2) := by decide +kernel
theorem dX7_propsToHold_72 : decode cX7_propsToHold 72 = .ok (.if_icmp .ge 40, 3) := by decide +kernel
theorem dX7_propsToHold_75 : decode cX7_propsToHold 75 = .ok (.iload 8, 2) := by decide +kernel
theorem dX7_propsToHold_77 : decode cX7_propsToHold 77 = .ok (.iload 9, 2) := by decide +kernel
theorem dX7_propsToHold_79 : decode cX7_propsToHold 79 = .ok (.iushr, 1) := by decide +kernel
theorem dX7_propsToHold_80 : decode cX7_propsToHold 80 = .ok (.iconst 1, 1) := by decide +kernel
theorem dX7_propsToHold_81 : decode cX7_propsToHold 81 = .ok (.iand, 1) := by decide +kernel
theorem dX7_propsToHold_82 : decode cX7_propsToHold 82 = .ok (.ifCond .eq 24, 3) := by decide +kernel
theorem dX7_propsToHold_85 : decode cX7_propsToHold 85 = .ok (.lload 5, 2) := by decide +kernel
theorem dX7_propsToHold_87 : decode cX7_propsToHold 87 = .ok (.ldc2_w 68, 3) := by decide +kernel
theorem dX7_propsToHold_90 : decode cX7_propsToHold 90 = .ok (.lmul, 1) := by decide +kernel
theorem dX7_propsToHold_91 : decode cX7_propsToHold 91 = .ok (.bipush 8, 2) := by decide +kernel
theorem dX7_propsToHold_93 : decode cX7_propsToHold 93 = .ok (.iload 7, 2) := by decide +kernel
theorem dX7_propsToHold_95 : decode cX7_propsToHold 95 = .ok (.imul, 1) := by decide +kernel
theorem dX7_propsToHold_96 : decode cX7_propsToHold 96 = .ok (.i2l, 1) := by decide +kernel
theorem dX7_propsToHold_97 : decode cX7_propsToHold 97 = .ok (.ladd, 1) := by decide +kernel
theorem dX7_propsToHold_98 : decode cX7_propsToHold 98 = .ok (.iload 9, 2) := by decide +kernel
theorem dX7_propsToHold_100 : decode cX7_propsToHold 100 = .ok (.i2l, 1) := by decide +kernel
theorem dX7_propsToHold_101 : decode cX7_propsToHold 101 = .ok (.ladd, 1) := by decide +kernel
theorem dX7_propsToHold_102 : decode cX7_propsToHold 102 = .ok (.lconst 1, 1) := by decide +kernel
theorem dX7_propsToHold_103 : decode cX7_propsToHold 103 = .ok (.ladd, 1) := by decide +kernel
theorem dX7_propsToHold_104 : decode cX7_propsToHold 104 = .ok (.lstore 5, 2) := by decide +kernel
theorem dX7_propsToHold_106 : decode cX7_propsToHold 106 = .ok (.iinc 9 1, 3) := by decide +kernel
theorem dX7_propsToHold_109 : decode cX7_propsToHold 109 = .ok (.goto (-41), 3) := by decide +kernel
theorem dX7_propsToHold_112 : decode cX7_propsToHold 112 = .ok (.iinc 7 1, 3) := by decide +kernel
theorem dX7_propsToHold_115 : decode cX7_propsToHold 115 = .ok (.goto (-94), 3) := by decide +kernel
theorem dX7_propsToHold_118 : decode cX7_propsToHold 118 = .ok (.iload_n 2, 1) := by decide +kernel
theorem dX7_propsToHold_119 : decode cX7_propsToHold 119 = .ok (.ifCond .eq 8, 3) := by decide +kernel
theorem dX7_propsToHold_122 : decode cX7_propsToHold 122 = .ok (.lload 5, 2) := by decide +kernel
theorem dX7_propsToHold_124 : decode cX7_propsToHold 124 = .ok (.goto 6, 3) := by decide +kernel
theorem dX7_propsToHold_127 : decode cX7_propsToHold 127 = .ok (.iload 4, 2) := by decide +kernel
theorem dX7_propsToHold_129 : decode cX7_propsToHold 129 = .ok (.i2l, 1) := by decide +kernel
theorem dX7_propsToHold_130 : decode cX7_propsToHold 130 = .ok (.lreturn, 1) := by decide +kernel
theorem dX7_propsOfRow_0 : decode cX7_propsOfRow 0 = .ok (.aload_n 0, 1) := by decide +kernel
theorem dX7_propsOfRow_1 : decode cX7_propsOfRow 1 = .ok (.getfield 33, 3) := by decide +kernel
theorem dX7_propsOfRow_4 : decode cX7_propsOfRow 4 = .ok (.iload_n 1, 1) := by decide +kernel
theorem dX7_propsOfRow_5 : decode cX7_propsOfRow 5 = .ok (.invokestatic 128, 3) := by decide +kernel
theorem dX7_propsOfRow_8 : decode cX7_propsOfRow 8 = .ok (.istore_n 3, 1) := by decide +kernel
theorem dX7_propsOfRow_9 : decode cX7_propsOfRow 9 = .ok (.iconst 0, 1) := by decide +kernel
theorem dX7_propsOfRow_10 : decode cX7_propsOfRow 10 = .ok (.istore 4, 2) := by decide +kernel
theorem dX7_propsOfRow_12 : decode cX7_propsOfRow 12 = .ok (.iload 4, 2) := by decide +kernel
theorem dX7_propsOfRow_14 : decode cX7_propsOfRow 14 = .ok (.iload_n 2, 1) := by decide +kernel
theorem dX7_propsOfRow_15 : decode cX7_propsOfRow 15 = .ok (.if_icmp .gt 64, 3) := by decide +kernel
theorem dX7_propsOfRow_18 : decode cX7_propsOfRow 18 = .ok (.sipush 255, 3) := by decide +kernel
theorem dX7_propsOfRow_21 : decode cX7_propsOfRow 21 = .ok (.istore 5, 2) := by decide +kernel
theorem dX7_propsOfRow_23 : decode cX7_propsOfRow 23 = .ok (.iload 5, 2) := by decide +kernel
theorem dX7_propsOfRow_25 : decode cX7_propsOfRow 25 = .ok (.ifCond .lt 48, 3) := by decide +kernel
theorem dX7_propsOfRow_28 : decode cX7_propsOfRow 28 = .ok (.iload 5, 2) := by decide +kernel
theorem dX7_propsOfRow_30 : decode cX7_propsOfRow 30 = .ok (.invokestatic 124, 3) := by decide +kernel
theorem dX7_propsOfRow_33 : decode cX7_propsOfRow 33 = .ok (.iload 4, 2) := by decide +kernel
theorem dX7_propsOfRow_35 : decode cX7_propsOfRow 35 = .ok (.if_icmp .ne 32, 3) := by decide +kernel
theorem dX7_propsOfRow_38 : decode cX7_propsOfRow 38 = .ok (.iload 5, 2) := by decide +kernel
theorem dX7_propsOfRow_40 : decode cX7_propsOfRow 40 = .ok (.invokestatic 132, 3) := by decide +kernel
theorem dX7_propsOfRow_43 : decode cX7_propsOfRow 43 = .ok (.istore 6, 2) := by decide +kernel
theorem dX7_propsOfRow_45 : decode cX7_propsOfRow 45 = .ok (.iload 6, 2) := by decide +kernel
theorem dX7_propsOfRow_47 : decode cX7_propsOfRow 47 = .ok (.iload_n 3, 1) := by decide +kernel
theorem dX7_propsOfRow_48 : decode cX7_propsOfRow 48 = .ok (.iconst (-1), 1) := by decide +kernel
theorem dX7_propsOfRow_49 : decode cX7_propsOfRow 49 = .ok (.ixor, 1) := by decide +kernel
theorem dX7_propsOfRow_50 : decode cX7_propsOfRow 50 = .ok (.iand, 1) := by decide +kernel
theorem dX7_propsOfRow_51 : decode cX7_propsOfRow 51 = .ok (.ifCond .ne 16, 3) := by decide +kernel
theorem dX7_propsOfRow_54 : decode cX7_propsOfRow 54 = .ok (.aload_n 0, 1) := by decide +kernel
theorem dX7_propsOfRow_55 : decode cX7_propsOfRow 55 = .ok (.iload_n 1, 1) := by decide +kernel
theorem dX7_propsOfRow_56 : decode cX7_propsOfRow 56 = .ok (.iload 6, 2) := by decide +kernel
theorem dX7_propsOfRow_58 : decode cX7_propsOfRow 58 = .ok (.invokestatic 135, 3) := by decide +kernel
theorem dX7_propsOfRow_61 : decode cX7_propsOfRow 61 = .ok (.ifCond .eq 6, 3) := by decide +kernel
theorem dX7_propsOfRow_64 : decode cX7_propsOfRow 64 = .ok (.iload 6, 2) := by decide +kernel
theorem dX7_propsOfRow_66 : decode cX7_propsOfRow 66 = .ok (.ireturn, 1) := by decide +kernel
theorem dX7_propsOfRow_67 : decode cX7_propsOfRow 67 = .ok (.iinc 5 (-1), 3) := by decide +kernel
theorem dX7_propsOfRow_70 : decode cX7_propsOfRow 70 = .ok (.goto (-47), 3) := by decide +kernel
theorem dX7_propsOfRow_73 : decode cX7_propsOfRow 73 = .ok (.iinc 4 1, 3) := by decide +kernel
theorem dX7_propsOfRow_76 : decode cX7_propsOfRow 76 = .ok (.goto (-64), 3) := by decide +kernel
theorem dX7_propsOfRow_79 : decode cX7_propsOfRow 79 = .ok (.iconst (-1), 1) := by decide +kernel
theorem dX7_propsOfRow_80 : decode cX7_propsOfRow 80 = .ok (.ireturn, 1) := by decide +kernel
theorem dX7_mirrored_0 : decode cX7_mirrored 0 = .ok (.iconst 0, 1) := by decide +kernel
theorem dX7_mirrored_1 : decode cX7_mirrored 1 = .ok (.istore_n 1, 1) := by decide +kernel
theorem dX7_mirrored_2 : decode cX7_mirrored 2 = .ok (.iconst 0, 1) := by decide +kernel
theorem dX7_mirrored_3 : decode cX7_mirrored 3 = .ok (.istore_n 2, 1) := by decide +kernel
theorem dX7_mirrored_4 : decode cX7_mirrored 4 = .ok (.iload_n 2, 1) := by decide +kernel
theorem dX7_mirrored_5 : decode cX7_mirrored 5 = .ok (.bipush 8, 2) := by decide +kernel
theorem dX7_mirrored_7 : decode cX7_mirrored 7 = .ok (.if_icmp .ge 22, 3) := by decide +kernel
theorem dX7_mirrored_10 : decode cX7_mirrored 10 = .ok (.iload_n 1, 1) := by decide +kernel
theorem dX7_mirrored_11 : decode cX7_mirrored 11 = .ok (.iload_n 0, 1) := by decide +kernel
theorem dX7_mirrored_12 : decode cX7_mirrored 12 = .ok (.iload_n 2, 1) := by decide +kernel
theorem dX7_mirrored_13 : decode cX7_mirrored 13 = .ok (.iushr, 1) := by decide +kernel
theorem dX7_mirrored_14 : decode cX7_mirrored 14 = .ok (.iconst 1, 1) := by decide +kernel
theorem dX7_mirrored_15 : decode cX7_mirrored 15 = .ok (.iand, 1) := by decide +kernel
theorem dX7_mirrored_16 : decode cX7_mirrored 16 = .ok (.bipush 7, 2) := by decide +kernel
theorem dX7_mirrored_18 : decode cX7_mirrored 18 = .ok (.iload_n 2, 1) := by decide +kernel
theorem dX7_mirrored_19 : decode cX7_mirrored 19 = .ok (.isub, 1) := by decide +kernel
theorem dX7_mirrored_20 : decode cX7_mirrored 20 = .ok (.ishl, 1) := by decide +kernel
theorem dX7_mirrored_21 : decode cX7_mirrored 21 = .ok (.ior, 1) := by decide +kernel
theorem dX7_mirrored_22 : decode cX7_mirrored 22 = .ok (.istore_n 1, 1) := by decide +kernel
theorem dX7_mirrored_23 : decode cX7_mirrored 23 = .ok (.iinc 2 1, 3) := by decide +kernel
theorem dX7_mirrored_26 : decode cX7_mirrored 26 = .ok (.goto (-22), 3) := by decide +kernel
theorem dX7_mirrored_29 : decode cX7_mirrored 29 = .ok (.iload_n 1, 1) := by decide +kernel
theorem dX7_mirrored_30 : decode cX7_mirrored 30 = .ok (.ireturn, 1) := by decide +kernel
theorem dX7_isHeld_0 : decode cX7_isHeld 0 = .ok (.iload_n 2, 1) := by decide +kernel
theorem dX7_isHeld_1 : decode cX7_isHeld 1 = .ok (.i2l, 1) := by decide +kernel
theorem dX7_isHeld_2 : decode cX7_isHeld 2 = .ok (.bipush 8, 2) := by decide +kernel
theorem dX7_isHeld_4 : decode cX7_isHeld 4 = .ok (.iload_n 1, 1) := by decide +kernel
theorem dX7_isHeld_5 : decode cX7_isHeld 5 = .ok (.imul, 1) := by decide +kernel
theorem dX7_isHeld_6 : decode cX7_isHeld 6 = .ok (.lshl, 1) := by decide +kernel
theorem dX7_isHeld_7 : decode cX7_isHeld 7 = .ok (.lstore_n 3, 1) := by decide +kernel
theorem dX7_isHeld_8 : decode cX7_isHeld 8 = .ok (.aload_n 0, 1) := by decide +kernel
theorem dX7_isHeld_9 : decode cX7_isHeld 9 = .ok (.dup, 1) := by decide +kernel
theorem dX7_isHeld_10 : decode cX7_isHeld 10 = .ok (.getfield 33, 3) := by decide +kernel
theorem dX7_isHeld_13 : decode cX7_isHeld 13 = .ok (.lload_n 3, 1) := by decide +kernel
theorem dX7_isHeld_14 : decode cX7_isHeld 14 = .ok (.ldc2_w 81, 3) := by decide +kernel
theorem dX7_isHeld_17 : decode cX7_isHeld 17 = .ok (.lxor, 1) := by decide +kernel
theorem dX7_isHeld_18 : decode cX7_isHeld 18 = .ok (.land, 1) := by decide +kernel
theorem dX7_isHeld_19 : decode cX7_isHeld 19 = .ok (.putfield 33, 3) := by decide +kernel
theorem dX7_isHeld_22 : decode cX7_isHeld 22 = .ok (.aload_n 0, 1) := by decide +kernel
theorem dX7_isHeld_23 : decode cX7_isHeld 23 = .ok (.dup, 1) := by decide +kernel
theorem dX7_isHeld_24 : decode cX7_isHeld 24 = .ok (.getfield 139, 3) := by decide +kernel
theorem dX7_isHeld_27 : decode cX7_isHeld 27 = .ok (.lload_n 3, 1) := by decide +kernel
theorem dX7_isHeld_28 : decode cX7_isHeld 28 = .ok (.lor, 1) := by decide +kernel
theorem dX7_isHeld_29 : decode cX7_isHeld 29 = .ok (.putfield 139, 3) := by decide +kernel
theorem dX7_isHeld_32 : decode cX7_isHeld 32 = .ok (.iconst 1, 1) := by decide +kernel
theorem dX7_isHeld_33 : decode cX7_isHeld 33 = .ok (.istore 5, 2) := by decide +kernel
theorem dX7_isHeld_35 : decode cX7_isHeld 35 = .ok (.iconst 0, 1) := by decide +kernel
theorem dX7_isHeld_36 : decode cX7_isHeld 36 = .ok (.istore 6, 2) := by decide +kernel
theorem dX7_isHeld_38 : decode cX7_isHeld 38 = .ok (.iload 6, 2) := by decide +kernel
theorem dX7_isHeld_40 : decode cX7_isHeld 40 = .ok (.bipush 8, 2) := by decide +kernel
theorem dX7_isHeld_42 : decode cX7_isHeld 42 = .ok (.if_icmp .ge 35, 3) := by decide +kernel
theorem dX7_isHeld_45 : decode cX7_isHeld 45 = .ok (.iload 5, 2) := by decide +kernel
theorem dX7_isHeld_47 : decode cX7_isHeld 47 = .ok (.ifCond .eq 30, 3) := by decide +kernel
theorem dX7_isHeld_50 : decode cX7_isHeld 50 = .ok (.aload_n 0, 1) := by decide +kernel
theorem dX7_isHeld_51 : decode cX7_isHeld 51 = .ok (.bipush 8, 2) := by decide +kernel
theorem dX7_isHeld_53 : decode cX7_isHeld 53 = .ok (.iload_n 1, 1) := by decide +kernel
theorem dX7_isHeld_54 : decode cX7_isHeld 54 = .ok (.imul, 1) := by decide +kernel
theorem dX7_isHeld_55 : decode cX7_isHeld 55 = .ok (.iload 6, 2) := by decide +kernel
theorem dX7_isHeld_57 : decode cX7_isHeld 57 = .ok (.iadd, 1) := by decide +kernel
theorem dX7_isHeld_58 : decode cX7_isHeld 58 = .ok (.invokevirtual 142, 3) := by decide +kernel
theorem dX7_isHeld_61 : decode cX7_isHeld 61 = .ok (.ifCond .ne 7, 3) := by decide +kernel
theorem dX7_isHeld_64 : decode cX7_isHeld 64 = .ok (.iconst 1, 1) := by decide +kernel
theorem dX7_isHeld_65 : decode cX7_isHeld 65 = .ok (.goto 4, 3) := by decide +kernel
theorem dX7_isHeld_68 : decode cX7_isHeld 68 = .ok (.iconst 0, 1) := by decide +kernel
theorem dX7_isHeld_69 : decode cX7_isHeld 69 = .ok (.istore 5, 2) := by decide +kernel
theorem dX7_isHeld_71 : decode cX7_isHeld 71 = .ok (.iinc 6 1, 3) := by decide +kernel
theorem dX7_isHeld_74 : decode cX7_isHeld 74 = .ok (.goto (-36), 3) := by decide +kernel
theorem dX7_isHeld_77 : decode cX7_isHeld 77 = .ok (.aload_n 0, 1) := by decide +kernel
theorem dX7_isHeld_78 : decode cX7_isHeld 78 = .ok (.dup, 1) := by decide +kernel
theorem dX7_isHeld_79 : decode cX7_isHeld 79 = .ok (.getfield 33, 3) := by decide +kernel
theorem dX7_isHeld_82 : decode cX7_isHeld 82 = .ok (.lload_n 3, 1) := by decide +kernel
theorem dX7_isHeld_83 : decode cX7_isHeld 83 = .ok (.lor, 1) := by decide +kernel
theorem dX7_isHeld_84 : decode cX7_isHeld 84 = .ok (.putfield 33, 3) := by decide +kernel
theorem dX7_isHeld_87 : decode cX7_isHeld 87 = .ok (.aload_n 0, 1) := by decide +kernel
theorem dX7_isHeld_88 : decode cX7_isHeld 88 = .ok (.dup, 1) := by decide +kernel
theorem dX7_isHeld_89 : decode cX7_isHeld 89 = .ok (.getfield 139, 3) := by decide +kernel
theorem dX7_isHeld_92 : decode cX7_isHeld 92 = .ok (.lload_n 3, 1) := by decide +kernel
theorem dX7_isHeld_93 : decode cX7_isHeld 93 = .ok (.ldc2_w 81, 3) := by decide +kernel
theorem dX7_isHeld_96 : decode cX7_isHeld 96 = .ok (.lxor, 1) := by decide +kernel
theorem dX7_isHeld_97 : decode cX7_isHeld 97 = .ok (.land, 1) := by decide +kernel
theorem dX7_isHeld_98 : decode cX7_isHeld 98 = .ok (.putfield 139, 3) := by decide +kernel
theorem dX7_isHeld_101 : decode cX7_isHeld 101 = .ok (.iload 5, 2) := by decide +kernel
theorem dX7_isHeld_103 : decode cX7_isHeld 103 = .ok (.ireturn, 1) := by decide +kernel
theorem dX7_ordersToFill_0 : decode cX7_ordersToFill 0 = .ok (.iconst 0, 1) := by decide +kernel
theorem dX7_ordersToFill_1 : decode cX7_ordersToFill 1 = .ok (.istore_n 3, 1) := by decide +kernel
theorem dX7_ordersToFill_2 : decode cX7_ordersToFill 2 = .ok (.iconst 0, 1) := by decide +kernel
theorem dX7_ordersToFill_3 : decode cX7_ordersToFill 3 = .ok (.istore 4, 2) := by decide +kernel
theorem dX7_ordersToFill_5 : decode cX7_ordersToFill 5 = .ok (.iconst 1, 1) := by decide +kernel
theorem dX7_ordersToFill_6 : decode cX7_ordersToFill 6 = .ok (.istore 5, 2) := by decide +kernel
theorem dX7_ordersToFill_8 : decode cX7_ordersToFill 8 = .ok (.iload 5, 2) := by decide +kernel
theorem dX7_ordersToFill_10 : decode cX7_ordersToFill 10 = .ok (.iconst 1, 1) := by decide +kernel
theorem dX7_ordersToFill_11 : decode cX7_ordersToFill 11 = .ok (.aload_n 0, 1) := by decide +kernel
theorem dX7_ordersToFill_12 : decode cX7_ordersToFill 12 = .ok (.getfield 21, 3) := by decide +kernel
theorem dX7_ordersToFill_15 : decode cX7_ordersToFill 15 = .ok (.getfield 146, 3) := by decide +kernel
theorem dX7_ordersToFill_18 : decode cX7_ordersToFill 18 = .ok (.ishl, 1) := by decide +kernel
theorem dX7_ordersToFill_19 : decode cX7_ordersToFill 19 = .ok (.if_icmp .ge 32, 3) := by decide +kernel
theorem dX7_ordersToFill_22 : decode cX7_ordersToFill 22 = .ok (.aload_n 0, 1) := by decide +kernel
theorem dX7_ordersToFill_23 : decode cX7_ordersToFill 23 = .ok (.aload_n 1, 1) := by decide +kernel
theorem dX7_ordersToFill_24 : decode cX7_ordersToFill 24 = .ok (.iload 5, 2) := by decide +kernel
theorem dX7_ordersToFill_26 : decode cX7_ordersToFill 26 = .ok (.invokevirtual 149, 3) := by decide +kernel
theorem dX7_ordersToFill_29 : decode cX7_ordersToFill 29 = .ok (.istore 6, 2) := by decide +kernel
theorem dX7_ordersToFill_31 : decode cX7_ordersToFill 31 = .ok (.iload 6, 2) := by decide +kernel
theorem dX7_ordersToFill_33 : decode cX7_ordersToFill 33 = .ok (.iload 4, 2) := by decide +kernel
theorem dX7_ordersToFill_35 : decode cX7_ordersToFill 35 = .ok (.if_icmp .le 10, 3) := by decide +kernel
theorem dX7_ordersToFill_38 : decode cX7_ordersToFill 38 = .ok (.iload 6, 2) := by decide +kernel
theorem dX7_ordersToFill_40 : decode cX7_ordersToFill 40 = .ok (.istore 4, 2) := by decide +kernel
theorem dX7_ordersToFill_42 : decode cX7_ordersToFill 42 = .ok (.iload 5, 2) := by decide +kernel
theorem dX7_ordersToFill_44 : decode cX7_ordersToFill 44 = .ok (.istore_n 3, 1) := by decide +kernel
theorem dX7_ordersToFill_45 : decode cX7_ordersToFill 45 = .ok (.iinc 5 1, 3) := by decide +kernel
theorem dX7_ordersToFill_48 : decode cX7_ordersToFill 48 = .ok (.goto (-40), 3) := by decide +kernel
theorem dX7_ordersToFill_51 : decode cX7_ordersToFill 51 = .ok (.iload_n 2, 1) := by decide +kernel
theorem dX7_ordersToFill_52 : decode cX7_ordersToFill 52 = .ok (.ifCond .eq 7, 3) := by decide +kernel
theorem dX7_ordersToFill_55 : decode cX7_ordersToFill 55 = .ok (.iload_n 3, 1) := by decide +kernel
theorem dX7_ordersToFill_56 : decode cX7_ordersToFill 56 = .ok (.goto 5, 3) := by decide +kernel
theorem dX7_ordersToFill_59 : decode cX7_ordersToFill 59 = .ok (.iload 4, 2) := by decide +kernel
theorem dX7_ordersToFill_61 : decode cX7_ordersToFill 61 = .ok (.ireturn, 1) := by decide +kernel
theorem dX7_penceOfOrders_0 : decode cX7_penceOfOrders 0 = .ok (.iconst 0, 1) := by decide +kernel
theorem dX7_penceOfOrders_1 : decode cX7_penceOfOrders 1 = .ok (.istore_n 3, 1) := by decide +kernel
theorem dX7_penceOfOrders_2 : decode cX7_penceOfOrders 2 = .ok (.iconst 0, 1) := by decide +kernel
theorem dX7_penceOfOrders_3 : decode cX7_penceOfOrders 3 = .ok (.istore 4, 2) := by decide +kernel
theorem dX7_penceOfOrders_5 : decode cX7_penceOfOrders 5 = .ok (.iload 4, 2) := by decide +kernel
theorem dX7_penceOfOrders_7 : decode cX7_penceOfOrders 7 = .ok (.aload_n 0, 1) := by decide +kernel
theorem dX7_penceOfOrders_8 : decode cX7_penceOfOrders 8 = .ok (.getfield 21, 3) := by decide +kernel
theorem dX7_penceOfOrders_11 : decode cX7_penceOfOrders 11 = .ok (.getfield 146, 3) := by decide +kernel
theorem dX7_penceOfOrders_14 : decode cX7_penceOfOrders 14 = .ok (.if_icmp .ge 42, 3) := by decide +kernel
theorem dX7_penceOfOrders_17 : decode cX7_penceOfOrders 17 = .ok (.iload_n 2, 1) := by decide +kernel
theorem dX7_penceOfOrders_18 : decode cX7_penceOfOrders 18 = .ok (.iload 4, 2) := by decide +kernel
theorem dX7_penceOfOrders_20 : decode cX7_penceOfOrders 20 = .ok (.iushr, 1) := by decide +kernel
theorem dX7_penceOfOrders_21 : decode cX7_penceOfOrders 21 = .ok (.iconst 1, 1) := by decide +kernel
theorem dX7_penceOfOrders_22 : decode cX7_penceOfOrders 22 = .ok (.iand, 1) := by decide +kernel
theorem dX7_penceOfOrders_23 : decode cX7_penceOfOrders 23 = .ok (.ifCond .eq 27, 3) := by decide +kernel
theorem dX7_penceOfOrders_26 : decode cX7_penceOfOrders 26 = .ok (.aload_n 1, 1) := by decide +kernel
theorem dX7_penceOfOrders_27 : decode cX7_penceOfOrders 27 = .ok (.getfield 153, 3) := by decide +kernel
theorem dX7_penceOfOrders_30 : decode cX7_penceOfOrders 30 = .ok (.iload 4, 2) := by decide +kernel
theorem dX7_penceOfOrders_32 : decode cX7_penceOfOrders 32 = .ok (.iaload, 1) := by decide +kernel
theorem dX7_penceOfOrders_33 : decode cX7_penceOfOrders 33 = .ok (.ifCond .eq 5, 3) := by decide +kernel
theorem dX7_penceOfOrders_36 : decode cX7_penceOfOrders 36 = .ok (.iconst (-1), 1) := by decide +kernel
theorem dX7_penceOfOrders_37 : decode cX7_penceOfOrders 37 = .ok (.ireturn, 1) := by decide +kernel
theorem dX7_penceOfOrders_38 : decode cX7_penceOfOrders 38 = .ok (.iload_n 3, 1) := by decide +kernel
theorem dX7_penceOfOrders_39 : decode cX7_penceOfOrders 39 = .ok (.aload_n 0, 1) := by decide +kernel
theorem dX7_penceOfOrders_40 : decode cX7_penceOfOrders 40 = .ok (.getfield 21, 3) := by decide +kernel
theorem dX7_penceOfOrders_43 : decode cX7_penceOfOrders 43 = .ok (.iload 4, 2) := by decide +kernel
theorem dX7_penceOfOrders_45 : decode cX7_penceOfOrders 45 = .ok (.invokevirtual 156, 3) := by decide +kernel
theorem dX7_penceOfOrders_48 : decode cX7_penceOfOrders 48 = .ok (.iadd, 1) := by decide +kernel
theorem dX7_penceOfOrders_49 : decode cX7_penceOfOrders 49 = .ok (.istore_n 3, 1) := by decide +kernel
theorem dX7_penceOfOrders_50 : decode cX7_penceOfOrders 50 = .ok (.iinc 4 1, 3) := by decide +kernel
theorem dX7_penceOfOrders_53 : decode cX7_penceOfOrders 53 = .ok (.goto (-48), 3) := by decide +kernel
theorem dX7_penceOfOrders_56 : decode cX7_penceOfOrders 56 = .ok (.iconst 1, 1) := by decide +kernel
theorem dX7_penceOfOrders_57 : decode cX7_penceOfOrders 57 = .ok (.istore 4, 2) := by decide +kernel
theorem dX7_penceOfOrders_59 : decode cX7_penceOfOrders 59 = .ok (.iload 4, 2) := by decide +kernel
theorem dX7_penceOfOrders_61 : decode cX7_penceOfOrders 61 = .ok (.iconst 4, 1) := by decide +kernel
theorem dX7_penceOfOrders_62 : decode cX7_penceOfOrders 62 = .ok (.if_icmp .gt 76, 3) := by decide +kernel
theorem dX7_penceOfOrders_65 : decode cX7_penceOfOrders 65 = .ok (.iconst 0, 1) := by decide +kernel
theorem dX7_penceOfOrders_66 : decode cX7_penceOfOrders 66 = .ok (.istore 5, 2) := by decide +kernel
theorem dX7_penceOfOrders_68 : decode cX7_penceOfOrders 68 = .ok (.iconst 0, 1) := by decide +kernel
theorem dX7_penceOfOrders_69 : decode cX7_penceOfOrders 69 = .ok (.istore 6, 2) := by decide +kernel
theorem dX7_penceOfOrders_71 : decode cX7_penceOfOrders 71 = .ok (.iload 6, 2) := by decide +kernel
theorem dX7_penceOfOrders_73 : decode cX7_penceOfOrders 73 = .ok (.aload_n 0, 1) := by decide +kernel
theorem dX7_penceOfOrders_74 : decode cX7_penceOfOrders 74 = .ok (.getfield 21, 3) := by decide +kernel
theorem dX7_penceOfOrders_77 : decode cX7_penceOfOrders 77 = .ok (.getfield 146, 3) := by decide +kernel
theorem dX7_penceOfOrders_80 : decode cX7_penceOfOrders 80 = .ok (.if_icmp .ge 38, 3) := by decide +kernel
theorem dX7_penceOfOrders_83 : decode cX7_penceOfOrders 83 = .ok (.iload 5, 2) := by decide +kernel
theorem dX7_penceOfOrders_85 : decode cX7_penceOfOrders 85 = .ok (.iload_n 2, 1) := by decide +kernel
theorem dX7_penceOfOrders_86 : decode cX7_penceOfOrders 86 = .ok (.iload 6, 2) := by decide +kernel
theorem dX7_penceOfOrders_88 : decode cX7_penceOfOrders 88 = .ok (.iushr, 1) := by decide +kernel
theorem dX7_penceOfOrders_89 : decode cX7_penceOfOrders 89 = .ok (.iconst 1, 1) := by decide +kernel
theorem dX7_penceOfOrders_90 : decode cX7_penceOfOrders 90 = .ok (.iand, 1) := by decide +kernel
theorem dX7_penceOfOrders_91 : decode cX7_penceOfOrders 91 = .ok (.ifCond .eq 17, 3) := by decide +kernel
theorem dX7_penceOfOrders_94 : decode cX7_penceOfOrders 94 = .ok (.aload_n 0, 1) := by decide +kernel
theorem dX7_penceOfOrders_95 : decode cX7_penceOfOrders 95 = .ok (.getfield 21, 3) := by decide +kernel
theorem dX7_penceOfOrders_98 : decode cX7_penceOfOrders 98 = .ok (.iload 6, 2) := by decide +kernel
theorem dX7_penceOfOrders_100 : decode cX7_penceOfOrders 100 = .ok (.iload 4, 2) := by decide +kernel
theorem dX7_penceOfOrders_102 : decode cX7_penceOfOrders 102 = .ok (.invokevirtual 159, 3) := by decide +kernel
theorem dX7_penceOfOrders_105 : decode cX7_penceOfOrders 105 = .ok (.goto 4, 3) := by decide +kernel
theorem dX7_penceOfOrders_108 : decode cX7_penceOfOrders 108 = .ok (.iconst 0, 1) := by decide +kernel
theorem dX7_penceOfOrders_109 : decode cX7_penceOfOrders 109 = .ok (.iadd, 1) := by decide +kernel
theorem dX7_penceOfOrders_110 : decode cX7_penceOfOrders 110 = .ok (.istore 5, 2) := by decide +kernel
theorem dX7_penceOfOrders_112 : decode cX7_penceOfOrders 112 = .ok (.iinc 6 1, 3) := by decide +kernel
theorem dX7_penceOfOrders_115 : decode cX7_penceOfOrders 115 = .ok (.goto (-44), 3) := by decide +kernel
theorem dX7_penceOfOrders_118 : decode cX7_penceOfOrders 118 = .ok (.iload 5, 2) := by decide +kernel
theorem dX7_penceOfOrders_120 : decode cX7_penceOfOrders 120 = .ok (.aload_n 1, 1) := by decide +kernel
theorem dX7_penceOfOrders_121 : decode cX7_penceOfOrders 121 = .ok (.getfield 162, 3) := by decide +kernel
theorem dX7_penceOfOrders_124 : decode cX7_penceOfOrders 124 = .ok (.iload 4, 2) := by decide +kernel
theorem dX7_penceOfOrders_126 : decode cX7_penceOfOrders 126 = .ok (.iaload, 1) := by decide +kernel
theorem dX7_penceOfOrders_127 : decode cX7_penceOfOrders 127 = .ok (.if_icmp .le 5, 3) := by decide +kernel
theorem dX7_penceOfOrders_130 : decode cX7_penceOfOrders 130 = .ok (.iconst (-1), 1) := by decide +kernel
theorem dX7_penceOfOrders_131 : decode cX7_penceOfOrders 131 = .ok (.ireturn, 1) := by decide +kernel
theorem dX7_penceOfOrders_132 : decode cX7_penceOfOrders 132 = .ok (.iinc 4 1, 3) := by decide +kernel
theorem dX7_penceOfOrders_135 : decode cX7_penceOfOrders 135 = .ok (.goto (-76), 3) := by decide +kernel
theorem dX7_penceOfOrders_138 : decode cX7_penceOfOrders 138 = .ok (.iload_n 3, 1) := by decide +kernel
theorem dX7_penceOfOrders_139 : decode cX7_penceOfOrders 139 = .ok (.ireturn, 1) := by decide +kernel
theorem dX8_init_0 : decode cX8_init 0 = .ok (.aload_n 0, 1) := by decide +kernel
theorem dX8_init_1 : decode cX8_init 1 = .ok (.invokespecial 3, 3) := by decide +kernel
theorem dX8_init_4 : decode cX8_init 4 = .ok (.aload_n 0, 1) := by decide +kernel
theorem dX8_init_5 : decode cX8_init 5 = .ok (.sipush 600, 3) := by decide +kernel
theorem dX8_init_8 : decode cX8_init 8 = .ok (.newarray .byte, 2) := by decide +kernel
theorem dX8_init_10 : decode cX8_init 10 = .ok (.putfield 9, 3) := by decide +kernel
theorem dX8_init_13 : decode cX8_init 13 = .ok (.aload_n 0, 1) := by decide +kernel
theorem dX8_init_14 : decode cX8_init 14 = .ok (.iconst (-1), 1) := by decide +kernel
theorem dX8_init_15 : decode cX8_init 15 = .ok (.putfield 15, 3) := by decide +kernel
theorem dX8_init_18 : decode cX8_init 18 = .ok (.return_, 1) := by decide +kernel
theorem dX8_put_0 : decode cX8_put 0 = .ok (.bipush 24, 2) := by decide +kernel
theorem dX8_put_2 : decode cX8_put 2 = .ok (.istore_n 2, 1) := by decide +kernel
theorem dX8_put_3 : decode cX8_put 3 = .ok (.iload_n 2, 1) := by decide +kernel
theorem dX8_put_4 : decode cX8_put 4 = .ok (.ifCond .lt 44, 3) := by decide +kernel
theorem dX8_put_7 : decode cX8_put 7 = .ok (.aload_n 0, 1) := by decide +kernel
theorem dX8_put_8 : decode cX8_put 8 = .ok (.getfield 19, 3) := by decide +kernel
theorem dX8_put_11 : decode cX8_put 11 = .ok (.aload_n 0, 1) := by decide +kernel
theorem dX8_put_12 : decode cX8_put 12 = .ok (.getfield 9, 3) := by decide +kernel
theorem dX8_put_15 : decode cX8_put 15 = .ok (.arraylength, 1) := by decide +kernel
theorem dX8_put_16 : decode cX8_put 16 = .ok (.if_icmp .ge 26, 3) := by decide +kernel
theorem dX8_put_19 : decode cX8_put 19 = .ok (.aload_n 0, 1) := by decide +kernel
theorem dX8_put_20 : decode cX8_put 20 = .ok (.getfield 9, 3) := by decide +kernel
theorem dX8_put_23 : decode cX8_put 23 = .ok (.aload_n 0, 1) := by decide +kernel
theorem dX8_put_24 : decode cX8_put 24 = .ok (.getfield 19, 3) := by decide +kernel
theorem dX8_put_27 : decode cX8_put 27 = .ok (.iload_n 1, 1) := by decide +kernel
theorem dX8_put_28 : decode cX8_put 28 = .ok (.iload_n 2, 1) := by decide +kernel
theorem dX8_put_29 : decode cX8_put 29 = .ok (.iushr, 1) := by decide +kernel
theorem dX8_put_30 : decode cX8_put 30 = .ok (.i2b, 1) := by decide +kernel
theorem dX8_put_31 : decode cX8_put 31 = .ok (.bastore, 1) := by decide +kernel
theorem dX8_put_32 : decode cX8_put 32 = .ok (.aload_n 0, 1) := by decide +kernel
theorem dX8_put_33 : decode cX8_put 33 = .ok (.dup, 1) := by decide +kernel
theorem dX8_put_34 : decode cX8_put 34 = .ok (.getfield 19, 3) := by decide +kernel
theorem dX8_put_37 : decode cX8_put 37 = .ok (.iconst 1, 1) := by decide +kernel
theorem dX8_put_38 : decode cX8_put 38 = .ok (.iadd, 1) := by decide +kernel
theorem dX8_put_39 : decode cX8_put 39 = .ok (.putfield 19, 3) := by decide +kernel
theorem dX8_put_42 : decode cX8_put 42 = .ok (.iinc 2 (-8), 3) := by decide +kernel
theorem dX8_put_45 : decode cX8_put 45 = .ok (.goto (-42), 3) := by decide +kernel
theorem dX8_put_48 : decode cX8_put 48 = .ok (.return_, 1) := by decide +kernel
theorem dX8_begin_0 : decode cX8_begin 0 = .ok (.aload_n 0, 1) := by decide +kernel
theorem dX8_begin_1 : decode cX8_begin 1 = .ok (.iload_n 1, 1) := by decide +kernel
theorem dX8_begin_2 : decode cX8_begin 2 = .ok (.aload_n 0, 1) := by decide +kernel
theorem dX8_begin_3 : decode cX8_begin 3 = .ok (.getfield 9, 3) := by decide +kernel
theorem dX8_begin_6 : decode cX8_begin 6 = .ok (.arraylength, 1) := by decide +kernel
theorem dX8_begin_7 : decode cX8_begin 7 = .ok (.invokestatic 22, 3) := by decide +kernel
theorem dX8_begin_10 : decode cX8_begin 10 = .ok (.putfield 28, 3) := by decide +kernel
theorem dX8_begin_13 : decode cX8_begin 13 = .ok (.aload_n 0, 1) := by decide +kernel
theorem dX8_begin_14 : decode cX8_begin 14 = .ok (.iconst 0, 1) := by decide +kernel
theorem dX8_begin_15 : decode cX8_begin 15 = .ok (.putfield 31, 3) := by decide +kernel
theorem dX8_begin_18 : decode cX8_begin 18 = .ok (.aload_n 0, 1) := by decide +kernel
theorem dX8_begin_19 : decode cX8_begin 19 = .ok (.iconst 0, 1) := by decide +kernel
theorem dX8_begin_20 : decode cX8_begin 20 = .ok (.putfield 34, 3) := by decide +kernel
theorem dX8_begin_23 : decode cX8_begin 23 = .ok (.aload_n 0, 1) := by decide +kernel
theorem dX8_begin_24 : decode cX8_begin 24 = .ok (.iconst 0, 1) := by decide +kernel
theorem dX8_begin_25 : decode cX8_begin 25 = .ok (.putfield 37, 3) := by decide +kernel
theorem dX8_begin_28 : decode cX8_begin 28 = .ok (.aload_n 0, 1) := by decide +kernel
theorem dX8_begin_29 : decode cX8_begin 29 = .ok (.iconst (-1), 1) := by decide +kernel
theorem dX8_begin_30 : decode cX8_begin 30 = .ok (.putfield 15, 3) := by decide +kernel
theorem dX8_begin_33 : decode cX8_begin 33 = .ok (.aload_n 0, 1) := by decide +kernel
theorem dX8_begin_34 : decode cX8_begin 34 = .ok (.iconst 0, 1) := by decide +kernel
theorem dX8_begin_35 : decode cX8_begin 35 = .ok (.putfield 19, 3) := by decide +kernel
theorem dX8_begin_38 : decode cX8_begin 38 = .ok (.return_, 1) := by decide +kernel
theorem dX8_good_0 : decode cX8_good 0 = .ok (.aload_n 0, 1) := by decide +kernel
theorem dX8_good_1 : decode cX8_good 1 = .ok (.getfield 37, 3) := by decide +kernel
theorem dX8_good_4 : decode cX8_good 4 = .ok (.ifCond .ne 7, 3) := by decide +kernel
theorem dX8_good_7 : decode cX8_good 7 = .ok (.iconst 1, 1) := by decide +kernel
theorem dX8_good_8 : decode cX8_good 8 = .ok (.goto 4, 3) := by decide +kernel
theorem dX8_good_11 : decode cX8_good 11 = .ok (.iconst 0, 1) := by decide +kernel
theorem dX8_good_12 : decode cX8_good 12 = .ok (.ireturn, 1) := by decide +kernel
theorem dX8_fail_0 : decode cX8_fail 0 = .ok (.aload_n 0, 1) := by decide +kernel
theorem dX8_fail_1 : decode cX8_fail 1 = .ok (.getfield 37, 3) := by decide +kernel
theorem dX8_fail_4 : decode cX8_fail 4 = .ok (.ifCond .ne 13, 3) := by decide +kernel
theorem dX8_fail_7 : decode cX8_fail 7 = .ok (.aload_n 0, 1) := by decide +kernel
theorem dX8_fail_8 : decode cX8_fail 8 = .ok (.iload_n 1, 1) := by decide +kernel
theorem dX8_fail_9 : decode cX8_fail 9 = .ok (.putfield 37, 3) := by decide +kernel
theorem dX8_fail_12 : decode cX8_fail 12 = .ok (.aload_n 0, 1) := by decide +kernel
theorem dX8_fail_13 : decode cX8_fail 13 = .ok (.iload_n 2, 1) := by decide +kernel
theorem dX8_fail_14 : decode cX8_fail 14 = .ok (.putfield 15, 3) := by decide +kernel
theorem dX8_fail_17 : decode cX8_fail 17 = .ok (.return_, 1) := by decide +kernel
theorem dX8_failHere_0 : decode cX8_failHere 0 = .ok (.aload_n 0, 1) := by decide +kernel
theorem dX8_failHere_1 : decode cX8_failHere 1 = .ok (.invokevirtual 40, 3) := by decide +kernel
theorem dX8_failHere_4 : decode cX8_failHere 4 = .ok (.pop, 1) := by decide +kernel
theorem dX8_failHere_5 : decode cX8_failHere 5 = .ok (.aload_n 0, 1) := by decide +kernel
theorem dX8_failHere_6 : decode cX8_failHere 6 = .ok (.iload_n 1, 1) := by decide +kernel
theorem dX8_failHere_7 : decode cX8_failHere 7 = .ok (.aload_n 0, 1) := by decide +kernel
theorem dX8_failHere_8 : decode cX8_failHere 8 = .ok (.getfield 31, 3) := by decide +kernel
theorem dX8_failHere_11 : decode cX8_failHere 11 = .ok (.invokevirtual 44, 3) := by decide +kernel
theorem dX8_failHere_14 : decode cX8_failHere 14 = .ok (.return_, 1) := by decide +kernel
theorem dX8_peek_0 : decode cX8_peek 0 = .ok (.aload_n 0, 1) := by decide +kernel
theorem dX8_peek_1 : decode cX8_peek 1 = .ok (.getfield 31, 3) := by decide +kernel
theorem dX8_peek_4 : decode cX8_peek 4 = .ok (.aload_n 0, 1) := by decide +kernel
theorem dX8_peek_5 : decode cX8_peek 5 = .ok (.getfield 28, 3) := by decide +kernel
theorem dX8_peek_8 : decode cX8_peek 8 = .ok (.if_icmp .ge 30, 3) := by decide +kernel
theorem dX8_peek_11 : decode cX8_peek 11 = .ok (.aload_n 0, 1) := by decide +kernel
theorem dX8_peek_12 : decode cX8_peek 12 = .ok (.getfield 9, 3) := by decide +kernel
theorem dX8_peek_15 : decode cX8_peek 15 = .ok (.aload_n 0, 1) := by decide +kernel
theorem dX8_peek_16 : decode cX8_peek 16 = .ok (.getfield 31, 3) := by decide +kernel
theorem dX8_peek_19 : decode cX8_peek 19 = .ok (.baload, 1) := by decide +kernel
theorem dX8_peek_20 : decode cX8_peek 20 = .ok (.bipush 32, 2) := by decide +kernel
theorem dX8_peek_22 : decode cX8_peek 22 = .ok (.if_icmp .ne 16, 3) := by decide +kernel
theorem dX8_peek_25 : decode cX8_peek 25 = .ok (.aload_n 0, 1) := by decide +kernel
theorem dX8_peek_26 : decode cX8_peek 26 = .ok (.dup, 1) := by decide +kernel
theorem dX8_peek_27 : decode cX8_peek 27 = .ok (.getfield 31, 3) := by decide +kernel
theorem dX8_peek_30 : decode cX8_peek 30 = .ok (.iconst 1, 1) := by decide +kernel
theorem dX8_peek_31 : decode cX8_peek 31 = .ok (.iadd, 1) := by decide +kernel
theorem dX8_peek_32 : decode cX8_peek 32 = .ok (.putfield 31, 3) := by decide +kernel
theorem dX8_peek_35 : decode cX8_peek 35 = .ok (.goto (-35), 3) := by decide +kernel
theorem dX8_peek_38 : decode cX8_peek 38 = .ok (.aload_n 0, 1) := by decide +kernel
theorem dX8_peek_39 : decode cX8_peek 39 = .ok (.getfield 31, 3) := by decide +kernel
theorem dX8_peek_42 : decode cX8_peek 42 = .ok (.aload_n 0, 1) := by decide +kernel
theorem dX8_peek_43 : decode cX8_peek 43 = .ok (.getfield 28, 3) := by decide +kernel
theorem dX8_peek_46 : decode cX8_peek 46 = .ok (.if_icmp .ge 15, 3) := by decide +kernel
theorem dX8_peek_49 : decode cX8_peek 49 = .ok (.aload_n 0, 1) := by decide +kernel
theorem dX8_peek_50 : decode cX8_peek 50 = .ok (.getfield 9, 3) := by decide +kernel
theorem dX8_peek_53 : decode cX8_peek 53 = .ok (.aload_n 0, 1) := by decide +kernel
theorem dX8_peek_54 : decode cX8_peek 54 = .ok (.getfield 31, 3) := by decide +kernel
theorem dX8_peek_57 : decode cX8_peek 57 = .ok (.baload, 1) := by decide +kernel
theorem dX8_peek_58 : decode cX8_peek 58 = .ok (.goto 4, 3) := by decide +kernel
theorem dX8_peek_61 : decode cX8_peek 61 = .ok (.iconst 0, 1) := by decide +kernel
theorem dX8_peek_62 : decode cX8_peek 62 = .ok (.ireturn, 1) := by decide +kernel
theorem dX8_more_0 : decode cX8_more 0 = .ok (.aload_n 0, 1) := by decide +kernel
theorem dX8_more_1 : decode cX8_more 1 = .ok (.invokevirtual 40, 3) := by decide +kernel
theorem dX8_more_4 : decode cX8_more 4 = .ok (.pop, 1) := by decide +kernel
theorem dX8_more_5 : decode cX8_more 5 = .ok (.aload_n 0, 1) := by decide +kernel
theorem dX8_more_6 : decode cX8_more 6 = .ok (.getfield 37, 3) := by decide +kernel
theorem dX8_more_9 : decode cX8_more 9 = .ok (.ifCond .ne 18, 3) := by decide +kernel
theorem dX8_more_12 : decode cX8_more 12 = .ok (.aload_n 0, 1) := by decide +kernel
theorem dX8_more_13 : decode cX8_more 13 = .ok (.getfield 31, 3) := by decide +kernel
theorem dX8_more_16 : decode cX8_more 16 = .ok (.aload_n 0, 1) := by decide +kernel
theorem dX8_more_17 : decode cX8_more 17 = .ok (.getfield 28, 3) := by decide +kernel
theorem dX8_more_20 : decode cX8_more 20 = .ok (.if_icmp .ge 7, 3) := by decide +kernel
theorem dX8_more_23 : decode cX8_more 23 = .ok (.iconst 1, 1) := by decide +kernel
theorem dX8_more_24 : decode cX8_more 24 = .ok (.goto 4, 3) := by decide +kernel
theorem dX8_more_27 : decode cX8_more 27 = .ok (.iconst 0, 1) := by decide +kernel
theorem dX8_more_28 : decode cX8_more 28 = .ok (.ireturn, 1) := by decide +kernel
theorem dX8_isNext_0 : decode cX8_isNext 0 = .ok (.aload_n 0, 1) := by decide +kernel
theorem dX8_isNext_1 : decode cX8_isNext 1 = .ok (.invokevirtual 40, 3) := by decide +kernel
theorem dX8_isNext_4 : decode cX8_isNext 4 = .ok (.iload_n 1, 1) := by decide +kernel
theorem dX8_isNext_5 : decode cX8_isNext 5 = .ok (.if_icmp .ne 7, 3) := by decide +kernel
theorem dX8_isNext_8 : decode cX8_isNext 8 = .ok (.iconst 1, 1) := by decide +kernel
theorem dX8_isNext_9 : decode cX8_isNext 9 = .ok (.goto 4, 3) := by decide +kernel
theorem dX8_isNext_12 : decode cX8_isNext 12 = .ok (.iconst 0, 1) := by decide +kernel
theorem dX8_isNext_13 : decode cX8_isNext 13 = .ok (.ireturn, 1) := by decide +kernel
theorem dX8_isDigitNext_0 : decode cX8_isDigitNext 0 = .ok (.aload_n 0, 1) := by decide +kernel
theorem dX8_isDigitNext_1 : decode cX8_isDigitNext 1 = .ok (.invokevirtual 40, 3) := by decide +kernel
theorem dX8_isDigitNext_4 : decode cX8_isDigitNext 4 = .ok (.istore_n 1, 1) := by decide +kernel
theorem dX8_isDigitNext_5 : decode cX8_isDigitNext 5 = .ok (.iload_n 1, 1) := by decide +kernel
theorem dX8_isDigitNext_6 : decode cX8_isDigitNext 6 = .ok (.bipush 48, 2) := by decide +kernel
theorem dX8_isDigitNext_8 : decode cX8_isDigitNext 8 = .ok (.if_icmp .lt 13, 3) := by decide +kernel
theorem dX8_isDigitNext_11 : decode cX8_isDigitNext 11 = .ok (.iload_n 1, 1) := by decide +kernel
theorem dX8_isDigitNext_12 : decode cX8_isDigitNext 12 = .ok (.bipush 57, 2) := by decide +kernel
theorem dX8_isDigitNext_14 : decode cX8_isDigitNext 14 = .ok (.if_icmp .gt 7, 3) := by decide +kernel
theorem dX8_isDigitNext_17 : decode cX8_isDigitNext 17 = .ok (.iconst 1, 1) := by decide +kernel
theorem dX8_isDigitNext_18 : decode cX8_isDigitNext 18 = .ok (.goto 4, 3) := by decide +kernel
theorem dX8_isDigitNext_21 : decode cX8_isDigitNext 21 = .ok (.iconst 0, 1) := by decide +kernel
theorem dX8_isDigitNext_22 : decode cX8_isDigitNext 22 = .ok (.ireturn, 1) := by decide +kernel
theorem dX8_sign_0 : decode cX8_sign 0 = .ok (.aload_n 0, 1) := by decide +kernel
theorem dX8_sign_1 : decode cX8_sign 1 = .ok (.invokevirtual 40, 3) := by decide +kernel
theorem dX8_sign_4 : decode cX8_sign 4 = .ok (.iload_n 1, 1) := by decide +kernel
theorem dX8_sign_5 : decode cX8_sign 5 = .ok (.if_icmp .eq 15, 3) := by decide +kernel
theorem dX8_sign_8 : decode cX8_sign 8 = .ok (.aload_n 0, 1) := by decide +kernel
theorem dX8_sign_9 : decode cX8_sign 9 = .ok (.iconst 1, 1) := by decide +kernel
theorem dX8_sign_10 : decode cX8_sign 10 = .ok (.aload_n 0, 1) := by decide +kernel
theorem dX8_sign_11 : decode cX8_sign 11 = .ok (.getfield 31, 3) := by decide +kernel
theorem dX8_sign_14 : decode cX8_sign 14 = .ok (.invokevirtual 44, 3) := by decide +kernel
theorem dX8_sign_17 : decode cX8_sign 17 = .ok (.goto 24, 3) := by decide +kernel
theorem dX8_sign_20 : decode cX8_sign 20 = .ok (.aload_n 0, 1) := by decide +kernel
theorem dX8_sign_21 : decode cX8_sign 21 = .ok (.getfield 31, 3) := by decide +kernel
theorem dX8_sign_24 : decode cX8_sign 24 = .ok (.aload_n 0, 1) := by decide +kernel
theorem dX8_sign_25 : decode cX8_sign 25 = .ok (.getfield 28, 3) := by decide +kernel
theorem dX8_sign_28 : decode cX8_sign 28 = .ok (.if_icmp .ge 13, 3) := by decide +kernel
theorem dX8_sign_31 : decode cX8_sign 31 = .ok (.aload_n 0, 1) := by decide +kernel
theorem dX8_sign_32 : decode cX8_sign 32 = .ok (.dup, 1) := by decide +kernel
theorem dX8_sign_33 : decode cX8_sign 33 = .ok (.getfield 31, 3) := by decide +kernel
theorem dX8_sign_36 : decode cX8_sign 36 = .ok (.iconst 1, 1) := by decide +kernel
theorem dX8_sign_37 : decode cX8_sign 37 = .ok (.iadd, 1) := by decide +kernel
theorem dX8_sign_38 : decode cX8_sign 38 = .ok (.putfield 31, 3) := by decide +kernel
theorem dX8_sign_41 : decode cX8_sign 41 = .ok (.return_, 1) := by decide +kernel
theorem dX8_finish_0 : decode cX8_finish 0 = .ok (.aload_n 0, 1) := by decide +kernel
theorem dX8_finish_1 : decode cX8_finish 1 = .ok (.invokevirtual 40, 3) := by decide +kernel
theorem dX8_finish_4 : decode cX8_finish 4 = .ok (.pop, 1) := by decide +kernel
theorem dX8_finish_5 : decode cX8_finish 5 = .ok (.aload_n 0, 1) := by decide +kernel
theorem dX8_finish_6 : decode cX8_finish 6 = .ok (.getfield 31, 3) := by decide +kernel
theorem dX8_finish_9 : decode cX8_finish 9 = .ok (.aload_n 0, 1) := by decide +kernel
theorem dX8_finish_10 : decode cX8_finish 10 = .ok (.getfield 28, 3) := by decide +kernel
theorem dX8_finish_13 : decode cX8_finish 13 = .ok (.if_icmp .ge 12, 3) := by decide +kernel
theorem dX8_finish_16 : decode cX8_finish 16 = .ok (.aload_n 0, 1) := by decide +kernel
theorem dX8_finish_17 : decode cX8_finish 17 = .ok (.iconst 1, 1) := by decide +kernel
theorem dX8_finish_18 : decode cX8_finish 18 = .ok (.aload_n 0, 1) := by decide +kernel
theorem dX8_finish_19 : decode cX8_finish 19 = .ok (.getfield 31, 3) := by decide +kernel
theorem dX8_finish_22 : decode cX8_finish 22 = .ok (.invokevirtual 44, 3) := by decide +kernel
theorem dX8_finish_25 : decode cX8_finish 25 = .ok (.return_, 1) := by decide +kernel
theorem dX8_number_0 : decode cX8_number 0 = .ok (.aload_n 0, 1) := by decide +kernel
theorem dX8_number_1 : decode cX8_number 1 = .ok (.invokevirtual 40, 3) := by decide +kernel
theorem dX8_number_4 : decode cX8_number 4 = .ok (.pop, 1) := by decide +kernel
theorem dX8_number_5 : decode cX8_number 5 = .ok (.aload_n 0, 1) := by decide +kernel
theorem dX8_number_6 : decode cX8_number 6 = .ok (.aload_n 0, 1) := by decide +kernel
theorem dX8_number_7 : decode cX8_number 7 = .ok (.getfield 31, 3) := by decide +kernel
theorem dX8_number_10 : decode cX8_number 10 = .ok (.putfield 34, 3) := by decide +kernel
theorem dX8_number_13 : decode cX8_number 13 = .ok (.iconst 0, 1) := by decide +kernel
theorem dX8_number_14 : decode cX8_number 14 = .ok (.istore_n 3, 1) := by decide +kernel
theorem dX8_number_15 : decode cX8_number 15 = .ok (.aload_n 0, 1) := by decide +kernel
theorem dX8_number_16 : decode cX8_number 16 = .ok (.getfield 31, 3) := by decide +kernel
theorem dX8_number_19 : decode cX8_number 19 = .ok (.aload_n 0, 1) := by decide +kernel
theorem dX8_number_20 : decode cX8_number 20 = .ok (.getfield 28, 3) := by decide +kernel
theorem dX8_number_23 : decode cX8_number 23 = .ok (.if_icmp .ge 73, 3) := by decide +kernel
theorem dX8_number_26 : decode cX8_number 26 = .ok (.aload_n 0, 1) := by decide +kernel
theorem dX8_number_27 : decode cX8_number 27 = .ok (.getfield 9, 3) := by decide +kernel
theorem dX8_number_30 : decode cX8_number 30 = .ok (.aload_n 0, 1) := by decide +kernel
theorem dX8_number_31 : decode cX8_number 31 = .ok (.getfield 31, 3) := by decide +kernel
theorem dX8_number_34 : decode cX8_number 34 = .ok (.baload, 1) := by decide +kernel
theorem dX8_number_35 : decode cX8_number 35 = .ok (.bipush 48, 2) := by decide +kernel
theorem dX8_number_37 : decode cX8_number 37 = .ok (.if_icmp .lt 59, 3) := by decide +kernel
theorem dX8_number_40 : decode cX8_number 40 = .ok (.aload_n 0, 1) := by decide +kernel
theorem dX8_number_41 : decode cX8_number 41 = .ok (.getfield 9, 3) := by decide +kernel
theorem dX8_number_44 : decode cX8_number 44 = .ok (.aload_n 0, 1) := by decide +kernel
theorem dX8_number_45 : decode cX8_number 45 = .ok (.getfield 31, 3) := by decide +kernel
theorem dX8_number_48 : decode cX8_number 48 = .ok (.baload, 1) := by decide +kernel
theorem dX8_number_49 : decode cX8_number 49 = .ok (.bipush 57, 2) := by decide +kernel
theorem dX8_number_51 : decode cX8_number 51 = .ok (.if_icmp .gt 45, 3) := by decide +kernel
theorem dX8_number_54 : decode cX8_number 54 = .ok (.iload_n 3, 1) := by decide +kernel
theorem dX8_number_55 : decode cX8_number 55 = .ok (.sipush 10000, 3) := by decide +kernel
theorem dX8_number_58 : decode cX8_number 58 = .ok (.if_icmp .ge 23, 3) := by decide +kernel
theorem dX8_number_61 : decode cX8_number 61 = .ok (.iload_n 3, 1) := by decide +kernel
theorem dX8_number_62 : decode cX8_number 62 = .ok (.bipush 10, 2) := by decide +kernel
theorem dX8_number_64 : decode cX8_number 64 = .ok (.imul, 1) := by decide +kernel
theorem dX8_number_65 : decode cX8_number 65 = .ok (.aload_n 0, 1) := by decide +kernel
theorem dX8_number_66 : decode cX8_number 66 = .ok (.getfield 9, 3) := by decide +kernel
theorem dX8_number_69 : decode cX8_number 69 = .ok (.aload_n 0, 1) := by decide +kernel
theorem dX8_number_70 : decode cX8_number 70 = .ok (.getfield 31, 3) := by decide +kernel
theorem dX8_number_73 : decode cX8_number 73 = .ok (.baload, 1) := by decide +kernel
theorem dX8_number_74 : decode cX8_number 74 = .ok (.iadd, 1) := by decide +kernel
theorem dX8_number_75 : decode cX8_number 75 = .ok (.bipush 48, 2) := by decide +kernel
theorem dX8_number_77 : decode cX8_number 77 = .ok (.isub, 1) := by decide +kernel
theorem dX8_number_78 : decode cX8_number 78 = .ok (.goto 4, 3) := by decide +kernel
theorem dX8_number_81 : decode cX8_number 81 = .ok (.iload_n 3, 1) := by decide +kernel
theorem dX8_number_82 : decode cX8_number 82 = .ok (.istore_n 3, 1) := by decide +kernel
theorem dX8_number_83 : decode cX8_number 83 = .ok (.aload_n 0, 1) := by decide +kernel
theorem dX8_number_84 : decode cX8_number 84 = .ok (.dup, 1) := by decide +kernel
theorem dX8_number_85 : decode cX8_number 85 = .ok (.getfield 31, 3) := by decide +kernel
theorem dX8_number_88 : decode cX8_number 88 = .ok (.iconst 1, 1) := by decide +kernel
theorem dX8_number_89 : decode cX8_number 89 = .ok (.iadd, 1) := by decide +kernel
theorem dX8_number_90 : decode cX8_number 90 = .ok (.putfield 31, 3) := by decide +kernel
theorem dX8_number_93 : decode cX8_number 93 = .ok (.goto (-78), 3) := by decide +kernel
theorem dX8_number_96 : decode cX8_number 96 = .ok (.aload_n 0, 1) := by decide +kernel
theorem dX8_number_97 : decode cX8_number 97 = .ok (.getfield 31, 3) := by decide +kernel
theorem dX8_number_100 : decode cX8_number 100 = .ok (.aload_n 0, 1) := by decide +kernel
theorem dX8_number_101 : decode cX8_number 101 = .ok (.getfield 34, 3) := by decide +kernel
theorem dX8_number_104 : decode cX8_number 104 = .ok (.if_icmp .ne 15, 3) := by decide +kernel
theorem dX8_number_107 : decode cX8_number 107 = .ok (.aload_n 0, 1) := by decide +kernel
theorem dX8_number_108 : decode cX8_number 108 = .ok (.iconst 1, 1) := by decide +kernel
theorem dX8_number_109 : decode cX8_number 109 = .ok (.aload_n 0, 1) := by decide +kernel
theorem dX8_number_110 : decode cX8_number 110 = .ok (.getfield 34, 3) := by decide +kernel
theorem dX8_number_113 : decode cX8_number 113 = .ok (.invokevirtual 44, 3) := by decide +kernel
theorem dX8_number_116 : decode cX8_number 116 = .ok (.goto 22, 3) := by decide +kernel
theorem dX8_number_119 : decode cX8_number 119 = .ok (.iload_n 3, 1) := by decide +kernel
theorem dX8_number_120 : decode cX8_number 120 = .ok (.iload_n 1, 1) := by decide +kernel
theorem dX8_number_121 : decode cX8_number 121 = .ok (.if_icmp .lt 8, 3) := by decide +kernel
theorem dX8_number_124 : decode cX8_number 124 = .ok (.iload_n 3, 1) := by decide +kernel
theorem dX8_number_125 : decode cX8_number 125 = .ok (.iload_n 2, 1) := by decide +kernel
theorem dX8_number_126 : decode cX8_number 126 = .ok (.if_icmp .le 12, 3) := by decide +kernel
theorem dX8_number_129 : decode cX8_number 129 = .ok (.aload_n 0, 1) := by decide +kernel
theorem dX8_number_130 : decode cX8_number 130 = .ok (.iconst 2, 1) := by decide +kernel
theorem dX8_number_131 : decode cX8_number 131 = .ok (.aload_n 0, 1) := by decide +kernel
theorem dX8_number_132 : decode cX8_number 132 = .ok (.getfield 34, 3) := by decide +kernel
theorem dX8_number_135 : decode cX8_number 135 = .ok (.invokevirtual 44, 3) := by decide +kernel
theorem dX8_number_138 : decode cX8_number 138 = .ok (.aload_n 0, 1) := by decide +kernel
theorem dX8_number_139 : decode cX8_number 139 = .ok (.getfield 37, 3) := by decide +kernel
theorem dX8_number_142 : decode cX8_number 142 = .ok (.ifCond .ne 7, 3) := by decide +kernel
theorem dX8_number_145 : decode cX8_number 145 = .ok (.iload_n 3, 1) := by decide +kernel
theorem dX8_number_146 : decode cX8_number 146 = .ok (.goto 4, 3) := by decide +kernel
theorem dX8_number_149 : decode cX8_number 149 = .ok (.iload_n 1, 1) := by decide +kernel
theorem dX8_number_150 : decode cX8_number 150 = .ok (.ireturn, 1) := by decide +kernel
theorem dX8_word_0 : decode cX8_word 0 = .ok (.aload_n 0, 1) := by decide +kernel
theorem dX8_word_1 : decode cX8_word 1 = .ok (.invokevirtual 40, 3) := by decide +kernel
theorem dX8_word_4 : decode cX8_word 4 = .ok (.pop, 1) := by decide +kernel
theorem dX8_word_5 : decode cX8_word 5 = .ok (.aload_n 0, 1) := by decide +kernel
theorem dX8_word_6 : decode cX8_word 6 = .ok (.aload_n 0, 1) := by decide +kernel
theorem dX8_word_7 : decode cX8_word 7 = .ok (.getfield 31, 3) := by decide +kernel
theorem dX8_word_10 : decode cX8_word 10 = .ok (.putfield 34, 3) := by decide +kernel
theorem dX8_word_13 : decode cX8_word 13 = .ok (.aload_n 0, 1) := by decide +kernel
theorem dX8_word_14 : decode cX8_word 14 = .ok (.getfield 31, 3) := by decide +kernel
theorem dX8_word_17 : decode cX8_word 17 = .ok (.aload_n 0, 1) := by decide +kernel
theorem dX8_word_18 : decode cX8_word 18 = .ok (.getfield 28, 3) := by decide +kernel
theorem dX8_word_21 : decode cX8_word 21 = .ok (.if_icmp .ge 44, 3) := by decide +kernel
theorem dX8_word_24 : decode cX8_word 24 = .ok (.aload_n 0, 1) := by decide +kernel
theorem dX8_word_25 : decode cX8_word 25 = .ok (.getfield 9, 3) := by decide +kernel
theorem dX8_word_28 : decode cX8_word 28 = .ok (.aload_n 0, 1) := by decide +kernel
theorem dX8_word_29 : decode cX8_word 29 = .ok (.getfield 31, 3) := by decide +kernel
theorem dX8_word_32 : decode cX8_word 32 = .ok (.baload, 1) := by decide +kernel
theorem dX8_word_33 : decode cX8_word 33 = .ok (.bipush 97, 2) := by decide +kernel
theorem dX8_word_35 : decode cX8_word 35 = .ok (.if_icmp .lt 30, 3) := by decide +kernel
theorem dX8_word_38 : decode cX8_word 38 = .ok (.aload_n 0, 1) := by decide +kernel
theorem dX8_word_39 : decode cX8_word 39 = .ok (.getfield 9, 3) := by decide +kernel
theorem dX8_word_42 : decode cX8_word 42 = .ok (.aload_n 0, 1) := by decide +kernel
theorem dX8_word_43 : decode cX8_word 43 = .ok (.getfield 31, 3) := by decide +kernel
theorem dX8_word_46 : decode cX8_word 46 = .ok (.baload, 1) := by decide +kernel
theorem dX8_word_47 : decode cX8_word 47 = .ok (.bipush 122, 2) := by decide +kernel
theorem dX8_word_49 : decode cX8_word 49 = .ok (.if_icmp .gt 16, 3) := by decide +kernel
theorem dX8_word_52 : decode cX8_word 52 = .ok (.aload_n 0, 1) := by decide +kernel
theorem dX8_word_53 : decode cX8_word 53 = .ok (.dup, 1) := by decide +kernel
theorem dX8_word_54 : decode cX8_word 54 = .ok (.getfield 31, 3) := by decide +kernel
theorem dX8_word_57 : decode cX8_word 57 = .ok (.iconst 1, 1) := by decide +kernel
theorem dX8_word_58 : decode cX8_word 58 = .ok (.iadd, 1) := by decide +kernel
theorem dX8_word_59 : decode cX8_word 59 = .ok (.putfield 31, 3) := by decide +kernel
theorem dX8_word_62 : decode cX8_word 62 = .ok (.goto (-49), 3) := by decide +kernel
theorem dX8_word_65 : decode cX8_word 65 = .ok (.iconst 0, 1) := by decide +kernel
theorem dX8_word_66 : decode cX8_word 66 = .ok (.istore_n 2, 1) := by decide +kernel
theorem dX8_word_67 : decode cX8_word 67 = .ok (.iconst 0, 1) := by decide +kernel
theorem dX8_word_68 : decode cX8_word 68 = .ok (.istore_n 3, 1) := by decide +kernel
theorem dX8_word_69 : decode cX8_word 69 = .ok (.iconst 0, 1) := by decide +kernel
theorem dX8_word_70 : decode cX8_word 70 = .ok (.istore 4, 2) := by decide +kernel
theorem dX8_word_72 : decode cX8_word 72 = .ok (.iload 4, 2) := by decide +kernel
theorem dX8_word_74 : decode cX8_word 74 = .ok (.aload_n 1, 1) := by decide +kernel
theorem dX8_word_75 : decode cX8_word 75 = .ok (.invokevirtual 48, 3) := by decide +kernel
theorem dX8_word_78 : decode cX8_word 78 = .ok (.if_icmp .gt 61, 3) := by decide +kernel
theorem dX8_word_81 : decode cX8_word 81 = .ok (.iload 4, 2) := by decide +kernel
theorem dX8_word_83 : decode cX8_word 83 = .ok (.aload_n 1, 1) := by decide +kernel
theorem dX8_word_84 : decode cX8_word 84 = .ok (.invokevirtual 48, 3) := by decide +kernel
theorem dX8_word_87 : decode cX8_word 87 = .ok (.if_icmp .eq 14, 3) := by decide +kernel
theorem dX8_word_90 : decode cX8_word 90 = .ok (.aload_n 1, 1) := by decide +kernel
theorem dX8_word_91 : decode cX8_word 91 = .ok (.iload 4, 2) := by decide +kernel
theorem dX8_word_93 : decode cX8_word 93 = .ok (.invokevirtual 53, 3) := by decide +kernel
theorem dX8_word_96 : decode cX8_word 96 = .ok (.bipush 32, 2) := by decide +kernel
theorem dX8_word_98 : decode cX8_word 98 = .ok (.if_icmp .ne 35, 3) := by decide +kernel
theorem dX8_word_101 : decode cX8_word 101 = .ok (.aload_n 0, 1) := by decide +kernel
theorem dX8_word_102 : decode cX8_word 102 = .ok (.aload_n 1, 1) := by decide +kernel
theorem dX8_word_103 : decode cX8_word 103 = .ok (.iload_n 3, 1) := by decide +kernel
theorem dX8_word_104 : decode cX8_word 104 = .ok (.iload 4, 2) := by decide +kernel
theorem dX8_word_106 : decode cX8_word 106 = .ok (.invokevirtual 57, 3) := by decide +kernel
theorem dX8_word_109 : decode cX8_word 109 = .ok (.ifCond .eq 16, 3) := by decide +kernel
theorem dX8_word_112 : decode cX8_word 112 = .ok (.aload_n 0, 1) := by decide +kernel
theorem dX8_word_113 : decode cX8_word 113 = .ok (.getfield 37, 3) := by decide +kernel
theorem dX8_word_116 : decode cX8_word 116 = .ok (.ifCond .ne 7, 3) := by decide +kernel
theorem dX8_word_119 : decode cX8_word 119 = .ok (.iload_n 2, 1) := by decide +kernel
theorem dX8_word_120 : decode cX8_word 120 = .ok (.goto 4, 3) := by decide +kernel
theorem dX8_word_123 : decode cX8_word 123 = .ok (.iconst (-1), 1) := by decide +kernel
theorem dX8_word_124 : decode cX8_word 124 = .ok (.ireturn, 1) := by decide +kernel
theorem dX8_word_125 : decode cX8_word 125 = .ok (.iinc 2 1, 3) := by decide +kernel
theorem dX8_word_128 : decode cX8_word 128 = .ok (.iload 4, 2) := by decide +kernel
theorem dX8_word_130 : decode cX8_word 130 = .ok (.iconst 1, 1) := by decide +kernel
theorem dX8_word_131 : decode cX8_word 131 = .ok (.iadd, 1) := by decide +kernel
theorem dX8_word_132 : decode cX8_word 132 = .ok (.istore_n 3, 1) := by decide +kernel
theorem dX8_word_133 : decode cX8_word 133 = .ok (.iinc 4 1, 3) := by decide +kernel
theorem dX8_word_136 : decode cX8_word 136 = .ok (.goto (-64), 3) := by decide +kernel
theorem dX8_word_139 : decode cX8_word 139 = .ok (.aload_n 0, 1) := by decide +kernel
theorem dX8_word_140 : decode cX8_word 140 = .ok (.iconst 1, 1) := by decide +kernel
theorem dX8_word_141 : decode cX8_word 141 = .ok (.aload_n 0, 1) := by decide +kernel
theorem dX8_word_142 : decode cX8_word 142 = .ok (.getfield 34, 3) := by decide +kernel
theorem dX8_word_145 : decode cX8_word 145 = .ok (.invokevirtual 44, 3) := by decide +kernel
theorem dX8_word_148 : decode cX8_word 148 = .ok (.iconst (-1), 1) := by decide +kernel
theorem dX8_word_149 : decode cX8_word 149 = .ok (.ireturn, 1) := by decide +kernel
theorem dX8_isWord_0 : decode cX8_isWord 0 = .ok (.iload_n 3, 1) := by decide +kernel
theorem dX8_isWord_1 : decode cX8_isWord 1 = .ok (.iload_n 2, 1) := by decide +kernel
theorem dX8_isWord_2 : decode cX8_isWord 2 = .ok (.isub, 1) := by decide +kernel
theorem dX8_isWord_3 : decode cX8_isWord 3 = .ok (.aload_n 0, 1) := by decide +kernel
theorem dX8_isWord_4 : decode cX8_isWord 4 = .ok (.getfield 31, 3) := by decide +kernel
theorem dX8_isWord_7 : decode cX8_isWord 7 = .ok (.aload_n 0, 1) := by decide +kernel
theorem dX8_isWord_8 : decode cX8_isWord 8 = .ok (.getfield 34, 3) := by decide +kernel
theorem dX8_isWord_11 : decode cX8_isWord 11 = .ok (.isub, 1) := by decide +kernel
theorem dX8_isWord_12 : decode cX8_isWord 12 = .ok (.if_icmp .eq 5, 3) := by decide +kernel
theorem dX8_isWord_15 : decode cX8_isWord 15 = .ok (.iconst 0, 1) := by decide +kernel
theorem dX8_isWord_16 : decode cX8_isWord 16 = .ok (.ireturn, 1) := by decide +kernel
theorem dX8_isWord_17 : decode cX8_isWord 17 = .ok (.iconst 0, 1) := by decide +kernel
theorem dX8_isWord_18 : decode cX8_isWord 18 = .ok (.istore 4, 2) := by decide +kernel
theorem dX8_isWord_20 : decode cX8_isWord 20 = .ok (.iload 4, 2) := by decide +kernel
theorem dX8_isWord_22 : decode cX8_isWord 22 = .ok (.iload_n 3, 1) := by decide +kernel
theorem dX8_isWord_23 : decode cX8_isWord 23 = .ok (.iload_n 2, 1) := by decide +kernel
theorem dX8_isWord_24 : decode cX8_isWord 24 = .ok (.isub, 1) := by decide +kernel
theorem dX8_isWord_25 : decode cX8_isWord 25 = .ok (.if_icmp .ge 34, 3) := by decide +kernel
theorem dX8_isWord_28 : decode cX8_isWord 28 = .ok (.aload_n 1, 1) := by decide +kernel
theorem dX8_isWord_29 : decode cX8_isWord 29 = .ok (.iload_n 2, 1) := by decide +kernel
theorem dX8_isWord_30 : decode cX8_isWord 30 = .ok (.iload 4, 2) := by decide +kernel
theorem dX8_isWord_32 : decode cX8_isWord 32 = .ok (.iadd, 1) := by decide +kernel
theorem dX8_isWord_33 : decode cX8_isWord 33 = .ok (.invokevirtual 53, 3) := by decide +kernel
theorem dX8_isWord_36 : decode cX8_isWord 36 = .ok (.aload_n 0, 1) := by decide +kernel
theorem dX8_isWord_37 : decode cX8_isWord 37 = .ok (.getfield 9, 3) := by decide +kernel
theorem dX8_isWord_40 : decode cX8_isWord 40 = .ok (.aload_n 0, 1) := by decide +kernel
theorem dX8_isWord_41 : decode cX8_isWord 41 = .ok (.getfield 34, 3) := by decide +kernel
theorem dX8_isWord_44 : decode cX8_isWord 44 = .ok (.iload 4, 2) := by decide +kernel
theorem dX8_isWord_46 : decode cX8_isWord 46 = .ok (.iadd, 1) := by decide +kernel
theorem dX8_isWord_47 : decode cX8_isWord 47 = .ok (.baload, 1) := by decide +kernel
theorem dX8_isWord_48 : decode cX8_isWord 48 = .ok (.if_icmp .eq 5, 3) := by decide +kernel
theorem dX8_isWord_51 : decode cX8_isWord 51 = .ok (.iconst 0, 1) := by decide +kernel
theorem dX8_isWord_52 : decode cX8_isWord 52 = .ok (.ireturn, 1) := by decide +kernel
theorem dX8_isWord_53 : decode cX8_isWord 53 = .ok (.iinc 4 1, 3) := by decide +kernel
theorem dX8_isWord_56 : decode cX8_isWord 56 = .ok (.goto (-36), 3) := by decide +kernel
theorem dX8_isWord_59 : decode cX8_isWord 59 = .ok (.iconst 1, 1) := by decide +kernel
theorem dX8_isWord_60 : decode cX8_isWord 60 = .ok (.ireturn, 1) := by decide +kernel
theorem dX9_init_0 : decode cX9_init 0 = .ok (.aload_n 0, 1) := by decide +kernel
theorem dX9_init_1 : decode cX9_init 1 = .ok (.invokespecial 3, 3) := by decide +kernel
theorem dX9_init_4 : decode cX9_init 4 = .ok (.aload_n 0, 1) := by decide +kernel
theorem dX9_init_5 : decode cX9_init 5 = .ok (.bipush 8, 2) := by decide +kernel
theorem dX9_init_7 : decode cX9_init 7 = .ok (.newarray .int, 2) := by decide +kernel
theorem dX9_init_9 : decode cX9_init 9 = .ok (.putfield 9, 3) := by decide +kernel
theorem dX9_init_12 : decode cX9_init 12 = .ok (.aload_n 0, 1) := by decide +kernel
theorem dX9_init_13 : decode cX9_init 13 = .ok (.bipush 8, 2) := by decide +kernel
theorem dX9_init_15 : decode cX9_init 15 = .ok (.newarray .int, 2) := by decide +kernel
theorem dX9_init_17 : decode cX9_init 17 = .ok (.putfield 15, 3) := by decide +kernel
theorem dX9_init_20 : decode cX9_init 20 = .ok (.aload_n 0, 1) := by decide +kernel
theorem dX9_init_21 : decode cX9_init 21 = .ok (.aload_n 1, 1) := by decide +kernel
theorem dX9_init_22 : decode cX9_init 22 = .ok (.putfield 18, 3) := by decide +kernel
theorem dX9_init_25 : decode cX9_init 25 = .ok (.aload_n 0, 1) := by decide +kernel
theorem dX9_init_26 : decode cX9_init 26 = .ok (.getfield 9, 3) := by decide +kernel
theorem dX9_init_29 : decode cX9_init 29 = .ok (.iconst (-1), 1) := by decide +kernel
theorem dX9_init_30 : decode cX9_init 30 = .ok (.invokestatic 22, 3) := by decide +kernel
theorem dX9_init_33 : decode cX9_init 33 = .ok (.return_, 1) := by decide +kernel
theorem dX9_forget_0 : decode cX9_forget 0 = .ok (.aload_n 0, 1) := by decide +kernel
theorem dX9_forget_1 : decode cX9_forget 1 = .ok (.getfield 9, 3) := by decide +kernel
theorem dX9_forget_4 : decode cX9_forget 4 = .ok (.iconst (-1), 1) := by decide +kernel
theorem dX9_forget_5 : decode cX9_forget 5 = .ok (.invokestatic 22, 3) := by decide +kernel
theorem dX9_forget_8 : decode cX9_forget 8 = .ok (.aload_n 0, 1) := by decide +kernel
theorem dX9_forget_9 : decode cX9_forget 9 = .ok (.iconst 0, 1) := by decide +kernel
theorem dX9_forget_10 : decode cX9_forget 10 = .ok (.putfield 28, 3) := by decide +kernel
theorem dX9_forget_13 : decode cX9_forget 13 = .ok (.return_, 1) := by decide +kernel
theorem dX9_read_0 : decode cX9_read 0 = .ok (.aload_n 0, 1) := by decide +kernel
theorem dX9_read_1 : decode cX9_read 1 = .ok (.getfield 15, 3) := by decide +kernel
theorem dX9_read_4 : decode cX9_read 4 = .ok (.iconst (-1), 1) := by decide +kernel
theorem dX9_read_5 : decode cX9_read 5 = .ok (.invokestatic 22, 3) := by decide +kernel
theorem dX9_read_8 : decode cX9_read 8 = .ok (.iconst 0, 1) := by decide +kernel
theorem dX9_read_9 : decode cX9_read 9 = .ok (.istore_n 2, 1) := by decide +kernel
theorem dX9_read_10 : decode cX9_read 10 = .ok (.iconst 0, 1) := by decide +kernel
theorem dX9_read_11 : decode cX9_read 11 = .ok (.istore_n 3, 1) := by decide +kernel
theorem dX9_read_12 : decode cX9_read 12 = .ok (.iload_n 3, 1) := by decide +kernel
theorem dX9_read_13 : decode cX9_read 13 = .ok (.bipush 100, 2) := by decide +kernel
theorem dX9_read_15 : decode cX9_read 15 = .ok (.if_icmp .ge 68, 3) := by decide +kernel
theorem dX9_read_18 : decode cX9_read 18 = .ok (.aload_n 1, 1) := by decide +kernel
theorem dX9_read_19 : decode cX9_read 19 = .ok (.invokevirtual 32, 3) := by decide +kernel
theorem dX9_read_22 : decode cX9_read 22 = .ok (.ifCond .eq 61, 3) := by decide +kernel
theorem dX9_read_25 : decode cX9_read 25 = .ok (.aload_n 1, 1) := by decide +kernel
theorem dX9_read_26 : decode cX9_read 26 = .ok (.iconst 0, 1) := by decide +kernel
theorem dX9_read_27 : decode cX9_read 27 = .ok (.bipush 7, 2) := by decide +kernel
theorem dX9_read_29 : decode cX9_read 29 = .ok (.invokevirtual 38, 3) := by decide +kernel
theorem dX9_read_32 : decode cX9_read 32 = .ok (.istore 4, 2) := by decide +kernel
theorem dX9_read_34 : decode cX9_read 34 = .ok (.aload_n 0, 1) := by decide +kernel
theorem dX9_read_35 : decode cX9_read 35 = .ok (.getfield 15, 3) := by decide +kernel
theorem dX9_read_38 : decode cX9_read 38 = .ok (.iload 4, 2) := by decide +kernel
theorem dX9_read_40 : decode cX9_read 40 = .ok (.iaload, 1) := by decide +kernel
theorem dX9_read_41 : decode cX9_read 41 = .ok (.iconst (-1), 1) := by decide +kernel
theorem dX9_read_42 : decode cX9_read 42 = .ok (.if_icmp .eq 12, 3) := by decide +kernel
theorem dX9_read_45 : decode cX9_read 45 = .ok (.aload_n 1, 1) := by decide +kernel
theorem dX9_read_46 : decode cX9_read 46 = .ok (.iconst 2, 1) := by decide +kernel
theorem dX9_read_47 : decode cX9_read 47 = .ok (.aload_n 1, 1) := by decide +kernel
theorem dX9_read_48 : decode cX9_read 48 = .ok (.getfield 42, 3) := by decide +kernel
theorem dX9_read_51 : decode cX9_read 51 = .ok (.invokevirtual 45, 3) := by decide +kernel
theorem dX9_read_54 : decode cX9_read 54 = .ok (.aload_n 0, 1) := by decide +kernel
theorem dX9_read_55 : decode cX9_read 55 = .ok (.getfield 15, 3) := by decide +kernel
theorem dX9_read_58 : decode cX9_read 58 = .ok (.iload 4, 2) := by decide +kernel
theorem dX9_read_60 : decode cX9_read 60 = .ok (.aload_n 1, 1) := by decide +kernel
theorem dX9_read_61 : decode cX9_read 61 = .ok (.iconst 0, 1) := by decide +kernel
theorem dX9_read_62 : decode cX9_read 62 = .ok (.bipush 6, 2) := by decide +kernel
theorem dX9_read_64 : decode cX9_read 64 = .ok (.invokevirtual 38, 3) := by decide +kernel
theorem dX9_read_67 : decode cX9_read 67 = .ok (.iastore, 1) := by decide +kernel
theorem dX9_read_68 : decode cX9_read 68 = .ok (.aload_n 1, 1) := by decide +kernel
theorem dX9_read_69 : decode cX9_read 69 = .ok (.bipush 59, 2) := by decide +kernel
theorem dX9_read_71 : decode cX9_read 71 = .ok (.invokevirtual 49, 3) := by decide +kernel
theorem dX9_read_74 : decode cX9_read 74 = .ok (.iinc 2 1, 3) := by decide +kernel
theorem dX9_read_77 : decode cX9_read 77 = .ok (.iinc 3 1, 3) := by decide +kernel
theorem dX9_read_80 : decode cX9_read 80 = .ok (.goto (-68), 3) := by decide +kernel
theorem dX9_read_83 : decode cX9_read 83 = .ok (.aload_n 1, 1) := by decide +kernel
theorem dX9_read_84 : decode cX9_read 84 = .ok (.invokevirtual 53, 3) := by decide +kernel
theorem dX9_read_87 : decode cX9_read 87 = .ok (.ifCond .eq 23, 3) := by decide +kernel
theorem dX9_read_90 : decode cX9_read 90 = .ok (.aload_n 0, 1) := by decide +kernel
theorem dX9_read_91 : decode cX9_read 91 = .ok (.getfield 15, 3) := by decide +kernel
theorem dX9_read_94 : decode cX9_read 94 = .ok (.iconst 0, 1) := by decide +kernel
theorem dX9_read_95 : decode cX9_read 95 = .ok (.aload_n 0, 1) := by decide +kernel
theorem dX9_read_96 : decode cX9_read 96 = .ok (.getfield 9, 3) := by decide +kernel
theorem dX9_read_99 : decode cX9_read 99 = .ok (.iconst 0, 1) := by decide +kernel
theorem dX9_read_100 : decode cX9_read 100 = .ok (.bipush 8, 2) := by decide +kernel
theorem dX9_read_102 : decode cX9_read 102 = .ok (.invokestatic 56, 3) := by decide +kernel
theorem dX9_read_105 : decode cX9_read 105 = .ok (.aload_n 0, 1) := by decide +kernel
theorem dX9_read_106 : decode cX9_read 106 = .ok (.iload_n 2, 1) := by decide +kernel
theorem dX9_read_107 : decode cX9_read 107 = .ok (.putfield 28, 3) := by decide +kernel
theorem dX9_read_110 : decode cX9_read 110 = .ok (.return_, 1) := by decide +kernel
theorem dX9_heard_0 : decode cX9_heard 0 = .ok (.iload_n 1, 1) := by decide +kernel
theorem dX9_heard_1 : decode cX9_heard 1 = .ok (.iload_n 2, 1) := by decide +kernel
theorem dX9_heard_2 : decode cX9_heard 2 = .ok (.isub, 1) := by decide +kernel
theorem dX9_heard_3 : decode cX9_heard 3 = .ok (.istore_n 3, 1) := by decide +kernel
theorem dX9_heard_4 : decode cX9_heard 4 = .ok (.iload_n 3, 1) := by decide +kernel
theorem dX9_heard_5 : decode cX9_heard 5 = .ok (.ifCond .lt 14, 3) := by decide +kernel
theorem dX9_heard_8 : decode cX9_heard 8 = .ok (.iload_n 3, 1) := by decide +kernel
theorem dX9_heard_9 : decode cX9_heard 9 = .ok (.aload_n 0, 1) := by decide +kernel
theorem dX9_heard_10 : decode cX9_heard 10 = .ok (.getfield 18, 3) := by decide +kernel
theorem dX9_heard_13 : decode cX9_heard 13 = .ok (.getfield 62, 3) := by decide +kernel
theorem dX9_heard_16 : decode cX9_heard 16 = .ok (.if_icmp .lt 11, 3) := by decide +kernel
theorem dX9_heard_19 : decode cX9_heard 19 = .ok (.aload_n 0, 1) := by decide +kernel
theorem dX9_heard_20 : decode cX9_heard 20 = .ok (.getfield 18, 3) := by decide +kernel
theorem dX9_heard_23 : decode cX9_heard 23 = .ok (.getfield 67, 3) := by decide +kernel
theorem dX9_heard_26 : decode cX9_heard 26 = .ok (.ireturn, 1) := by decide +kernel
theorem dX9_heard_27 : decode cX9_heard 27 = .ok (.iconst 0, 1) := by decide +kernel
theorem dX9_heard_28 : decode cX9_heard 28 = .ok (.istore 4, 2) := by decide +kernel
theorem dX9_heard_30 : decode cX9_heard 30 = .ok (.iload 4, 2) := by decide +kernel
theorem dX9_heard_32 : decode cX9_heard 32 = .ok (.aload_n 0, 1) := by decide +kernel
theorem dX9_heard_33 : decode cX9_heard 33 = .ok (.getfield 18, 3) := by decide +kernel
theorem dX9_heard_36 : decode cX9_heard 36 = .ok (.getfield 67, 3) := by decide +kernel
theorem dX9_heard_39 : decode cX9_heard 39 = .ok (.if_icmp .ge 33, 3) := by decide +kernel
theorem dX9_heard_42 : decode cX9_heard 42 = .ok (.aload_n 0, 1) := by decide +kernel
theorem dX9_heard_43 : decode cX9_heard 43 = .ok (.getfield 18, 3) := by decide +kernel
theorem dX9_heard_46 : decode cX9_heard 46 = .ok (.getfield 70, 3) := by decide +kernel
theorem dX9_heard_49 : decode cX9_heard 49 = .ok (.bipush 8, 2) := by decide +kernel
theorem dX9_heard_51 : decode cX9_heard 51 = .ok (.iload 4, 2) := by decide +kernel
theorem dX9_heard_53 : decode cX9_heard 53 = .ok (.imul, 1) := by decide +kernel
theorem dX9_heard_54 : decode cX9_heard 54 = .ok (.iload_n 3, 1) := by decide +kernel
theorem dX9_heard_55 : decode cX9_heard 55 = .ok (.iadd, 1) := by decide +kernel
theorem dX9_heard_56 : decode cX9_heard 56 = .ok (.iaload, 1) := by decide +kernel
theorem dX9_heard_57 : decode cX9_heard 57 = .ok (.invokestatic 73, 3) := by decide +kernel
theorem dX9_heard_60 : decode cX9_heard 60 = .ok (.ifCond .eq 6, 3) := by decide +kernel
theorem dX9_heard_63 : decode cX9_heard 63 = .ok (.iload 4, 2) := by decide +kernel
theorem dX9_heard_65 : decode cX9_heard 65 = .ok (.ireturn, 1) := by decide +kernel
theorem dX9_heard_66 : decode cX9_heard 66 = .ok (.iinc 4 1, 3) := by decide +kernel
theorem dX9_heard_69 : decode cX9_heard 69 = .ok (.goto (-39), 3) := by decide +kernel
theorem dX9_heard_72 : decode cX9_heard 72 = .ok (.aload_n 0, 1) := by decide +kernel
theorem dX9_heard_73 : decode cX9_heard 73 = .ok (.getfield 18, 3) := by decide +kernel
theorem dX9_heard_76 : decode cX9_heard 76 = .ok (.getfield 67, 3) := by decide +kernel
theorem dX9_heard_79 : decode cX9_heard 79 = .ok (.ireturn, 1) := by decide +kernel
theorem dX9_fitting_0 : decode cX9_fitting 0 = .ok (.iconst 0, 1) := by decide +kernel
theorem dX9_fitting_1 : decode cX9_fitting 1 = .ok (.istore_n 1, 1) := by decide +kernel
theorem dX9_fitting_2 : decode cX9_fitting 2 = .ok (.bipush (-7), 2) := by decide +kernel
theorem dX9_fitting_4 : decode cX9_fitting 4 = .ok (.istore_n 2, 1) := by decide +kernel
theorem dX9_fitting_5 : decode cX9_fitting 5 = .ok (.iload_n 2, 1) := by decide +kernel
theorem dX9_fitting_6 : decode cX9_fitting 6 = .ok (.bipush 7, 2) := by decide +kernel
theorem dX9_fitting_8 : decode cX9_fitting 8 = .ok (.if_icmp .gt 26, 3) := by decide +kernel
theorem dX9_fitting_11 : decode cX9_fitting 11 = .ok (.aload_n 0, 1) := by decide +kernel
theorem dX9_fitting_12 : decode cX9_fitting 12 = .ok (.iload_n 2, 1) := by decide +kernel
theorem dX9_fitting_13 : decode cX9_fitting 13 = .ok (.invokevirtual 77, 3) := by decide +kernel
theorem dX9_fitting_16 : decode cX9_fitting 16 = .ok (.ifCond .eq 12, 3) := by decide +kernel
theorem dX9_fitting_19 : decode cX9_fitting 19 = .ok (.iload_n 1, 1) := by decide +kernel
theorem dX9_fitting_20 : decode cX9_fitting 20 = .ok (.iconst 1, 1) := by decide +kernel
theorem dX9_fitting_21 : decode cX9_fitting 21 = .ok (.iload_n 2, 1) := by decide +kernel
theorem dX9_fitting_22 : decode cX9_fitting 22 = .ok (.bipush 7, 2) := by decide +kernel
theorem dX9_fitting_24 : decode cX9_fitting 24 = .ok (.iadd, 1) := by decide +kernel
theorem dX9_fitting_25 : decode cX9_fitting 25 = .ok (.ishl, 1) := by decide +kernel
theorem dX9_fitting_26 : decode cX9_fitting 26 = .ok (.ior, 1) := by decide +kernel
theorem dX9_fitting_27 : decode cX9_fitting 27 = .ok (.istore_n 1, 1) := by decide +kernel
theorem dX9_fitting_28 : decode cX9_fitting 28 = .ok (.iinc 2 1, 3) := by decide +kernel
theorem dX9_fitting_31 : decode cX9_fitting 31 = .ok (.goto (-26), 3) := by decide +kernel
theorem dX9_fitting_34 : decode cX9_fitting 34 = .ok (.iload_n 1, 1) := by decide +kernel
theorem dX9_fitting_35 : decode cX9_fitting 35 = .ok (.ireturn, 1) := by decide +kernel
theorem dX9_isRight_0 : decode cX9_isRight 0 = .ok (.iconst 0, 1) := by decide +kernel
theorem dX9_isRight_1 : decode cX9_isRight 1 = .ok (.istore_n 2, 1) := by decide +kernel
theorem dX9_isRight_2 : decode cX9_isRight 2 = .ok (.iload_n 2, 1) := by decide +kernel
theorem dX9_isRight_3 : decode cX9_isRight 3 = .ok (.bipush 8, 2) := by decide +kernel
theorem dX9_isRight_5 : decode cX9_isRight 5 = .ok (.if_icmp .ge 47, 3) := by decide +kernel
theorem dX9_isRight_8 : decode cX9_isRight 8 = .ok (.aload_n 0, 1) := by decide +kernel
theorem dX9_isRight_9 : decode cX9_isRight 9 = .ok (.getfield 9, 3) := by decide +kernel
theorem dX9_isRight_12 : decode cX9_isRight 12 = .ok (.iload_n 2, 1) := by decide +kernel
theorem dX9_isRight_13 : decode cX9_isRight 13 = .ok (.iaload, 1) := by decide +kernel
theorem dX9_isRight_14 : decode cX9_isRight 14 = .ok (.iconst (-1), 1) := by decide +kernel
theorem dX9_isRight_15 : decode cX9_isRight 15 = .ok (.if_icmp .eq 31, 3) := by decide +kernel
theorem dX9_isRight_18 : decode cX9_isRight 18 = .ok (.iload_n 2, 1) := by decide +kernel
theorem dX9_isRight_19 : decode cX9_isRight 19 = .ok (.aload_n 0, 1) := by decide +kernel
theorem dX9_isRight_20 : decode cX9_isRight 20 = .ok (.getfield 18, 3) := by decide +kernel
theorem dX9_isRight_23 : decode cX9_isRight 23 = .ok (.getfield 62, 3) := by decide +kernel
theorem dX9_isRight_26 : decode cX9_isRight 26 = .ok (.if_icmp .ge 18, 3) := by decide +kernel
theorem dX9_isRight_29 : decode cX9_isRight 29 = .ok (.aload_n 0, 1) := by decide +kernel
theorem dX9_isRight_30 : decode cX9_isRight 30 = .ok (.iload_n 2, 1) := by decide +kernel
theorem dX9_isRight_31 : decode cX9_isRight 31 = .ok (.iload_n 1, 1) := by decide +kernel
theorem dX9_isRight_32 : decode cX9_isRight 32 = .ok (.invokevirtual 80, 3) := by decide +kernel
theorem dX9_isRight_35 : decode cX9_isRight 35 = .ok (.aload_n 0, 1) := by decide +kernel
theorem dX9_isRight_36 : decode cX9_isRight 36 = .ok (.getfield 9, 3) := by decide +kernel
theorem dX9_isRight_39 : decode cX9_isRight 39 = .ok (.iload_n 2, 1) := by decide +kernel
theorem dX9_isRight_40 : decode cX9_isRight 40 = .ok (.iaload, 1) := by decide +kernel
theorem dX9_isRight_41 : decode cX9_isRight 41 = .ok (.if_icmp .eq 5, 3) := by decide +kernel
theorem dX9_isRight_44 : decode cX9_isRight 44 = .ok (.iconst 0, 1) := by decide +kernel
theorem dX9_isRight_45 : decode cX9_isRight 45 = .ok (.ireturn, 1) := by decide +kernel
theorem dX9_isRight_46 : decode cX9_isRight 46 = .ok (.iinc 2 1, 3) := by decide +kernel
theorem dX9_isRight_49 : decode cX9_isRight 49 = .ok (.goto (-47), 3) := by decide +kernel
theorem dX9_isRight_52 : decode cX9_isRight 52 = .ok (.iconst 1, 1) := by decide +kernel
theorem dX9_isRight_53 : decode cX9_isRight 53 = .ok (.ireturn, 1) := by decide +kernel
theorem dX9_nextTap_0 : decode cX9_nextTap 0 = .ok (.aload_n 0, 1) := by decide +kernel
theorem dX9_nextTap_1 : decode cX9_nextTap 1 = .ok (.invokevirtual 83, 3) := by decide +kernel
theorem dX9_nextTap_4 : decode cX9_nextTap 4 = .ok (.istore_n 2, 1) := by decide +kernel
theorem dX9_nextTap_5 : decode cX9_nextTap 5 = .ok (.iconst (-1), 1) := by decide +kernel
theorem dX9_nextTap_6 : decode cX9_nextTap 6 = .ok (.istore_n 3, 1) := by decide +kernel
theorem dX9_nextTap_7 : decode cX9_nextTap 7 = .ok (.iconst (-1), 1) := by decide +kernel
theorem dX9_nextTap_8 : decode cX9_nextTap 8 = .ok (.istore 4, 2) := by decide +kernel
theorem dX9_nextTap_10 : decode cX9_nextTap 10 = .ok (.iconst 0, 1) := by decide +kernel
theorem dX9_nextTap_11 : decode cX9_nextTap 11 = .ok (.istore 5, 2) := by decide +kernel
theorem dX9_nextTap_13 : decode cX9_nextTap 13 = .ok (.iload 5, 2) := by decide +kernel
theorem dX9_nextTap_15 : decode cX9_nextTap 15 = .ok (.aload_n 0, 1) := by decide +kernel
theorem dX9_nextTap_16 : decode cX9_nextTap 16 = .ok (.getfield 18, 3) := by decide +kernel
theorem dX9_nextTap_19 : decode cX9_nextTap 19 = .ok (.getfield 62, 3) := by decide +kernel
theorem dX9_nextTap_22 : decode cX9_nextTap 22 = .ok (.if_icmp .ge 48, 3) := by decide +kernel
theorem dX9_nextTap_25 : decode cX9_nextTap 25 = .ok (.aload_n 0, 1) := by decide +kernel
theorem dX9_nextTap_26 : decode cX9_nextTap 26 = .ok (.getfield 9, 3) := by decide +kernel
theorem dX9_nextTap_29 : decode cX9_nextTap 29 = .ok (.iload 5, 2) := by decide +kernel
theorem dX9_nextTap_31 : decode cX9_nextTap 31 = .ok (.iaload, 1) := by decide +kernel
theorem dX9_nextTap_32 : decode cX9_nextTap 32 = .ok (.iconst (-1), 1) := by decide +kernel
theorem dX9_nextTap_33 : decode cX9_nextTap 33 = .ok (.if_icmp .ne 31, 3) := by decide +kernel
theorem dX9_nextTap_36 : decode cX9_nextTap 36 = .ok (.aload_n 0, 1) := by decide +kernel
theorem dX9_nextTap_37 : decode cX9_nextTap 37 = .ok (.iload_n 2, 1) := by decide +kernel
theorem dX9_nextTap_38 : decode cX9_nextTap 38 = .ok (.iload 5, 2) := by decide +kernel
theorem dX9_nextTap_40 : decode cX9_nextTap 40 = .ok (.invokevirtual 87, 3) := by decide +kernel
theorem dX9_nextTap_43 : decode cX9_nextTap 43 = .ok (.istore 6, 2) := by decide +kernel
theorem dX9_nextTap_45 : decode cX9_nextTap 45 = .ok (.iload_n 3, 1) := by decide +kernel
theorem dX9_nextTap_46 : decode cX9_nextTap 46 = .ok (.iconst (-1), 1) := by decide +kernel
theorem dX9_nextTap_47 : decode cX9_nextTap 47 = .ok (.if_icmp .eq 10, 3) := by decide +kernel
theorem dX9_nextTap_50 : decode cX9_nextTap 50 = .ok (.iload 6, 2) := by decide +kernel
theorem dX9_nextTap_52 : decode cX9_nextTap 52 = .ok (.iload 4, 2) := by decide +kernel
theorem dX9_nextTap_54 : decode cX9_nextTap 54 = .ok (.if_icmp .ge 10, 3) := by decide +kernel
theorem dX9_nextTap_57 : decode cX9_nextTap 57 = .ok (.iload 5, 2) := by decide +kernel
theorem dX9_nextTap_59 : decode cX9_nextTap 59 = .ok (.istore_n 3, 1) := by decide +kernel
theorem dX9_nextTap_60 : decode cX9_nextTap 60 = .ok (.iload 6, 2) := by decide +kernel
theorem dX9_nextTap_62 : decode cX9_nextTap 62 = .ok (.istore 4, 2) := by decide +kernel
theorem dX9_nextTap_64 : decode cX9_nextTap 64 = .ok (.iinc 5 1, 3) := by decide +kernel
theorem dX9_nextTap_67 : decode cX9_nextTap 67 = .ok (.goto (-54), 3) := by decide +kernel
theorem dX9_nextTap_70 : decode cX9_nextTap 70 = .ok (.iload_n 1, 1) := by decide +kernel
theorem dX9_nextTap_71 : decode cX9_nextTap 71 = .ok (.ifCond .eq 8, 3) := by decide +kernel
theorem dX9_nextTap_74 : decode cX9_nextTap 74 = .ok (.iload 4, 2) := by decide +kernel
theorem dX9_nextTap_76 : decode cX9_nextTap 76 = .ok (.goto 4, 3) := by decide +kernel
theorem dX9_nextTap_79 : decode cX9_nextTap 79 = .ok (.iload_n 3, 1) := by decide +kernel
theorem dX9_nextTap_80 : decode cX9_nextTap 80 = .ok (.ireturn, 1) := by decide +kernel
theorem dX9_mostLeft_0 : decode cX9_mostLeft 0 = .ok (.iconst 0, 1) := by decide +kernel
theorem dX9_mostLeft_1 : decode cX9_mostLeft 1 = .ok (.istore_n 3, 1) := by decide +kernel
theorem dX9_mostLeft_2 : decode cX9_mostLeft 2 = .ok (.iconst 0, 1) := by decide +kernel
theorem dX9_mostLeft_3 : decode cX9_mostLeft 3 = .ok (.istore 4, 2) := by decide +kernel
theorem dX9_mostLeft_5 : decode cX9_mostLeft 5 = .ok (.iload 4, 2) := by decide +kernel
theorem dX9_mostLeft_7 : decode cX9_mostLeft 7 = .ok (.aload_n 0, 1) := by decide +kernel
theorem dX9_mostLeft_8 : decode cX9_mostLeft 8 = .ok (.getfield 18, 3) := by decide +kernel
theorem dX9_mostLeft_11 : decode cX9_mostLeft 11 = .ok (.getfield 67, 3) := by decide +kernel
theorem dX9_mostLeft_14 : decode cX9_mostLeft 14 = .ok (.if_icmp .gt 63, 3) := by decide +kernel
theorem dX9_mostLeft_17 : decode cX9_mostLeft 17 = .ok (.iconst 0, 1) := by decide +kernel
theorem dX9_mostLeft_18 : decode cX9_mostLeft 18 = .ok (.istore 5, 2) := by decide +kernel
theorem dX9_mostLeft_20 : decode cX9_mostLeft 20 = .ok (.bipush (-7), 2) := by decide +kernel
theorem dX9_mostLeft_22 : decode cX9_mostLeft 22 = .ok (.istore 6, 2) := by decide +kernel
theorem dX9_mostLeft_24 : decode cX9_mostLeft 24 = .ok (.iload 6, 2) := by decide +kernel
theorem dX9_mostLeft_26 : decode cX9_mostLeft 26 = .ok (.bipush 7, 2) := by decide +kernel
theorem dX9_mostLeft_28 : decode cX9_mostLeft 28 = .ok (.if_icmp .gt 36, 3) := by decide +kernel
theorem dX9_mostLeft_31 : decode cX9_mostLeft 31 = .ok (.iload_n 1, 1) := by decide +kernel
theorem dX9_mostLeft_32 : decode cX9_mostLeft 32 = .ok (.iload 6, 2) := by decide +kernel
theorem dX9_mostLeft_34 : decode cX9_mostLeft 34 = .ok (.bipush 7, 2) := by decide +kernel
theorem dX9_mostLeft_36 : decode cX9_mostLeft 36 = .ok (.iadd, 1) := by decide +kernel
theorem dX9_mostLeft_37 : decode cX9_mostLeft 37 = .ok (.iushr, 1) := by decide +kernel
theorem dX9_mostLeft_38 : decode cX9_mostLeft 38 = .ok (.iconst 1, 1) := by decide +kernel
theorem dX9_mostLeft_39 : decode cX9_mostLeft 39 = .ok (.iand, 1) := by decide +kernel
theorem dX9_mostLeft_40 : decode cX9_mostLeft 40 = .ok (.ifCond .eq 18, 3) := by decide +kernel
theorem dX9_mostLeft_43 : decode cX9_mostLeft 43 = .ok (.aload_n 0, 1) := by decide +kernel
theorem dX9_mostLeft_44 : decode cX9_mostLeft 44 = .ok (.iload_n 2, 1) := by decide +kernel
theorem dX9_mostLeft_45 : decode cX9_mostLeft 45 = .ok (.iload 6, 2) := by decide +kernel
theorem dX9_mostLeft_47 : decode cX9_mostLeft 47 = .ok (.invokevirtual 80, 3) := by decide +kernel
theorem dX9_mostLeft_50 : decode cX9_mostLeft 50 = .ok (.iload 4, 2) := by decide +kernel
theorem dX9_mostLeft_52 : decode cX9_mostLeft 52 = .ok (.if_icmp .ne 6, 3) := by decide +kernel
theorem dX9_mostLeft_55 : decode cX9_mostLeft 55 = .ok (.iinc 5 1, 3) := by decide +kernel
theorem dX9_mostLeft_58 : decode cX9_mostLeft 58 = .ok (.iinc 6 1, 3) := by decide +kernel
theorem dX9_mostLeft_61 : decode cX9_mostLeft 61 = .ok (.goto (-37), 3) := by decide +kernel
theorem dX9_mostLeft_64 : decode cX9_mostLeft 64 = .ok (.iload_n 3, 1) := by decide +kernel
theorem dX9_mostLeft_65 : decode cX9_mostLeft 65 = .ok (.iload 5, 2) := by decide +kernel
theorem dX9_mostLeft_67 : decode cX9_mostLeft 67 = .ok (.invokestatic 90, 3) := by decide +kernel
theorem dX9_mostLeft_70 : decode cX9_mostLeft 70 = .ok (.istore_n 3, 1) := by decide +kernel
theorem dX9_mostLeft_71 : decode cX9_mostLeft 71 = .ok (.iinc 4 1, 3) := by decide +kernel
theorem dX9_mostLeft_74 : decode cX9_mostLeft 74 = .ok (.goto (-69), 3) := by decide +kernel
theorem dX9_mostLeft_77 : decode cX9_mostLeft 77 = .ok (.iload_n 3, 1) := by decide +kernel
theorem dX9_mostLeft_78 : decode cX9_mostLeft 78 = .ok (.ireturn, 1) := by decide +kernel
theorem dX9_canonOf_0 : decode cX9_canonOf 0 = .ok (.iconst 0, 1) := by decide +kernel
theorem dX9_canonOf_1 : decode cX9_canonOf 1 = .ok (.istore 4, 2) := by decide +kernel
theorem dX9_canonOf_3 : decode cX9_canonOf 3 = .ok (.iconst 0, 1) := by decide +kernel
theorem dX9_canonOf_4 : decode cX9_canonOf 4 = .ok (.istore 5, 2) := by decide +kernel
theorem dX9_canonOf_6 : decode cX9_canonOf 6 = .ok (.iconst 0, 1) := by decide +kernel
theorem dX9_canonOf_7 : decode cX9_canonOf 7 = .ok (.istore 6, 2) := by decide +kernel
theorem dX9_canonOf_9 : decode cX9_canonOf 9 = .ok (.iload 6, 2) := by decide +kernel
theorem dX9_canonOf_11 : decode cX9_canonOf 11 = .ok (.aload_n 0, 1) := by decide +kernel
theorem dX9_canonOf_12 : decode cX9_canonOf 12 = .ok (.getfield 18, 3) := by decide +kernel
theorem dX9_canonOf_15 : decode cX9_canonOf 15 = .ok (.getfield 67, 3) := by decide +kernel
theorem dX9_canonOf_18 : decode cX9_canonOf 18 = .ok (.if_icmp .ge 102, 3) := by decide +kernel
theorem dX9_canonOf_21 : decode cX9_canonOf 21 = .ok (.iconst 0, 1) := by decide +kernel
theorem dX9_canonOf_22 : decode cX9_canonOf 22 = .ok (.istore 7, 2) := by decide +kernel
theorem dX9_canonOf_24 : decode cX9_canonOf 24 = .ok (.iconst 0, 1) := by decide +kernel
theorem dX9_canonOf_25 : decode cX9_canonOf 25 = .ok (.istore 8, 2) := by decide +kernel
theorem dX9_canonOf_27 : decode cX9_canonOf 27 = .ok (.iload 8, 2) := by decide +kernel
theorem dX9_canonOf_29 : decode cX9_canonOf 29 = .ok (.iload 6, 2) := by decide +kernel
theorem dX9_canonOf_31 : decode cX9_canonOf 31 = .ok (.iadd, 1) := by decide +kernel
theorem dX9_canonOf_32 : decode cX9_canonOf 32 = .ok (.aload_n 0, 1) := by decide +kernel
theorem dX9_canonOf_33 : decode cX9_canonOf 33 = .ok (.getfield 18, 3) := by decide +kernel
theorem dX9_canonOf_36 : decode cX9_canonOf 36 = .ok (.getfield 67, 3) := by decide +kernel
theorem dX9_canonOf_39 : decode cX9_canonOf 39 = .ok (.if_icmp .ge 60, 3) := by decide +kernel
theorem dX9_canonOf_42 : decode cX9_canonOf 42 = .ok (.aload_n 0, 1) := by decide +kernel
theorem dX9_canonOf_43 : decode cX9_canonOf 43 = .ok (.getfield 18, 3) := by decide +kernel
theorem dX9_canonOf_46 : decode cX9_canonOf 46 = .ok (.getfield 70, 3) := by decide +kernel
theorem dX9_canonOf_49 : decode cX9_canonOf 49 = .ok (.bipush 8, 2) := by decide +kernel
theorem dX9_canonOf_51 : decode cX9_canonOf 51 = .ok (.iload 8, 2) := by decide +kernel
theorem dX9_canonOf_53 : decode cX9_canonOf 53 = .ok (.imul, 1) := by decide +kernel
theorem dX9_canonOf_54 : decode cX9_canonOf 54 = .ok (.iload_n 2, 1) := by decide +kernel
theorem dX9_canonOf_55 : decode cX9_canonOf 55 = .ok (.iadd, 1) := by decide +kernel
theorem dX9_canonOf_56 : decode cX9_canonOf 56 = .ok (.iaload, 1) := by decide +kernel
theorem dX9_canonOf_57 : decode cX9_canonOf 57 = .ok (.istore 9, 2) := by decide +kernel
theorem dX9_canonOf_59 : decode cX9_canonOf 59 = .ok (.iload 9, 2) := by decide +kernel
theorem dX9_canonOf_61 : decode cX9_canonOf 61 = .ok (.invokestatic 73, 3) := by decide +kernel
theorem dX9_canonOf_64 : decode cX9_canonOf 64 = .ok (.ifCond .eq 29, 3) := by decide +kernel
theorem dX9_canonOf_67 : decode cX9_canonOf 67 = .ok (.iload 9, 2) := by decide +kernel
theorem dX9_canonOf_69 : decode cX9_canonOf 69 = .ok (.aload_n 0, 1) := by decide +kernel
theorem dX9_canonOf_70 : decode cX9_canonOf 70 = .ok (.getfield 18, 3) := by decide +kernel
theorem dX9_canonOf_73 : decode cX9_canonOf 73 = .ok (.getfield 70, 3) := by decide +kernel
theorem dX9_canonOf_76 : decode cX9_canonOf 76 = .ok (.bipush 8, 2) := by decide +kernel
theorem dX9_canonOf_78 : decode cX9_canonOf 78 = .ok (.iload 8, 2) := by decide +kernel
theorem dX9_canonOf_80 : decode cX9_canonOf 80 = .ok (.iload 6, 2) := by decide +kernel
theorem dX9_canonOf_82 : decode cX9_canonOf 82 = .ok (.iadd, 1) := by decide +kernel
theorem dX9_canonOf_83 : decode cX9_canonOf 83 = .ok (.imul, 1) := by decide +kernel
theorem dX9_canonOf_84 : decode cX9_canonOf 84 = .ok (.iload_n 1, 1) := by decide +kernel
theorem dX9_canonOf_85 : decode cX9_canonOf 85 = .ok (.iadd, 1) := by decide +kernel
theorem dX9_canonOf_86 : decode cX9_canonOf 86 = .ok (.iaload, 1) := by decide +kernel
theorem dX9_canonOf_87 : decode cX9_canonOf 87 = .ok (.if_icmp .ne 6, 3) := by decide +kernel
theorem dX9_canonOf_90 : decode cX9_canonOf 90 = .ok (.iinc 7 1, 3) := by decide +kernel
theorem dX9_canonOf_93 : decode cX9_canonOf 93 = .ok (.iinc 8 1, 3) := by decide +kernel
theorem dX9_canonOf_96 : decode cX9_canonOf 96 = .ok (.goto (-69), 3) := by decide +kernel
theorem dX9_canonOf_99 : decode cX9_canonOf 99 = .ok (.iload 7, 2) := by decide +kernel
theorem dX9_canonOf_101 : decode cX9_canonOf 101 = .ok (.iload 5, 2) := by decide +kernel
theorem dX9_canonOf_103 : decode cX9_canonOf 103 = .ok (.if_icmp .le 11, 3) := by decide +kernel
theorem dX9_canonOf_106 : decode cX9_canonOf 106 = .ok (.iload 7, 2) := by decide +kernel
theorem dX9_canonOf_108 : decode cX9_canonOf 108 = .ok (.istore 5, 2) := by decide +kernel
theorem dX9_canonOf_110 : decode cX9_canonOf 110 = .ok (.iload 6, 2) := by decide +kernel
theorem dX9_canonOf_112 : decode cX9_canonOf 112 = .ok (.istore 4, 2) := by decide +kernel
theorem dX9_canonOf_114 : decode cX9_canonOf 114 = .ok (.iinc 6 1, 3) := by decide +kernel
theorem dX9_canonOf_117 : decode cX9_canonOf 117 = .ok (.goto (-108), 3) := by decide +kernel
theorem dX9_canonOf_120 : decode cX9_canonOf 120 = .ok (.iload_n 3, 1) := by decide +kernel
theorem dX9_canonOf_121 : decode cX9_canonOf 121 = .ok (.ifCond .eq 8, 3) := by decide +kernel
theorem dX9_canonOf_124 : decode cX9_canonOf 124 = .ok (.iload 5, 2) := by decide +kernel
theorem dX9_canonOf_126 : decode cX9_canonOf 126 = .ok (.goto 5, 3) := by decide +kernel
theorem dX9_canonOf_129 : decode cX9_canonOf 129 = .ok (.iload 4, 2) := by decide +kernel
theorem dX9_canonOf_131 : decode cX9_canonOf 131 = .ok (.ireturn, 1) := by decide +kernel
theorem dX10_init_0 : decode cX10_init 0 = .ok (.aload_n 0, 1) := by decide +kernel
theorem dX10_init_1 : decode cX10_init 1 = .ok (.invokespecial 1, 3) := by decide +kernel
theorem dX10_init_4 : decode cX10_init 4 = .ok (.aload_n 0, 1) := by decide +kernel
theorem dX10_init_5 : decode cX10_init 5 = .ok (.new 7, 3) := by decide +kernel
theorem dX10_init_8 : decode cX10_init 8 = .ok (.dup, 1) := by decide +kernel
theorem dX10_init_9 : decode cX10_init 9 = .ok (.invokespecial 9, 3) := by decide +kernel
theorem dX10_init_12 : decode cX10_init 12 = .ok (.putfield 10, 3) := by decide +kernel
theorem dX10_init_15 : decode cX10_init 15 = .ok (.aload_n 0, 1) := by decide +kernel
theorem dX10_init_16 : decode cX10_init 16 = .ok (.new 16, 3) := by decide +kernel
theorem dX10_init_19 : decode cX10_init 19 = .ok (.dup, 1) := by decide +kernel
theorem dX10_init_20 : decode cX10_init 20 = .ok (.invokespecial 18, 3) := by decide +kernel
theorem dX10_init_23 : decode cX10_init 23 = .ok (.putfield 19, 3) := by decide +kernel
theorem dX10_init_26 : decode cX10_init 26 = .ok (.aload_n 0, 1) := by decide +kernel
theorem dX10_init_27 : decode cX10_init 27 = .ok (.new 16, 3) := by decide +kernel
theorem dX10_init_30 : decode cX10_init 30 = .ok (.dup, 1) := by decide +kernel
theorem dX10_init_31 : decode cX10_init 31 = .ok (.invokespecial 18, 3) := by decide +kernel
theorem dX10_init_34 : decode cX10_init 34 = .ok (.putfield 23, 3) := by decide +kernel
theorem dX10_init_37 : decode cX10_init 37 = .ok (.aload_n 0, 1) := by decide +kernel
theorem dX10_init_38 : decode cX10_init 38 = .ok (.new 26, 3) := by decide +kernel
theorem dX10_init_41 : decode cX10_init 41 = .ok (.dup, 1) := by decide +kernel
theorem dX10_init_42 : decode cX10_init 42 = .ok (.invokespecial 28, 3) := by decide +kernel
theorem dX10_init_45 : decode cX10_init 45 = .ok (.putfield 29, 3) := by decide +kernel
theorem dX10_init_48 : decode cX10_init 48 = .ok (.aload_n 0, 1) := by decide +kernel
theorem dX10_init_49 : decode cX10_init 49 = .ok (.new 26, 3) := by decide +kernel
theorem dX10_init_52 : decode cX10_init 52 = .ok (.dup, 1) := by decide +kernel
theorem dX10_init_53 : decode cX10_init 53 = .ok (.invokespecial 28, 3) := by decide +kernel
theorem dX10_init_56 : decode cX10_init 56 = .ok (.putfield 33, 3) := by decide +kernel
theorem dX10_init_59 : decode cX10_init 59 = .ok (.aload_n 0, 1) := by decide +kernel
theorem dX10_init_60 : decode cX10_init 60 = .ok (.new 26, 3) := by decide +kernel
theorem dX10_init_63 : decode cX10_init 63 = .ok (.dup, 1) := by decide +kernel
theorem dX10_init_64 : decode cX10_init 64 = .ok (.invokespecial 28, 3) := by decide +kernel
theorem dX10_init_67 : decode cX10_init 67 = .ok (.putfield 36, 3) := by decide +kernel
theorem dX10_init_70 : decode cX10_init 70 = .ok (.aload_n 0, 1) := by decide +kernel
theorem dX10_init_71 : decode cX10_init 71 = .ok (.getfield 29, 3) := by decide +kernel
theorem dX10_init_74 : decode cX10_init 74 = .ok (.invokevirtual 39, 3) := by decide +kernel
theorem dX10_init_77 : decode cX10_init 77 = .ok (.aload_n 0, 1) := by decide +kernel
theorem dX10_init_78 : decode cX10_init 78 = .ok (.getfield 33, 3) := by decide +kernel
theorem dX10_init_81 : decode cX10_init 81 = .ok (.invokevirtual 42, 3) := by decide +kernel
theorem dX10_init_84 : decode cX10_init 84 = .ok (.aload_n 0, 1) := by decide +kernel
theorem dX10_init_85 : decode cX10_init 85 = .ok (.new 45, 3) := by decide +kernel
theorem dX10_init_88 : decode cX10_init 88 = .ok (.dup, 1) := by decide +kernel
theorem dX10_init_89 : decode cX10_init 89 = .ok (.aload_n 0, 1) := by decide +kernel
theorem dX10_init_90 : decode cX10_init 90 = .ok (.getfield 19, 3) := by decide +kernel
theorem dX10_init_93 : decode cX10_init 93 = .ok (.aload_n 0, 1) := by decide +kernel
theorem dX10_init_94 : decode cX10_init 94 = .ok (.getfield 29, 3) := by decide +kernel
theorem dX10_init_97 : decode cX10_init 97 = .ok (.aload_n 0, 1) := by decide +kernel
theorem dX10_init_98 : decode cX10_init 98 = .ok (.getfield 33, 3) := by decide +kernel
theorem dX10_init_101 : decode cX10_init 101 = .ok (.invokespecial 47, 3) := by decide +kernel
theorem dX10_init_104 : decode cX10_init 104 = .ok (.putfield 50, 3) := by decide +kernel
theorem dX10_init_107 : decode cX10_init 107 = .ok (.aload_n 0, 1) := by decide +kernel
theorem dX10_init_108 : decode cX10_init 108 = .ok (.getfield 50, 3) := by decide +kernel
theorem dX10_init_111 : decode cX10_init 111 = .ok (.invokevirtual 54, 3) := by decide +kernel
theorem dX10_init_114 : decode cX10_init 114 = .ok (.aload_n 0, 1) := by decide +kernel
theorem dX10_init_115 : decode cX10_init 115 = .ok (.new 57, 3) := by decide +kernel
theorem dX10_init_118 : decode cX10_init 118 = .ok (.dup, 1) := by decide +kernel
theorem dX10_init_119 : decode cX10_init 119 = .ok (.invokespecial 59, 3) := by decide +kernel
theorem dX10_init_122 : decode cX10_init 122 = .ok (.putfield 60, 3) := by decide +kernel
theorem dX10_init_125 : decode cX10_init 125 = .ok (.aload_n 0, 1) := by decide +kernel
theorem dX10_init_126 : decode cX10_init 126 = .ok (.new 64, 3) := by decide +kernel
theorem dX10_init_129 : decode cX10_init 129 = .ok (.dup, 1) := by decide +kernel
theorem dX10_init_130 : decode cX10_init 130 = .ok (.invokespecial 66, 3) := by decide +kernel
theorem dX10_init_133 : decode cX10_init 133 = .ok (.putfield 67, 3) := by decide +kernel
theorem dX10_init_136 : decode cX10_init 136 = .ok (.aload_n 0, 1) := by decide +kernel
theorem dX10_init_137 : decode cX10_init 137 = .ok (.new 71, 3) := by decide +kernel
theorem dX10_init_140 : decode cX10_init 140 = .ok (.dup, 1) := by decide +kernel
theorem dX10_init_141 : decode cX10_init 141 = .ok (.aload_n 0, 1) := by decide +kernel
theorem dX10_init_142 : decode cX10_init 142 = .ok (.getfield 19, 3) := by decide +kernel
theorem dX10_init_145 : decode cX10_init 145 = .ok (.aload_n 0, 1) := by decide +kernel
theorem dX10_init_146 : decode cX10_init 146 = .ok (.getfield 50, 3) := by decide +kernel
theorem dX10_init_149 : decode cX10_init 149 = .ok (.invokespecial 73, 3) := by decide +kernel
theorem dX10_init_152 : decode cX10_init 152 = .ok (.putfield 76, 3) := by decide +kernel
theorem dX10_init_155 : decode cX10_init 155 = .ok (.aload_n 0, 1) := by decide +kernel
theorem dX10_init_156 : decode cX10_init 156 = .ok (.new 80, 3) := by decide +kernel
theorem dX10_init_159 : decode cX10_init 159 = .ok (.dup, 1) := by decide +kernel
theorem dX10_init_160 : decode cX10_init 160 = .ok (.aload_n 0, 1) := by decide +kernel
theorem dX10_init_161 : decode cX10_init 161 = .ok (.getfield 19, 3) := by decide +kernel
theorem dX10_init_164 : decode cX10_init 164 = .ok (.invokespecial 82, 3) := by decide +kernel
theorem dX10_init_167 : decode cX10_init 167 = .ok (.putfield 85, 3) := by decide +kernel
theorem dX10_init_170 : decode cX10_init 170 = .ok (.aload_n 0, 1) := by decide +kernel
theorem dX10_init_171 : decode cX10_init 171 = .ok (.new 89, 3) := by decide +kernel
theorem dX10_init_174 : decode cX10_init 174 = .ok (.dup, 1) := by decide +kernel
theorem dX10_init_175 : decode cX10_init 175 = .ok (.aload_n 0, 1) := by decide +kernel
theorem dX10_init_176 : decode cX10_init 176 = .ok (.getfield 50, 3) := by decide +kernel
theorem dX10_init_179 : decode cX10_init 179 = .ok (.invokespecial 91, 3) := by decide +kernel
theorem dX10_init_182 : decode cX10_init 182 = .ok (.putfield 94, 3) := by decide +kernel
theorem dX10_init_185 : decode cX10_init 185 = .ok (.aload_n 0, 1) := by decide +kernel
theorem dX10_init_186 : decode cX10_init 186 = .ok (.new 98, 3) := by decide +kernel
theorem dX10_init_189 : decode cX10_init 189 = .ok (.dup, 1) := by decide +kernel
theorem dX10_init_190 : decode cX10_init 190 = .ok (.invokespecial 100, 3) := by decide +kernel
theorem dX10_init_193 : decode cX10_init 193 = .ok (.putfield 101, 3) := by decide +kernel
theorem dX10_init_196 : decode cX10_init 196 = .ok (.aload_n 0, 1) := by decide +kernel
theorem dX10_init_197 : decode cX10_init 197 = .ok (.iconst 3, 1) := by decide +kernel
theorem dX10_init_198 : decode cX10_init 198 = .ok (.newarray .int, 2) := by decide +kernel
theorem dX10_init_200 : decode cX10_init 200 = .ok (.putfield 105, 3) := by decide +kernel
theorem dX10_init_203 : decode cX10_init 203 = .ok (.return_, 1) := by decide +kernel
theorem dX10_feed_0 : decode cX10_feed 0 = .ok (.aload_n 0, 1) := by decide +kernel
theorem dX10_feed_1 : decode cX10_feed 1 = .ok (.getfield 10, 3) := by decide +kernel
theorem dX10_feed_4 : decode cX10_feed 4 = .ok (.getfield 109, 3) := by decide +kernel
theorem dX10_feed_7 : decode cX10_feed 7 = .ok (.bipush 20, 2) := by decide +kernel
theorem dX10_feed_9 : decode cX10_feed 9 = .ok (.iadd, 1) := by decide +kernel
theorem dX10_feed_10 : decode cX10_feed 10 = .ok (.sipush 600, 3) := by decide +kernel
theorem dX10_feed_13 : decode cX10_feed 13 = .ok (.if_icmp .le 5, 3) := by decide +kernel
theorem dX10_feed_16 : decode cX10_feed 16 = .ok (.iconst (-1), 1) := by decide +kernel
theorem dX10_feed_17 : decode cX10_feed 17 = .ok (.ireturn, 1) := by decide +kernel
theorem dX10_feed_18 : decode cX10_feed 18 = .ok (.aload_n 0, 1) := by decide +kernel
theorem dX10_feed_19 : decode cX10_feed 19 = .ok (.getfield 10, 3) := by decide +kernel
theorem dX10_feed_22 : decode cX10_feed 22 = .ok (.iload_n 1, 1) := by decide +kernel
theorem dX10_feed_23 : decode cX10_feed 23 = .ok (.invokevirtual 113, 3) := by decide +kernel
theorem dX10_feed_26 : decode cX10_feed 26 = .ok (.aload_n 0, 1) := by decide +kernel
theorem dX10_feed_27 : decode cX10_feed 27 = .ok (.getfield 10, 3) := by decide +kernel
theorem dX10_feed_30 : decode cX10_feed 30 = .ok (.iload_n 2, 1) := by decide +kernel
theorem dX10_feed_31 : decode cX10_feed 31 = .ok (.invokevirtual 113, 3) := by decide +kernel
theorem dX10_feed_34 : decode cX10_feed 34 = .ok (.aload_n 0, 1) := by decide +kernel
theorem dX10_feed_35 : decode cX10_feed 35 = .ok (.getfield 10, 3) := by decide +kernel
theorem dX10_feed_38 : decode cX10_feed 38 = .ok (.iload_n 3, 1) := by decide +kernel
theorem dX10_feed_39 : decode cX10_feed 39 = .ok (.invokevirtual 113, 3) := by decide +kernel
theorem dX10_feed_42 : decode cX10_feed 42 = .ok (.aload_n 0, 1) := by decide +kernel
theorem dX10_feed_43 : decode cX10_feed 43 = .ok (.getfield 10, 3) := by decide +kernel
theorem dX10_feed_46 : decode cX10_feed 46 = .ok (.iload 4, 2) := by decide +kernel
theorem dX10_feed_48 : decode cX10_feed 48 = .ok (.invokevirtual 113, 3) := by decide +kernel
theorem dX10_feed_51 : decode cX10_feed 51 = .ok (.aload_n 0, 1) := by decide +kernel
theorem dX10_feed_52 : decode cX10_feed 52 = .ok (.getfield 10, 3) := by decide +kernel
theorem dX10_feed_55 : decode cX10_feed 55 = .ok (.iload 5, 2) := by decide +kernel
theorem dX10_feed_57 : decode cX10_feed 57 = .ok (.invokevirtual 113, 3) := by decide +kernel
theorem dX10_feed_60 : decode cX10_feed 60 = .ok (.aload_n 0, 1) := by decide +kernel
theorem dX10_feed_61 : decode cX10_feed 61 = .ok (.getfield 10, 3) := by decide +kernel
theorem dX10_feed_64 : decode cX10_feed 64 = .ok (.getfield 109, 3) := by decide +kernel
theorem dX10_feed_67 : decode cX10_feed 67 = .ok (.ireturn, 1) := by decide +kernel
theorem dX10_pit_0 : decode cX10_pit 0 = .ok (.aload_n 0, 1) := by decide +kernel
theorem dX10_pit_1 : decode cX10_pit 1 = .ok (.iload_n 1, 1) := by decide +kernel
theorem dX10_pit_2 : decode cX10_pit 2 = .ok (.sipush 600, 3) := by decide +kernel
theorem dX10_pit_5 : decode cX10_pit 5 = .ok (.invokevirtual 117, 3) := by decide +kernel
theorem dX10_pit_8 : decode cX10_pit 8 = .ok (.aload_n 0, 1) := by decide +kernel
theorem dX10_pit_9 : decode cX10_pit 9 = .ok (.getfield 23, 3) := by decide +kernel
theorem dX10_pit_12 : decode cX10_pit 12 = .ok (.aload_n 0, 1) := by decide +kernel
theorem dX10_pit_13 : decode cX10_pit 13 = .ok (.getfield 10, 3) := by decide +kernel
theorem dX10_pit_16 : decode cX10_pit 16 = .ok (.invokevirtual 121, 3) := by decide +kernel
theorem dX10_pit_19 : decode cX10_pit 19 = .ok (.aload_n 0, 1) := by decide +kernel
theorem dX10_pit_20 : decode cX10_pit 20 = .ok (.getfield 10, 3) := by decide +kernel
theorem dX10_pit_23 : decode cX10_pit 23 = .ok (.invokevirtual 125, 3) := by decide +kernel
theorem dX10_pit_26 : decode cX10_pit 26 = .ok (.ifCond .ne 14, 3) := by decide +kernel
theorem dX10_pit_29 : decode cX10_pit 29 = .ok (.aload_n 0, 1) := by decide +kernel
theorem dX10_pit_30 : decode cX10_pit 30 = .ok (.getfield 10, 3) := by decide +kernel
theorem dX10_pit_33 : decode cX10_pit 33 = .ok (.getfield 129, 3) := by decide +kernel
theorem dX10_pit_36 : decode cX10_pit 36 = .ok (.bipush 10, 2) := by decide +kernel
theorem dX10_pit_38 : decode cX10_pit 38 = .ok (.isub, 1) := by decide +kernel
theorem dX10_pit_39 : decode cX10_pit 39 = .ok (.ireturn, 1) := by decide +kernel
theorem dX10_pit_40 : decode cX10_pit 40 = .ok (.aload_n 0, 1) := by decide +kernel
theorem dX10_pit_41 : decode cX10_pit 41 = .ok (.getfield 19, 3) := by decide +kernel
theorem dX10_pit_44 : decode cX10_pit 44 = .ok (.aload_n 0, 1) := by decide +kernel
theorem dX10_pit_45 : decode cX10_pit 45 = .ok (.getfield 23, 3) := by decide +kernel
theorem dX10_pit_48 : decode cX10_pit 48 = .ok (.invokevirtual 132, 3) := by decide +kernel
theorem dX10_pit_51 : decode cX10_pit 51 = .ok (.aload_n 0, 1) := by decide +kernel
theorem dX10_pit_52 : decode cX10_pit 52 = .ok (.getfield 29, 3) := by decide +kernel
theorem dX10_pit_55 : decode cX10_pit 55 = .ok (.invokevirtual 39, 3) := by decide +kernel
theorem dX10_pit_58 : decode cX10_pit 58 = .ok (.aload_n 0, 1) := by decide +kernel
theorem dX10_pit_59 : decode cX10_pit 59 = .ok (.getfield 33, 3) := by decide +kernel
theorem dX10_pit_62 : decode cX10_pit 62 = .ok (.invokevirtual 42, 3) := by decide +kernel
theorem dX10_pit_65 : decode cX10_pit 65 = .ok (.aload_n 0, 1) := by decide +kernel
theorem dX10_pit_66 : decode cX10_pit 66 = .ok (.getfield 50, 3) := by decide +kernel
theorem dX10_pit_69 : decode cX10_pit 69 = .ok (.invokevirtual 54, 3) := by decide +kernel
theorem dX10_pit_72 : decode cX10_pit 72 = .ok (.aload_n 0, 1) := by decide +kernel
theorem dX10_pit_73 : decode cX10_pit 73 = .ok (.getfield 67, 3) := by decide +kernel
theorem dX10_pit_76 : decode cX10_pit 76 = .ok (.invokevirtual 135, 3) := by decide +kernel
theorem dX10_pit_79 : decode cX10_pit 79 = .ok (.aload_n 0, 1) := by decide +kernel
theorem dX10_pit_80 : decode cX10_pit 80 = .ok (.getfield 85, 3) := by decide +kernel
theorem dX10_pit_83 : decode cX10_pit 83 = .ok (.invokevirtual 138, 3) := by decide +kernel
theorem dX10_pit_86 : decode cX10_pit 86 = .ok (.aload_n 0, 1) := by decide +kernel
theorem dX10_pit_87 : decode cX10_pit 87 = .ok (.iconst 0, 1) := by decide +kernel
theorem dX10_pit_88 : decode cX10_pit 88 = .ok (.putfield 139, 3) := by decide +kernel
theorem dX10_pit_91 : decode cX10_pit 91 = .ok (.aload_n 0, 1) := by decide +kernel
theorem dX10_pit_92 : decode cX10_pit 92 = .ok (.getfield 19, 3) := by decide +kernel
theorem dX10_pit_95 : decode cX10_pit 95 = .ok (.invokevirtual 142, 3) := by decide +kernel
theorem dX10_pit_98 : decode cX10_pit 98 = .ok (.ireturn, 1) := by decide +kernel
theorem dX10_law_0 : decode cX10_law 0 = .ok (.aload_n 0, 1) := by decide +kernel
theorem dX10_law_1 : decode cX10_law 1 = .ok (.iload_n 1, 1) := by decide +kernel
theorem dX10_law_2 : decode cX10_law 2 = .ok (.ifCond .eq 8, 3) := by decide +kernel
theorem dX10_law_5 : decode cX10_law 5 = .ok (.iload_n 1, 1) := by decide +kernel
theorem dX10_law_6 : decode cX10_law 6 = .ok (.iconst 1, 1) := by decide +kernel
theorem dX10_law_7 : decode cX10_law 7 = .ok (.if_icmp .ne 7, 3) := by decide +kernel
theorem dX10_law_10 : decode cX10_law 10 = .ok (.iconst 1, 1) := by decide +kernel
theorem dX10_law_11 : decode cX10_law 11 = .ok (.goto 4, 3) := by decide +kernel
theorem dX10_law_14 : decode cX10_law 14 = .ok (.iconst 0, 1) := by decide +kernel
theorem dX10_law_15 : decode cX10_law 15 = .ok (.invokevirtual 146, 3) := by decide +kernel
theorem dX10_law_18 : decode cX10_law 18 = .ok (.aload_n 0, 1) := by decide +kernel
theorem dX10_law_19 : decode cX10_law 19 = .ok (.iload_n 2, 1) := by decide +kernel
theorem dX10_law_20 : decode cX10_law 20 = .ok (.sipush 150, 3) := by decide +kernel
theorem dX10_law_23 : decode cX10_law 23 = .ok (.invokevirtual 117, 3) := by decide +kernel
theorem dX10_law_26 : decode cX10_law 26 = .ok (.aload_n 0, 1) := by decide +kernel
theorem dX10_law_27 : decode cX10_law 27 = .ok (.getfield 36, 3) := by decide +kernel
theorem dX10_law_30 : decode cX10_law 30 = .ok (.aload_n 0, 1) := by decide +kernel
theorem dX10_law_31 : decode cX10_law 31 = .ok (.getfield 10, 3) := by decide +kernel
theorem dX10_law_34 : decode cX10_law 34 = .ok (.invokevirtual 150, 3) := by decide +kernel
theorem dX10_law_37 : decode cX10_law 37 = .ok (.aload_n 0, 1) := by decide +kernel
theorem dX10_law_38 : decode cX10_law 38 = .ok (.getfield 10, 3) := by decide +kernel
theorem dX10_law_41 : decode cX10_law 41 = .ok (.invokevirtual 125, 3) := by decide +kernel
theorem dX10_law_44 : decode cX10_law 44 = .ok (.ifCond .ne 14, 3) := by decide +kernel
theorem dX10_law_47 : decode cX10_law 47 = .ok (.aload_n 0, 1) := by decide +kernel
theorem dX10_law_48 : decode cX10_law 48 = .ok (.getfield 10, 3) := by decide +kernel
theorem dX10_law_51 : decode cX10_law 51 = .ok (.getfield 129, 3) := by decide +kernel
theorem dX10_law_54 : decode cX10_law 54 = .ok (.bipush 10, 2) := by decide +kernel
theorem dX10_law_56 : decode cX10_law 56 = .ok (.isub, 1) := by decide +kernel
theorem dX10_law_57 : decode cX10_law 57 = .ok (.ireturn, 1) := by decide +kernel
theorem dX10_law_58 : decode cX10_law 58 = .ok (.iload_n 1, 1) := by decide +kernel
theorem dX10_law_59 : decode cX10_law 59 = .ok (.ifCond .ne 17, 3) := by decide +kernel
theorem dX10_law_62 : decode cX10_law 62 = .ok (.aload_n 0, 1) := by decide +kernel
theorem dX10_law_63 : decode cX10_law 63 = .ok (.getfield 29, 3) := by decide +kernel
theorem dX10_law_66 : decode cX10_law 66 = .ok (.aload_n 0, 1) := by decide +kernel
theorem dX10_law_67 : decode cX10_law 67 = .ok (.getfield 36, 3) := by decide +kernel
theorem dX10_law_70 : decode cX10_law 70 = .ok (.invokevirtual 151, 3) := by decide +kernel
theorem dX10_law_73 : decode cX10_law 73 = .ok (.goto 14, 3) := by decide +kernel
theorem dX10_law_76 : decode cX10_law 76 = .ok (.aload_n 0, 1) := by decide +kernel
theorem dX10_law_77 : decode cX10_law 77 = .ok (.getfield 33, 3) := by decide +kernel
theorem dX10_law_80 : decode cX10_law 80 = .ok (.aload_n 0, 1) := by decide +kernel
theorem dX10_law_81 : decode cX10_law 81 = .ok (.getfield 36, 3) := by decide +kernel
theorem dX10_law_84 : decode cX10_law 84 = .ok (.invokevirtual 151, 3) := by decide +kernel
theorem dX10_law_87 : decode cX10_law 87 = .ok (.iconst 1, 1) := by decide +kernel
theorem dX10_law_88 : decode cX10_law 88 = .ok (.ireturn, 1) := by decide +kernel
theorem dX10_work_0 : decode cX10_work 0 = .ok (.aload_n 0, 1) := by decide +kernel
theorem dX10_work_1 : decode cX10_work 1 = .ok (.iload_n 1, 1) := by decide +kernel
theorem dX10_work_2 : decode cX10_work 2 = .ok (.sipush 150, 3) := by decide +kernel
theorem dX10_work_5 : decode cX10_work 5 = .ok (.invokevirtual 117, 3) := by decide +kernel
theorem dX10_work_8 : decode cX10_work 8 = .ok (.aload_n 0, 1) := by decide +kernel
theorem dX10_work_9 : decode cX10_work 9 = .ok (.getfield 67, 3) := by decide +kernel
theorem dX10_work_12 : decode cX10_work 12 = .ok (.invokevirtual 154, 3) := by decide +kernel
theorem dX10_work_15 : decode cX10_work 15 = .ok (.ifCond .eq 6, 3) := by decide +kernel
theorem dX10_work_18 : decode cX10_work 18 = .ok (.bipush (-20), 2) := by decide +kernel
theorem dX10_work_20 : decode cX10_work 20 = .ok (.ireturn, 1) := by decide +kernel
theorem dX10_work_21 : decode cX10_work 21 = .ok (.aload_n 0, 1) := by decide +kernel
theorem dX10_work_22 : decode cX10_work 22 = .ok (.getfield 60, 3) := by decide +kernel
theorem dX10_work_25 : decode cX10_work 25 = .ok (.aload_n 0, 1) := by decide +kernel
theorem dX10_work_26 : decode cX10_work 26 = .ok (.getfield 10, 3) := by decide +kernel
theorem dX10_work_29 : decode cX10_work 29 = .ok (.aload_n 0, 1) := by decide +kernel
theorem dX10_work_30 : decode cX10_work 30 = .ok (.getfield 19, 3) := by decide +kernel
theorem dX10_work_33 : decode cX10_work 33 = .ok (.invokevirtual 157, 3) := by decide +kernel
theorem dX10_work_36 : decode cX10_work 36 = .ok (.aload_n 0, 1) := by decide +kernel
theorem dX10_work_37 : decode cX10_work 37 = .ok (.getfield 10, 3) := by decide +kernel
theorem dX10_work_40 : decode cX10_work 40 = .ok (.invokevirtual 125, 3) := by decide +kernel
theorem dX10_work_43 : decode cX10_work 43 = .ok (.ifCond .ne 14, 3) := by decide +kernel
theorem dX10_work_46 : decode cX10_work 46 = .ok (.aload_n 0, 1) := by decide +kernel
theorem dX10_work_47 : decode cX10_work 47 = .ok (.getfield 10, 3) := by decide +kernel
theorem dX10_work_50 : decode cX10_work 50 = .ok (.getfield 129, 3) := by decide +kernel
theorem dX10_work_53 : decode cX10_work 53 = .ok (.bipush 10, 2) := by decide +kernel
theorem dX10_work_55 : decode cX10_work 55 = .ok (.isub, 1) := by decide +kernel
theorem dX10_work_56 : decode cX10_work 56 = .ok (.ireturn, 1) := by decide +kernel
theorem dX10_work_57 : decode cX10_work 57 = .ok (.aload_n 0, 1) := by decide +kernel
theorem dX10_work_58 : decode cX10_work 58 = .ok (.getfield 67, 3) := by decide +kernel
theorem dX10_work_61 : decode cX10_work 61 = .ok (.aload_n 0, 1) := by decide +kernel
