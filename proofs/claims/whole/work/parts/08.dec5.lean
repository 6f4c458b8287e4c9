theorem dX11_lacks_0 : decode cX11_lacks 0 = .ok (.aload_n 0, 1) := by decide +kernel
theorem dX11_lacks_1 : decode cX11_lacks 1 = .ok (.iconst 0, 1) := by decide +kernel
theorem dX11_lacks_2 : decode cX11_lacks 2 = .ok (.putfield 3, 3) := by decide +kernel
theorem dX11_lacks_5 : decode cX11_lacks 5 = .ok (.aload_n 0, 1) := by decide +kernel
theorem dX11_lacks_6 : decode cX11_lacks 6 = .ok (.iload_n 1, 1) := by decide +kernel
theorem dX11_lacks_7 : decode cX11_lacks 7 = .ok (.iconst 1, 1) := by decide +kernel
theorem dX11_lacks_8 : decode cX11_lacks 8 = .ok (.invokevirtual 418, 3) := by decide +kernel
theorem dX11_lacks_11 : decode cX11_lacks 11 = .ok (.ifCond .ne 5, 3) := by decide +kernel
theorem dX11_lacks_14 : decode cX11_lacks 14 = .ok (.iconst 0, 1) := by decide +kernel
theorem dX11_lacks_15 : decode cX11_lacks 15 = .ok (.ireturn, 1) := by decide +kernel
theorem dX11_lacks_16 : decode cX11_lacks 16 = .ok (.aload_n 0, 1) := by decide +kernel
theorem dX11_lacks_17 : decode cX11_lacks 17 = .ok (.invokevirtual 345, 3) := by decide +kernel
theorem dX11_lacks_20 : decode cX11_lacks 20 = .ok (.aload_n 0, 1) := by decide +kernel
theorem dX11_lacks_21 : decode cX11_lacks 21 = .ok (.invokevirtual 394, 3) := by decide +kernel
theorem dX11_lacks_24 : decode cX11_lacks 24 = .ok (.aload_n 0, 1) := by decide +kernel
theorem dX11_lacks_25 : decode cX11_lacks 25 = .ok (.iload_n 1, 1) := by decide +kernel
theorem dX11_lacks_26 : decode cX11_lacks 26 = .ok (.invokevirtual 397, 3) := by decide +kernel
theorem dX11_lacks_29 : decode cX11_lacks 29 = .ok (.aload_n 0, 1) := by decide +kernel
theorem dX11_lacks_30 : decode cX11_lacks 30 = .ok (.invokevirtual 400, 3) := by decide +kernel
theorem dX11_lacks_33 : decode cX11_lacks 33 = .ok (.ireturn, 1) := by decide +kernel
theorem dX11_can_0 : decode cX11_can 0 = .ok (.aload_n 0, 1) := by decide +kernel
theorem dX11_can_1 : decode cX11_can 1 = .ok (.iconst 0, 1) := by decide +kernel
theorem dX11_can_2 : decode cX11_can 2 = .ok (.putfield 3, 3) := by decide +kernel
theorem dX11_can_5 : decode cX11_can 5 = .ok (.aload_n 0, 1) := by decide +kernel
theorem dX11_can_6 : decode cX11_can 6 = .ok (.iload_n 1, 1) := by decide +kernel
theorem dX11_can_7 : decode cX11_can 7 = .ok (.iload_n 2, 1) := by decide +kernel
theorem dX11_can_8 : decode cX11_can 8 = .ok (.iconst 1, 1) := by decide +kernel
theorem dX11_can_9 : decode cX11_can 9 = .ok (.invokevirtual 415, 3) := by decide +kernel
theorem dX11_can_12 : decode cX11_can 12 = .ok (.ifCond .ne 5, 3) := by decide +kernel
theorem dX11_can_15 : decode cX11_can 15 = .ok (.iconst 0, 1) := by decide +kernel
theorem dX11_can_16 : decode cX11_can 16 = .ok (.ireturn, 1) := by decide +kernel
theorem dX11_can_17 : decode cX11_can 17 = .ok (.aload_n 0, 1) := by decide +kernel
theorem dX11_can_18 : decode cX11_can 18 = .ok (.invokevirtual 345, 3) := by decide +kernel
theorem dX11_can_21 : decode cX11_can 21 = .ok (.aload_n 0, 1) := by decide +kernel
theorem dX11_can_22 : decode cX11_can 22 = .ok (.bipush 8, 2) := by decide +kernel
theorem dX11_can_24 : decode cX11_can 24 = .ok (.iload_n 2, 1) := by decide +kernel
theorem dX11_can_25 : decode cX11_can 25 = .ok (.imul, 1) := by decide +kernel
theorem dX11_can_26 : decode cX11_can 26 = .ok (.iload_n 1, 1) := by decide +kernel
theorem dX11_can_27 : decode cX11_can 27 = .ok (.iadd, 1) := by decide +kernel
theorem dX11_can_28 : decode cX11_can 28 = .ok (.invokevirtual 409, 3) := by decide +kernel
theorem dX11_can_31 : decode cX11_can 31 = .ok (.istore_n 3, 1) := by decide +kernel
theorem dX11_can_32 : decode cX11_can 32 = .ok (.iload_n 3, 1) := by decide +kernel
theorem dX11_can_33 : decode cX11_can 33 = .ok (.ifCond .ne 21, 3) := by decide +kernel
theorem dX11_can_36 : decode cX11_can 36 = .ok (.aload_n 0, 1) := by decide +kernel
theorem dX11_can_37 : decode cX11_can 37 = .ok (.getfield 77, 3) := by decide +kernel
theorem dX11_can_40 : decode cX11_can 40 = .ok (.bipush 70, 2) := by decide +kernel
theorem dX11_can_42 : decode cX11_can 42 = .ok (.iaload, 1) := by decide +kernel
theorem dX11_can_43 : decode cX11_can 43 = .ok (.aload_n 0, 1) := by decide +kernel
theorem dX11_can_44 : decode cX11_can 44 = .ok (.getfield 193, 3) := by decide +kernel
theorem dX11_can_47 : decode cX11_can 47 = .ok (.if_icmp .ne 7, 3) := by decide +kernel
theorem dX11_can_50 : decode cX11_can 50 = .ok (.iconst 4, 1) := by decide +kernel
theorem dX11_can_51 : decode cX11_can 51 = .ok (.goto 4, 3) := by decide +kernel
theorem dX11_can_54 : decode cX11_can 54 = .ok (.iload_n 3, 1) := by decide +kernel
theorem dX11_can_55 : decode cX11_can 55 = .ok (.ireturn, 1) := by decide +kernel
theorem dX11_falls_0 : decode cX11_falls 0 = .ok (.aload_n 0, 1) := by decide +kernel
theorem dX11_falls_1 : decode cX11_falls 1 = .ok (.iconst 0, 1) := by decide +kernel
theorem dX11_falls_2 : decode cX11_falls 2 = .ok (.putfield 3, 3) := by decide +kernel
theorem dX11_falls_5 : decode cX11_falls 5 = .ok (.aload_n 0, 1) := by decide +kernel
theorem dX11_falls_6 : decode cX11_falls 6 = .ok (.iload_n 1, 1) := by decide +kernel
theorem dX11_falls_7 : decode cX11_falls 7 = .ok (.iload_n 2, 1) := by decide +kernel
theorem dX11_falls_8 : decode cX11_falls 8 = .ok (.iconst 1, 1) := by decide +kernel
theorem dX11_falls_9 : decode cX11_falls 9 = .ok (.invokevirtual 415, 3) := by decide +kernel
theorem dX11_falls_12 : decode cX11_falls 12 = .ok (.ifCond .ne 5, 3) := by decide +kernel
theorem dX11_falls_15 : decode cX11_falls 15 = .ok (.iconst 0, 1) := by decide +kernel
theorem dX11_falls_16 : decode cX11_falls 16 = .ok (.ireturn, 1) := by decide +kernel
theorem dX11_falls_17 : decode cX11_falls 17 = .ok (.aload_n 0, 1) := by decide +kernel
theorem dX11_falls_18 : decode cX11_falls 18 = .ok (.invokevirtual 345, 3) := by decide +kernel
theorem dX11_falls_21 : decode cX11_falls 21 = .ok (.aload_n 0, 1) := by decide +kernel
theorem dX11_falls_22 : decode cX11_falls 22 = .ok (.bipush 8, 2) := by decide +kernel
theorem dX11_falls_24 : decode cX11_falls 24 = .ok (.iload_n 2, 1) := by decide +kernel
theorem dX11_falls_25 : decode cX11_falls 25 = .ok (.imul, 1) := by decide +kernel
theorem dX11_falls_26 : decode cX11_falls 26 = .ok (.iload_n 1, 1) := by decide +kernel
theorem dX11_falls_27 : decode cX11_falls 27 = .ok (.iadd, 1) := by decide +kernel
theorem dX11_falls_28 : decode cX11_falls 28 = .ok (.invokevirtual 382, 3) := by decide +kernel
theorem dX11_falls_31 : decode cX11_falls 31 = .ok (.ireturn, 1) := by decide +kernel
theorem dX11_risks_0 : decode cX11_risks 0 = .ok (.aload_n 0, 1) := by decide +kernel
theorem dX11_risks_1 : decode cX11_risks 1 = .ok (.iconst 0, 1) := by decide +kernel
theorem dX11_risks_2 : decode cX11_risks 2 = .ok (.putfield 3, 3) := by decide +kernel
theorem dX11_risks_5 : decode cX11_risks 5 = .ok (.aload_n 0, 1) := by decide +kernel
theorem dX11_risks_6 : decode cX11_risks 6 = .ok (.iload_n 1, 1) := by decide +kernel
theorem dX11_risks_7 : decode cX11_risks 7 = .ok (.iload_n 2, 1) := by decide +kernel
theorem dX11_risks_8 : decode cX11_risks 8 = .ok (.iconst 1, 1) := by decide +kernel
theorem dX11_risks_9 : decode cX11_risks 9 = .ok (.invokevirtual 415, 3) := by decide +kernel
theorem dX11_risks_12 : decode cX11_risks 12 = .ok (.ifCond .ne 5, 3) := by decide +kernel
theorem dX11_risks_15 : decode cX11_risks 15 = .ok (.iconst 0, 1) := by decide +kernel
theorem dX11_risks_16 : decode cX11_risks 16 = .ok (.ireturn, 1) := by decide +kernel
theorem dX11_risks_17 : decode cX11_risks 17 = .ok (.aload_n 0, 1) := by decide +kernel
theorem dX11_risks_18 : decode cX11_risks 18 = .ok (.invokevirtual 345, 3) := by decide +kernel
theorem dX11_risks_21 : decode cX11_risks 21 = .ok (.bipush 8, 2) := by decide +kernel
theorem dX11_risks_23 : decode cX11_risks 23 = .ok (.iload_n 2, 1) := by decide +kernel
theorem dX11_risks_24 : decode cX11_risks 24 = .ok (.imul, 1) := by decide +kernel
theorem dX11_risks_25 : decode cX11_risks 25 = .ok (.iload_n 1, 1) := by decide +kernel
theorem dX11_risks_26 : decode cX11_risks 26 = .ok (.iadd, 1) := by decide +kernel
theorem dX11_risks_27 : decode cX11_risks 27 = .ok (.istore_n 3, 1) := by decide +kernel
theorem dX11_risks_28 : decode cX11_risks 28 = .ok (.aload_n 0, 1) := by decide +kernel
theorem dX11_risks_29 : decode cX11_risks 29 = .ok (.iload_n 1, 1) := by decide +kernel
theorem dX11_risks_30 : decode cX11_risks 30 = .ok (.iload_n 2, 1) := by decide +kernel
theorem dX11_risks_31 : decode cX11_risks 31 = .ok (.invokevirtual 367, 3) := by decide +kernel
theorem dX11_risks_34 : decode cX11_risks 34 = .ok (.ifCond .ne 11, 3) := by decide +kernel
theorem dX11_risks_37 : decode cX11_risks 37 = .ok (.aload_n 0, 1) := by decide +kernel
theorem dX11_risks_38 : decode cX11_risks 38 = .ok (.iload_n 3, 1) := by decide +kernel
theorem dX11_risks_39 : decode cX11_risks 39 = .ok (.invokevirtual 385, 3) := by decide +kernel
theorem dX11_risks_42 : decode cX11_risks 42 = .ok (.ifCond .ne 5, 3) := by decide +kernel
theorem dX11_risks_45 : decode cX11_risks 45 = .ok (.iconst (-1), 1) := by decide +kernel
theorem dX11_risks_46 : decode cX11_risks 46 = .ok (.ireturn, 1) := by decide +kernel
theorem dX11_risks_47 : decode cX11_risks 47 = .ok (.aload_n 0, 1) := by decide +kernel
theorem dX11_risks_48 : decode cX11_risks 48 = .ok (.getfield 77, 3) := by decide +kernel
theorem dX11_risks_51 : decode cX11_risks 51 = .ok (.iload_n 3, 1) := by decide +kernel
theorem dX11_risks_52 : decode cX11_risks 52 = .ok (.iconst 1, 1) := by decide +kernel
theorem dX11_risks_53 : decode cX11_risks 53 = .ok (.iastore, 1) := by decide +kernel
theorem dX11_risks_54 : decode cX11_risks 54 = .ok (.aload_n 0, 1) := by decide +kernel
theorem dX11_risks_55 : decode cX11_risks 55 = .ok (.invokevirtual 391, 3) := by decide +kernel
theorem dX11_risks_58 : decode cX11_risks 58 = .ok (.ireturn, 1) := by decide +kernel
theorem dX11_harm_0 : decode cX11_harm 0 = .ok (.aload_n 0, 1) := by decide +kernel
theorem dX11_harm_1 : decode cX11_harm 1 = .ok (.iconst 0, 1) := by decide +kernel
theorem dX11_harm_2 : decode cX11_harm 2 = .ok (.putfield 3, 3) := by decide +kernel
theorem dX11_harm_5 : decode cX11_harm 5 = .ok (.aload_n 0, 1) := by decide +kernel
theorem dX11_harm_6 : decode cX11_harm 6 = .ok (.iload_n 1, 1) := by decide +kernel
theorem dX11_harm_7 : decode cX11_harm 7 = .ok (.iload_n 2, 1) := by decide +kernel
theorem dX11_harm_8 : decode cX11_harm 8 = .ok (.iconst 1, 1) := by decide +kernel
theorem dX11_harm_9 : decode cX11_harm 9 = .ok (.invokevirtual 415, 3) := by decide +kernel
theorem dX11_harm_12 : decode cX11_harm 12 = .ok (.ifCond .ne 5, 3) := by decide +kernel
theorem dX11_harm_15 : decode cX11_harm 15 = .ok (.iconst 0, 1) := by decide +kernel
theorem dX11_harm_16 : decode cX11_harm 16 = .ok (.ireturn, 1) := by decide +kernel
theorem dX11_harm_17 : decode cX11_harm 17 = .ok (.aload_n 0, 1) := by decide +kernel
theorem dX11_harm_18 : decode cX11_harm 18 = .ok (.invokevirtual 345, 3) := by decide +kernel
theorem dX11_harm_21 : decode cX11_harm 21 = .ok (.aload_n 0, 1) := by decide +kernel
theorem dX11_harm_22 : decode cX11_harm 22 = .ok (.bipush 8, 2) := by decide +kernel
theorem dX11_harm_24 : decode cX11_harm 24 = .ok (.iload_n 2, 1) := by decide +kernel
theorem dX11_harm_25 : decode cX11_harm 25 = .ok (.imul, 1) := by decide +kernel
theorem dX11_harm_26 : decode cX11_harm 26 = .ok (.iload_n 1, 1) := by decide +kernel
theorem dX11_harm_27 : decode cX11_harm 27 = .ok (.iadd, 1) := by decide +kernel
theorem dX11_harm_28 : decode cX11_harm 28 = .ok (.invokevirtual 388, 3) := by decide +kernel
theorem dX11_harm_31 : decode cX11_harm 31 = .ok (.ireturn, 1) := by decide +kernel
theorem dX11_bestsOn_0 : decode cX11_bestsOn 0 = .ok (.iload_n 3, 1) := by decide +kernel
theorem dX11_bestsOn_1 : decode cX11_bestsOn 1 = .ok (.aload_n 0, 1) := by decide +kernel
theorem dX11_bestsOn_2 : decode cX11_bestsOn 2 = .ok (.getfield 421, 3) := by decide +kernel
theorem dX11_bestsOn_5 : decode cX11_bestsOn 5 = .ok (.if_icmp .gt 19, 3) := by decide +kernel
theorem dX11_bestsOn_8 : decode cX11_bestsOn 8 = .ok (.iload_n 3, 1) := by decide +kernel
theorem dX11_bestsOn_9 : decode cX11_bestsOn 9 = .ok (.aload_n 0, 1) := by decide +kernel
theorem dX11_bestsOn_10 : decode cX11_bestsOn 10 = .ok (.getfield 421, 3) := by decide +kernel
theorem dX11_bestsOn_13 : decode cX11_bestsOn 13 = .ok (.if_icmp .ne 27, 3) := by decide +kernel
theorem dX11_bestsOn_16 : decode cX11_bestsOn 16 = .ok (.iload_n 1, 1) := by decide +kernel
theorem dX11_bestsOn_17 : decode cX11_bestsOn 17 = .ok (.aload_n 0, 1) := by decide +kernel
theorem dX11_bestsOn_18 : decode cX11_bestsOn 18 = .ok (.getfield 424, 3) := by decide +kernel
theorem dX11_bestsOn_21 : decode cX11_bestsOn 21 = .ok (.if_icmp .ge 19, 3) := by decide +kernel
theorem dX11_bestsOn_24 : decode cX11_bestsOn 24 = .ok (.aload_n 0, 1) := by decide +kernel
theorem dX11_bestsOn_25 : decode cX11_bestsOn 25 = .ok (.iload_n 3, 1) := by decide +kernel
theorem dX11_bestsOn_26 : decode cX11_bestsOn 26 = .ok (.putfield 421, 3) := by decide +kernel
theorem dX11_bestsOn_29 : decode cX11_bestsOn 29 = .ok (.aload_n 0, 1) := by decide +kernel
theorem dX11_bestsOn_30 : decode cX11_bestsOn 30 = .ok (.iload_n 1, 1) := by decide +kernel
theorem dX11_bestsOn_31 : decode cX11_bestsOn 31 = .ok (.putfield 424, 3) := by decide +kernel
theorem dX11_bestsOn_34 : decode cX11_bestsOn 34 = .ok (.aload_n 0, 1) := by decide +kernel
theorem dX11_bestsOn_35 : decode cX11_bestsOn 35 = .ok (.lload 4, 2) := by decide +kernel
theorem dX11_bestsOn_37 : decode cX11_bestsOn 37 = .ok (.putfield 427, 3) := by decide +kernel
theorem dX11_bestsOn_40 : decode cX11_bestsOn 40 = .ok (.iload_n 1, 1) := by decide +kernel
theorem dX11_bestsOn_41 : decode cX11_bestsOn 41 = .ok (.iload_n 2, 1) := by decide +kernel
theorem dX11_bestsOn_42 : decode cX11_bestsOn 42 = .ok (.if_icmp .ne 4, 3) := by decide +kernel
theorem dX11_bestsOn_45 : decode cX11_bestsOn 45 = .ok (.return_, 1) := by decide +kernel
theorem dX11_bestsOn_46 : decode cX11_bestsOn 46 = .ok (.iconst 0, 1) := by decide +kernel
theorem dX11_bestsOn_47 : decode cX11_bestsOn 47 = .ok (.istore 6, 2) := by decide +kernel
theorem dX11_bestsOn_49 : decode cX11_bestsOn 49 = .ok (.iload 6, 2) := by decide +kernel
theorem dX11_bestsOn_51 : decode cX11_bestsOn 51 = .ok (.bipush 77, 2) := by decide +kernel
theorem dX11_bestsOn_53 : decode cX11_bestsOn 53 = .ok (.if_icmp .ge 28, 3) := by decide +kernel
theorem dX11_bestsOn_56 : decode cX11_bestsOn 56 = .ok (.aload_n 0, 1) := by decide +kernel
theorem dX11_bestsOn_57 : decode cX11_bestsOn 57 = .ok (.getfield 96, 3) := by decide +kernel
theorem dX11_bestsOn_60 : decode cX11_bestsOn 60 = .ok (.bipush 77, 2) := by decide +kernel
theorem dX11_bestsOn_62 : decode cX11_bestsOn 62 = .ok (.iload_n 1, 1) := by decide +kernel
theorem dX11_bestsOn_63 : decode cX11_bestsOn 63 = .ok (.imul, 1) := by decide +kernel
theorem dX11_bestsOn_64 : decode cX11_bestsOn 64 = .ok (.iload 6, 2) := by decide +kernel
theorem dX11_bestsOn_66 : decode cX11_bestsOn 66 = .ok (.iadd, 1) := by decide +kernel
theorem dX11_bestsOn_67 : decode cX11_bestsOn 67 = .ok (.aload_n 0, 1) := by decide +kernel
theorem dX11_bestsOn_68 : decode cX11_bestsOn 68 = .ok (.getfield 77, 3) := by decide +kernel
theorem dX11_bestsOn_71 : decode cX11_bestsOn 71 = .ok (.iload 6, 2) := by decide +kernel
theorem dX11_bestsOn_73 : decode cX11_bestsOn 73 = .ok (.iaload, 1) := by decide +kernel
theorem dX11_bestsOn_74 : decode cX11_bestsOn 74 = .ok (.iastore, 1) := by decide +kernel
theorem dX11_bestsOn_75 : decode cX11_bestsOn 75 = .ok (.iinc 6 1, 3) := by decide +kernel
theorem dX11_bestsOn_78 : decode cX11_bestsOn 78 = .ok (.goto (-29), 3) := by decide +kernel
theorem dX11_bestsOn_81 : decode cX11_bestsOn 81 = .ok (.iconst 0, 1) := by decide +kernel
theorem dX11_bestsOn_82 : decode cX11_bestsOn 82 = .ok (.istore 6, 2) := by decide +kernel
theorem dX11_bestsOn_84 : decode cX11_bestsOn 84 = .ok (.iload 6, 2) := by decide +kernel
theorem dX11_bestsOn_86 : decode cX11_bestsOn 86 = .ok (.bipush 48, 2) := by decide +kernel
theorem dX11_bestsOn_88 : decode cX11_bestsOn 88 = .ok (.if_icmp .ge 149, 3) := by decide +kernel
theorem dX11_bestsOn_91 : decode cX11_bestsOn 91 = .ok (.aload_n 0, 1) := by decide +kernel
theorem dX11_bestsOn_92 : decode cX11_bestsOn 92 = .ok (.iload 6, 2) := by decide +kernel
theorem dX11_bestsOn_94 : decode cX11_bestsOn 94 = .ok (.bipush 8, 2) := by decide +kernel
theorem dX11_bestsOn_96 : decode cX11_bestsOn 96 = .ok (.irem, 1) := by decide +kernel
theorem dX11_bestsOn_97 : decode cX11_bestsOn 97 = .ok (.iload 6, 2) := by decide +kernel
theorem dX11_bestsOn_99 : decode cX11_bestsOn 99 = .ok (.bipush 8, 2) := by decide +kernel
theorem dX11_bestsOn_101 : decode cX11_bestsOn 101 = .ok (.idiv, 1) := by decide +kernel
theorem dX11_bestsOn_102 : decode cX11_bestsOn 102 = .ok (.invokevirtual 363, 3) := by decide +kernel
theorem dX11_bestsOn_105 : decode cX11_bestsOn 105 = .ok (.ifCond .eq 126, 3) := by decide +kernel
theorem dX11_bestsOn_108 : decode cX11_bestsOn 108 = .ok (.aload_n 0, 1) := by decide +kernel
theorem dX11_bestsOn_109 : decode cX11_bestsOn 109 = .ok (.iload 6, 2) := by decide +kernel
theorem dX11_bestsOn_111 : decode cX11_bestsOn 111 = .ok (.invokevirtual 409, 3) := by decide +kernel
theorem dX11_bestsOn_114 : decode cX11_bestsOn 114 = .ok (.ifCond .eq 6, 3) := by decide +kernel
theorem dX11_bestsOn_117 : decode cX11_bestsOn 117 = .ok (.goto 114, 3) := by decide +kernel
theorem dX11_bestsOn_120 : decode cX11_bestsOn 120 = .ok (.aload_n 0, 1) := by decide +kernel
theorem dX11_bestsOn_121 : decode cX11_bestsOn 121 = .ok (.getfield 77, 3) := by decide +kernel
theorem dX11_bestsOn_124 : decode cX11_bestsOn 124 = .ok (.iload 6, 2) := by decide +kernel
theorem dX11_bestsOn_126 : decode cX11_bestsOn 126 = .ok (.iaload, 1) := by decide +kernel
theorem dX11_bestsOn_127 : decode cX11_bestsOn 127 = .ok (.ifCond .ne 36, 3) := by decide +kernel
theorem dX11_bestsOn_130 : decode cX11_bestsOn 130 = .ok (.aload_n 0, 1) := by decide +kernel
theorem dX11_bestsOn_131 : decode cX11_bestsOn 131 = .ok (.getfield 38, 3) := by decide +kernel
theorem dX11_bestsOn_134 : decode cX11_bestsOn 134 = .ok (.iload 6, 2) := by decide +kernel
theorem dX11_bestsOn_136 : decode cX11_bestsOn 136 = .ok (.iaload, 1) := by decide +kernel
theorem dX11_bestsOn_137 : decode cX11_bestsOn 137 = .ok (.ifCond .le 26, 3) := by decide +kernel
theorem dX11_bestsOn_140 : decode cX11_bestsOn 140 = .ok (.aload_n 0, 1) := by decide +kernel
theorem dX11_bestsOn_141 : decode cX11_bestsOn 141 = .ok (.getfield 38, 3) := by decide +kernel
theorem dX11_bestsOn_144 : decode cX11_bestsOn 144 = .ok (.iload 6, 2) := by decide +kernel
theorem dX11_bestsOn_146 : decode cX11_bestsOn 146 = .ok (.iaload, 1) := by decide +kernel
theorem dX11_bestsOn_147 : decode cX11_bestsOn 147 = .ok (.aload_n 0, 1) := by decide +kernel
theorem dX11_bestsOn_148 : decode cX11_bestsOn 148 = .ok (.getfield 41, 3) := by decide +kernel
theorem dX11_bestsOn_151 : decode cX11_bestsOn 151 = .ok (.aload_n 0, 1) := by decide +kernel
theorem dX11_bestsOn_152 : decode cX11_bestsOn 152 = .ok (.getfield 35, 3) := by decide +kernel
theorem dX11_bestsOn_155 : decode cX11_bestsOn 155 = .ok (.iload 6, 2) := by decide +kernel
theorem dX11_bestsOn_157 : decode cX11_bestsOn 157 = .ok (.iaload, 1) := by decide +kernel
theorem dX11_bestsOn_158 : decode cX11_bestsOn 158 = .ok (.iaload, 1) := by decide +kernel
theorem dX11_bestsOn_159 : decode cX11_bestsOn 159 = .ok (.imul, 1) := by decide +kernel
theorem dX11_bestsOn_160 : decode cX11_bestsOn 160 = .ok (.goto 4, 3) := by decide +kernel
theorem dX11_bestsOn_163 : decode cX11_bestsOn 163 = .ok (.iconst 0, 1) := by decide +kernel
theorem dX11_bestsOn_164 : decode cX11_bestsOn 164 = .ok (.istore 7, 2) := by decide +kernel
theorem dX11_bestsOn_166 : decode cX11_bestsOn 166 = .ok (.aload_n 0, 1) := by decide +kernel
theorem dX11_bestsOn_167 : decode cX11_bestsOn 167 = .ok (.iload 6, 2) := by decide +kernel
theorem dX11_bestsOn_169 : decode cX11_bestsOn 169 = .ok (.invokevirtual 412, 3) := by decide +kernel
theorem dX11_bestsOn_172 : decode cX11_bestsOn 172 = .ok (.aload_n 0, 1) := by decide +kernel
theorem dX11_bestsOn_173 : decode cX11_bestsOn 173 = .ok (.iload_n 1, 1) := by decide +kernel
theorem dX11_bestsOn_174 : decode cX11_bestsOn 174 = .ok (.iconst 1, 1) := by decide +kernel
theorem dX11_bestsOn_175 : decode cX11_bestsOn 175 = .ok (.iadd, 1) := by decide +kernel
theorem dX11_bestsOn_176 : decode cX11_bestsOn 176 = .ok (.iload_n 2, 1) := by decide +kernel
theorem dX11_bestsOn_177 : decode cX11_bestsOn 177 = .ok (.iload_n 3, 1) := by decide +kernel
theorem dX11_bestsOn_178 : decode cX11_bestsOn 178 = .ok (.iload 7, 2) := by decide +kernel
theorem dX11_bestsOn_180 : decode cX11_bestsOn 180 = .ok (.iadd, 1) := by decide +kernel
theorem dX11_bestsOn_181 : decode cX11_bestsOn 181 = .ok (.ldc2_w 431, 3) := by decide +kernel
theorem dX11_bestsOn_184 : decode cX11_bestsOn 184 = .ok (.lload 4, 2) := by decide +kernel
theorem dX11_bestsOn_186 : decode cX11_bestsOn 186 = .ok (.lmul, 1) := by decide +kernel
theorem dX11_bestsOn_187 : decode cX11_bestsOn 187 = .ok (.iload 6, 2) := by decide +kernel
theorem dX11_bestsOn_189 : decode cX11_bestsOn 189 = .ok (.i2l, 1) := by decide +kernel
theorem dX11_bestsOn_190 : decode cX11_bestsOn 190 = .ok (.ladd, 1) := by decide +kernel
theorem dX11_bestsOn_191 : decode cX11_bestsOn 191 = .ok (.lconst 1, 1) := by decide +kernel
theorem dX11_bestsOn_192 : decode cX11_bestsOn 192 = .ok (.ladd, 1) := by decide +kernel
theorem dX11_bestsOn_193 : decode cX11_bestsOn 193 = .ok (.invokevirtual 433, 3) := by decide +kernel
theorem dX11_bestsOn_196 : decode cX11_bestsOn 196 = .ok (.iconst 0, 1) := by decide +kernel
theorem dX11_bestsOn_197 : decode cX11_bestsOn 197 = .ok (.istore 8, 2) := by decide +kernel
theorem dX11_bestsOn_199 : decode cX11_bestsOn 199 = .ok (.iload 8, 2) := by decide +kernel
theorem dX11_bestsOn_201 : decode cX11_bestsOn 201 = .ok (.bipush 77, 2) := by decide +kernel
theorem dX11_bestsOn_203 : decode cX11_bestsOn 203 = .ok (.if_icmp .ge 28, 3) := by decide +kernel
theorem dX11_bestsOn_206 : decode cX11_bestsOn 206 = .ok (.aload_n 0, 1) := by decide +kernel
theorem dX11_bestsOn_207 : decode cX11_bestsOn 207 = .ok (.getfield 77, 3) := by decide +kernel
theorem dX11_bestsOn_210 : decode cX11_bestsOn 210 = .ok (.iload 8, 2) := by decide +kernel
theorem dX11_bestsOn_212 : decode cX11_bestsOn 212 = .ok (.aload_n 0, 1) := by decide +kernel
theorem dX11_bestsOn_213 : decode cX11_bestsOn 213 = .ok (.getfield 96, 3) := by decide +kernel
theorem dX11_bestsOn_216 : decode cX11_bestsOn 216 = .ok (.bipush 77, 2) := by decide +kernel
theorem dX11_bestsOn_218 : decode cX11_bestsOn 218 = .ok (.iload_n 1, 1) := by decide +kernel
theorem dX11_bestsOn_219 : decode cX11_bestsOn 219 = .ok (.imul, 1) := by decide +kernel
theorem dX11_bestsOn_220 : decode cX11_bestsOn 220 = .ok (.iload 8, 2) := by decide +kernel
theorem dX11_bestsOn_222 : decode cX11_bestsOn 222 = .ok (.iadd, 1) := by decide +kernel
theorem dX11_bestsOn_223 : decode cX11_bestsOn 223 = .ok (.iaload, 1) := by decide +kernel
theorem dX11_bestsOn_224 : decode cX11_bestsOn 224 = .ok (.iastore, 1) := by decide +kernel
theorem dX11_bestsOn_225 : decode cX11_bestsOn 225 = .ok (.iinc 8 1, 3) := by decide +kernel
theorem dX11_bestsOn_228 : decode cX11_bestsOn 228 = .ok (.goto (-29), 3) := by decide +kernel
theorem dX11_bestsOn_231 : decode cX11_bestsOn 231 = .ok (.iinc 6 1, 3) := by decide +kernel
theorem dX11_bestsOn_234 : decode cX11_bestsOn 234 = .ok (.goto (-150), 3) := by decide +kernel
theorem dX11_bestsOn_237 : decode cX11_bestsOn 237 = .ok (.return_, 1) := by decide +kernel
theorem dX11_best_0 : decode cX11_best 0 = .ok (.aload_n 0, 1) := by decide +kernel
theorem dX11_best_1 : decode cX11_best 1 = .ok (.iconst 0, 1) := by decide +kernel
theorem dX11_best_2 : decode cX11_best 2 = .ok (.putfield 3, 3) := by decide +kernel
theorem dX11_best_5 : decode cX11_best 5 = .ok (.aload_n 0, 1) := by decide +kernel
theorem dX11_best_6 : decode cX11_best 6 = .ok (.iload_n 1, 1) := by decide +kernel
theorem dX11_best_7 : decode cX11_best 7 = .ok (.iconst 0, 1) := by decide +kernel
theorem dX11_best_8 : decode cX11_best 8 = .ok (.iconst 3, 1) := by decide +kernel
theorem dX11_best_9 : decode cX11_best 9 = .ok (.invokestatic 317, 3) := by decide +kernel
theorem dX11_best_12 : decode cX11_best 12 = .ok (.ifCond .eq 16, 3) := by decide +kernel
theorem dX11_best_15 : decode cX11_best 15 = .ok (.iload_n 2, 1) := by decide +kernel
theorem dX11_best_16 : decode cX11_best 16 = .ok (.iconst 0, 1) := by decide +kernel
theorem dX11_best_17 : decode cX11_best 17 = .ok (.iconst 1, 1) := by decide +kernel
theorem dX11_best_18 : decode cX11_best 18 = .ok (.invokestatic 317, 3) := by decide +kernel
theorem dX11_best_21 : decode cX11_best 21 = .ok (.ifCond .eq 7, 3) := by decide +kernel
theorem dX11_best_24 : decode cX11_best 24 = .ok (.iconst 1, 1) := by decide +kernel
theorem dX11_best_25 : decode cX11_best 25 = .ok (.goto 4, 3) := by decide +kernel
theorem dX11_best_28 : decode cX11_best 28 = .ok (.iconst 0, 1) := by decide +kernel
theorem dX11_best_29 : decode cX11_best 29 = .ok (.iconst 1, 1) := by decide +kernel
theorem dX11_best_30 : decode cX11_best 30 = .ok (.iconst 2, 1) := by decide +kernel
theorem dX11_best_31 : decode cX11_best 31 = .ok (.invokevirtual 252, 3) := by decide +kernel
theorem dX11_best_34 : decode cX11_best 34 = .ok (.ifCond .ne 5, 3) := by decide +kernel
theorem dX11_best_37 : decode cX11_best 37 = .ok (.lconst 0, 1) := by decide +kernel
theorem dX11_best_38 : decode cX11_best 38 = .ok (.lreturn, 1) := by decide +kernel
theorem dX11_best_39 : decode cX11_best 39 = .ok (.aload_n 0, 1) := by decide +kernel
theorem dX11_best_40 : decode cX11_best 40 = .ok (.invokevirtual 345, 3) := by decide +kernel
theorem dX11_best_43 : decode cX11_best 43 = .ok (.aload_n 0, 1) := by decide +kernel
theorem dX11_best_44 : decode cX11_best 44 = .ok (.iconst (-1), 1) := by decide +kernel
theorem dX11_best_45 : decode cX11_best 45 = .ok (.putfield 421, 3) := by decide +kernel
theorem dX11_best_48 : decode cX11_best 48 = .ok (.aload_n 0, 1) := by decide +kernel
theorem dX11_best_49 : decode cX11_best 49 = .ok (.iconst 0, 1) := by decide +kernel
theorem dX11_best_50 : decode cX11_best 50 = .ok (.putfield 424, 3) := by decide +kernel
theorem dX11_best_53 : decode cX11_best 53 = .ok (.aload_n 0, 1) := by decide +kernel
theorem dX11_best_54 : decode cX11_best 54 = .ok (.iconst 0, 1) := by decide +kernel
theorem dX11_best_55 : decode cX11_best 55 = .ok (.iload_n 1, 1) := by decide +kernel
theorem dX11_best_56 : decode cX11_best 56 = .ok (.iconst 0, 1) := by decide +kernel
theorem dX11_best_57 : decode cX11_best 57 = .ok (.lconst 0, 1) := by decide +kernel
theorem dX11_best_58 : decode cX11_best 58 = .ok (.invokevirtual 433, 3) := by decide +kernel
theorem dX11_best_61 : decode cX11_best 61 = .ok (.iload_n 2, 1) := by decide +kernel
theorem dX11_best_62 : decode cX11_best 62 = .ok (.ifCond .ne 11, 3) := by decide +kernel
theorem dX11_best_65 : decode cX11_best 65 = .ok (.aload_n 0, 1) := by decide +kernel
theorem dX11_best_66 : decode cX11_best 66 = .ok (.getfield 421, 3) := by decide +kernel
theorem dX11_best_69 : decode cX11_best 69 = .ok (.i2l, 1) := by decide +kernel
theorem dX11_best_70 : decode cX11_best 70 = .ok (.goto 7, 3) := by decide +kernel
theorem dX11_best_73 : decode cX11_best 73 = .ok (.aload_n 0, 1) := by decide +kernel
theorem dX11_best_74 : decode cX11_best 74 = .ok (.getfield 427, 3) := by decide +kernel
theorem dX11_best_77 : decode cX11_best 77 = .ok (.lreturn, 1) := by decide +kernel
theorem dX11_barsIn_0 : decode cX11_barsIn 0 = .ok (.aload_n 0, 1) := by decide +kernel
theorem dX11_barsIn_1 : decode cX11_barsIn 1 = .ok (.getfield 77, 3) := by decide +kernel
theorem dX11_barsIn_4 : decode cX11_barsIn 4 = .ok (.iload_n 1, 1) := by decide +kernel
theorem dX11_barsIn_5 : decode cX11_barsIn 5 = .ok (.iaload, 1) := by decide +kernel
theorem dX11_barsIn_6 : decode cX11_barsIn 6 = .ok (.ifCond .ne 12, 3) := by decide +kernel
theorem dX11_barsIn_9 : decode cX11_barsIn 9 = .ok (.aload_n 0, 1) := by decide +kernel
theorem dX11_barsIn_10 : decode cX11_barsIn 10 = .ok (.getfield 38, 3) := by decide +kernel
theorem dX11_barsIn_13 : decode cX11_barsIn 13 = .ok (.iload_n 1, 1) := by decide +kernel
theorem dX11_barsIn_14 : decode cX11_barsIn 14 = .ok (.iaload, 1) := by decide +kernel
theorem dX11_barsIn_15 : decode cX11_barsIn 15 = .ok (.goto 4, 3) := by decide +kernel
theorem dX11_barsIn_18 : decode cX11_barsIn 18 = .ok (.iconst 0, 1) := by decide +kernel
theorem dX11_barsIn_19 : decode cX11_barsIn 19 = .ok (.ireturn, 1) := by decide +kernel
theorem dX11_comes_0 : decode cX11_comes 0 = .ok (.aload_n 0, 1) := by decide +kernel
theorem dX11_comes_1 : decode cX11_comes 1 = .ok (.getfield 99, 3) := by decide +kernel
theorem dX11_comes_4 : decode cX11_comes 4 = .ok (.iload_n 2, 1) := by decide +kernel
theorem dX11_comes_5 : decode cX11_comes 5 = .ok (.iaload, 1) := by decide +kernel
theorem dX11_comes_6 : decode cX11_comes 6 = .ok (.iconst 1, 1) := by decide +kernel
theorem dX11_comes_7 : decode cX11_comes 7 = .ok (.iadd, 1) := by decide +kernel
theorem dX11_comes_8 : decode cX11_comes 8 = .ok (.istore_n 3, 1) := by decide +kernel
theorem dX11_comes_9 : decode cX11_comes 9 = .ok (.aload_n 0, 1) := by decide +kernel
theorem dX11_comes_10 : decode cX11_comes 10 = .ok (.getfield 102, 3) := by decide +kernel
theorem dX11_comes_13 : decode cX11_comes 13 = .ok (.iload_n 2, 1) := by decide +kernel
theorem dX11_comes_14 : decode cX11_comes 14 = .ok (.iaload, 1) := by decide +kernel
theorem dX11_comes_15 : decode cX11_comes 15 = .ok (.aload_n 0, 1) := by decide +kernel
theorem dX11_comes_16 : decode cX11_comes 16 = .ok (.iload_n 1, 1) := by decide +kernel
theorem dX11_comes_17 : decode cX11_comes 17 = .ok (.invokevirtual 437, 3) := by decide +kernel
theorem dX11_comes_20 : decode cX11_comes 20 = .ok (.iadd, 1) := by decide +kernel
theorem dX11_comes_21 : decode cX11_comes 21 = .ok (.istore 4, 2) := by decide +kernel
theorem dX11_comes_23 : decode cX11_comes 23 = .ok (.iload_n 3, 1) := by decide +kernel
theorem dX11_comes_24 : decode cX11_comes 24 = .ok (.aload_n 0, 1) := by decide +kernel
theorem dX11_comes_25 : decode cX11_comes 25 = .ok (.getfield 99, 3) := by decide +kernel
theorem dX11_comes_28 : decode cX11_comes 28 = .ok (.iload_n 1, 1) := by decide +kernel
theorem dX11_comes_29 : decode cX11_comes 29 = .ok (.iaload, 1) := by decide +kernel
theorem dX11_comes_30 : decode cX11_comes 30 = .ok (.if_icmp .gt 24, 3) := by decide +kernel
theorem dX11_comes_33 : decode cX11_comes 33 = .ok (.iload_n 3, 1) := by decide +kernel
theorem dX11_comes_34 : decode cX11_comes 34 = .ok (.aload_n 0, 1) := by decide +kernel
theorem dX11_comes_35 : decode cX11_comes 35 = .ok (.getfield 99, 3) := by decide +kernel
theorem dX11_comes_38 : decode cX11_comes 38 = .ok (.iload_n 1, 1) := by decide +kernel
theorem dX11_comes_39 : decode cX11_comes 39 = .ok (.iaload, 1) := by decide +kernel
theorem dX11_comes_40 : decode cX11_comes 40 = .ok (.if_icmp .ne 16, 3) := by decide +kernel
theorem dX11_comes_43 : decode cX11_comes 43 = .ok (.iload 4, 2) := by decide +kernel
theorem dX11_comes_45 : decode cX11_comes 45 = .ok (.aload_n 0, 1) := by decide +kernel
theorem dX11_comes_46 : decode cX11_comes 46 = .ok (.getfield 102, 3) := by decide +kernel
theorem dX11_comes_49 : decode cX11_comes 49 = .ok (.iload_n 1, 1) := by decide +kernel
theorem dX11_comes_50 : decode cX11_comes 50 = .ok (.iaload, 1) := by decide +kernel
theorem dX11_comes_51 : decode cX11_comes 51 = .ok (.if_icmp .gt 5, 3) := by decide +kernel
theorem dX11_comes_54 : decode cX11_comes 54 = .ok (.iconst 0, 1) := by decide +kernel
theorem dX11_comes_55 : decode cX11_comes 55 = .ok (.ireturn, 1) := by decide +kernel
theorem dX11_comes_56 : decode cX11_comes 56 = .ok (.aload_n 0, 1) := by decide +kernel
theorem dX11_comes_57 : decode cX11_comes 57 = .ok (.getfield 99, 3) := by decide +kernel
theorem dX11_comes_60 : decode cX11_comes 60 = .ok (.iload_n 1, 1) := by decide +kernel
theorem dX11_comes_61 : decode cX11_comes 61 = .ok (.iload_n 3, 1) := by decide +kernel
theorem dX11_comes_62 : decode cX11_comes 62 = .ok (.iastore, 1) := by decide +kernel
theorem dX11_comes_63 : decode cX11_comes 63 = .ok (.aload_n 0, 1) := by decide +kernel
theorem dX11_comes_64 : decode cX11_comes 64 = .ok (.getfield 102, 3) := by decide +kernel
theorem dX11_comes_67 : decode cX11_comes 67 = .ok (.iload_n 1, 1) := by decide +kernel
theorem dX11_comes_68 : decode cX11_comes 68 = .ok (.iload 4, 2) := by decide +kernel
theorem dX11_comes_70 : decode cX11_comes 70 = .ok (.iastore, 1) := by decide +kernel
theorem dX11_comes_71 : decode cX11_comes 71 = .ok (.iconst 1, 1) := by decide +kernel
theorem dX11_comes_72 : decode cX11_comes 72 = .ok (.ireturn, 1) := by decide +kernel
theorem dX11_findWays_0 : decode cX11_findWays 0 = .ok (.iconst 0, 1) := by decide +kernel
theorem dX11_findWays_1 : decode cX11_findWays 1 = .ok (.istore_n 2, 1) := by decide +kernel
theorem dX11_findWays_2 : decode cX11_findWays 2 = .ok (.iload_n 2, 1) := by decide +kernel
theorem dX11_findWays_3 : decode cX11_findWays 3 = .ok (.bipush 48, 2) := by decide +kernel
theorem dX11_findWays_5 : decode cX11_findWays 5 = .ok (.if_icmp .ge 104, 3) := by decide +kernel
theorem dX11_findWays_8 : decode cX11_findWays 8 = .ok (.aload_n 0, 1) := by decide +kernel
theorem dX11_findWays_9 : decode cX11_findWays 9 = .ok (.iload_n 2, 1) := by decide +kernel
theorem dX11_findWays_10 : decode cX11_findWays 10 = .ok (.bipush 8, 2) := by decide +kernel
theorem dX11_findWays_12 : decode cX11_findWays 12 = .ok (.irem, 1) := by decide +kernel
theorem dX11_findWays_13 : decode cX11_findWays 13 = .ok (.iload_n 2, 1) := by decide +kernel
theorem dX11_findWays_14 : decode cX11_findWays 14 = .ok (.bipush 8, 2) := by decide +kernel
theorem dX11_findWays_16 : decode cX11_findWays 16 = .ok (.idiv, 1) := by decide +kernel
theorem dX11_findWays_17 : decode cX11_findWays 17 = .ok (.invokevirtual 363, 3) := by decide +kernel
theorem dX11_findWays_20 : decode cX11_findWays 20 = .ok (.ifCond .eq 45, 3) := by decide +kernel
theorem dX11_findWays_23 : decode cX11_findWays 23 = .ok (.aload_n 0, 1) := by decide +kernel
theorem dX11_findWays_24 : decode cX11_findWays 24 = .ok (.iload_n 2, 1) := by decide +kernel
theorem dX11_findWays_25 : decode cX11_findWays 25 = .ok (.bipush 8, 2) := by decide +kernel
theorem dX11_findWays_27 : decode cX11_findWays 27 = .ok (.irem, 1) := by decide +kernel
theorem dX11_findWays_28 : decode cX11_findWays 28 = .ok (.iload_n 2, 1) := by decide +kernel
theorem dX11_findWays_29 : decode cX11_findWays 29 = .ok (.bipush 8, 2) := by decide +kernel
theorem dX11_findWays_31 : decode cX11_findWays 31 = .ok (.idiv, 1) := by decide +kernel
theorem dX11_findWays_32 : decode cX11_findWays 32 = .ok (.invokevirtual 367, 3) := by decide +kernel
theorem dX11_findWays_35 : decode cX11_findWays 35 = .ok (.ifCond .ne 30, 3) := by decide +kernel
theorem dX11_findWays_38 : decode cX11_findWays 38 = .ok (.aload_n 0, 1) := by decide +kernel
theorem dX11_findWays_39 : decode cX11_findWays 39 = .ok (.iload_n 2, 1) := by decide +kernel
theorem dX11_findWays_40 : decode cX11_findWays 40 = .ok (.invokevirtual 385, 3) := by decide +kernel
theorem dX11_findWays_43 : decode cX11_findWays 43 = .ok (.ifCond .eq 22, 3) := by decide +kernel
theorem dX11_findWays_46 : decode cX11_findWays 46 = .ok (.aload_n 0, 1) := by decide +kernel
theorem dX11_findWays_47 : decode cX11_findWays 47 = .ok (.getfield 35, 3) := by decide +kernel
theorem dX11_findWays_50 : decode cX11_findWays 50 = .ok (.iload_n 2, 1) := by decide +kernel
theorem dX11_findWays_51 : decode cX11_findWays 51 = .ok (.iaload, 1) := by decide +kernel
theorem dX11_findWays_52 : decode cX11_findWays 52 = .ok (.iconst 5, 1) := by decide +kernel
theorem dX11_findWays_53 : decode cX11_findWays 53 = .ok (.if_icmp .ne 8, 3) := by decide +kernel
theorem dX11_findWays_56 : decode cX11_findWays 56 = .ok (.iload_n 2, 1) := by decide +kernel
theorem dX11_findWays_57 : decode cX11_findWays 57 = .ok (.iload_n 1, 1) := by decide +kernel
theorem dX11_findWays_58 : decode cX11_findWays 58 = .ok (.if_icmp .ne 7, 3) := by decide +kernel
theorem dX11_findWays_61 : decode cX11_findWays 61 = .ok (.iconst 1, 1) := by decide +kernel
theorem dX11_findWays_62 : decode cX11_findWays 62 = .ok (.goto 4, 3) := by decide +kernel
theorem dX11_findWays_65 : decode cX11_findWays 65 = .ok (.iconst 0, 1) := by decide +kernel
theorem dX11_findWays_66 : decode cX11_findWays 66 = .ok (.istore_n 3, 1) := by decide +kernel
theorem dX11_findWays_67 : decode cX11_findWays 67 = .ok (.aload_n 0, 1) := by decide +kernel
theorem dX11_findWays_68 : decode cX11_findWays 68 = .ok (.getfield 99, 3) := by decide +kernel
theorem dX11_findWays_71 : decode cX11_findWays 71 = .ok (.iload_n 2, 1) := by decide +kernel
theorem dX11_findWays_72 : decode cX11_findWays 72 = .ok (.iload_n 3, 1) := by decide +kernel
theorem dX11_findWays_73 : decode cX11_findWays 73 = .ok (.ifCond .eq 7, 3) := by decide +kernel
theorem dX11_findWays_76 : decode cX11_findWays 76 = .ok (.iconst 1, 1) := by decide +kernel
theorem dX11_findWays_77 : decode cX11_findWays 77 = .ok (.goto 6, 3) := by decide +kernel
theorem dX11_findWays_80 : decode cX11_findWays 80 = .ok (.sipush 1000, 3) := by decide +kernel
theorem dX11_findWays_83 : decode cX11_findWays 83 = .ok (.iastore, 1) := by decide +kernel
theorem dX11_findWays_84 : decode cX11_findWays 84 = .ok (.aload_n 0, 1) := by decide +kernel
theorem dX11_findWays_85 : decode cX11_findWays 85 = .ok (.getfield 102, 3) := by decide +kernel
theorem dX11_findWays_88 : decode cX11_findWays 88 = .ok (.iload_n 2, 1) := by decide +kernel
theorem dX11_findWays_89 : decode cX11_findWays 89 = .ok (.iload_n 3, 1) := by decide +kernel
theorem dX11_findWays_90 : decode cX11_findWays 90 = .ok (.ifCond .eq 11, 3) := by decide +kernel
theorem dX11_findWays_93 : decode cX11_findWays 93 = .ok (.aload_n 0, 1) := by decide +kernel
theorem dX11_findWays_94 : decode cX11_findWays 94 = .ok (.iload_n 2, 1) := by decide +kernel
theorem dX11_findWays_95 : decode cX11_findWays 95 = .ok (.invokevirtual 437, 3) := by decide +kernel
theorem dX11_findWays_98 : decode cX11_findWays 98 = .ok (.goto 4, 3) := by decide +kernel
theorem dX11_findWays_101 : decode cX11_findWays 101 = .ok (.iconst 0, 1) := by decide +kernel
theorem dX11_findWays_102 : decode cX11_findWays 102 = .ok (.iastore, 1) := by decide +kernel
theorem dX11_findWays_103 : decode cX11_findWays 103 = .ok (.iinc 2 1, 3) := by decide +kernel
theorem dX11_findWays_106 : decode cX11_findWays 106 = .ok (.goto (-104), 3) := by decide +kernel
theorem dX11_findWays_109 : decode cX11_findWays 109 = .ok (.iconst 1, 1) := by decide +kernel
theorem dX11_findWays_110 : decode cX11_findWays 110 = .ok (.istore_n 2, 1) := by decide +kernel
theorem dX11_findWays_111 : decode cX11_findWays 111 = .ok (.iload_n 2, 1) := by decide +kernel
theorem dX11_findWays_112 : decode cX11_findWays 112 = .ok (.ifCond .eq 210, 3) := by decide +kernel
theorem dX11_findWays_115 : decode cX11_findWays 115 = .ok (.iconst 0, 1) := by decide +kernel
theorem dX11_findWays_116 : decode cX11_findWays 116 = .ok (.istore_n 2, 1) := by decide +kernel
theorem dX11_findWays_117 : decode cX11_findWays 117 = .ok (.iconst 0, 1) := by decide +kernel
theorem dX11_findWays_118 : decode cX11_findWays 118 = .ok (.istore_n 3, 1) := by decide +kernel
theorem dX11_findWays_119 : decode cX11_findWays 119 = .ok (.iload_n 3, 1) := by decide +kernel
theorem dX11_findWays_120 : decode cX11_findWays 120 = .ok (.bipush 48, 2) := by decide +kernel
theorem dX11_findWays_122 : decode cX11_findWays 122 = .ok (.if_icmp .ge 197, 3) := by decide +kernel
theorem dX11_findWays_125 : decode cX11_findWays 125 = .ok (.iload_n 3, 1) := by decide +kernel
theorem dX11_findWays_126 : decode cX11_findWays 126 = .ok (.bipush 8, 2) := by decide +kernel
theorem dX11_findWays_128 : decode cX11_findWays 128 = .ok (.irem, 1) := by decide +kernel
theorem dX11_findWays_129 : decode cX11_findWays 129 = .ok (.istore 4, 2) := by decide +kernel
theorem dX11_findWays_131 : decode cX11_findWays 131 = .ok (.iload_n 3, 1) := by decide +kernel
theorem dX11_findWays_132 : decode cX11_findWays 132 = .ok (.bipush 8, 2) := by decide +kernel
theorem dX11_findWays_134 : decode cX11_findWays 134 = .ok (.idiv, 1) := by decide +kernel
theorem dX11_findWays_135 : decode cX11_findWays 135 = .ok (.istore 5, 2) := by decide +kernel
theorem dX11_findWays_137 : decode cX11_findWays 137 = .ok (.aload_n 0, 1) := by decide +kernel
theorem dX11_findWays_138 : decode cX11_findWays 138 = .ok (.iload 4, 2) := by decide +kernel
theorem dX11_findWays_140 : decode cX11_findWays 140 = .ok (.iload 5, 2) := by decide +kernel
theorem dX11_findWays_142 : decode cX11_findWays 142 = .ok (.invokevirtual 363, 3) := by decide +kernel
theorem dX11_findWays_145 : decode cX11_findWays 145 = .ok (.ifCond .eq 168, 3) := by decide +kernel
theorem dX11_findWays_148 : decode cX11_findWays 148 = .ok (.aload_n 0, 1) := by decide +kernel
theorem dX11_findWays_149 : decode cX11_findWays 149 = .ok (.iload 4, 2) := by decide +kernel
theorem dX11_findWays_151 : decode cX11_findWays 151 = .ok (.iload 5, 2) := by decide +kernel
theorem dX11_findWays_153 : decode cX11_findWays 153 = .ok (.invokevirtual 367, 3) := by decide +kernel
theorem dX11_findWays_156 : decode cX11_findWays 156 = .ok (.ifCond .ne 157, 3) := by decide +kernel
theorem dX11_findWays_159 : decode cX11_findWays 159 = .ok (.aload_n 0, 1) := by decide +kernel
theorem dX11_findWays_160 : decode cX11_findWays 160 = .ok (.getfield 35, 3) := by decide +kernel
theorem dX11_findWays_163 : decode cX11_findWays 163 = .ok (.iload_n 3, 1) := by decide +kernel
theorem dX11_findWays_164 : decode cX11_findWays 164 = .ok (.iaload, 1) := by decide +kernel
theorem dX11_findWays_165 : decode cX11_findWays 165 = .ok (.iconst 5, 1) := by decide +kernel
theorem dX11_findWays_166 : decode cX11_findWays 166 = .ok (.if_icmp .ne 11, 3) := by decide +kernel
theorem dX11_findWays_169 : decode cX11_findWays 169 = .ok (.iload_n 3, 1) := by decide +kernel
theorem dX11_findWays_170 : decode cX11_findWays 170 = .ok (.iload_n 1, 1) := by decide +kernel
theorem dX11_findWays_171 : decode cX11_findWays 171 = .ok (.if_icmp .eq 6, 3) := by decide +kernel
theorem dX11_findWays_174 : decode cX11_findWays 174 = .ok (.goto 139, 3) := by decide +kernel
theorem dX11_findWays_177 : decode cX11_findWays 177 = .ok (.iload 4, 2) := by decide +kernel
theorem dX11_findWays_179 : decode cX11_findWays 179 = .ok (.ifCond .le 28, 3) := by decide +kernel
theorem dX11_findWays_182 : decode cX11_findWays 182 = .ok (.aload_n 0, 1) := by decide +kernel
theorem dX11_findWays_183 : decode cX11_findWays 183 = .ok (.getfield 99, 3) := by decide +kernel
theorem dX11_findWays_186 : decode cX11_findWays 186 = .ok (.iload_n 3, 1) := by decide +kernel
theorem dX11_findWays_187 : decode cX11_findWays 187 = .ok (.iconst 1, 1) := by decide +kernel
theorem dX11_findWays_188 : decode cX11_findWays 188 = .ok (.isub, 1) := by decide +kernel
theorem dX11_findWays_189 : decode cX11_findWays 189 = .ok (.iaload, 1) := by decide +kernel
theorem dX11_findWays_190 : decode cX11_findWays 190 = .ok (.sipush 1000, 3) := by decide +kernel
theorem dX11_findWays_193 : decode cX11_findWays 193 = .ok (.if_icmp .ge 14, 3) := by decide +kernel
theorem dX11_findWays_196 : decode cX11_findWays 196 = .ok (.iload_n 2, 1) := by decide +kernel
theorem dX11_findWays_197 : decode cX11_findWays 197 = .ok (.aload_n 0, 1) := by decide +kernel
theorem dX11_findWays_198 : decode cX11_findWays 198 = .ok (.iload_n 3, 1) := by decide +kernel
theorem dX11_findWays_199 : decode cX11_findWays 199 = .ok (.iload_n 3, 1) := by decide +kernel
theorem dX11_findWays_200 : decode cX11_findWays 200 = .ok (.iconst 1, 1) := by decide +kernel
theorem dX11_findWays_201 : decode cX11_findWays 201 = .ok (.isub, 1) := by decide +kernel
theorem dX11_findWays_202 : decode cX11_findWays 202 = .ok (.invokevirtual 440, 3) := by decide +kernel
theorem dX11_findWays_205 : decode cX11_findWays 205 = .ok (.ior, 1) := by decide +kernel
theorem dX11_findWays_206 : decode cX11_findWays 206 = .ok (.istore_n 2, 1) := by decide +kernel
theorem dX11_findWays_207 : decode cX11_findWays 207 = .ok (.iload 4, 2) := by decide +kernel
theorem dX11_findWays_209 : decode cX11_findWays 209 = .ok (.iconst 1, 1) := by decide +kernel
theorem dX11_findWays_210 : decode cX11_findWays 210 = .ok (.iadd, 1) := by decide +kernel
theorem dX11_findWays_211 : decode cX11_findWays 211 = .ok (.aload_n 0, 1) := by decide +kernel
theorem dX11_findWays_212 : decode cX11_findWays 212 = .ok (.getfield 184, 3) := by decide +kernel
theorem dX11_findWays_215 : decode cX11_findWays 215 = .ok (.if_icmp .ge 28, 3) := by decide +kernel
theorem dX11_findWays_218 : decode cX11_findWays 218 = .ok (.aload_n 0, 1) := by decide +kernel
theorem dX11_findWays_219 : decode cX11_findWays 219 = .ok (.getfield 99, 3) := by decide +kernel
theorem dX11_findWays_222 : decode cX11_findWays 222 = .ok (.iload_n 3, 1) := by decide +kernel
theorem dX11_findWays_223 : decode cX11_findWays 223 = .ok (.iconst 1, 1) := by decide +kernel
theorem dX11_findWays_224 : decode cX11_findWays 224 = .ok (.iadd, 1) := by decide +kernel
theorem dX11_findWays_225 : decode cX11_findWays 225 = .ok (.iaload, 1) := by decide +kernel
theorem dX11_findWays_226 : decode cX11_findWays 226 = .ok (.sipush 1000, 3) := by decide +kernel
theorem dX11_findWays_229 : decode cX11_findWays 229 = .ok (.if_icmp .ge 14, 3) := by decide +kernel
theorem dX11_findWays_232 : decode cX11_findWays 232 = .ok (.iload_n 2, 1) := by decide +kernel
theorem dX11_findWays_233 : decode cX11_findWays 233 = .ok (.aload_n 0, 1) := by decide +kernel
theorem dX11_findWays_234 : decode cX11_findWays 234 = .ok (.iload_n 3, 1) := by decide +kernel
theorem dX11_findWays_235 : decode cX11_findWays 235 = .ok (.iload_n 3, 1) := by decide +kernel
theorem dX11_findWays_236 : decode cX11_findWays 236 = .ok (.iconst 1, 1) := by decide +kernel
theorem dX11_findWays_237 : decode cX11_findWays 237 = .ok (.iadd, 1) := by decide +kernel
theorem dX11_findWays_238 : decode cX11_findWays 238 = .ok (.invokevirtual 440, 3) := by decide +kernel
theorem dX11_findWays_241 : decode cX11_findWays 241 = .ok (.ior, 1) := by decide +kernel
theorem dX11_findWays_242 : decode cX11_findWays 242 = .ok (.istore_n 2, 1) := by decide +kernel
theorem dX11_findWays_243 : decode cX11_findWays 243 = .ok (.iload 5, 2) := by decide +kernel
theorem dX11_findWays_245 : decode cX11_findWays 245 = .ok (.ifCond .le 30, 3) := by decide +kernel
theorem dX11_findWays_248 : decode cX11_findWays 248 = .ok (.aload_n 0, 1) := by decide +kernel
theorem dX11_findWays_249 : decode cX11_findWays 249 = .ok (.getfield 99, 3) := by decide +kernel
theorem dX11_findWays_252 : decode cX11_findWays 252 = .ok (.iload_n 3, 1) := by decide +kernel
theorem dX11_findWays_253 : decode cX11_findWays 253 = .ok (.bipush 8, 2) := by decide +kernel
theorem dX11_findWays_255 : decode cX11_findWays 255 = .ok (.isub, 1) := by decide +kernel
theorem dX11_findWays_256 : decode cX11_findWays 256 = .ok (.iaload, 1) := by decide +kernel
theorem dX11_findWays_257 : decode cX11_findWays 257 = .ok (.sipush 1000, 3) := by decide +kernel
theorem dX11_findWays_260 : decode cX11_findWays 260 = .ok (.if_icmp .ge 15, 3) := by decide +kernel
theorem dX11_findWays_263 : decode cX11_findWays 263 = .ok (.iload_n 2, 1) := by decide +kernel
theorem dX11_findWays_264 : decode cX11_findWays 264 = .ok (.aload_n 0, 1) := by decide +kernel
theorem dX11_findWays_265 : decode cX11_findWays 265 = .ok (.iload_n 3, 1) := by decide +kernel
theorem dX11_findWays_266 : decode cX11_findWays 266 = .ok (.iload_n 3, 1) := by decide +kernel
theorem dX11_findWays_267 : decode cX11_findWays 267 = .ok (.bipush 8, 2) := by decide +kernel
theorem dX11_findWays_269 : decode cX11_findWays 269 = .ok (.isub, 1) := by decide +kernel
theorem dX11_findWays_270 : decode cX11_findWays 270 = .ok (.invokevirtual 440, 3) := by decide +kernel
theorem dX11_findWays_273 : decode cX11_findWays 273 = .ok (.ior, 1) := by decide +kernel
theorem dX11_findWays_274 : decode cX11_findWays 274 = .ok (.istore_n 2, 1) := by decide +kernel
theorem dX11_findWays_275 : decode cX11_findWays 275 = .ok (.iload 5, 2) := by decide +kernel
theorem dX11_findWays_277 : decode cX11_findWays 277 = .ok (.iconst 1, 1) := by decide +kernel
theorem dX11_findWays_278 : decode cX11_findWays 278 = .ok (.iadd, 1) := by decide +kernel
theorem dX11_findWays_279 : decode cX11_findWays 279 = .ok (.aload_n 0, 1) := by decide +kernel
theorem dX11_findWays_280 : decode cX11_findWays 280 = .ok (.getfield 187, 3) := by decide +kernel
theorem dX11_findWays_283 : decode cX11_findWays 283 = .ok (.if_icmp .ge 30, 3) := by decide +kernel
theorem dX11_findWays_286 : decode cX11_findWays 286 = .ok (.aload_n 0, 1) := by decide +kernel
theorem dX11_findWays_287 : decode cX11_findWays 287 = .ok (.getfield 99, 3) := by decide +kernel
theorem dX11_findWays_290 : decode cX11_findWays 290 = .ok (.iload_n 3, 1) := by decide +kernel
theorem dX11_findWays_291 : decode cX11_findWays 291 = .ok (.bipush 8, 2) := by decide +kernel
theorem dX11_findWays_293 : decode cX11_findWays 293 = .ok (.iadd, 1) := by decide +kernel
theorem dX11_findWays_294 : decode cX11_findWays 294 = .ok (.iaload, 1) := by decide +kernel
theorem dX11_findWays_295 : decode cX11_findWays 295 = .ok (.sipush 1000, 3) := by decide +kernel
theorem dX11_findWays_298 : decode cX11_findWays 298 = .ok (.if_icmp .ge 15, 3) := by decide +kernel
theorem dX11_findWays_301 : decode cX11_findWays 301 = .ok (.iload_n 2, 1) := by decide +kernel
theorem dX11_findWays_302 : decode cX11_findWays 302 = .ok (.aload_n 0, 1) := by decide +kernel
theorem dX11_findWays_303 : decode cX11_findWays 303 = .ok (.iload_n 3, 1) := by decide +kernel
theorem dX11_findWays_304 : decode cX11_findWays 304 = .ok (.iload_n 3, 1) := by decide +kernel
theorem dX11_findWays_305 : decode cX11_findWays 305 = .ok (.bipush 8, 2) := by decide +kernel
theorem dX11_findWays_307 : decode cX11_findWays 307 = .ok (.iadd, 1) := by decide +kernel
theorem dX11_findWays_308 : decode cX11_findWays 308 = .ok (.invokevirtual 440, 3) := by decide +kernel
theorem dX11_findWays_311 : decode cX11_findWays 311 = .ok (.ior, 1) := by decide +kernel
theorem dX11_findWays_312 : decode cX11_findWays 312 = .ok (.istore_n 2, 1) := by decide +kernel
theorem dX11_findWays_313 : decode cX11_findWays 313 = .ok (.iinc 3 1, 3) := by decide +kernel
theorem dX11_findWays_316 : decode cX11_findWays 316 = .ok (.goto (-197), 3) := by decide +kernel
theorem dX11_findWays_319 : decode cX11_findWays 319 = .ok (.goto (-208), 3) := by decide +kernel
theorem dX11_findWays_322 : decode cX11_findWays 322 = .ok (.return_, 1) := by decide +kernel
theorem dX11_way_0 : decode cX11_way 0 = .ok (.aload_n 0, 1) := by decide +kernel
theorem dX11_way_1 : decode cX11_way 1 = .ok (.iconst 0, 1) := by decide +kernel
theorem dX11_way_2 : decode cX11_way 2 = .ok (.putfield 3, 3) := by decide +kernel
theorem dX11_way_5 : decode cX11_way 5 = .ok (.aload_n 0, 1) := by decide +kernel
theorem dX11_way_6 : decode cX11_way 6 = .ok (.iload_n 1, 1) := by decide +kernel
theorem dX11_way_7 : decode cX11_way 7 = .ok (.iload_n 2, 1) := by decide +kernel
theorem dX11_way_8 : decode cX11_way 8 = .ok (.iconst 1, 1) := by decide +kernel
theorem dX11_way_9 : decode cX11_way 9 = .ok (.invokevirtual 415, 3) := by decide +kernel
theorem dX11_way_12 : decode cX11_way 12 = .ok (.ifCond .eq 18, 3) := by decide +kernel
theorem dX11_way_15 : decode cX11_way 15 = .ok (.aload_n 0, 1) := by decide +kernel
theorem dX11_way_16 : decode cX11_way 16 = .ok (.iload_n 3, 1) := by decide +kernel
theorem dX11_way_17 : decode cX11_way 17 = .ok (.iconst 0, 1) := by decide +kernel
theorem dX11_way_18 : decode cX11_way 18 = .ok (.iconst 1, 1) := by decide +kernel
theorem dX11_way_19 : decode cX11_way 19 = .ok (.invokestatic 317, 3) := by decide +kernel
theorem dX11_way_22 : decode cX11_way 22 = .ok (.iconst 2, 1) := by decide +kernel
theorem dX11_way_23 : decode cX11_way 23 = .ok (.iconst 2, 1) := by decide +kernel
theorem dX11_way_24 : decode cX11_way 24 = .ok (.invokevirtual 252, 3) := by decide +kernel
theorem dX11_way_27 : decode cX11_way 27 = .ok (.ifCond .ne 5, 3) := by decide +kernel
theorem dX11_way_30 : decode cX11_way 30 = .ok (.iconst 0, 1) := by decide +kernel
theorem dX11_way_31 : decode cX11_way 31 = .ok (.ireturn, 1) := by decide +kernel
theorem dX11_way_32 : decode cX11_way 32 = .ok (.aload_n 0, 1) := by decide +kernel
theorem dX11_way_33 : decode cX11_way 33 = .ok (.invokevirtual 345, 3) := by decide +kernel
theorem dX11_way_36 : decode cX11_way 36 = .ok (.aload_n 0, 1) := by decide +kernel
theorem dX11_way_37 : decode cX11_way 37 = .ok (.iload_n 1, 1) := by decide +kernel
theorem dX11_way_38 : decode cX11_way 38 = .ok (.iload_n 2, 1) := by decide +kernel
theorem dX11_way_39 : decode cX11_way 39 = .ok (.invokevirtual 367, 3) := by decide +kernel
theorem dX11_way_42 : decode cX11_way 42 = .ok (.ifCond .eq 5, 3) := by decide +kernel
theorem dX11_way_45 : decode cX11_way 45 = .ok (.iconst 0, 1) := by decide +kernel
theorem dX11_way_46 : decode cX11_way 46 = .ok (.ireturn, 1) := by decide +kernel
theorem dX11_way_47 : decode cX11_way 47 = .ok (.bipush 8, 2) := by decide +kernel
theorem dX11_way_49 : decode cX11_way 49 = .ok (.iload_n 2, 1) := by decide +kernel
theorem dX11_way_50 : decode cX11_way 50 = .ok (.imul, 1) := by decide +kernel
theorem dX11_way_51 : decode cX11_way 51 = .ok (.iload_n 1, 1) := by decide +kernel
theorem dX11_way_52 : decode cX11_way 52 = .ok (.iadd, 1) := by decide +kernel
theorem dX11_way_53 : decode cX11_way 53 = .ok (.istore 4, 2) := by decide +kernel
theorem dX11_way_55 : decode cX11_way 55 = .ok (.aload_n 0, 1) := by decide +kernel
theorem dX11_way_56 : decode cX11_way 56 = .ok (.iload 4, 2) := by decide +kernel
theorem dX11_way_58 : decode cX11_way 58 = .ok (.invokevirtual 443, 3) := by decide +kernel
theorem dX11_way_61 : decode cX11_way 61 = .ok (.aload_n 0, 1) := by decide +kernel
theorem dX11_way_62 : decode cX11_way 62 = .ok (.getfield 99, 3) := by decide +kernel
theorem dX11_way_65 : decode cX11_way 65 = .ok (.iload 4, 2) := by decide +kernel
theorem dX11_way_67 : decode cX11_way 67 = .ok (.iaload, 1) := by decide +kernel
theorem dX11_way_68 : decode cX11_way 68 = .ok (.sipush 1000, 3) := by decide +kernel
theorem dX11_way_71 : decode cX11_way 71 = .ok (.if_icmp .lt 7, 3) := by decide +kernel
theorem dX11_way_74 : decode cX11_way 74 = .ok (.iconst (-1), 1) := by decide +kernel
theorem dX11_way_75 : decode cX11_way 75 = .ok (.goto 24, 3) := by decide +kernel
theorem dX11_way_78 : decode cX11_way 78 = .ok (.iload_n 3, 1) := by decide +kernel
theorem dX11_way_79 : decode cX11_way 79 = .ok (.ifCond .ne 13, 3) := by decide +kernel
theorem dX11_way_82 : decode cX11_way 82 = .ok (.aload_n 0, 1) := by decide +kernel
theorem dX11_way_83 : decode cX11_way 83 = .ok (.getfield 99, 3) := by decide +kernel
theorem dX11_way_86 : decode cX11_way 86 = .ok (.iload 4, 2) := by decide +kernel
theorem dX11_way_88 : decode cX11_way 88 = .ok (.iaload, 1) := by decide +kernel
theorem dX11_way_89 : decode cX11_way 89 = .ok (.goto 10, 3) := by decide +kernel
theorem dX11_way_92 : decode cX11_way 92 = .ok (.aload_n 0, 1) := by decide +kernel
theorem dX11_way_93 : decode cX11_way 93 = .ok (.getfield 102, 3) := by decide +kernel
theorem dX11_way_96 : decode cX11_way 96 = .ok (.iload 4, 2) := by decide +kernel
theorem dX11_way_98 : decode cX11_way 98 = .ok (.iaload, 1) := by decide +kernel
theorem dX11_way_99 : decode cX11_way 99 = .ok (.ireturn, 1) := by decide +kernel
theorem dX11_holdsOn_0 : decode cX11_holdsOn 0 = .ok (.iload_n 1, 1) := by decide +kernel
theorem dX11_holdsOn_1 : decode cX11_holdsOn 1 = .ok (.ifCond .ne 18, 3) := by decide +kernel
theorem dX11_holdsOn_4 : decode cX11_holdsOn 4 = .ok (.aload_n 0, 1) := by decide +kernel
theorem dX11_holdsOn_5 : decode cX11_holdsOn 5 = .ok (.invokevirtual 391, 3) := by decide +kernel
theorem dX11_holdsOn_8 : decode cX11_holdsOn 8 = .ok (.ifCond .ne 7, 3) := by decide +kernel
theorem dX11_holdsOn_11 : decode cX11_holdsOn 11 = .ok (.lload_n 3, 1) := by decide +kernel
theorem dX11_holdsOn_12 : decode cX11_holdsOn 12 = .ok (.goto 6, 3) := by decide +kernel
theorem dX11_holdsOn_15 : decode cX11_holdsOn 15 = .ok (.ldc2_w 446, 3) := by decide +kernel
theorem dX11_holdsOn_18 : decode cX11_holdsOn 18 = .ok (.lreturn, 1) := by decide +kernel
theorem dX11_holdsOn_19 : decode cX11_holdsOn 19 = .ok (.iload_n 2, 1) := by decide +kernel
theorem dX11_holdsOn_20 : decode cX11_holdsOn 20 = .ok (.istore 5, 2) := by decide +kernel
theorem dX11_holdsOn_22 : decode cX11_holdsOn 22 = .ok (.iload 5, 2) := by decide +kernel
theorem dX11_holdsOn_24 : decode cX11_holdsOn 24 = .ok (.bipush 48, 2) := by decide +kernel
theorem dX11_holdsOn_26 : decode cX11_holdsOn 26 = .ok (.if_icmp .ge 75, 3) := by decide +kernel
theorem dX11_holdsOn_29 : decode cX11_holdsOn 29 = .ok (.aload_n 0, 1) := by decide +kernel
theorem dX11_holdsOn_30 : decode cX11_holdsOn 30 = .ok (.getfield 77, 3) := by decide +kernel
theorem dX11_holdsOn_33 : decode cX11_holdsOn 33 = .ok (.iload 5, 2) := by decide +kernel
theorem dX11_holdsOn_35 : decode cX11_holdsOn 35 = .ok (.iaload, 1) := by decide +kernel
theorem dX11_holdsOn_36 : decode cX11_holdsOn 36 = .ok (.iconst 1, 1) := by decide +kernel
theorem dX11_holdsOn_37 : decode cX11_holdsOn 37 = .ok (.if_icmp .eq 6, 3) := by decide +kernel
theorem dX11_holdsOn_40 : decode cX11_holdsOn 40 = .ok (.goto 55, 3) := by decide +kernel
theorem dX11_holdsOn_43 : decode cX11_holdsOn 43 = .ok (.aload_n 0, 1) := by decide +kernel
theorem dX11_holdsOn_44 : decode cX11_holdsOn 44 = .ok (.getfield 77, 3) := by decide +kernel
theorem dX11_holdsOn_47 : decode cX11_holdsOn 47 = .ok (.iload 5, 2) := by decide +kernel
theorem dX11_holdsOn_49 : decode cX11_holdsOn 49 = .ok (.iconst 2, 1) := by decide +kernel
theorem dX11_holdsOn_50 : decode cX11_holdsOn 50 = .ok (.iastore, 1) := by decide +kernel
theorem dX11_holdsOn_51 : decode cX11_holdsOn 51 = .ok (.aload_n 0, 1) := by decide +kernel
theorem dX11_holdsOn_52 : decode cX11_holdsOn 52 = .ok (.iload_n 1, 1) := by decide +kernel
theorem dX11_holdsOn_53 : decode cX11_holdsOn 53 = .ok (.iconst 1, 1) := by decide +kernel
theorem dX11_holdsOn_54 : decode cX11_holdsOn 54 = .ok (.isub, 1) := by decide +kernel
theorem dX11_holdsOn_55 : decode cX11_holdsOn 55 = .ok (.iload 5, 2) := by decide +kernel
theorem dX11_holdsOn_57 : decode cX11_holdsOn 57 = .ok (.iconst 1, 1) := by decide +kernel
theorem dX11_holdsOn_58 : decode cX11_holdsOn 58 = .ok (.iadd, 1) := by decide +kernel
theorem dX11_holdsOn_59 : decode cX11_holdsOn 59 = .ok (.ldc2_w 431, 3) := by decide +kernel
theorem dX11_holdsOn_62 : decode cX11_holdsOn 62 = .ok (.lload_n 3, 1) := by decide +kernel
theorem dX11_holdsOn_63 : decode cX11_holdsOn 63 = .ok (.lmul, 1) := by decide +kernel
theorem dX11_holdsOn_64 : decode cX11_holdsOn 64 = .ok (.iload 5, 2) := by decide +kernel
theorem dX11_holdsOn_66 : decode cX11_holdsOn 66 = .ok (.i2l, 1) := by decide +kernel
theorem dX11_holdsOn_67 : decode cX11_holdsOn 67 = .ok (.ladd, 1) := by decide +kernel
theorem dX11_holdsOn_68 : decode cX11_holdsOn 68 = .ok (.lconst 1, 1) := by decide +kernel
theorem dX11_holdsOn_69 : decode cX11_holdsOn 69 = .ok (.ladd, 1) := by decide +kernel
theorem dX11_holdsOn_70 : decode cX11_holdsOn 70 = .ok (.invokevirtual 448, 3) := by decide +kernel
theorem dX11_holdsOn_73 : decode cX11_holdsOn 73 = .ok (.lstore 6, 2) := by decide +kernel
theorem dX11_holdsOn_75 : decode cX11_holdsOn 75 = .ok (.aload_n 0, 1) := by decide +kernel
theorem dX11_holdsOn_76 : decode cX11_holdsOn 76 = .ok (.getfield 77, 3) := by decide +kernel
theorem dX11_holdsOn_79 : decode cX11_holdsOn 79 = .ok (.iload 5, 2) := by decide +kernel
theorem dX11_holdsOn_81 : decode cX11_holdsOn 81 = .ok (.iconst 1, 1) := by decide +kernel
theorem dX11_holdsOn_82 : decode cX11_holdsOn 82 = .ok (.iastore, 1) := by decide +kernel
theorem dX11_holdsOn_83 : decode cX11_holdsOn 83 = .ok (.lload 6, 2) := by decide +kernel
theorem dX11_holdsOn_85 : decode cX11_holdsOn 85 = .ok (.ldc2_w 446, 3) := by decide +kernel
theorem dX11_holdsOn_88 : decode cX11_holdsOn 88 = .ok (.lcmp, 1) := by decide +kernel
theorem dX11_holdsOn_89 : decode cX11_holdsOn 89 = .ok (.ifCond .eq 6, 3) := by decide +kernel
theorem dX11_holdsOn_92 : decode cX11_holdsOn 92 = .ok (.lload 6, 2) := by decide +kernel
theorem dX11_holdsOn_94 : decode cX11_holdsOn 94 = .ok (.lreturn, 1) := by decide +kernel
theorem dX11_holdsOn_95 : decode cX11_holdsOn 95 = .ok (.iinc 5 1, 3) := by decide +kernel
theorem dX11_holdsOn_98 : decode cX11_holdsOn 98 = .ok (.goto (-76), 3) := by decide +kernel
theorem dX11_holdsOn_101 : decode cX11_holdsOn 101 = .ok (.ldc2_w 446, 3) := by decide +kernel
theorem dX11_holdsOn_104 : decode cX11_holdsOn 104 = .ok (.lreturn, 1) := by decide +kernel
theorem dX11_hold_0 : decode cX11_hold 0 = .ok (.aload_n 0, 1) := by decide +kernel
theorem dX11_hold_1 : decode cX11_hold 1 = .ok (.iconst 0, 1) := by decide +kernel
theorem dX11_hold_2 : decode cX11_hold 2 = .ok (.putfield 3, 3) := by decide +kernel
theorem dX11_hold_5 : decode cX11_hold 5 = .ok (.aload_n 0, 1) := by decide +kernel
theorem dX11_hold_6 : decode cX11_hold 6 = .ok (.iload_n 1, 1) := by decide +kernel
theorem dX11_hold_7 : decode cX11_hold 7 = .ok (.iconst 0, 1) := by decide +kernel
theorem dX11_hold_8 : decode cX11_hold 8 = .ok (.iconst 1, 1) := by decide +kernel
theorem dX11_hold_9 : decode cX11_hold 9 = .ok (.invokestatic 317, 3) := by decide +kernel
theorem dX11_hold_12 : decode cX11_hold 12 = .ok (.iconst 1, 1) := by decide +kernel
theorem dX11_hold_13 : decode cX11_hold 13 = .ok (.iconst 2, 1) := by decide +kernel
theorem dX11_hold_14 : decode cX11_hold 14 = .ok (.invokevirtual 252, 3) := by decide +kernel
theorem dX11_hold_17 : decode cX11_hold 17 = .ok (.ifCond .ne 5, 3) := by decide +kernel
theorem dX11_hold_20 : decode cX11_hold 20 = .ok (.lconst 0, 1) := by decide +kernel
theorem dX11_hold_21 : decode cX11_hold 21 = .ok (.lreturn, 1) := by decide +kernel
theorem dX11_hold_22 : decode cX11_hold 22 = .ok (.aload_n 0, 1) := by decide +kernel
theorem dX11_hold_23 : decode cX11_hold 23 = .ok (.invokevirtual 345, 3) := by decide +kernel
theorem dX11_hold_26 : decode cX11_hold 26 = .ok (.iconst 0, 1) := by decide +kernel
theorem dX11_hold_27 : decode cX11_hold 27 = .ok (.istore_n 2, 1) := by decide +kernel
theorem dX11_hold_28 : decode cX11_hold 28 = .ok (.iload_n 2, 1) := by decide +kernel
theorem dX11_hold_29 : decode cX11_hold 29 = .ok (.iconst 4, 1) := by decide +kernel
theorem dX11_hold_30 : decode cX11_hold 30 = .ok (.if_icmp .gt 36, 3) := by decide +kernel
theorem dX11_hold_33 : decode cX11_hold 33 = .ok (.aload_n 0, 1) := by decide +kernel
theorem dX11_hold_34 : decode cX11_hold 34 = .ok (.iload_n 2, 1) := by decide +kernel
theorem dX11_hold_35 : decode cX11_hold 35 = .ok (.iconst 0, 1) := by decide +kernel
theorem dX11_hold_36 : decode cX11_hold 36 = .ok (.lconst 0, 1) := by decide +kernel
theorem dX11_hold_37 : decode cX11_hold 37 = .ok (.invokevirtual 448, 3) := by decide +kernel
theorem dX11_hold_40 : decode cX11_hold 40 = .ok (.lstore_n 3, 1) := by decide +kernel
theorem dX11_hold_41 : decode cX11_hold 41 = .ok (.lload_n 3, 1) := by decide +kernel
theorem dX11_hold_42 : decode cX11_hold 42 = .ok (.ldc2_w 446, 3) := by decide +kernel
theorem dX11_hold_45 : decode cX11_hold 45 = .ok (.lcmp, 1) := by decide +kernel
theorem dX11_hold_46 : decode cX11_hold 46 = .ok (.ifCond .eq 14, 3) := by decide +kernel
theorem dX11_hold_49 : decode cX11_hold 49 = .ok (.iload_n 1, 1) := by decide +kernel
theorem dX11_hold_50 : decode cX11_hold 50 = .ok (.ifCond .ne 8, 3) := by decide +kernel
theorem dX11_hold_53 : decode cX11_hold 53 = .ok (.iload_n 2, 1) := by decide +kernel
theorem dX11_hold_54 : decode cX11_hold 54 = .ok (.i2l, 1) := by decide +kernel
theorem dX11_hold_55 : decode cX11_hold 55 = .ok (.goto 4, 3) := by decide +kernel
theorem dX11_hold_58 : decode cX11_hold 58 = .ok (.lload_n 3, 1) := by decide +kernel
theorem dX11_hold_59 : decode cX11_hold 59 = .ok (.lreturn, 1) := by decide +kernel
theorem dX11_hold_60 : decode cX11_hold 60 = .ok (.iinc 2 1, 3) := by decide +kernel
theorem dX11_hold_63 : decode cX11_hold 63 = .ok (.goto (-35), 3) := by decide +kernel
theorem dX11_hold_66 : decode cX11_hold 66 = .ok (.ldc2_w 446, 3) := by decide +kernel
theorem dX11_hold_69 : decode cX11_hold 69 = .ok (.lreturn, 1) := by decide +kernel
theorem dX11_fill_0 : decode cX11_fill 0 = .ok (.aload_n 0, 1) := by decide +kernel
theorem dX11_fill_1 : decode cX11_fill 1 = .ok (.iconst 0, 1) := by decide +kernel
theorem dX11_fill_2 : decode cX11_fill 2 = .ok (.putfield 3, 3) := by decide +kernel
theorem dX11_fill_5 : decode cX11_fill 5 = .ok (.aload_n 0, 1) := by decide +kernel
theorem dX11_fill_6 : decode cX11_fill 6 = .ok (.iload_n 1, 1) := by decide +kernel
theorem dX11_fill_7 : decode cX11_fill 7 = .ok (.iconst 0, 1) := by decide +kernel
theorem dX11_fill_8 : decode cX11_fill 8 = .ok (.iconst 1, 1) := by decide +kernel
theorem dX11_fill_9 : decode cX11_fill 9 = .ok (.invokestatic 317, 3) := by decide +kernel
theorem dX11_fill_12 : decode cX11_fill 12 = .ok (.iconst 1, 1) := by decide +kernel
theorem dX11_fill_13 : decode cX11_fill 13 = .ok (.iconst 2, 1) := by decide +kernel
theorem dX11_fill_14 : decode cX11_fill 14 = .ok (.invokevirtual 252, 3) := by decide +kernel
theorem dX11_fill_17 : decode cX11_fill 17 = .ok (.ifCond .ne 5, 3) := by decide +kernel
theorem dX11_fill_20 : decode cX11_fill 20 = .ok (.iconst 0, 1) := by decide +kernel
theorem dX11_fill_21 : decode cX11_fill 21 = .ok (.ireturn, 1) := by decide +kernel
theorem dX11_fill_22 : decode cX11_fill 22 = .ok (.aload_n 0, 1) := by decide +kernel
theorem dX11_fill_23 : decode cX11_fill 23 = .ok (.invokevirtual 345, 3) := by decide +kernel
theorem dX11_fill_26 : decode cX11_fill 26 = .ok (.iconst 0, 1) := by decide +kernel
theorem dX11_fill_27 : decode cX11_fill 27 = .ok (.istore_n 2, 1) := by decide +kernel
theorem dX11_fill_28 : decode cX11_fill 28 = .ok (.iconst 0, 1) := by decide +kernel
theorem dX11_fill_29 : decode cX11_fill 29 = .ok (.istore_n 3, 1) := by decide +kernel
theorem dX11_fill_30 : decode cX11_fill 30 = .ok (.iconst 1, 1) := by decide +kernel
theorem dX11_fill_31 : decode cX11_fill 31 = .ok (.istore 4, 2) := by decide +kernel
theorem dX11_fill_33 : decode cX11_fill 33 = .ok (.iload 4, 2) := by decide +kernel
theorem dX11_fill_35 : decode cX11_fill 35 = .ok (.iconst 1, 1) := by decide +kernel
theorem dX11_fill_36 : decode cX11_fill 36 = .ok (.aload_n 0, 1) := by decide +kernel
theorem dX11_fill_37 : decode cX11_fill 37 = .ok (.getfield 199, 3) := by decide +kernel
theorem dX11_fill_40 : decode cX11_fill 40 = .ok (.ishl, 1) := by decide +kernel
theorem dX11_fill_41 : decode cX11_fill 41 = .ok (.if_icmp .ge 139, 3) := by decide +kernel
theorem dX11_fill_44 : decode cX11_fill 44 = .ok (.aload_n 0, 1) := by decide +kernel
theorem dX11_fill_45 : decode cX11_fill 45 = .ok (.invokevirtual 394, 3) := by decide +kernel
theorem dX11_fill_48 : decode cX11_fill 48 = .ok (.iconst 0, 1) := by decide +kernel
theorem dX11_fill_49 : decode cX11_fill 49 = .ok (.istore 5, 2) := by decide +kernel
theorem dX11_fill_51 : decode cX11_fill 51 = .ok (.iconst 1, 1) := by decide +kernel
theorem dX11_fill_52 : decode cX11_fill 52 = .ok (.istore 6, 2) := by decide +kernel
theorem dX11_fill_54 : decode cX11_fill 54 = .ok (.iconst 0, 1) := by decide +kernel
theorem dX11_fill_55 : decode cX11_fill 55 = .ok (.istore 7, 2) := by decide +kernel
theorem dX11_fill_57 : decode cX11_fill 57 = .ok (.iload 7, 2) := by decide +kernel
theorem dX11_fill_59 : decode cX11_fill 59 = .ok (.aload_n 0, 1) := by decide +kernel
theorem dX11_fill_60 : decode cX11_fill 60 = .ok (.getfield 199, 3) := by decide +kernel
theorem dX11_fill_63 : decode cX11_fill 63 = .ok (.if_icmp .ge 84, 3) := by decide +kernel
theorem dX11_fill_66 : decode cX11_fill 66 = .ok (.iload 4, 2) := by decide +kernel
theorem dX11_fill_68 : decode cX11_fill 68 = .ok (.iload 7, 2) := by decide +kernel
theorem dX11_fill_70 : decode cX11_fill 70 = .ok (.ishr, 1) := by decide +kernel
theorem dX11_fill_71 : decode cX11_fill 71 = .ok (.iconst 1, 1) := by decide +kernel
theorem dX11_fill_72 : decode cX11_fill 72 = .ok (.iand, 1) := by decide +kernel
theorem dX11_fill_73 : decode cX11_fill 73 = .ok (.ifCond .ne 6, 3) := by decide +kernel
theorem dX11_fill_76 : decode cX11_fill 76 = .ok (.goto 65, 3) := by decide +kernel
theorem dX11_fill_79 : decode cX11_fill 79 = .ok (.iload 6, 2) := by decide +kernel
theorem dX11_fill_81 : decode cX11_fill 81 = .ok (.ifCond .eq 40, 3) := by decide +kernel
theorem dX11_fill_84 : decode cX11_fill 84 = .ok (.aload_n 0, 1) := by decide +kernel
theorem dX11_fill_85 : decode cX11_fill 85 = .ok (.getfield 44, 3) := by decide +kernel
theorem dX11_fill_88 : decode cX11_fill 88 = .ok (.bipush 10, 2) := by decide +kernel
theorem dX11_fill_90 : decode cX11_fill 90 = .ok (.iload 7, 2) := by decide +kernel
theorem dX11_fill_92 : decode cX11_fill 92 = .ok (.imul, 1) := by decide +kernel
theorem dX11_fill_93 : decode cX11_fill 93 = .ok (.iaload, 1) := by decide +kernel
theorem dX11_fill_94 : decode cX11_fill 94 = .ok (.aload_n 0, 1) := by decide +kernel
theorem dX11_fill_95 : decode cX11_fill 95 = .ok (.getfield 77, 3) := by decide +kernel
theorem dX11_fill_98 : decode cX11_fill 98 = .ok (.bipush 69, 2) := by decide +kernel
theorem dX11_fill_100 : decode cX11_fill 100 = .ok (.iaload, 1) := by decide +kernel
theorem dX11_fill_101 : decode cX11_fill 101 = .ok (.if_icmp .lt 20, 3) := by decide +kernel
theorem dX11_fill_104 : decode cX11_fill 104 = .ok (.aload_n 0, 1) := by decide +kernel
theorem dX11_fill_105 : decode cX11_fill 105 = .ok (.getfield 77, 3) := by decide +kernel
theorem dX11_fill_108 : decode cX11_fill 108 = .ok (.bipush 63, 2) := by decide +kernel
theorem dX11_fill_110 : decode cX11_fill 110 = .ok (.iload 7, 2) := by decide +kernel
theorem dX11_fill_112 : decode cX11_fill 112 = .ok (.iadd, 1) := by decide +kernel
theorem dX11_fill_113 : decode cX11_fill 113 = .ok (.iaload, 1) := by decide +kernel
theorem dX11_fill_114 : decode cX11_fill 114 = .ok (.ifCond .ne 7, 3) := by decide +kernel
theorem dX11_fill_117 : decode cX11_fill 117 = .ok (.iconst 1, 1) := by decide +kernel
theorem dX11_fill_118 : decode cX11_fill 118 = .ok (.goto 4, 3) := by decide +kernel
theorem dX11_fill_121 : decode cX11_fill 121 = .ok (.iconst 0, 1) := by decide +kernel
theorem dX11_fill_122 : decode cX11_fill 122 = .ok (.istore 6, 2) := by decide +kernel
theorem dX11_fill_124 : decode cX11_fill 124 = .ok (.aload_n 0, 1) := by decide +kernel
theorem dX11_fill_125 : decode cX11_fill 125 = .ok (.iload 7, 2) := by decide +kernel
theorem dX11_fill_127 : decode cX11_fill 127 = .ok (.invokevirtual 397, 3) := by decide +kernel
theorem dX11_fill_130 : decode cX11_fill 130 = .ok (.iload 5, 2) := by decide +kernel
theorem dX11_fill_132 : decode cX11_fill 132 = .ok (.aload_n 0, 1) := by decide +kernel
theorem dX11_fill_133 : decode cX11_fill 133 = .ok (.iload 7, 2) := by decide +kernel
theorem dX11_fill_135 : decode cX11_fill 135 = .ok (.invokevirtual 403, 3) := by decide +kernel
theorem dX11_fill_138 : decode cX11_fill 138 = .ok (.iadd, 1) := by decide +kernel
theorem dX11_fill_139 : decode cX11_fill 139 = .ok (.istore 5, 2) := by decide +kernel
theorem dX11_fill_141 : decode cX11_fill 141 = .ok (.iinc 7 1, 3) := by decide +kernel
theorem dX11_fill_144 : decode cX11_fill 144 = .ok (.goto (-87), 3) := by decide +kernel
theorem dX11_fill_147 : decode cX11_fill 147 = .ok (.iload 6, 2) := by decide +kernel
theorem dX11_fill_149 : decode cX11_fill 149 = .ok (.ifCond .eq 25, 3) := by decide +kernel
theorem dX11_fill_152 : decode cX11_fill 152 = .ok (.aload_n 0, 1) := by decide +kernel
theorem dX11_fill_153 : decode cX11_fill 153 = .ok (.invokevirtual 400, 3) := by decide +kernel
theorem dX11_fill_156 : decode cX11_fill 156 = .ok (.ifCond .gt 18, 3) := by decide +kernel
theorem dX11_fill_159 : decode cX11_fill 159 = .ok (.iload 5, 2) := by decide +kernel
theorem dX11_fill_161 : decode cX11_fill 161 = .ok (.iload_n 3, 1) := by decide +kernel
theorem dX11_fill_162 : decode cX11_fill 162 = .ok (.if_icmp .gt 6, 3) := by decide +kernel
theorem dX11_fill_165 : decode cX11_fill 165 = .ok (.goto 9, 3) := by decide +kernel
theorem dX11_fill_168 : decode cX11_fill 168 = .ok (.iload 4, 2) := by decide +kernel
theorem dX11_fill_170 : decode cX11_fill 170 = .ok (.istore_n 2, 1) := by decide +kernel
theorem dX11_fill_171 : decode cX11_fill 171 = .ok (.iload 5, 2) := by decide +kernel
theorem dX11_fill_173 : decode cX11_fill 173 = .ok (.istore_n 3, 1) := by decide +kernel
theorem dX11_fill_174 : decode cX11_fill 174 = .ok (.iinc 4 1, 3) := by decide +kernel
theorem dX11_fill_177 : decode cX11_fill 177 = .ok (.goto (-144), 3) := by decide +kernel
theorem dX11_fill_180 : decode cX11_fill 180 = .ok (.iload_n 1, 1) := by decide +kernel
theorem dX11_fill_181 : decode cX11_fill 181 = .ok (.ifCond .ne 7, 3) := by decide +kernel
theorem dX11_fill_184 : decode cX11_fill 184 = .ok (.iload_n 3, 1) := by decide +kernel
theorem dX11_fill_185 : decode cX11_fill 185 = .ok (.goto 4, 3) := by decide +kernel
theorem dX11_fill_188 : decode cX11_fill 188 = .ok (.iload_n 2, 1) := by decide +kernel
theorem dX11_fill_189 : decode cX11_fill 189 = .ok (.ireturn, 1) := by decide +kernel
theorem dX11_tapAt_0 : decode cX11_tapAt 0 = .ok (.iload_n 1, 1) := by decide +kernel
theorem dX11_tapAt_1 : decode cX11_tapAt 1 = .ok (.ifCond .lt 11, 3) := by decide +kernel
theorem dX11_tapAt_4 : decode cX11_tapAt 4 = .ok (.iload_n 1, 1) := by decide +kernel
theorem dX11_tapAt_5 : decode cX11_tapAt 5 = .ok (.aload_n 0, 1) := by decide +kernel
theorem dX11_tapAt_6 : decode cX11_tapAt 6 = .ok (.getfield 184, 3) := by decide +kernel
theorem dX11_tapAt_9 : decode cX11_tapAt 9 = .ok (.if_icmp .lt 8, 3) := by decide +kernel
theorem dX11_tapAt_12 : decode cX11_tapAt 12 = .ok (.aload_n 0, 1) := by decide +kernel
theorem dX11_tapAt_13 : decode cX11_tapAt 13 = .ok (.getfield 187, 3) := by decide +kernel
theorem dX11_tapAt_16 : decode cX11_tapAt 16 = .ok (.ireturn, 1) := by decide +kernel
theorem dX11_tapAt_17 : decode cX11_tapAt 17 = .ok (.iconst 0, 1) := by decide +kernel
theorem dX11_tapAt_18 : decode cX11_tapAt 18 = .ok (.istore_n 2, 1) := by decide +kernel
theorem dX11_tapAt_19 : decode cX11_tapAt 19 = .ok (.iload_n 2, 1) := by decide +kernel
theorem dX11_tapAt_20 : decode cX11_tapAt 20 = .ok (.aload_n 0, 1) := by decide +kernel
theorem dX11_tapAt_21 : decode cX11_tapAt 21 = .ok (.getfield 187, 3) := by decide +kernel
theorem dX11_tapAt_24 : decode cX11_tapAt 24 = .ok (.if_icmp .ge 41, 3) := by decide +kernel
theorem dX11_tapAt_27 : decode cX11_tapAt 27 = .ok (.aload_n 0, 1) := by decide +kernel
theorem dX11_tapAt_28 : decode cX11_tapAt 28 = .ok (.getfield 35, 3) := by decide +kernel
theorem dX11_tapAt_31 : decode cX11_tapAt 31 = .ok (.bipush 8, 2) := by decide +kernel
theorem dX11_tapAt_33 : decode cX11_tapAt 33 = .ok (.iload_n 2, 1) := by decide +kernel
theorem dX11_tapAt_34 : decode cX11_tapAt 34 = .ok (.imul, 1) := by decide +kernel
theorem dX11_tapAt_35 : decode cX11_tapAt 35 = .ok (.iload_n 1, 1) := by decide +kernel
theorem dX11_tapAt_36 : decode cX11_tapAt 36 = .ok (.iadd, 1) := by decide +kernel
theorem dX11_tapAt_37 : decode cX11_tapAt 37 = .ok (.iaload, 1) := by decide +kernel
theorem dX11_tapAt_38 : decode cX11_tapAt 38 = .ok (.iconst 1, 1) := by decide +kernel
theorem dX11_tapAt_39 : decode cX11_tapAt 39 = .ok (.if_icmp .lt 20, 3) := by decide +kernel
theorem dX11_tapAt_42 : decode cX11_tapAt 42 = .ok (.aload_n 0, 1) := by decide +kernel
theorem dX11_tapAt_43 : decode cX11_tapAt 43 = .ok (.getfield 35, 3) := by decide +kernel
theorem dX11_tapAt_46 : decode cX11_tapAt 46 = .ok (.bipush 8, 2) := by decide +kernel
theorem dX11_tapAt_48 : decode cX11_tapAt 48 = .ok (.iload_n 2, 1) := by decide +kernel
theorem dX11_tapAt_49 : decode cX11_tapAt 49 = .ok (.imul, 1) := by decide +kernel
theorem dX11_tapAt_50 : decode cX11_tapAt 50 = .ok (.iload_n 1, 1) := by decide +kernel
theorem dX11_tapAt_51 : decode cX11_tapAt 51 = .ok (.iadd, 1) := by decide +kernel
theorem dX11_tapAt_52 : decode cX11_tapAt 52 = .ok (.iaload, 1) := by decide +kernel
theorem dX11_tapAt_53 : decode cX11_tapAt 53 = .ok (.iconst 4, 1) := by decide +kernel
theorem dX11_tapAt_54 : decode cX11_tapAt 54 = .ok (.if_icmp .gt 5, 3) := by decide +kernel
theorem dX11_tapAt_57 : decode cX11_tapAt 57 = .ok (.iload_n 2, 1) := by decide +kernel
theorem dX11_tapAt_58 : decode cX11_tapAt 58 = .ok (.ireturn, 1) := by decide +kernel
theorem dX11_tapAt_59 : decode cX11_tapAt 59 = .ok (.iinc 2 1, 3) := by decide +kernel
theorem dX11_tapAt_62 : decode cX11_tapAt 62 = .ok (.goto (-43), 3) := by decide +kernel
theorem dX11_tapAt_65 : decode cX11_tapAt 65 = .ok (.aload_n 0, 1) := by decide +kernel
theorem dX11_tapAt_66 : decode cX11_tapAt 66 = .ok (.getfield 187, 3) := by decide +kernel
theorem dX11_tapAt_69 : decode cX11_tapAt 69 = .ok (.ireturn, 1) := by decide +kernel
theorem dX11_isColumn_0 : decode cX11_isColumn 0 = .ok (.iload_n 1, 1) := by decide +kernel
theorem dX11_isColumn_1 : decode cX11_isColumn 1 = .ok (.ifCond .lt 15, 3) := by decide +kernel
theorem dX11_isColumn_4 : decode cX11_isColumn 4 = .ok (.iload_n 1, 1) := by decide +kernel
theorem dX11_isColumn_5 : decode cX11_isColumn 5 = .ok (.aload_n 0, 1) := by decide +kernel
theorem dX11_isColumn_6 : decode cX11_isColumn 6 = .ok (.getfield 184, 3) := by decide +kernel
theorem dX11_isColumn_9 : decode cX11_isColumn 9 = .ok (.if_icmp .ge 7, 3) := by decide +kernel
theorem dX11_isColumn_12 : decode cX11_isColumn 12 = .ok (.iconst 1, 1) := by decide +kernel
theorem dX11_isColumn_13 : decode cX11_isColumn 13 = .ok (.goto 4, 3) := by decide +kernel
theorem dX11_isColumn_16 : decode cX11_isColumn 16 = .ok (.iconst 0, 1) := by decide +kernel
theorem dX11_isColumn_17 : decode cX11_isColumn 17 = .ok (.ireturn, 1) := by decide +kernel
theorem dX11_tap_0 : decode cX11_tap 0 = .ok (.aload_n 0, 1) := by decide +kernel
theorem dX11_tap_1 : decode cX11_tap 1 = .ok (.iconst 0, 1) := by decide +kernel
theorem dX11_tap_2 : decode cX11_tap 2 = .ok (.putfield 3, 3) := by decide +kernel
theorem dX11_tap_5 : decode cX11_tap 5 = .ok (.aload_n 0, 1) := by decide +kernel
theorem dX11_tap_6 : decode cX11_tap 6 = .ok (.aload_n 0, 1) := by decide +kernel
theorem dX11_tap_7 : decode cX11_tap 7 = .ok (.iload_n 1, 1) := by decide +kernel
theorem dX11_tap_8 : decode cX11_tap 8 = .ok (.invokevirtual 452, 3) := by decide +kernel
theorem dX11_tap_11 : decode cX11_tap 11 = .ok (.iconst 1, 1) := by decide +kernel
theorem dX11_tap_12 : decode cX11_tap 12 = .ok (.iconst 2, 1) := by decide +kernel
theorem dX11_tap_13 : decode cX11_tap 13 = .ok (.invokevirtual 252, 3) := by decide +kernel
theorem dX11_tap_16 : decode cX11_tap 16 = .ok (.ifCond .ne 5, 3) := by decide +kernel
theorem dX11_tap_19 : decode cX11_tap 19 = .ok (.iconst 0, 1) := by decide +kernel
theorem dX11_tap_20 : decode cX11_tap 20 = .ok (.ireturn, 1) := by decide +kernel
theorem dX11_tap_21 : decode cX11_tap 21 = .ok (.aload_n 0, 1) := by decide +kernel
theorem dX11_tap_22 : decode cX11_tap 22 = .ok (.iload_n 1, 1) := by decide +kernel
theorem dX11_tap_23 : decode cX11_tap 23 = .ok (.invokevirtual 455, 3) := by decide +kernel
theorem dX11_tap_26 : decode cX11_tap 26 = .ok (.ireturn, 1) := by decide +kernel
theorem dX11_moved_0 : decode cX11_moved 0 = .ok (.aload_n 0, 1) := by decide +kernel
theorem dX11_moved_1 : decode cX11_moved 1 = .ok (.iconst 0, 1) := by decide +kernel
theorem dX11_moved_2 : decode cX11_moved 2 = .ok (.putfield 3, 3) := by decide +kernel
theorem dX11_moved_5 : decode cX11_moved 5 = .ok (.aload_n 0, 1) := by decide +kernel
theorem dX11_moved_6 : decode cX11_moved 6 = .ok (.aload_n 0, 1) := by decide +kernel
theorem dX11_moved_7 : decode cX11_moved 7 = .ok (.iload_n 1, 1) := by decide +kernel
theorem dX11_moved_8 : decode cX11_moved 8 = .ok (.invokevirtual 452, 3) := by decide +kernel
theorem dX11_moved_11 : decode cX11_moved 11 = .ok (.ifCond .eq 18, 3) := by decide +kernel
theorem dX11_moved_14 : decode cX11_moved 14 = .ok (.iload_n 2, 1) := by decide +kernel
theorem dX11_moved_15 : decode cX11_moved 15 = .ok (.bipush (-7), 2) := by decide +kernel
theorem dX11_moved_17 : decode cX11_moved 17 = .ok (.bipush 7, 2) := by decide +kernel
theorem dX11_moved_19 : decode cX11_moved 19 = .ok (.invokestatic 317, 3) := by decide +kernel
theorem dX11_moved_22 : decode cX11_moved 22 = .ok (.ifCond .eq 7, 3) := by decide +kernel
theorem dX11_moved_25 : decode cX11_moved 25 = .ok (.iconst 1, 1) := by decide +kernel
theorem dX11_moved_26 : decode cX11_moved 26 = .ok (.goto 4, 3) := by decide +kernel
theorem dX11_moved_29 : decode cX11_moved 29 = .ok (.iconst 0, 1) := by decide +kernel
theorem dX11_moved_30 : decode cX11_moved 30 = .ok (.iconst 1, 1) := by decide +kernel
theorem dX11_moved_31 : decode cX11_moved 31 = .ok (.iconst 2, 1) := by decide +kernel
theorem dX11_moved_32 : decode cX11_moved 32 = .ok (.invokevirtual 252, 3) := by decide +kernel
theorem dX11_moved_35 : decode cX11_moved 35 = .ok (.ifCond .ne 5, 3) := by decide +kernel
theorem dX11_moved_38 : decode cX11_moved 38 = .ok (.iconst 0, 1) := by decide +kernel
theorem dX11_moved_39 : decode cX11_moved 39 = .ok (.ireturn, 1) := by decide +kernel
theorem dX11_moved_40 : decode cX11_moved 40 = .ok (.aload_n 0, 1) := by decide +kernel
theorem dX11_moved_41 : decode cX11_moved 41 = .ok (.iload_n 1, 1) := by decide +kernel
theorem dX11_moved_42 : decode cX11_moved 42 = .ok (.iload_n 2, 1) := by decide +kernel
theorem dX11_moved_43 : decode cX11_moved 43 = .ok (.isub, 1) := by decide +kernel
theorem dX11_moved_44 : decode cX11_moved 44 = .ok (.invokevirtual 455, 3) := by decide +kernel
theorem dX11_moved_47 : decode cX11_moved 47 = .ok (.ireturn, 1) := by decide +kernel
theorem dX11_fitsNow_0 : decode cX11_fitsNow 0 = .ok (.iconst 0, 1) := by decide +kernel
theorem dX11_fitsNow_1 : decode cX11_fitsNow 1 = .ok (.istore_n 1, 1) := by decide +kernel
theorem dX11_fitsNow_2 : decode cX11_fitsNow 2 = .ok (.bipush (-7), 2) := by decide +kernel
theorem dX11_fitsNow_4 : decode cX11_fitsNow 4 = .ok (.istore_n 2, 1) := by decide +kernel
theorem dX11_fitsNow_5 : decode cX11_fitsNow 5 = .ok (.iload_n 2, 1) := by decide +kernel
theorem dX11_fitsNow_6 : decode cX11_fitsNow 6 = .ok (.bipush 7, 2) := by decide +kernel
theorem dX11_fitsNow_8 : decode cX11_fitsNow 8 = .ok (.if_icmp .gt 101, 3) := by decide +kernel
theorem dX11_fitsNow_11 : decode cX11_fitsNow 11 = .ok (.iconst 1, 1) := by decide +kernel
theorem dX11_fitsNow_12 : decode cX11_fitsNow 12 = .ok (.istore_n 3, 1) := by decide +kernel
theorem dX11_fitsNow_13 : decode cX11_fitsNow 13 = .ok (.iconst 0, 1) := by decide +kernel
theorem dX11_fitsNow_14 : decode cX11_fitsNow 14 = .ok (.istore 4, 2) := by decide +kernel
theorem dX11_fitsNow_16 : decode cX11_fitsNow 16 = .ok (.iload 4, 2) := by decide +kernel
theorem dX11_fitsNow_18 : decode cX11_fitsNow 18 = .ok (.aload_n 0, 1) := by decide +kernel
theorem dX11_fitsNow_19 : decode cX11_fitsNow 19 = .ok (.getfield 206, 3) := by decide +kernel
theorem dX11_fitsNow_22 : decode cX11_fitsNow 22 = .ok (.if_icmp .ge 64, 3) := by decide +kernel
theorem dX11_fitsNow_25 : decode cX11_fitsNow 25 = .ok (.iload_n 3, 1) := by decide +kernel
theorem dX11_fitsNow_26 : decode cX11_fitsNow 26 = .ok (.ifCond .eq 52, 3) := by decide +kernel
theorem dX11_fitsNow_29 : decode cX11_fitsNow 29 = .ok (.aload_n 0, 1) := by decide +kernel
theorem dX11_fitsNow_30 : decode cX11_fitsNow 30 = .ok (.aload_n 0, 1) := by decide +kernel
theorem dX11_fitsNow_31 : decode cX11_fitsNow 31 = .ok (.getfield 93, 3) := by decide +kernel
theorem dX11_fitsNow_34 : decode cX11_fitsNow 34 = .ok (.iconst 2, 1) := by decide +kernel
theorem dX11_fitsNow_35 : decode cX11_fitsNow 35 = .ok (.iload 4, 2) := by decide +kernel
theorem dX11_fitsNow_37 : decode cX11_fitsNow 37 = .ok (.imul, 1) := by decide +kernel
theorem dX11_fitsNow_38 : decode cX11_fitsNow 38 = .ok (.iaload, 1) := by decide +kernel
theorem dX11_fitsNow_39 : decode cX11_fitsNow 39 = .ok (.invokevirtual 452, 3) := by decide +kernel
theorem dX11_fitsNow_42 : decode cX11_fitsNow 42 = .ok (.ifCond .eq 36, 3) := by decide +kernel
theorem dX11_fitsNow_45 : decode cX11_fitsNow 45 = .ok (.aload_n 0, 1) := by decide +kernel
theorem dX11_fitsNow_46 : decode cX11_fitsNow 46 = .ok (.aload_n 0, 1) := by decide +kernel
theorem dX11_fitsNow_47 : decode cX11_fitsNow 47 = .ok (.getfield 93, 3) := by decide +kernel
theorem dX11_fitsNow_50 : decode cX11_fitsNow 50 = .ok (.iconst 2, 1) := by decide +kernel
theorem dX11_fitsNow_51 : decode cX11_fitsNow 51 = .ok (.iload 4, 2) := by decide +kernel
theorem dX11_fitsNow_53 : decode cX11_fitsNow 53 = .ok (.imul, 1) := by decide +kernel
theorem dX11_fitsNow_54 : decode cX11_fitsNow 54 = .ok (.iaload, 1) := by decide +kernel
theorem dX11_fitsNow_55 : decode cX11_fitsNow 55 = .ok (.iload_n 2, 1) := by decide +kernel
theorem dX11_fitsNow_56 : decode cX11_fitsNow 56 = .ok (.isub, 1) := by decide +kernel
theorem dX11_fitsNow_57 : decode cX11_fitsNow 57 = .ok (.invokevirtual 455, 3) := by decide +kernel
theorem dX11_fitsNow_60 : decode cX11_fitsNow 60 = .ok (.aload_n 0, 1) := by decide +kernel
theorem dX11_fitsNow_61 : decode cX11_fitsNow 61 = .ok (.getfield 93, 3) := by decide +kernel
theorem dX11_fitsNow_64 : decode cX11_fitsNow 64 = .ok (.iconst 2, 1) := by decide +kernel
theorem dX11_fitsNow_65 : decode cX11_fitsNow 65 = .ok (.iload 4, 2) := by decide +kernel
theorem dX11_fitsNow_67 : decode cX11_fitsNow 67 = .ok (.imul, 1) := by decide +kernel
theorem dX11_fitsNow_68 : decode cX11_fitsNow 68 = .ok (.iconst 1, 1) := by decide +kernel
theorem dX11_fitsNow_69 : decode cX11_fitsNow 69 = .ok (.iadd, 1) := by decide +kernel
theorem dX11_fitsNow_70 : decode cX11_fitsNow 70 = .ok (.iaload, 1) := by decide +kernel
theorem dX11_fitsNow_71 : decode cX11_fitsNow 71 = .ok (.if_icmp .ne 7, 3) := by decide +kernel
theorem dX11_fitsNow_74 : decode cX11_fitsNow 74 = .ok (.iconst 1, 1) := by decide +kernel
theorem dX11_fitsNow_75 : decode cX11_fitsNow 75 = .ok (.goto 4, 3) := by decide +kernel
theorem dX11_fitsNow_78 : decode cX11_fitsNow 78 = .ok (.iconst 0, 1) := by decide +kernel
theorem dX11_fitsNow_79 : decode cX11_fitsNow 79 = .ok (.istore_n 3, 1) := by decide +kernel
theorem dX11_fitsNow_80 : decode cX11_fitsNow 80 = .ok (.iinc 4 1, 3) := by decide +kernel
theorem dX11_fitsNow_83 : decode cX11_fitsNow 83 = .ok (.goto (-67), 3) := by decide +kernel
theorem dX11_fitsNow_86 : decode cX11_fitsNow 86 = .ok (.iload_n 1, 1) := by decide +kernel
theorem dX11_fitsNow_87 : decode cX11_fitsNow 87 = .ok (.iload_n 3, 1) := by decide +kernel
theorem dX11_fitsNow_88 : decode cX11_fitsNow 88 = .ok (.ifCond .eq 12, 3) := by decide +kernel
theorem dX11_fitsNow_91 : decode cX11_fitsNow 91 = .ok (.iconst 1, 1) := by decide +kernel
theorem dX11_fitsNow_92 : decode cX11_fitsNow 92 = .ok (.iload_n 2, 1) := by decide +kernel
theorem dX11_fitsNow_93 : decode cX11_fitsNow 93 = .ok (.bipush 7, 2) := by decide +kernel
theorem dX11_fitsNow_95 : decode cX11_fitsNow 95 = .ok (.iadd, 1) := by decide +kernel
theorem dX11_fitsNow_96 : decode cX11_fitsNow 96 = .ok (.ishl, 1) := by decide +kernel
theorem dX11_fitsNow_97 : decode cX11_fitsNow 97 = .ok (.goto 4, 3) := by decide +kernel
theorem dX11_fitsNow_100 : decode cX11_fitsNow 100 = .ok (.iconst 0, 1) := by decide +kernel
theorem dX11_fitsNow_101 : decode cX11_fitsNow 101 = .ok (.ior, 1) := by decide +kernel
theorem dX11_fitsNow_102 : decode cX11_fitsNow 102 = .ok (.istore_n 1, 1) := by decide +kernel
theorem dX11_fitsNow_103 : decode cX11_fitsNow 103 = .ok (.iinc 2 1, 3) := by decide +kernel
theorem dX11_fitsNow_106 : decode cX11_fitsNow 106 = .ok (.goto (-101), 3) := by decide +kernel
theorem dX11_fitsNow_109 : decode cX11_fitsNow 109 = .ok (.iload_n 1, 1) := by decide +kernel
theorem dX11_fitsNow_110 : decode cX11_fitsNow 110 = .ok (.ireturn, 1) := by decide +kernel
theorem dX11_fits_0 : decode cX11_fits 0 = .ok (.aload_n 0, 1) := by decide +kernel
theorem dX11_fits_1 : decode cX11_fits 1 = .ok (.iconst 0, 1) := by decide +kernel
theorem dX11_fits_2 : decode cX11_fits 2 = .ok (.putfield 3, 3) := by decide +kernel
theorem dX11_fits_5 : decode cX11_fits 5 = .ok (.aload_n 0, 1) := by decide +kernel
theorem dX11_fits_6 : decode cX11_fits 6 = .ok (.invokevirtual 458, 3) := by decide +kernel
theorem dX11_fits_9 : decode cX11_fits 9 = .ok (.ireturn, 1) := by decide +kernel
theorem dX11_worstAt_0 : decode cX11_worstAt 0 = .ok (.iconst 0, 1) := by decide +kernel
theorem dX11_worstAt_1 : decode cX11_worstAt 1 = .ok (.istore_n 3, 1) := by decide +kernel
theorem dX11_worstAt_2 : decode cX11_worstAt 2 = .ok (.iload_n 3, 1) := by decide +kernel
theorem dX11_worstAt_3 : decode cX11_worstAt 3 = .ok (.bipush 6, 2) := by decide +kernel
theorem dX11_worstAt_5 : decode cX11_worstAt 5 = .ok (.if_icmp .gt 16, 3) := by decide +kernel
theorem dX11_worstAt_8 : decode cX11_worstAt 8 = .ok (.aload_n 0, 1) := by decide +kernel
theorem dX11_worstAt_9 : decode cX11_worstAt 9 = .ok (.getfield 105, 3) := by decide +kernel
theorem dX11_worstAt_12 : decode cX11_worstAt 12 = .ok (.iload_n 3, 1) := by decide +kernel
theorem dX11_worstAt_13 : decode cX11_worstAt 13 = .ok (.iconst 0, 1) := by decide +kernel
theorem dX11_worstAt_14 : decode cX11_worstAt 14 = .ok (.iastore, 1) := by decide +kernel
theorem dX11_worstAt_15 : decode cX11_worstAt 15 = .ok (.iinc 3 1, 3) := by decide +kernel
theorem dX11_worstAt_18 : decode cX11_worstAt 18 = .ok (.goto (-16), 3) := by decide +kernel
theorem dX11_worstAt_21 : decode cX11_worstAt 21 = .ok (.iconst 0, 1) := by decide +kernel
theorem dX11_worstAt_22 : decode cX11_worstAt 22 = .ok (.istore_n 3, 1) := by decide +kernel
theorem dX11_worstAt_23 : decode cX11_worstAt 23 = .ok (.bipush (-7), 2) := by decide +kernel
theorem dX11_worstAt_25 : decode cX11_worstAt 25 = .ok (.istore 4, 2) := by decide +kernel
theorem dX11_worstAt_27 : decode cX11_worstAt 27 = .ok (.iload 4, 2) := by decide +kernel
theorem dX11_worstAt_29 : decode cX11_worstAt 29 = .ok (.bipush 7, 2) := by decide +kernel
theorem dX11_worstAt_31 : decode cX11_worstAt 31 = .ok (.if_icmp .gt 68, 3) := by decide +kernel
theorem dX11_worstAt_34 : decode cX11_worstAt 34 = .ok (.iload_n 2, 1) := by decide +kernel
theorem dX11_worstAt_35 : decode cX11_worstAt 35 = .ok (.iload 4, 2) := by decide +kernel
theorem dX11_worstAt_37 : decode cX11_worstAt 37 = .ok (.bipush 7, 2) := by decide +kernel
theorem dX11_worstAt_39 : decode cX11_worstAt 39 = .ok (.iadd, 1) := by decide +kernel
theorem dX11_worstAt_40 : decode cX11_worstAt 40 = .ok (.ishr, 1) := by decide +kernel
theorem dX11_worstAt_41 : decode cX11_worstAt 41 = .ok (.iconst 1, 1) := by decide +kernel
theorem dX11_worstAt_42 : decode cX11_worstAt 42 = .ok (.iand, 1) := by decide +kernel
theorem dX11_worstAt_43 : decode cX11_worstAt 43 = .ok (.ifCond .ne 6, 3) := by decide +kernel
theorem dX11_worstAt_46 : decode cX11_worstAt 46 = .ok (.goto 47, 3) := by decide +kernel
theorem dX11_worstAt_49 : decode cX11_worstAt 49 = .ok (.aload_n 0, 1) := by decide +kernel
theorem dX11_worstAt_50 : decode cX11_worstAt 50 = .ok (.iload_n 1, 1) := by decide +kernel
theorem dX11_worstAt_51 : decode cX11_worstAt 51 = .ok (.iload 4, 2) := by decide +kernel
theorem dX11_worstAt_53 : decode cX11_worstAt 53 = .ok (.isub, 1) := by decide +kernel
theorem dX11_worstAt_54 : decode cX11_worstAt 54 = .ok (.invokevirtual 455, 3) := by decide +kernel
theorem dX11_worstAt_57 : decode cX11_worstAt 57 = .ok (.istore 5, 2) := by decide +kernel
theorem dX11_worstAt_59 : decode cX11_worstAt 59 = .ok (.aload_n 0, 1) := by decide +kernel
theorem dX11_worstAt_60 : decode cX11_worstAt 60 = .ok (.getfield 105, 3) := by decide +kernel
theorem dX11_worstAt_63 : decode cX11_worstAt 63 = .ok (.iload 5, 2) := by decide +kernel
theorem dX11_worstAt_65 : decode cX11_worstAt 65 = .ok (.dup2, 1) := by decide +kernel
theorem dX11_worstAt_66 : decode cX11_worstAt 66 = .ok (.iaload, 1) := by decide +kernel
theorem dX11_worstAt_67 : decode cX11_worstAt 67 = .ok (.iconst 1, 1) := by decide +kernel
theorem dX11_worstAt_68 : decode cX11_worstAt 68 = .ok (.iadd, 1) := by decide +kernel
theorem dX11_worstAt_69 : decode cX11_worstAt 69 = .ok (.iastore, 1) := by decide +kernel
theorem dX11_worstAt_70 : decode cX11_worstAt 70 = .ok (.aload_n 0, 1) := by decide +kernel
theorem dX11_worstAt_71 : decode cX11_worstAt 71 = .ok (.getfield 105, 3) := by decide +kernel
theorem dX11_worstAt_74 : decode cX11_worstAt 74 = .ok (.iload 5, 2) := by decide +kernel
theorem dX11_worstAt_76 : decode cX11_worstAt 76 = .ok (.iaload, 1) := by decide +kernel
theorem dX11_worstAt_77 : decode cX11_worstAt 77 = .ok (.iload_n 3, 1) := by decide +kernel
theorem dX11_worstAt_78 : decode cX11_worstAt 78 = .ok (.if_icmp .le 13, 3) := by decide +kernel
theorem dX11_worstAt_81 : decode cX11_worstAt 81 = .ok (.aload_n 0, 1) := by decide +kernel
theorem dX11_worstAt_82 : decode cX11_worstAt 82 = .ok (.getfield 105, 3) := by decide +kernel
theorem dX11_worstAt_85 : decode cX11_worstAt 85 = .ok (.iload 5, 2) := by decide +kernel
theorem dX11_worstAt_87 : decode cX11_worstAt 87 = .ok (.iaload, 1) := by decide +kernel
theorem dX11_worstAt_88 : decode cX11_worstAt 88 = .ok (.goto 4, 3) := by decide +kernel
theorem dX11_worstAt_91 : decode cX11_worstAt 91 = .ok (.iload_n 3, 1) := by decide +kernel
theorem dX11_worstAt_92 : decode cX11_worstAt 92 = .ok (.istore_n 3, 1) := by decide +kernel
theorem dX11_worstAt_93 : decode cX11_worstAt 93 = .ok (.iinc 4 1, 3) := by decide +kernel
theorem dX11_worstAt_96 : decode cX11_worstAt 96 = .ok (.goto (-69), 3) := by decide +kernel
theorem dX11_worstAt_99 : decode cX11_worstAt 99 = .ok (.iload_n 3, 1) := by decide +kernel
theorem dX11_worstAt_100 : decode cX11_worstAt 100 = .ok (.ireturn, 1) := by decide +kernel
theorem dX11_isTapped_0 : decode cX11_isTapped 0 = .ok (.iconst 0, 1) := by decide +kernel
theorem dX11_isTapped_1 : decode cX11_isTapped 1 = .ok (.istore_n 2, 1) := by decide +kernel
theorem dX11_isTapped_2 : decode cX11_isTapped 2 = .ok (.iload_n 2, 1) := by decide +kernel
theorem dX11_isTapped_3 : decode cX11_isTapped 3 = .ok (.aload_n 0, 1) := by decide +kernel
theorem dX11_isTapped_4 : decode cX11_isTapped 4 = .ok (.getfield 206, 3) := by decide +kernel
theorem dX11_isTapped_7 : decode cX11_isTapped 7 = .ok (.if_icmp .ge 23, 3) := by decide +kernel
theorem dX11_isTapped_10 : decode cX11_isTapped 10 = .ok (.aload_n 0, 1) := by decide +kernel
theorem dX11_isTapped_11 : decode cX11_isTapped 11 = .ok (.getfield 93, 3) := by decide +kernel
theorem dX11_isTapped_14 : decode cX11_isTapped 14 = .ok (.iconst 2, 1) := by decide +kernel
theorem dX11_isTapped_15 : decode cX11_isTapped 15 = .ok (.iload_n 2, 1) := by decide +kernel
theorem dX11_isTapped_16 : decode cX11_isTapped 16 = .ok (.imul, 1) := by decide +kernel
theorem dX11_isTapped_17 : decode cX11_isTapped 17 = .ok (.iaload, 1) := by decide +kernel
theorem dX11_isTapped_18 : decode cX11_isTapped 18 = .ok (.iload_n 1, 1) := by decide +kernel
theorem dX11_isTapped_19 : decode cX11_isTapped 19 = .ok (.if_icmp .ne 5, 3) := by decide +kernel
theorem dX11_isTapped_22 : decode cX11_isTapped 22 = .ok (.iconst 1, 1) := by decide +kernel
theorem dX11_isTapped_23 : decode cX11_isTapped 23 = .ok (.ireturn, 1) := by decide +kernel
theorem dX11_isTapped_24 : decode cX11_isTapped 24 = .ok (.iinc 2 1, 3) := by decide +kernel
theorem dX11_isTapped_27 : decode cX11_isTapped 27 = .ok (.goto (-25), 3) := by decide +kernel
theorem dX11_isTapped_30 : decode cX11_isTapped 30 = .ok (.iconst 0, 1) := by decide +kernel
theorem dX11_isTapped_31 : decode cX11_isTapped 31 = .ok (.ireturn, 1) := by decide +kernel
theorem dX11_next__0 : decode cX11_next_ 0 = .ok (.aload_n 0, 1) := by decide +kernel
theorem dX11_next__1 : decode cX11_next_ 1 = .ok (.iconst 0, 1) := by decide +kernel
theorem dX11_next__2 : decode cX11_next_ 2 = .ok (.putfield 3, 3) := by decide +kernel
theorem dX11_next__5 : decode cX11_next_ 5 = .ok (.aload_n 0, 1) := by decide +kernel
theorem dX11_next__6 : decode cX11_next_ 6 = .ok (.iload_n 1, 1) := by decide +kernel
theorem dX11_next__7 : decode cX11_next_ 7 = .ok (.iconst 0, 1) := by decide +kernel
theorem dX11_next__8 : decode cX11_next_ 8 = .ok (.iconst 1, 1) := by decide +kernel
theorem dX11_next__9 : decode cX11_next_ 9 = .ok (.invokestatic 317, 3) := by decide +kernel
theorem dX11_next__12 : decode cX11_next_ 12 = .ok (.iconst 1, 1) := by decide +kernel
theorem dX11_next__13 : decode cX11_next_ 13 = .ok (.iconst 2, 1) := by decide +kernel
theorem dX11_next__14 : decode cX11_next_ 14 = .ok (.invokevirtual 252, 3) := by decide +kernel
theorem dX11_next__17 : decode cX11_next_ 17 = .ok (.ifCond .ne 5, 3) := by decide +kernel
theorem dX11_next__20 : decode cX11_next_ 20 = .ok (.iconst 0, 1) := by decide +kernel
theorem dX11_next__21 : decode cX11_next_ 21 = .ok (.ireturn, 1) := by decide +kernel
theorem dX11_next__22 : decode cX11_next_ 22 = .ok (.aload_n 0, 1) := by decide +kernel
theorem dX11_next__23 : decode cX11_next_ 23 = .ok (.invokevirtual 458, 3) := by decide +kernel
theorem dX11_next__26 : decode cX11_next_ 26 = .ok (.istore_n 2, 1) := by decide +kernel
theorem dX11_next__27 : decode cX11_next_ 27 = .ok (.iconst (-1), 1) := by decide +kernel
theorem dX11_next__28 : decode cX11_next_ 28 = .ok (.istore_n 3, 1) := by decide +kernel
theorem dX11_next__29 : decode cX11_next_ 29 = .ok (.iconst (-1), 1) := by decide +kernel
theorem dX11_next__30 : decode cX11_next_ 30 = .ok (.istore 4, 2) := by decide +kernel
theorem dX11_next__32 : decode cX11_next_ 32 = .ok (.iconst 0, 1) := by decide +kernel
theorem dX11_next__33 : decode cX11_next_ 33 = .ok (.istore 5, 2) := by decide +kernel
theorem dX11_next__35 : decode cX11_next_ 35 = .ok (.iload 5, 2) := by decide +kernel
theorem dX11_next__37 : decode cX11_next_ 37 = .ok (.aload_n 0, 1) := by decide +kernel
theorem dX11_next__38 : decode cX11_next_ 38 = .ok (.getfield 184, 3) := by decide +kernel
theorem dX11_next__41 : decode cX11_next_ 41 = .ok (.if_icmp .ge 52, 3) := by decide +kernel
theorem dX11_next__44 : decode cX11_next_ 44 = .ok (.aload_n 0, 1) := by decide +kernel
theorem dX11_next__45 : decode cX11_next_ 45 = .ok (.iload 5, 2) := by decide +kernel
theorem dX11_next__47 : decode cX11_next_ 47 = .ok (.invokevirtual 461, 3) := by decide +kernel
theorem dX11_next__50 : decode cX11_next_ 50 = .ok (.ifCond .eq 6, 3) := by decide +kernel
theorem dX11_next__53 : decode cX11_next_ 53 = .ok (.goto 34, 3) := by decide +kernel
theorem dX11_next__56 : decode cX11_next_ 56 = .ok (.aload_n 0, 1) := by decide +kernel
theorem dX11_next__57 : decode cX11_next_ 57 = .ok (.iload 5, 2) := by decide +kernel
theorem dX11_next__59 : decode cX11_next_ 59 = .ok (.iload_n 2, 1) := by decide +kernel
theorem dX11_next__60 : decode cX11_next_ 60 = .ok (.invokevirtual 464, 3) := by decide +kernel
theorem dX11_next__63 : decode cX11_next_ 63 = .ok (.istore 6, 2) := by decide +kernel
theorem dX11_next__65 : decode cX11_next_ 65 = .ok (.iload_n 3, 1) := by decide +kernel
theorem dX11_next__66 : decode cX11_next_ 66 = .ok (.iconst (-1), 1) := by decide +kernel
theorem dX11_next__67 : decode cX11_next_ 67 = .ok (.if_icmp .eq 13, 3) := by decide +kernel
theorem dX11_next__70 : decode cX11_next_ 70 = .ok (.iload 6, 2) := by decide +kernel
theorem dX11_next__72 : decode cX11_next_ 72 = .ok (.iload 4, 2) := by decide +kernel
theorem dX11_next__74 : decode cX11_next_ 74 = .ok (.if_icmp .lt 6, 3) := by decide +kernel
theorem dX11_next__77 : decode cX11_next_ 77 = .ok (.goto 10, 3) := by decide +kernel
theorem dX11_next__80 : decode cX11_next_ 80 = .ok (.iload 5, 2) := by decide +kernel
theorem dX11_next__82 : decode cX11_next_ 82 = .ok (.istore_n 3, 1) := by decide +kernel
theorem dX11_next__83 : decode cX11_next_ 83 = .ok (.iload 6, 2) := by decide +kernel
theorem dX11_next__85 : decode cX11_next_ 85 = .ok (.istore 4, 2) := by decide +kernel
theorem dX11_next__87 : decode cX11_next_ 87 = .ok (.iinc 5 1, 3) := by decide +kernel
theorem dX11_next__90 : decode cX11_next_ 90 = .ok (.goto (-55), 3) := by decide +kernel
theorem dX11_next__93 : decode cX11_next_ 93 = .ok (.iload_n 1, 1) := by decide +kernel
theorem dX11_next__94 : decode cX11_next_ 94 = .ok (.ifCond .ne 7, 3) := by decide +kernel
theorem dX11_next__97 : decode cX11_next_ 97 = .ok (.iload_n 3, 1) := by decide +kernel
theorem dX11_next__98 : decode cX11_next_ 98 = .ok (.goto 5, 3) := by decide +kernel
theorem dX11_next__101 : decode cX11_next_ 101 = .ok (.iload 4, 2) := by decide +kernel
theorem dX11_next__103 : decode cX11_next_ 103 = .ok (.ireturn, 1) := by decide +kernel
theorem dX11_canon_0 : decode cX11_canon 0 = .ok (.aload_n 0, 1) := by decide +kernel
theorem dX11_canon_1 : decode cX11_canon 1 = .ok (.iconst 0, 1) := by decide +kernel
theorem dX11_canon_2 : decode cX11_canon 2 = .ok (.putfield 3, 3) := by decide +kernel
theorem dX11_canon_5 : decode cX11_canon 5 = .ok (.aload_n 0, 1) := by decide +kernel
theorem dX11_canon_6 : decode cX11_canon 6 = .ok (.aload_n 0, 1) := by decide +kernel
theorem dX11_canon_7 : decode cX11_canon 7 = .ok (.iload_n 1, 1) := by decide +kernel
theorem dX11_canon_8 : decode cX11_canon 8 = .ok (.invokevirtual 452, 3) := by decide +kernel
theorem dX11_canon_11 : decode cX11_canon 11 = .ok (.ifCond .eq 24, 3) := by decide +kernel
theorem dX11_canon_14 : decode cX11_canon 14 = .ok (.aload_n 0, 1) := by decide +kernel
theorem dX11_canon_15 : decode cX11_canon 15 = .ok (.iload_n 2, 1) := by decide +kernel
theorem dX11_canon_16 : decode cX11_canon 16 = .ok (.invokevirtual 452, 3) := by decide +kernel
theorem dX11_canon_19 : decode cX11_canon 19 = .ok (.ifCond .eq 16, 3) := by decide +kernel
theorem dX11_canon_22 : decode cX11_canon 22 = .ok (.iload_n 3, 1) := by decide +kernel
theorem dX11_canon_23 : decode cX11_canon 23 = .ok (.iconst 0, 1) := by decide +kernel
theorem dX11_canon_24 : decode cX11_canon 24 = .ok (.iconst 1, 1) := by decide +kernel
theorem dX11_canon_25 : decode cX11_canon 25 = .ok (.invokestatic 317, 3) := by decide +kernel
theorem dX11_canon_28 : decode cX11_canon 28 = .ok (.ifCond .eq 7, 3) := by decide +kernel
theorem dX11_canon_31 : decode cX11_canon 31 = .ok (.iconst 1, 1) := by decide +kernel
theorem dX11_canon_32 : decode cX11_canon 32 = .ok (.goto 4, 3) := by decide +kernel
theorem dX11_canon_35 : decode cX11_canon 35 = .ok (.iconst 0, 1) := by decide +kernel
theorem dX11_canon_36 : decode cX11_canon 36 = .ok (.iconst 1, 1) := by decide +kernel
theorem dX11_canon_37 : decode cX11_canon 37 = .ok (.iconst 2, 1) := by decide +kernel
theorem dX11_canon_38 : decode cX11_canon 38 = .ok (.invokevirtual 252, 3) := by decide +kernel
theorem dX11_canon_41 : decode cX11_canon 41 = .ok (.ifCond .ne 5, 3) := by decide +kernel
theorem dX11_canon_44 : decode cX11_canon 44 = .ok (.iconst 0, 1) := by decide +kernel
theorem dX11_canon_45 : decode cX11_canon 45 = .ok (.ireturn, 1) := by decide +kernel
theorem dX11_canon_46 : decode cX11_canon 46 = .ok (.iconst 0, 1) := by decide +kernel
theorem dX11_canon_47 : decode cX11_canon 47 = .ok (.istore 4, 2) := by decide +kernel
theorem dX11_canon_49 : decode cX11_canon 49 = .ok (.iconst (-1), 1) := by decide +kernel
theorem dX11_canon_50 : decode cX11_canon 50 = .ok (.istore 5, 2) := by decide +kernel
theorem dX11_canon_52 : decode cX11_canon 52 = .ok (.iconst 0, 1) := by decide +kernel
theorem dX11_canon_53 : decode cX11_canon 53 = .ok (.istore 6, 2) := by decide +kernel
theorem dX11_canon_55 : decode cX11_canon 55 = .ok (.iload 6, 2) := by decide +kernel
theorem dX11_canon_57 : decode cX11_canon 57 = .ok (.aload_n 0, 1) := by decide +kernel
theorem dX11_canon_58 : decode cX11_canon 58 = .ok (.getfield 187, 3) := by decide +kernel
theorem dX11_canon_61 : decode cX11_canon 61 = .ok (.if_icmp .ge 107, 3) := by decide +kernel
theorem dX11_canon_64 : decode cX11_canon 64 = .ok (.iconst 0, 1) := by decide +kernel
theorem dX11_canon_65 : decode cX11_canon 65 = .ok (.istore 7, 2) := by decide +kernel
theorem dX11_canon_67 : decode cX11_canon 67 = .ok (.iconst 0, 1) := by decide +kernel
theorem dX11_canon_68 : decode cX11_canon 68 = .ok (.istore 8, 2) := by decide +kernel
theorem dX11_canon_70 : decode cX11_canon 70 = .ok (.iload 8, 2) := by decide +kernel
theorem dX11_canon_72 : decode cX11_canon 72 = .ok (.iload 6, 2) := by decide +kernel
theorem dX11_canon_74 : decode cX11_canon 74 = .ok (.iadd, 1) := by decide +kernel
theorem dX11_canon_75 : decode cX11_canon 75 = .ok (.aload_n 0, 1) := by decide +kernel
theorem dX11_canon_76 : decode cX11_canon 76 = .ok (.getfield 187, 3) := by decide +kernel
theorem dX11_canon_79 : decode cX11_canon 79 = .ok (.if_icmp .ge 65, 3) := by decide +kernel
theorem dX11_canon_82 : decode cX11_canon 82 = .ok (.aload_n 0, 1) := by decide +kernel
theorem dX11_canon_83 : decode cX11_canon 83 = .ok (.getfield 35, 3) := by decide +kernel
theorem dX11_canon_86 : decode cX11_canon 86 = .ok (.bipush 8, 2) := by decide +kernel
theorem dX11_canon_88 : decode cX11_canon 88 = .ok (.iload 8, 2) := by decide +kernel
theorem dX11_canon_90 : decode cX11_canon 90 = .ok (.imul, 1) := by decide +kernel
theorem dX11_canon_91 : decode cX11_canon 91 = .ok (.iload_n 2, 1) := by decide +kernel
theorem dX11_canon_92 : decode cX11_canon 92 = .ok (.iadd, 1) := by decide +kernel
theorem dX11_canon_93 : decode cX11_canon 93 = .ok (.iaload, 1) := by decide +kernel
theorem dX11_canon_94 : decode cX11_canon 94 = .ok (.istore 9, 2) := by decide +kernel
theorem dX11_canon_96 : decode cX11_canon 96 = .ok (.iload 7, 2) := by decide +kernel
theorem dX11_canon_98 : decode cX11_canon 98 = .ok (.iload 9, 2) := by decide +kernel
theorem dX11_canon_100 : decode cX11_canon 100 = .ok (.iconst 1, 1) := by decide +kernel
theorem dX11_canon_101 : decode cX11_canon 101 = .ok (.if_icmp .lt 33, 3) := by decide +kernel
theorem dX11_canon_104 : decode cX11_canon 104 = .ok (.iload 9, 2) := by decide +kernel
theorem dX11_canon_106 : decode cX11_canon 106 = .ok (.iconst 4, 1) := by decide +kernel
theorem dX11_canon_107 : decode cX11_canon 107 = .ok (.if_icmp .gt 27, 3) := by decide +kernel
theorem dX11_canon_110 : decode cX11_canon 110 = .ok (.iload 9, 2) := by decide +kernel
theorem dX11_canon_112 : decode cX11_canon 112 = .ok (.aload_n 0, 1) := by decide +kernel
theorem dX11_canon_113 : decode cX11_canon 113 = .ok (.getfield 35, 3) := by decide +kernel
theorem dX11_canon_116 : decode cX11_canon 116 = .ok (.bipush 8, 2) := by decide +kernel
theorem dX11_canon_118 : decode cX11_canon 118 = .ok (.iload 8, 2) := by decide +kernel
theorem dX11_canon_120 : decode cX11_canon 120 = .ok (.iload 6, 2) := by decide +kernel
theorem dX11_canon_122 : decode cX11_canon 122 = .ok (.iadd, 1) := by decide +kernel
theorem dX11_canon_123 : decode cX11_canon 123 = .ok (.imul, 1) := by decide +kernel
theorem dX11_canon_124 : decode cX11_canon 124 = .ok (.iload_n 1, 1) := by decide +kernel
theorem dX11_canon_125 : decode cX11_canon 125 = .ok (.iadd, 1) := by decide +kernel
theorem dX11_canon_126 : decode cX11_canon 126 = .ok (.iaload, 1) := by decide +kernel
theorem dX11_canon_127 : decode cX11_canon 127 = .ok (.if_icmp .ne 7, 3) := by decide +kernel
theorem dX11_canon_130 : decode cX11_canon 130 = .ok (.iconst 1, 1) := by decide +kernel
theorem dX11_canon_131 : decode cX11_canon 131 = .ok (.goto 4, 3) := by decide +kernel
theorem dX11_canon_134 : decode cX11_canon 134 = .ok (.iconst 0, 1) := by decide +kernel
theorem dX11_canon_135 : decode cX11_canon 135 = .ok (.iadd, 1) := by decide +kernel
theorem dX11_canon_136 : decode cX11_canon 136 = .ok (.istore 7, 2) := by decide +kernel
theorem dX11_canon_138 : decode cX11_canon 138 = .ok (.iinc 8 1, 3) := by decide +kernel
theorem dX11_canon_141 : decode cX11_canon 141 = .ok (.goto (-71), 3) := by decide +kernel
theorem dX11_canon_144 : decode cX11_canon 144 = .ok (.iload 7, 2) := by decide +kernel
theorem dX11_canon_146 : decode cX11_canon 146 = .ok (.iload 5, 2) := by decide +kernel
theorem dX11_canon_148 : decode cX11_canon 148 = .ok (.if_icmp .gt 6, 3) := by decide +kernel
theorem dX11_canon_151 : decode cX11_canon 151 = .ok (.goto 11, 3) := by decide +kernel
theorem dX11_canon_154 : decode cX11_canon 154 = .ok (.iload 6, 2) := by decide +kernel
theorem dX11_canon_156 : decode cX11_canon 156 = .ok (.istore 4, 2) := by decide +kernel
theorem dX11_canon_158 : decode cX11_canon 158 = .ok (.iload 7, 2) := by decide +kernel
theorem dX11_canon_160 : decode cX11_canon 160 = .ok (.istore 5, 2) := by decide +kernel
theorem dX11_canon_162 : decode cX11_canon 162 = .ok (.iinc 6 1, 3) := by decide +kernel
theorem dX11_canon_165 : decode cX11_canon 165 = .ok (.goto (-110), 3) := by decide +kernel
theorem dX11_canon_168 : decode cX11_canon 168 = .ok (.iload_n 3, 1) := by decide +kernel
theorem dX11_canon_169 : decode cX11_canon 169 = .ok (.ifCond .ne 8, 3) := by decide +kernel
theorem dX11_canon_172 : decode cX11_canon 172 = .ok (.iload 4, 2) := by decide +kernel
theorem dX11_canon_174 : decode cX11_canon 174 = .ok (.goto 5, 3) := by decide +kernel
theorem dX11_canon_177 : decode cX11_canon 177 = .ok (.iload 5, 2) := by decide +kernel
theorem dX11_canon_179 : decode cX11_canon 179 = .ok (.ireturn, 1) := by decide +kernel
theorem dX11_getsOf_0 : decode cX11_getsOf 0 = .ok (.aload_n 0, 1) := by decide +kernel
theorem dX11_getsOf_1 : decode cX11_getsOf 1 = .ok (.getfield 41, 3) := by decide +kernel
theorem dX11_getsOf_4 : decode cX11_getsOf 4 = .ok (.iload_n 1, 1) := by decide +kernel
theorem dX11_getsOf_5 : decode cX11_getsOf 5 = .ok (.iaload, 1) := by decide +kernel
theorem dX11_getsOf_6 : decode cX11_getsOf 6 = .ok (.iload_n 2, 1) := by decide +kernel
theorem dX11_getsOf_7 : decode cX11_getsOf 7 = .ok (.isub, 1) := by decide +kernel
theorem dX11_getsOf_8 : decode cX11_getsOf 8 = .ok (.iload_n 3, 1) := by decide +kernel
theorem dX11_getsOf_9 : decode cX11_getsOf 9 = .ok (.isub, 1) := by decide +kernel
theorem dX11_getsOf_10 : decode cX11_getsOf 10 = .ok (.istore 4, 2) := by decide +kernel
theorem dX11_getsOf_12 : decode cX11_getsOf 12 = .ok (.iload 4, 2) := by decide +kernel
theorem dX11_getsOf_14 : decode cX11_getsOf 14 = .ok (.ifCond .le 10, 3) := by decide +kernel
theorem dX11_getsOf_17 : decode cX11_getsOf 17 = .ok (.iload_n 2, 1) := by decide +kernel
theorem dX11_getsOf_18 : decode cX11_getsOf 18 = .ok (.iload 4, 2) := by decide +kernel
theorem dX11_getsOf_20 : decode cX11_getsOf 20 = .ok (.imul, 1) := by decide +kernel
theorem dX11_getsOf_21 : decode cX11_getsOf 21 = .ok (.goto 4, 3) := by decide +kernel
theorem dX11_getsOf_24 : decode cX11_getsOf 24 = .ok (.iconst 0, 1) := by decide +kernel
theorem dX11_getsOf_25 : decode cX11_getsOf 25 = .ok (.ireturn, 1) := by decide +kernel
theorem dX11_isBest_0 : decode cX11_isBest 0 = .ok (.iconst 0, 1) := by decide +kernel
theorem dX11_isBest_1 : decode cX11_isBest 1 = .ok (.istore 5, 2) := by decide +kernel
theorem dX11_isBest_3 : decode cX11_isBest 3 = .ok (.iload 5, 2) := by decide +kernel
theorem dX11_isBest_5 : decode cX11_isBest 5 = .ok (.iload 4, 2) := by decide +kernel
theorem dX11_isBest_7 : decode cX11_isBest 7 = .ok (.if_icmp .gt 29, 3) := by decide +kernel
theorem dX11_isBest_10 : decode cX11_isBest 10 = .ok (.aload_n 0, 1) := by decide +kernel
theorem dX11_isBest_11 : decode cX11_isBest 11 = .ok (.iload_n 1, 1) := by decide +kernel
theorem dX11_isBest_12 : decode cX11_isBest 12 = .ok (.iload 5, 2) := by decide +kernel
theorem dX11_isBest_14 : decode cX11_isBest 14 = .ok (.iload_n 3, 1) := by decide +kernel
theorem dX11_isBest_15 : decode cX11_isBest 15 = .ok (.invokevirtual 467, 3) := by decide +kernel
theorem dX11_isBest_18 : decode cX11_isBest 18 = .ok (.aload_n 0, 1) := by decide +kernel
theorem dX11_isBest_19 : decode cX11_isBest 19 = .ok (.iload_n 1, 1) := by decide +kernel
theorem dX11_isBest_20 : decode cX11_isBest 20 = .ok (.iload_n 2, 1) := by decide +kernel
theorem dX11_isBest_21 : decode cX11_isBest 21 = .ok (.iload_n 3, 1) := by decide +kernel
theorem dX11_isBest_22 : decode cX11_isBest 22 = .ok (.invokevirtual 467, 3) := by decide +kernel
theorem dX11_isBest_25 : decode cX11_isBest 25 = .ok (.if_icmp .le 5, 3) := by decide +kernel
theorem dX11_isBest_28 : decode cX11_isBest 28 = .ok (.iconst 0, 1) := by decide +kernel
theorem dX11_isBest_29 : decode cX11_isBest 29 = .ok (.ireturn, 1) := by decide +kernel
theorem dX11_isBest_30 : decode cX11_isBest 30 = .ok (.iinc 5 1, 3) := by decide +kernel
theorem dX11_isBest_33 : decode cX11_isBest 33 = .ok (.goto (-30), 3) := by decide +kernel
theorem dX11_isBest_36 : decode cX11_isBest 36 = .ok (.iconst 1, 1) := by decide +kernel
theorem dX11_isBest_37 : decode cX11_isBest 37 = .ok (.ireturn, 1) := by decide +kernel
theorem dX11_owners_0 : decode cX11_owners 0 = .ok (.aload_n 0, 1) := by decide +kernel
theorem dX11_owners_1 : decode cX11_owners 1 = .ok (.iconst 0, 1) := by decide +kernel
theorem dX11_owners_2 : decode cX11_owners 2 = .ok (.putfield 3, 3) := by decide +kernel
theorem dX11_owners_5 : decode cX11_owners 5 = .ok (.aload_n 0, 1) := by decide +kernel
theorem dX11_owners_6 : decode cX11_owners 6 = .ok (.iload_n 1, 1) := by decide +kernel
theorem dX11_owners_7 : decode cX11_owners 7 = .ok (.iconst 1, 1) := by decide +kernel
theorem dX11_owners_8 : decode cX11_owners 8 = .ok (.iconst 4, 1) := by decide +kernel
theorem dX11_owners_9 : decode cX11_owners 9 = .ok (.invokestatic 317, 3) := by decide +kernel
theorem dX11_owners_12 : decode cX11_owners 12 = .ok (.ifCond .eq 26, 3) := by decide +kernel
theorem dX11_owners_15 : decode cX11_owners 15 = .ok (.iload_n 2, 1) := by decide +kernel
theorem dX11_owners_16 : decode cX11_owners 16 = .ok (.iconst 0, 1) := by decide +kernel
theorem dX11_owners_17 : decode cX11_owners 17 = .ok (.bipush 20, 2) := by decide +kernel
theorem dX11_owners_19 : decode cX11_owners 19 = .ok (.invokestatic 317, 3) := by decide +kernel
theorem dX11_owners_22 : decode cX11_owners 22 = .ok (.ifCond .eq 16, 3) := by decide +kernel
theorem dX11_owners_25 : decode cX11_owners 25 = .ok (.iload_n 3, 1) := by decide +kernel
theorem dX11_owners_26 : decode cX11_owners 26 = .ok (.iconst 0, 1) := by decide +kernel
theorem dX11_owners_27 : decode cX11_owners 27 = .ok (.iconst 2, 1) := by decide +kernel
theorem dX11_owners_28 : decode cX11_owners 28 = .ok (.invokestatic 317, 3) := by decide +kernel
theorem dX11_owners_31 : decode cX11_owners 31 = .ok (.ifCond .eq 7, 3) := by decide +kernel
theorem dX11_owners_34 : decode cX11_owners 34 = .ok (.iconst 1, 1) := by decide +kernel
theorem dX11_owners_35 : decode cX11_owners 35 = .ok (.goto 4, 3) := by decide +kernel
theorem dX11_owners_38 : decode cX11_owners 38 = .ok (.iconst 0, 1) := by decide +kernel
theorem dX11_owners_39 : decode cX11_owners 39 = .ok (.iconst 1, 1) := by decide +kernel
theorem dX11_owners_40 : decode cX11_owners 40 = .ok (.iconst 2, 1) := by decide +kernel
theorem dX11_owners_41 : decode cX11_owners 41 = .ok (.invokevirtual 252, 3) := by decide +kernel
theorem dX11_owners_44 : decode cX11_owners 44 = .ok (.ifCond .ne 5, 3) := by decide +kernel
theorem dX11_owners_47 : decode cX11_owners 47 = .ok (.iconst 0, 1) := by decide +kernel
theorem dX11_owners_48 : decode cX11_owners 48 = .ok (.ireturn, 1) := by decide +kernel
theorem dX11_owners_49 : decode cX11_owners 49 = .ok (.iconst 0, 1) := by decide +kernel
theorem dX11_owners_50 : decode cX11_owners 50 = .ok (.istore 4, 2) := by decide +kernel
theorem dX11_owners_52 : decode cX11_owners 52 = .ok (.iconst (-1), 1) := by decide +kernel
theorem dX11_owners_53 : decode cX11_owners 53 = .ok (.istore 5, 2) := by decide +kernel
theorem dX11_owners_55 : decode cX11_owners 55 = .ok (.iconst 0, 1) := by decide +kernel
theorem dX11_owners_56 : decode cX11_owners 56 = .ok (.istore 6, 2) := by decide +kernel
theorem dX11_owners_58 : decode cX11_owners 58 = .ok (.iload 6, 2) := by decide +kernel
theorem dX11_owners_60 : decode cX11_owners 60 = .ok (.iload_n 2, 1) := by decide +kernel
theorem dX11_owners_61 : decode cX11_owners 61 = .ok (.if_icmp .gt 77, 3) := by decide +kernel
theorem dX11_owners_64 : decode cX11_owners 64 = .ok (.iconst 0, 1) := by decide +kernel
theorem dX11_owners_65 : decode cX11_owners 65 = .ok (.istore 7, 2) := by decide +kernel
theorem dX11_owners_67 : decode cX11_owners 67 = .ok (.iload 7, 2) := by decide +kernel
theorem dX11_owners_69 : decode cX11_owners 69 = .ok (.iload_n 2, 1) := by decide +kernel
theorem dX11_owners_70 : decode cX11_owners 70 = .ok (.if_icmp .gt 62, 3) := by decide +kernel
theorem dX11_owners_73 : decode cX11_owners 73 = .ok (.aload_n 0, 1) := by decide +kernel
theorem dX11_owners_74 : decode cX11_owners 74 = .ok (.iload_n 1, 1) := by decide +kernel
theorem dX11_owners_75 : decode cX11_owners 75 = .ok (.iload 6, 2) := by decide +kernel
theorem dX11_owners_77 : decode cX11_owners 77 = .ok (.iload 7, 2) := by decide +kernel
theorem dX11_owners_79 : decode cX11_owners 79 = .ok (.iload_n 2, 1) := by decide +kernel
theorem dX11_owners_80 : decode cX11_owners 80 = .ok (.invokevirtual 470, 3) := by decide +kernel
theorem dX11_owners_83 : decode cX11_owners 83 = .ok (.ifCond .eq 43, 3) := by decide +kernel
theorem dX11_owners_86 : decode cX11_owners 86 = .ok (.aload_n 0, 1) := by decide +kernel
theorem dX11_owners_87 : decode cX11_owners 87 = .ok (.iload_n 1, 1) := by decide +kernel
theorem dX11_owners_88 : decode cX11_owners 88 = .ok (.iload 7, 2) := by decide +kernel
theorem dX11_owners_90 : decode cX11_owners 90 = .ok (.iload 6, 2) := by decide +kernel
theorem dX11_owners_92 : decode cX11_owners 92 = .ok (.iload_n 2, 1) := by decide +kernel
theorem dX11_owners_93 : decode cX11_owners 93 = .ok (.invokevirtual 470, 3) := by decide +kernel
theorem dX11_owners_96 : decode cX11_owners 96 = .ok (.ifCond .ne 6, 3) := by decide +kernel
theorem dX11_owners_99 : decode cX11_owners 99 = .ok (.goto 27, 3) := by decide +kernel
theorem dX11_owners_102 : decode cX11_owners 102 = .ok (.iinc 4 1, 3) := by decide +kernel
theorem dX11_owners_105 : decode cX11_owners 105 = .ok (.iload 5, 2) := by decide +kernel
theorem dX11_owners_107 : decode cX11_owners 107 = .ok (.iconst (-1), 1) := by decide +kernel
theorem dX11_owners_108 : decode cX11_owners 108 = .ok (.if_icmp .ne 14, 3) := by decide +kernel
theorem dX11_owners_111 : decode cX11_owners 111 = .ok (.bipush 100, 2) := by decide +kernel
theorem dX11_owners_113 : decode cX11_owners 113 = .ok (.iload 6, 2) := by decide +kernel
theorem dX11_owners_115 : decode cX11_owners 115 = .ok (.imul, 1) := by decide +kernel
theorem dX11_owners_116 : decode cX11_owners 116 = .ok (.iload 7, 2) := by decide +kernel
theorem dX11_owners_118 : decode cX11_owners 118 = .ok (.iadd, 1) := by decide +kernel
theorem dX11_owners_119 : decode cX11_owners 119 = .ok (.goto 5, 3) := by decide +kernel
theorem dX11_owners_122 : decode cX11_owners 122 = .ok (.iload 5, 2) := by decide +kernel
theorem dX11_owners_124 : decode cX11_owners 124 = .ok (.istore 5, 2) := by decide +kernel
theorem dX11_owners_126 : decode cX11_owners 126 = .ok (.iinc 7 1, 3) := by decide +kernel
theorem dX11_owners_129 : decode cX11_owners 129 = .ok (.goto (-62), 3) := by decide +kernel
theorem dX11_owners_132 : decode cX11_owners 132 = .ok (.iinc 6 1, 3) := by decide +kernel
theorem dX11_owners_135 : decode cX11_owners 135 = .ok (.goto (-77), 3) := by decide +kernel
theorem dX11_owners_138 : decode cX11_owners 138 = .ok (.iload_n 3, 1) := by decide +kernel
theorem dX11_owners_139 : decode cX11_owners 139 = .ok (.ifCond .ne 8, 3) := by decide +kernel
theorem dX11_owners_142 : decode cX11_owners 142 = .ok (.iload 4, 2) := by decide +kernel
theorem dX11_owners_144 : decode cX11_owners 144 = .ok (.goto 38, 3) := by decide +kernel
theorem dX11_owners_147 : decode cX11_owners 147 = .ok (.iload_n 3, 1) := by decide +kernel
theorem dX11_owners_148 : decode cX11_owners 148 = .ok (.iconst 1, 1) := by decide +kernel
theorem dX11_owners_149 : decode cX11_owners 149 = .ok (.if_icmp .ne 8, 3) := by decide +kernel
theorem dX11_owners_152 : decode cX11_owners 152 = .ok (.iload 5, 2) := by decide +kernel
theorem dX11_owners_154 : decode cX11_owners 154 = .ok (.goto 28, 3) := by decide +kernel
theorem dX11_owners_157 : decode cX11_owners 157 = .ok (.iload 5, 2) := by decide +kernel
theorem dX11_owners_159 : decode cX11_owners 159 = .ok (.iconst (-1), 1) := by decide +kernel
theorem dX11_owners_160 : decode cX11_owners 160 = .ok (.if_icmp .ne 7, 3) := by decide +kernel
theorem dX11_owners_163 : decode cX11_owners 163 = .ok (.iconst 0, 1) := by decide +kernel
theorem dX11_owners_164 : decode cX11_owners 164 = .ok (.goto 18, 3) := by decide +kernel
theorem dX11_owners_167 : decode cX11_owners 167 = .ok (.aload_n 0, 1) := by decide +kernel
theorem dX11_owners_168 : decode cX11_owners 168 = .ok (.iload_n 1, 1) := by decide +kernel
theorem dX11_owners_169 : decode cX11_owners 169 = .ok (.iload 5, 2) := by decide +kernel
theorem dX11_owners_171 : decode cX11_owners 171 = .ok (.bipush 100, 2) := by decide +kernel
theorem dX11_owners_173 : decode cX11_owners 173 = .ok (.idiv, 1) := by decide +kernel
theorem dX11_owners_174 : decode cX11_owners 174 = .ok (.iload 5, 2) := by decide +kernel
theorem dX11_owners_176 : decode cX11_owners 176 = .ok (.bipush 100, 2) := by decide +kernel
theorem dX11_owners_178 : decode cX11_owners 178 = .ok (.irem, 1) := by decide +kernel
theorem dX11_owners_179 : decode cX11_owners 179 = .ok (.invokevirtual 467, 3) := by decide +kernel
theorem dX11_owners_182 : decode cX11_owners 182 = .ok (.ireturn, 1) := by decide +kernel
theorem dX11_face_0 : decode cX11_face 0 = .ok (.aload_n 0, 1) := by decide +kernel
theorem dX11_face_1 : decode cX11_face 1 = .ok (.iconst 0, 1) := by decide +kernel
theorem dX11_face_2 : decode cX11_face 2 = .ok (.putfield 3, 3) := by decide +kernel
theorem dX11_face_5 : decode cX11_face 5 = .ok (.aload_n 0, 1) := by decide +kernel
theorem dX11_face_6 : decode cX11_face 6 = .ok (.iload_n 1, 1) := by decide +kernel
theorem dX11_face_7 : decode cX11_face 7 = .ok (.iconst 1, 1) := by decide +kernel
theorem dX11_face_8 : decode cX11_face 8 = .ok (.iconst 4, 1) := by decide +kernel
theorem dX11_face_9 : decode cX11_face 9 = .ok (.invokestatic 317, 3) := by decide +kernel
theorem dX11_face_12 : decode cX11_face 12 = .ok (.ifCond .eq 16, 3) := by decide +kernel
theorem dX11_face_15 : decode cX11_face 15 = .ok (.iload_n 2, 1) := by decide +kernel
theorem dX11_face_16 : decode cX11_face 16 = .ok (.iconst 0, 1) := by decide +kernel
theorem dX11_face_17 : decode cX11_face 17 = .ok (.iconst 1, 1) := by decide +kernel
theorem dX11_face_18 : decode cX11_face 18 = .ok (.invokestatic 317, 3) := by decide +kernel
theorem dX11_face_21 : decode cX11_face 21 = .ok (.ifCond .eq 7, 3) := by decide +kernel
theorem dX11_face_24 : decode cX11_face 24 = .ok (.iconst 1, 1) := by decide +kernel
theorem dX11_face_25 : decode cX11_face 25 = .ok (.goto 4, 3) := by decide +kernel
theorem dX11_face_28 : decode cX11_face 28 = .ok (.iconst 0, 1) := by decide +kernel
theorem dX11_face_29 : decode cX11_face 29 = .ok (.iconst 1, 1) := by decide +kernel
theorem dX11_face_30 : decode cX11_face 30 = .ok (.iconst 2, 1) := by decide +kernel
theorem dX11_face_31 : decode cX11_face 31 = .ok (.invokevirtual 252, 3) := by decide +kernel
theorem dX11_face_34 : decode cX11_face 34 = .ok (.ifCond .ne 5, 3) := by decide +kernel
theorem dX11_face_37 : decode cX11_face 37 = .ok (.iconst 0, 1) := by decide +kernel
theorem dX11_face_38 : decode cX11_face 38 = .ok (.ireturn, 1) := by decide +kernel
theorem dX11_face_39 : decode cX11_face 39 = .ok (.iconst (-1), 1) := by decide +kernel
theorem dX11_face_40 : decode cX11_face 40 = .ok (.istore_n 3, 1) := by decide +kernel
theorem dX11_face_41 : decode cX11_face 41 = .ok (.iconst 0, 1) := by decide +kernel
theorem dX11_face_42 : decode cX11_face 42 = .ok (.istore 4, 2) := by decide +kernel
theorem dX11_face_44 : decode cX11_face 44 = .ok (.iconst 0, 1) := by decide +kernel
theorem dX11_face_45 : decode cX11_face 45 = .ok (.istore 5, 2) := by decide +kernel
theorem dX11_face_47 : decode cX11_face 47 = .ok (.iload 5, 2) := by decide +kernel
theorem dX11_face_49 : decode cX11_face 49 = .ok (.bipush 48, 2) := by decide +kernel
theorem dX11_face_51 : decode cX11_face 51 = .ok (.if_icmp .ge 89, 3) := by decide +kernel
theorem dX11_face_54 : decode cX11_face 54 = .ok (.iconst 0, 1) := by decide +kernel
theorem dX11_face_55 : decode cX11_face 55 = .ok (.istore 6, 2) := by decide +kernel
theorem dX11_face_57 : decode cX11_face 57 = .ok (.iload 5, 2) := by decide +kernel
theorem dX11_face_59 : decode cX11_face 59 = .ok (.bipush 8, 2) := by decide +kernel
theorem dX11_face_61 : decode cX11_face 61 = .ok (.irem, 1) := by decide +kernel
theorem dX11_face_62 : decode cX11_face 62 = .ok (.iload 6, 2) := by decide +kernel
theorem dX11_face_64 : decode cX11_face 64 = .ok (.iadd, 1) := by decide +kernel
theorem dX11_face_65 : decode cX11_face 65 = .ok (.aload_n 0, 1) := by decide +kernel
theorem dX11_face_66 : decode cX11_face 66 = .ok (.getfield 184, 3) := by decide +kernel
theorem dX11_face_69 : decode cX11_face 69 = .ok (.if_icmp .ge 48, 3) := by decide +kernel
theorem dX11_face_72 : decode cX11_face 72 = .ok (.iload 5, 2) := by decide +kernel
theorem dX11_face_74 : decode cX11_face 74 = .ok (.bipush 8, 2) := by decide +kernel
theorem dX11_face_76 : decode cX11_face 76 = .ok (.idiv, 1) := by decide +kernel
theorem dX11_face_77 : decode cX11_face 77 = .ok (.aload_n 0, 1) := by decide +kernel
theorem dX11_face_78 : decode cX11_face 78 = .ok (.getfield 187, 3) := by decide +kernel
theorem dX11_face_81 : decode cX11_face 81 = .ok (.if_icmp .ge 36, 3) := by decide +kernel
theorem dX11_face_84 : decode cX11_face 84 = .ok (.aload_n 0, 1) := by decide +kernel
theorem dX11_face_85 : decode cX11_face 85 = .ok (.getfield 35, 3) := by decide +kernel
theorem dX11_face_88 : decode cX11_face 88 = .ok (.iload 5, 2) := by decide +kernel
theorem dX11_face_90 : decode cX11_face 90 = .ok (.iload 6, 2) := by decide +kernel
theorem dX11_face_92 : decode cX11_face 92 = .ok (.iadd, 1) := by decide +kernel
theorem dX11_face_93 : decode cX11_face 93 = .ok (.iaload, 1) := by decide +kernel
theorem dX11_face_94 : decode cX11_face 94 = .ok (.iload_n 1, 1) := by decide +kernel
theorem dX11_face_95 : decode cX11_face 95 = .ok (.if_icmp .ne 22, 3) := by decide +kernel
theorem dX11_face_98 : decode cX11_face 98 = .ok (.aload_n 0, 1) := by decide +kernel
theorem dX11_face_99 : decode cX11_face 99 = .ok (.getfield 74, 3) := by decide +kernel
theorem dX11_face_102 : decode cX11_face 102 = .ok (.iload 5, 2) := by decide +kernel
theorem dX11_face_104 : decode cX11_face 104 = .ok (.iload 6, 2) := by decide +kernel
theorem dX11_face_106 : decode cX11_face 106 = .ok (.iadd, 1) := by decide +kernel
theorem dX11_face_107 : decode cX11_face 107 = .ok (.iaload, 1) := by decide +kernel
theorem dX11_face_108 : decode cX11_face 108 = .ok (.ifCond .ne 9, 3) := by decide +kernel
theorem dX11_face_111 : decode cX11_face 111 = .ok (.iinc 6 1, 3) := by decide +kernel
theorem dX11_face_114 : decode cX11_face 114 = .ok (.goto (-57), 3) := by decide +kernel
theorem dX11_face_117 : decode cX11_face 117 = .ok (.iload 6, 2) := by decide +kernel
theorem dX11_face_119 : decode cX11_face 119 = .ok (.iload 4, 2) := by decide +kernel
theorem dX11_face_121 : decode cX11_face 121 = .ok (.if_icmp .gt 6, 3) := by decide +kernel
theorem dX11_face_124 : decode cX11_face 124 = .ok (.goto 10, 3) := by decide +kernel
theorem dX11_face_127 : decode cX11_face 127 = .ok (.iload 5, 2) := by decide +kernel
theorem dX11_face_129 : decode cX11_face 129 = .ok (.istore_n 3, 1) := by decide +kernel
theorem dX11_face_130 : decode cX11_face 130 = .ok (.iload 6, 2) := by decide +kernel
theorem dX11_face_132 : decode cX11_face 132 = .ok (.istore 4, 2) := by decide +kernel
theorem dX11_face_134 : decode cX11_face 134 = .ok (.iinc 5 1, 3) := by decide +kernel
theorem dX11_face_137 : decode cX11_face 137 = .ok (.goto (-90), 3) := by decide +kernel
theorem dX11_face_140 : decode cX11_face 140 = .ok (.iload_n 2, 1) := by decide +kernel
theorem dX11_face_141 : decode cX11_face 141 = .ok (.ifCond .ne 8, 3) := by decide +kernel
theorem dX11_face_144 : decode cX11_face 144 = .ok (.iload 4, 2) := by decide +kernel
theorem dX11_face_146 : decode cX11_face 146 = .ok (.goto 4, 3) := by decide +kernel
theorem dX11_face_149 : decode cX11_face 149 = .ok (.iload_n 3, 1) := by decide +kernel
theorem dX11_face_150 : decode cX11_face 150 = .ok (.ireturn, 1) := by decide +kernel
theorem dX11_level_0 : decode cX11_level 0 = .ok (.aload_n 0, 1) := by decide +kernel
theorem dX11_level_1 : decode cX11_level 1 = .ok (.iconst 0, 1) := by decide +kernel
theorem dX11_level_2 : decode cX11_level 2 = .ok (.putfield 3, 3) := by decide +kernel
theorem dX11_level_5 : decode cX11_level 5 = .ok (.aload_n 0, 1) := by decide +kernel
theorem dX11_level_6 : decode cX11_level 6 = .ok (.invokevirtual 345, 3) := by decide +kernel
theorem dX11_level_9 : decode cX11_level 9 = .ok (.iconst 0, 1) := by decide +kernel
theorem dX11_level_10 : decode cX11_level 10 = .ok (.istore_n 1, 1) := by decide +kernel
theorem dX11_level_11 : decode cX11_level 11 = .ok (.iconst (-1), 1) := by decide +kernel
theorem dX11_level_12 : decode cX11_level 12 = .ok (.istore_n 2, 1) := by decide +kernel
theorem dX11_level_13 : decode cX11_level 13 = .ok (.iconst 0, 1) := by decide +kernel
theorem dX11_level_14 : decode cX11_level 14 = .ok (.istore_n 3, 1) := by decide +kernel
theorem dX11_level_15 : decode cX11_level 15 = .ok (.iload_n 3, 1) := by decide +kernel
theorem dX11_level_16 : decode cX11_level 16 = .ok (.aload_n 0, 1) := by decide +kernel
theorem dX11_level_17 : decode cX11_level 17 = .ok (.getfield 187, 3) := by decide +kernel
theorem dX11_level_20 : decode cX11_level 20 = .ok (.if_icmp .ge 60, 3) := by decide +kernel
theorem dX11_level_23 : decode cX11_level 23 = .ok (.iconst 0, 1) := by decide +kernel
theorem dX11_level_24 : decode cX11_level 24 = .ok (.istore 4, 2) := by decide +kernel
theorem dX11_level_26 : decode cX11_level 26 = .ok (.iconst 0, 1) := by decide +kernel
theorem dX11_level_27 : decode cX11_level 27 = .ok (.istore 5, 2) := by decide +kernel
theorem dX11_level_29 : decode cX11_level 29 = .ok (.iload 5, 2) := by decide +kernel
theorem dX11_level_31 : decode cX11_level 31 = .ok (.aload_n 0, 1) := by decide +kernel
theorem dX11_level_32 : decode cX11_level 32 = .ok (.getfield 184, 3) := by decide +kernel
theorem dX11_level_35 : decode cX11_level 35 = .ok (.if_icmp .ge 25, 3) := by decide +kernel
theorem dX11_level_38 : decode cX11_level 38 = .ok (.iload 4, 2) := by decide +kernel
theorem dX11_level_40 : decode cX11_level 40 = .ok (.aload_n 0, 1) := by decide +kernel
theorem dX11_level_41 : decode cX11_level 41 = .ok (.bipush 8, 2) := by decide +kernel
theorem dX11_level_43 : decode cX11_level 43 = .ok (.iload_n 3, 1) := by decide +kernel
theorem dX11_level_44 : decode cX11_level 44 = .ok (.imul, 1) := by decide +kernel
theorem dX11_level_45 : decode cX11_level 45 = .ok (.iload 5, 2) := by decide +kernel
theorem dX11_level_47 : decode cX11_level 47 = .ok (.iadd, 1) := by decide +kernel
theorem dX11_level_48 : decode cX11_level 48 = .ok (.invokevirtual 437, 3) := by decide +kernel
theorem dX11_level_51 : decode cX11_level 51 = .ok (.iadd, 1) := by decide +kernel
theorem dX11_level_52 : decode cX11_level 52 = .ok (.istore 4, 2) := by decide +kernel
theorem dX11_level_54 : decode cX11_level 54 = .ok (.iinc 5 1, 3) := by decide +kernel
theorem dX11_level_57 : decode cX11_level 57 = .ok (.goto (-28), 3) := by decide +kernel
theorem dX11_level_60 : decode cX11_level 60 = .ok (.iload 4, 2) := by decide +kernel
theorem dX11_level_62 : decode cX11_level 62 = .ok (.iload_n 2, 1) := by decide +kernel
theorem dX11_level_63 : decode cX11_level 63 = .ok (.if_icmp .gt 6, 3) := by decide +kernel
theorem dX11_level_66 : decode cX11_level 66 = .ok (.goto 8, 3) := by decide +kernel
theorem dX11_level_69 : decode cX11_level 69 = .ok (.iload_n 3, 1) := by decide +kernel
theorem dX11_level_70 : decode cX11_level 70 = .ok (.istore_n 1, 1) := by decide +kernel
theorem dX11_level_71 : decode cX11_level 71 = .ok (.iload 4, 2) := by decide +kernel
theorem dX11_level_73 : decode cX11_level 73 = .ok (.istore_n 2, 1) := by decide +kernel
theorem dX11_level_74 : decode cX11_level 74 = .ok (.iinc 3 1, 3) := by decide +kernel
theorem dX11_level_77 : decode cX11_level 77 = .ok (.goto (-62), 3) := by decide +kernel
theorem dX11_level_80 : decode cX11_level 80 = .ok (.iload_n 1, 1) := by decide +kernel
theorem dX11_level_81 : decode cX11_level 81 = .ok (.ireturn, 1) := by decide +kernel
theorem dX11_pickNow_0 : decode cX11_pickNow 0 = .ok (.iconst (-1), 1) := by decide +kernel
theorem dX11_pickNow_1 : decode cX11_pickNow 1 = .ok (.istore_n 1, 1) := by decide +kernel
theorem dX11_pickNow_2 : decode cX11_pickNow 2 = .ok (.iconst 0, 1) := by decide +kernel
theorem dX11_pickNow_3 : decode cX11_pickNow 3 = .ok (.istore_n 2, 1) := by decide +kernel
theorem dX11_pickNow_4 : decode cX11_pickNow 4 = .ok (.iload_n 2, 1) := by decide +kernel
theorem dX11_pickNow_5 : decode cX11_pickNow 5 = .ok (.bipush 48, 2) := by decide +kernel
theorem dX11_pickNow_7 : decode cX11_pickNow 7 = .ok (.if_icmp .ge 65, 3) := by decide +kernel
theorem dX11_pickNow_10 : decode cX11_pickNow 10 = .ok (.aload_n 0, 1) := by decide +kernel
theorem dX11_pickNow_11 : decode cX11_pickNow 11 = .ok (.iload_n 2, 1) := by decide +kernel
theorem dX11_pickNow_12 : decode cX11_pickNow 12 = .ok (.bipush 8, 2) := by decide +kernel
theorem dX11_pickNow_14 : decode cX11_pickNow 14 = .ok (.irem, 1) := by decide +kernel
theorem dX11_pickNow_15 : decode cX11_pickNow 15 = .ok (.iload_n 2, 1) := by decide +kernel
theorem dX11_pickNow_16 : decode cX11_pickNow 16 = .ok (.bipush 8, 2) := by decide +kernel
theorem dX11_pickNow_18 : decode cX11_pickNow 18 = .ok (.idiv, 1) := by decide +kernel
theorem dX11_pickNow_19 : decode cX11_pickNow 19 = .ok (.invokevirtual 363, 3) := by decide +kernel
theorem dX11_pickNow_22 : decode cX11_pickNow 22 = .ok (.ifCond .eq 44, 3) := by decide +kernel
theorem dX11_pickNow_25 : decode cX11_pickNow 25 = .ok (.aload_n 0, 1) := by decide +kernel
theorem dX11_pickNow_26 : decode cX11_pickNow 26 = .ok (.getfield 35, 3) := by decide +kernel
theorem dX11_pickNow_29 : decode cX11_pickNow 29 = .ok (.iload_n 2, 1) := by decide +kernel
theorem dX11_pickNow_30 : decode cX11_pickNow 30 = .ok (.iaload, 1) := by decide +kernel
theorem dX11_pickNow_31 : decode cX11_pickNow 31 = .ok (.iconst 5, 1) := by decide +kernel
theorem dX11_pickNow_32 : decode cX11_pickNow 32 = .ok (.if_icmp .eq 34, 3) := by decide +kernel
theorem dX11_pickNow_35 : decode cX11_pickNow 35 = .ok (.aload_n 0, 1) := by decide +kernel
theorem dX11_pickNow_36 : decode cX11_pickNow 36 = .ok (.iload_n 2, 1) := by decide +kernel
theorem dX11_pickNow_37 : decode cX11_pickNow 37 = .ok (.invokevirtual 409, 3) := by decide +kernel
theorem dX11_pickNow_40 : decode cX11_pickNow 40 = .ok (.ifCond .eq 6, 3) := by decide +kernel
theorem dX11_pickNow_43 : decode cX11_pickNow 43 = .ok (.goto 23, 3) := by decide +kernel
theorem dX11_pickNow_46 : decode cX11_pickNow 46 = .ok (.iload_n 1, 1) := by decide +kernel
theorem dX11_pickNow_47 : decode cX11_pickNow 47 = .ok (.iconst (-1), 1) := by decide +kernel
theorem dX11_pickNow_48 : decode cX11_pickNow 48 = .ok (.if_icmp .eq 16, 3) := by decide +kernel
theorem dX11_pickNow_51 : decode cX11_pickNow 51 = .ok (.aload_n 0, 1) := by decide +kernel
theorem dX11_pickNow_52 : decode cX11_pickNow 52 = .ok (.iload_n 2, 1) := by decide +kernel
theorem dX11_pickNow_53 : decode cX11_pickNow 53 = .ok (.invokevirtual 437, 3) := by decide +kernel
theorem dX11_pickNow_56 : decode cX11_pickNow 56 = .ok (.aload_n 0, 1) := by decide +kernel
theorem dX11_pickNow_57 : decode cX11_pickNow 57 = .ok (.iload_n 1, 1) := by decide +kernel
theorem dX11_pickNow_58 : decode cX11_pickNow 58 = .ok (.invokevirtual 437, 3) := by decide +kernel
theorem dX11_pickNow_61 : decode cX11_pickNow 61 = .ok (.if_icmp .le 5, 3) := by decide +kernel
theorem dX11_pickNow_64 : decode cX11_pickNow 64 = .ok (.iload_n 2, 1) := by decide +kernel
theorem dX11_pickNow_65 : decode cX11_pickNow 65 = .ok (.istore_n 1, 1) := by decide +kernel
theorem dX11_pickNow_66 : decode cX11_pickNow 66 = .ok (.iinc 2 1, 3) := by decide +kernel
theorem dX11_pickNow_69 : decode cX11_pickNow 69 = .ok (.goto (-65), 3) := by decide +kernel
theorem dX11_pickNow_72 : decode cX11_pickNow 72 = .ok (.iload_n 1, 1) := by decide +kernel
theorem dX11_pickNow_73 : decode cX11_pickNow 73 = .ok (.ireturn, 1) := by decide +kernel
theorem dX11_pick_0 : decode cX11_pick 0 = .ok (.aload_n 0, 1) := by decide +kernel
theorem dX11_pick_1 : decode cX11_pick 1 = .ok (.iconst 0, 1) := by decide +kernel
theorem dX11_pick_2 : decode cX11_pick 2 = .ok (.putfield 3, 3) := by decide +kernel
theorem dX11_pick_5 : decode cX11_pick 5 = .ok (.aload_n 0, 1) := by decide +kernel
theorem dX11_pick_6 : decode cX11_pick 6 = .ok (.invokevirtual 345, 3) := by decide +kernel
theorem dX11_pick_9 : decode cX11_pick 9 = .ok (.aload_n 0, 1) := by decide +kernel
theorem dX11_pick_10 : decode cX11_pick 10 = .ok (.invokevirtual 474, 3) := by decide +kernel
theorem dX11_pick_13 : decode cX11_pick 13 = .ok (.ireturn, 1) := by decide +kernel
theorem dX11_draws_0 : decode cX11_draws 0 = .ok (.aload_n 0, 1) := by decide +kernel
theorem dX11_draws_1 : decode cX11_draws 1 = .ok (.aload_n 0, 1) := by decide +kernel
theorem dX11_draws_2 : decode cX11_draws 2 = .ok (.getfield 477, 3) := by decide +kernel
theorem dX11_draws_5 : decode cX11_draws 5 = .ok (.ldc_w 480, 3) := by decide +kernel
theorem dX11_draws_8 : decode cX11_draws 8 = .ok (.imul, 1) := by decide +kernel
theorem dX11_draws_9 : decode cX11_draws 9 = .ok (.sipush 12345, 3) := by decide +kernel
theorem dX11_draws_12 : decode cX11_draws 12 = .ok (.iadd, 1) := by decide +kernel
theorem dX11_draws_13 : decode cX11_draws 13 = .ok (.putfield 477, 3) := by decide +kernel
theorem dX11_draws_16 : decode cX11_draws 16 = .ok (.aload_n 0, 1) := by decide +kernel
theorem dX11_draws_17 : decode cX11_draws 17 = .ok (.getfield 477, 3) := by decide +kernel
theorem dX11_draws_20 : decode cX11_draws 20 = .ok (.bipush 16, 2) := by decide +kernel
theorem dX11_draws_22 : decode cX11_draws 22 = .ok (.ishr, 1) := by decide +kernel
theorem dX11_draws_23 : decode cX11_draws 23 = .ok (.sipush 32767, 3) := by decide +kernel
theorem dX11_draws_26 : decode cX11_draws 26 = .ok (.iand, 1) := by decide +kernel
theorem dX11_draws_27 : decode cX11_draws 27 = .ok (.bipush 16, 2) := by decide +kernel
theorem dX11_draws_29 : decode cX11_draws 29 = .ok (.irem, 1) := by decide +kernel
theorem dX11_draws_30 : decode cX11_draws 30 = .ok (.ireturn, 1) := by decide +kernel
theorem dX11_goesOn_0 : decode cX11_goesOn 0 = .ok (.aload_n 0, 1) := by decide +kernel
theorem dX11_goesOn_1 : decode cX11_goesOn 1 = .ok (.invokevirtual 345, 3) := by decide +kernel
theorem dX11_goesOn_4 : decode cX11_goesOn 4 = .ok (.aload_n 0, 1) := by decide +kernel
theorem dX11_goesOn_5 : decode cX11_goesOn 5 = .ok (.iload_n 1, 1) := by decide +kernel
theorem dX11_goesOn_6 : decode cX11_goesOn 6 = .ok (.putfield 477, 3) := by decide +kernel
theorem dX11_goesOn_9 : decode cX11_goesOn 9 = .ok (.aload_n 0, 1) := by decide +kernel
theorem dX11_goesOn_10 : decode cX11_goesOn 10 = .ok (.iconst 0, 1) := by decide +kernel
theorem dX11_goesOn_11 : decode cX11_goesOn 11 = .ok (.putfield 481, 3) := by decide +kernel
theorem dX11_goesOn_14 : decode cX11_goesOn 14 = .ok (.iconst 0, 1) := by decide +kernel
theorem dX11_goesOn_15 : decode cX11_goesOn 15 = .ok (.istore 4, 2) := by decide +kernel
theorem dX11_goesOn_17 : decode cX11_goesOn 17 = .ok (.iload 4, 2) := by decide +kernel
theorem dX11_goesOn_19 : decode cX11_goesOn 19 = .ok (.iload_n 3, 1) := by decide +kernel
theorem dX11_goesOn_20 : decode cX11_goesOn 20 = .ok (.if_icmp .ge 97, 3) := by decide +kernel
theorem dX11_goesOn_23 : decode cX11_goesOn 23 = .ok (.aload_n 0, 1) := by decide +kernel
theorem dX11_goesOn_24 : decode cX11_goesOn 24 = .ok (.invokevirtual 484, 3) := by decide +kernel
theorem dX11_goesOn_27 : decode cX11_goesOn 27 = .ok (.iload_n 2, 1) := by decide +kernel
theorem dX11_goesOn_28 : decode cX11_goesOn 28 = .ok (.if_icmp .ge 7, 3) := by decide +kernel
theorem dX11_goesOn_31 : decode cX11_goesOn 31 = .ok (.iconst 1, 1) := by decide +kernel
theorem dX11_goesOn_32 : decode cX11_goesOn 32 = .ok (.goto 4, 3) := by decide +kernel
theorem dX11_goesOn_35 : decode cX11_goesOn 35 = .ok (.iconst 0, 1) := by decide +kernel
theorem dX11_goesOn_36 : decode cX11_goesOn 36 = .ok (.istore 5, 2) := by decide +kernel
theorem dX11_goesOn_38 : decode cX11_goesOn 38 = .ok (.aload_n 0, 1) := by decide +kernel
theorem dX11_goesOn_39 : decode cX11_goesOn 39 = .ok (.dup, 1) := by decide +kernel
theorem dX11_goesOn_40 : decode cX11_goesOn 40 = .ok (.getfield 481, 3) := by decide +kernel
theorem dX11_goesOn_43 : decode cX11_goesOn 43 = .ok (.iload 5, 2) := by decide +kernel
theorem dX11_goesOn_45 : decode cX11_goesOn 45 = .ok (.ifCond .eq 7, 3) := by decide +kernel
theorem dX11_goesOn_48 : decode cX11_goesOn 48 = .ok (.iconst 1, 1) := by decide +kernel
theorem dX11_goesOn_49 : decode cX11_goesOn 49 = .ok (.goto 4, 3) := by decide +kernel
theorem dX11_goesOn_52 : decode cX11_goesOn 52 = .ok (.iconst 0, 1) := by decide +kernel
theorem dX11_goesOn_53 : decode cX11_goesOn 53 = .ok (.iadd, 1) := by decide +kernel
theorem dX11_goesOn_54 : decode cX11_goesOn 54 = .ok (.putfield 481, 3) := by decide +kernel
theorem dX11_goesOn_57 : decode cX11_goesOn 57 = .ok (.iload 5, 2) := by decide +kernel
theorem dX11_goesOn_59 : decode cX11_goesOn 59 = .ok (.ifCond .ne 47, 3) := by decide +kernel
theorem dX11_goesOn_62 : decode cX11_goesOn 62 = .ok (.aload_n 0, 1) := by decide +kernel
theorem dX11_goesOn_63 : decode cX11_goesOn 63 = .ok (.getfield 77, 3) := by decide +kernel
theorem dX11_goesOn_66 : decode cX11_goesOn 66 = .ok (.bipush 70, 2) := by decide +kernel
theorem dX11_goesOn_68 : decode cX11_goesOn 68 = .ok (.iaload, 1) := by decide +kernel
theorem dX11_goesOn_69 : decode cX11_goesOn 69 = .ok (.aload_n 0, 1) := by decide +kernel
theorem dX11_goesOn_70 : decode cX11_goesOn 70 = .ok (.getfield 193, 3) := by decide +kernel
theorem dX11_goesOn_73 : decode cX11_goesOn 73 = .ok (.if_icmp .ge 33, 3) := by decide +kernel
theorem dX11_goesOn_76 : decode cX11_goesOn 76 = .ok (.aload_n 0, 1) := by decide +kernel
theorem dX11_goesOn_77 : decode cX11_goesOn 77 = .ok (.invokevirtual 474, 3) := by decide +kernel
theorem dX11_goesOn_80 : decode cX11_goesOn 80 = .ok (.iconst (-1), 1) := by decide +kernel
theorem dX11_goesOn_81 : decode cX11_goesOn 81 = .ok (.if_icmp .eq 25, 3) := by decide +kernel
theorem dX11_goesOn_84 : decode cX11_goesOn 84 = .ok (.aload_n 0, 1) := by decide +kernel
theorem dX11_goesOn_85 : decode cX11_goesOn 85 = .ok (.getfield 77, 3) := by decide +kernel
theorem dX11_goesOn_88 : decode cX11_goesOn 88 = .ok (.bipush 70, 2) := by decide +kernel
theorem dX11_goesOn_90 : decode cX11_goesOn 90 = .ok (.dup2, 1) := by decide +kernel
theorem dX11_goesOn_91 : decode cX11_goesOn 91 = .ok (.iaload, 1) := by decide +kernel
theorem dX11_goesOn_92 : decode cX11_goesOn 92 = .ok (.iconst 1, 1) := by decide +kernel
theorem dX11_goesOn_93 : decode cX11_goesOn 93 = .ok (.iadd, 1) := by decide +kernel
theorem dX11_goesOn_94 : decode cX11_goesOn 94 = .ok (.iastore, 1) := by decide +kernel
theorem dX11_goesOn_95 : decode cX11_goesOn 95 = .ok (.aload_n 0, 1) := by decide +kernel
theorem dX11_goesOn_96 : decode cX11_goesOn 96 = .ok (.aload_n 0, 1) := by decide +kernel
theorem dX11_goesOn_97 : decode cX11_goesOn 97 = .ok (.invokevirtual 474, 3) := by decide +kernel
theorem dX11_goesOn_100 : decode cX11_goesOn 100 = .ok (.invokevirtual 412, 3) := by decide +kernel
theorem dX11_goesOn_103 : decode cX11_goesOn 103 = .ok (.goto (-46), 3) := by decide +kernel
theorem dX11_goesOn_106 : decode cX11_goesOn 106 = .ok (.aload_n 0, 1) := by decide +kernel
theorem dX11_goesOn_107 : decode cX11_goesOn 107 = .ok (.invokevirtual 406, 3) := by decide +kernel
theorem dX11_goesOn_110 : decode cX11_goesOn 110 = .ok (.pop, 1) := by decide +kernel
theorem dX11_goesOn_111 : decode cX11_goesOn 111 = .ok (.iinc 4 1, 3) := by decide +kernel
theorem dX11_goesOn_114 : decode cX11_goesOn 114 = .ok (.goto (-97), 3) := by decide +kernel
theorem dX11_goesOn_117 : decode cX11_goesOn 117 = .ok (.return_, 1) := by decide +kernel
theorem dX11_isDecade_0 : decode cX11_isDecade 0 = .ok (.iload_n 0, 1) := by decide +kernel
theorem dX11_isDecade_1 : decode cX11_isDecade 1 = .ok (.ifCond .lt 24, 3) := by decide +kernel
theorem dX11_isDecade_4 : decode cX11_isDecade 4 = .ok (.iload_n 0, 1) := by decide +kernel
theorem dX11_isDecade_5 : decode cX11_isDecade 5 = .ok (.bipush 16, 2) := by decide +kernel
theorem dX11_isDecade_7 : decode cX11_isDecade 7 = .ok (.if_icmp .gt 18, 3) := by decide +kernel
theorem dX11_isDecade_10 : decode cX11_isDecade 10 = .ok (.iload_n 1, 1) := by decide +kernel
theorem dX11_isDecade_11 : decode cX11_isDecade 11 = .ok (.iconst 1, 1) := by decide +kernel
theorem dX11_isDecade_12 : decode cX11_isDecade 12 = .ok (.if_icmp .lt 13, 3) := by decide +kernel
theorem dX11_isDecade_15 : decode cX11_isDecade 15 = .ok (.iload_n 1, 1) := by decide +kernel
theorem dX11_isDecade_16 : decode cX11_isDecade 16 = .ok (.bipush 40, 2) := by decide +kernel
theorem dX11_isDecade_18 : decode cX11_isDecade 18 = .ok (.if_icmp .gt 7, 3) := by decide +kernel
theorem dX11_isDecade_21 : decode cX11_isDecade 21 = .ok (.iconst 1, 1) := by decide +kernel
theorem dX11_isDecade_22 : decode cX11_isDecade 22 = .ok (.goto 4, 3) := by decide +kernel
theorem dX11_isDecade_25 : decode cX11_isDecade 25 = .ok (.iconst 0, 1) := by decide +kernel
theorem dX11_isDecade_26 : decode cX11_isDecade 26 = .ok (.ireturn, 1) := by decide +kernel
theorem dX11_decade_0 : decode cX11_decade 0 = .ok (.aload_n 0, 1) := by decide +kernel
theorem dX11_decade_1 : decode cX11_decade 1 = .ok (.iconst 0, 1) := by decide +kernel
theorem dX11_decade_2 : decode cX11_decade 2 = .ok (.putfield 3, 3) := by decide +kernel
theorem dX11_decade_5 : decode cX11_decade 5 = .ok (.aload_n 0, 1) := by decide +kernel
theorem dX11_decade_6 : decode cX11_decade 6 = .ok (.iload_n 2, 1) := by decide +kernel
theorem dX11_decade_7 : decode cX11_decade 7 = .ok (.iload_n 3, 1) := by decide +kernel
theorem dX11_decade_8 : decode cX11_decade 8 = .ok (.invokestatic 487, 3) := by decide +kernel
theorem dX11_decade_11 : decode cX11_decade 11 = .ok (.ifCond .eq 17, 3) := by decide +kernel
theorem dX11_decade_14 : decode cX11_decade 14 = .ok (.iload 4, 2) := by decide +kernel
theorem dX11_decade_16 : decode cX11_decade 16 = .ok (.iconst 0, 1) := by decide +kernel
theorem dX11_decade_17 : decode cX11_decade 17 = .ok (.iconst 3, 1) := by decide +kernel
theorem dX11_decade_18 : decode cX11_decade 18 = .ok (.invokestatic 317, 3) := by decide +kernel
theorem dX11_decade_21 : decode cX11_decade 21 = .ok (.ifCond .eq 7, 3) := by decide +kernel
theorem dX11_decade_24 : decode cX11_decade 24 = .ok (.iconst 1, 1) := by decide +kernel
theorem dX11_decade_25 : decode cX11_decade 25 = .ok (.goto 4, 3) := by decide +kernel
theorem dX11_decade_28 : decode cX11_decade 28 = .ok (.iconst 0, 1) := by decide +kernel
theorem dX11_decade_29 : decode cX11_decade 29 = .ok (.iconst 1, 1) := by decide +kernel
theorem dX11_decade_30 : decode cX11_decade 30 = .ok (.iconst 2, 1) := by decide +kernel
theorem dX11_decade_31 : decode cX11_decade 31 = .ok (.invokevirtual 252, 3) := by decide +kernel
theorem dX11_decade_34 : decode cX11_decade 34 = .ok (.ifCond .ne 5, 3) := by decide +kernel
theorem dX11_decade_37 : decode cX11_decade 37 = .ok (.iconst 0, 1) := by decide +kernel
theorem dX11_decade_38 : decode cX11_decade 38 = .ok (.ireturn, 1) := by decide +kernel
theorem dX11_decade_39 : decode cX11_decade 39 = .ok (.aload_n 0, 1) := by decide +kernel
theorem dX11_decade_40 : decode cX11_decade 40 = .ok (.iload_n 1, 1) := by decide +kernel
theorem dX11_decade_41 : decode cX11_decade 41 = .ok (.iload_n 2, 1) := by decide +kernel
theorem dX11_decade_42 : decode cX11_decade 42 = .ok (.iload_n 3, 1) := by decide +kernel
theorem dX11_decade_43 : decode cX11_decade 43 = .ok (.invokevirtual 490, 3) := by decide +kernel
theorem dX11_decade_46 : decode cX11_decade 46 = .ok (.iload 4, 2) := by decide +kernel
theorem dX11_decade_48 : decode cX11_decade 48 = .ok (.ifCond .ne 21, 3) := by decide +kernel
theorem dX11_decade_51 : decode cX11_decade 51 = .ok (.aload_n 0, 1) := by decide +kernel
theorem dX11_decade_52 : decode cX11_decade 52 = .ok (.getfield 77, 3) := by decide +kernel
theorem dX11_decade_55 : decode cX11_decade 55 = .ok (.bipush 75, 2) := by decide +kernel
theorem dX11_decade_57 : decode cX11_decade 57 = .ok (.iaload, 1) := by decide +kernel
theorem dX11_decade_58 : decode cX11_decade 58 = .ok (.aload_n 0, 1) := by decide +kernel
theorem dX11_decade_59 : decode cX11_decade 59 = .ok (.getfield 74, 3) := by decide +kernel
theorem dX11_decade_62 : decode cX11_decade 62 = .ok (.bipush 75, 2) := by decide +kernel
theorem dX11_decade_64 : decode cX11_decade 64 = .ok (.iaload, 1) := by decide +kernel
theorem dX11_decade_65 : decode cX11_decade 65 = .ok (.isub, 1) := by decide +kernel
theorem dX11_decade_66 : decode cX11_decade 66 = .ok (.goto 55, 3) := by decide +kernel
theorem dX11_decade_69 : decode cX11_decade 69 = .ok (.iload 4, 2) := by decide +kernel
theorem dX11_decade_71 : decode cX11_decade 71 = .ok (.iconst 1, 1) := by decide +kernel
theorem dX11_decade_72 : decode cX11_decade 72 = .ok (.if_icmp .ne 21, 3) := by decide +kernel
theorem dX11_decade_75 : decode cX11_decade 75 = .ok (.aload_n 0, 1) := by decide +kernel
theorem dX11_decade_76 : decode cX11_decade 76 = .ok (.getfield 77, 3) := by decide +kernel
theorem dX11_decade_79 : decode cX11_decade 79 = .ok (.bipush 76, 2) := by decide +kernel
theorem dX11_decade_81 : decode cX11_decade 81 = .ok (.iaload, 1) := by decide +kernel
theorem dX11_decade_82 : decode cX11_decade 82 = .ok (.aload_n 0, 1) := by decide +kernel
theorem dX11_decade_83 : decode cX11_decade 83 = .ok (.getfield 74, 3) := by decide +kernel
theorem dX11_decade_86 : decode cX11_decade 86 = .ok (.bipush 76, 2) := by decide +kernel
theorem dX11_decade_88 : decode cX11_decade 88 = .ok (.iaload, 1) := by decide +kernel
theorem dX11_decade_89 : decode cX11_decade 89 = .ok (.isub, 1) := by decide +kernel
theorem dX11_decade_90 : decode cX11_decade 90 = .ok (.goto 31, 3) := by decide +kernel
theorem dX11_decade_93 : decode cX11_decade 93 = .ok (.iload 4, 2) := by decide +kernel
theorem dX11_decade_95 : decode cX11_decade 95 = .ok (.iconst 2, 1) := by decide +kernel
theorem dX11_decade_96 : decode cX11_decade 96 = .ok (.if_icmp .ne 10, 3) := by decide +kernel
theorem dX11_decade_99 : decode cX11_decade 99 = .ok (.aload_n 0, 1) := by decide +kernel
theorem dX11_decade_100 : decode cX11_decade 100 = .ok (.getfield 481, 3) := by decide +kernel
theorem dX11_decade_103 : decode cX11_decade 103 = .ok (.goto 18, 3) := by decide +kernel
theorem dX11_decade_106 : decode cX11_decade 106 = .ok (.aload_n 0, 1) := by decide +kernel
theorem dX11_decade_107 : decode cX11_decade 107 = .ok (.getfield 77, 3) := by decide +kernel
theorem dX11_decade_110 : decode cX11_decade 110 = .ok (.bipush 73, 2) := by decide +kernel
theorem dX11_decade_112 : decode cX11_decade 112 = .ok (.iaload, 1) := by decide +kernel
theorem dX11_decade_113 : decode cX11_decade 113 = .ok (.aload_n 0, 1) := by decide +kernel
theorem dX11_decade_114 : decode cX11_decade 114 = .ok (.getfield 74, 3) := by decide +kernel
theorem dX11_decade_117 : decode cX11_decade 117 = .ok (.bipush 73, 2) := by decide +kernel
theorem dX11_decade_119 : decode cX11_decade 119 = .ok (.iaload, 1) := by decide +kernel
theorem dX11_decade_120 : decode cX11_decade 120 = .ok (.isub, 1) := by decide +kernel
theorem dX11_decade_121 : decode cX11_decade 121 = .ok (.ireturn, 1) := by decide +kernel
theorem dX11_span_0 : decode cX11_span 0 = .ok (.aload_n 0, 1) := by decide +kernel
theorem dX11_span_1 : decode cX11_span 1 = .ok (.iconst 0, 1) := by decide +kernel
theorem dX11_span_2 : decode cX11_span 2 = .ok (.putfield 3, 3) := by decide +kernel
theorem dX11_span_5 : decode cX11_span 5 = .ok (.aload_n 0, 1) := by decide +kernel
theorem dX11_span_6 : decode cX11_span 6 = .ok (.iload_n 2, 1) := by decide +kernel
theorem dX11_span_7 : decode cX11_span 7 = .ok (.iconst 1, 1) := by decide +kernel
theorem dX11_span_8 : decode cX11_span 8 = .ok (.bipush 20, 2) := by decide +kernel
theorem dX11_span_10 : decode cX11_span 10 = .ok (.invokestatic 317, 3) := by decide +kernel
theorem dX11_span_13 : decode cX11_span 13 = .ok (.ifCond .eq 26, 3) := by decide +kernel
theorem dX11_span_16 : decode cX11_span 16 = .ok (.iload_n 3, 1) := by decide +kernel
theorem dX11_span_17 : decode cX11_span 17 = .ok (.iload 4, 2) := by decide +kernel
theorem dX11_span_19 : decode cX11_span 19 = .ok (.invokestatic 487, 3) := by decide +kernel
theorem dX11_span_22 : decode cX11_span 22 = .ok (.ifCond .eq 17, 3) := by decide +kernel
theorem dX11_span_25 : decode cX11_span 25 = .ok (.iload 5, 2) := by decide +kernel
theorem dX11_span_27 : decode cX11_span 27 = .ok (.iconst 0, 1) := by decide +kernel
theorem dX11_span_28 : decode cX11_span 28 = .ok (.iconst 2, 1) := by decide +kernel
theorem dX11_span_29 : decode cX11_span 29 = .ok (.invokestatic 317, 3) := by decide +kernel
theorem dX11_span_32 : decode cX11_span 32 = .ok (.ifCond .eq 7, 3) := by decide +kernel
theorem dX11_span_35 : decode cX11_span 35 = .ok (.iconst 1, 1) := by decide +kernel
theorem dX11_span_36 : decode cX11_span 36 = .ok (.goto 4, 3) := by decide +kernel
theorem dX11_span_39 : decode cX11_span 39 = .ok (.iconst 0, 1) := by decide +kernel
theorem dX11_span_40 : decode cX11_span 40 = .ok (.iconst 1, 1) := by decide +kernel
theorem dX11_span_41 : decode cX11_span 41 = .ok (.iconst 2, 1) := by decide +kernel
theorem dX11_span_42 : decode cX11_span 42 = .ok (.invokevirtual 252, 3) := by decide +kernel
theorem dX11_span_45 : decode cX11_span 45 = .ok (.ifCond .ne 5, 3) := by decide +kernel
theorem dX11_span_48 : decode cX11_span 48 = .ok (.iconst 0, 1) := by decide +kernel
theorem dX11_span_49 : decode cX11_span 49 = .ok (.ireturn, 1) := by decide +kernel
theorem dX11_span_50 : decode cX11_span 50 = .ok (.iconst (-1), 1) := by decide +kernel
theorem dX11_span_51 : decode cX11_span 51 = .ok (.istore 6, 2) := by decide +kernel
theorem dX11_span_53 : decode cX11_span 53 = .ok (.iconst 0, 1) := by decide +kernel
theorem dX11_span_54 : decode cX11_span 54 = .ok (.istore 7, 2) := by decide +kernel
theorem dX11_span_56 : decode cX11_span 56 = .ok (.iconst 0, 1) := by decide +kernel
theorem dX11_span_57 : decode cX11_span 57 = .ok (.istore 8, 2) := by decide +kernel
theorem dX11_span_59 : decode cX11_span 59 = .ok (.iconst 0, 1) := by decide +kernel
theorem dX11_span_60 : decode cX11_span 60 = .ok (.istore 9, 2) := by decide +kernel
theorem dX11_span_62 : decode cX11_span 62 = .ok (.iload 9, 2) := by decide +kernel
theorem dX11_span_64 : decode cX11_span 64 = .ok (.iload_n 2, 1) := by decide +kernel
theorem dX11_span_65 : decode cX11_span 65 = .ok (.if_icmp .ge 102, 3) := by decide +kernel
theorem dX11_span_68 : decode cX11_span 68 = .ok (.aload_n 0, 1) := by decide +kernel
theorem dX11_span_69 : decode cX11_span 69 = .ok (.iload_n 1, 1) := by decide +kernel
theorem dX11_span_70 : decode cX11_span 70 = .ok (.iload 9, 2) := by decide +kernel
theorem dX11_span_72 : decode cX11_span 72 = .ok (.iadd, 1) := by decide +kernel
theorem dX11_span_73 : decode cX11_span 73 = .ok (.iload_n 3, 1) := by decide +kernel
theorem dX11_span_74 : decode cX11_span 74 = .ok (.iload 4, 2) := by decide +kernel
theorem dX11_span_76 : decode cX11_span 76 = .ok (.invokevirtual 490, 3) := by decide +kernel
theorem dX11_span_79 : decode cX11_span 79 = .ok (.aload_n 0, 1) := by decide +kernel
theorem dX11_span_80 : decode cX11_span 80 = .ok (.getfield 77, 3) := by decide +kernel
theorem dX11_span_83 : decode cX11_span 83 = .ok (.bipush 75, 2) := by decide +kernel
theorem dX11_span_85 : decode cX11_span 85 = .ok (.iaload, 1) := by decide +kernel
theorem dX11_span_86 : decode cX11_span 86 = .ok (.aload_n 0, 1) := by decide +kernel
theorem dX11_span_87 : decode cX11_span 87 = .ok (.getfield 74, 3) := by decide +kernel
theorem dX11_span_90 : decode cX11_span 90 = .ok (.bipush 75, 2) := by decide +kernel
theorem dX11_span_92 : decode cX11_span 92 = .ok (.iaload, 1) := by decide +kernel
theorem dX11_span_93 : decode cX11_span 93 = .ok (.isub, 1) := by decide +kernel
theorem dX11_span_94 : decode cX11_span 94 = .ok (.istore 10, 2) := by decide +kernel
theorem dX11_span_96 : decode cX11_span 96 = .ok (.iload 6, 2) := by decide +kernel
theorem dX11_span_98 : decode cX11_span 98 = .ok (.iconst (-1), 1) := by decide +kernel
theorem dX11_span_99 : decode cX11_span 99 = .ok (.if_icmp .eq 10, 3) := by decide +kernel
theorem dX11_span_102 : decode cX11_span 102 = .ok (.iload 10, 2) := by decide +kernel
theorem dX11_span_104 : decode cX11_span 104 = .ok (.iload 6, 2) := by decide +kernel
theorem dX11_span_106 : decode cX11_span 106 = .ok (.if_icmp .ge 8, 3) := by decide +kernel
theorem dX11_span_109 : decode cX11_span 109 = .ok (.iload 10, 2) := by decide +kernel
theorem dX11_span_111 : decode cX11_span 111 = .ok (.goto 5, 3) := by decide +kernel
theorem dX11_span_114 : decode cX11_span 114 = .ok (.iload 6, 2) := by decide +kernel
theorem dX11_span_116 : decode cX11_span 116 = .ok (.istore 6, 2) := by decide +kernel
theorem dX11_span_118 : decode cX11_span 118 = .ok (.iload 10, 2) := by decide +kernel
theorem dX11_span_120 : decode cX11_span 120 = .ok (.iload 7, 2) := by decide +kernel
theorem dX11_span_122 : decode cX11_span 122 = .ok (.if_icmp .le 8, 3) := by decide +kernel
theorem dX11_span_125 : decode cX11_span 125 = .ok (.iload 10, 2) := by decide +kernel
theorem dX11_span_127 : decode cX11_span 127 = .ok (.goto 5, 3) := by decide +kernel
theorem dX11_span_130 : decode cX11_span 130 = .ok (.iload 7, 2) := by decide +kernel
theorem dX11_span_132 : decode cX11_span 132 = .ok (.istore 7, 2) := by decide +kernel
theorem dX11_span_134 : decode cX11_span 134 = .ok (.iload 8, 2) := by decide +kernel
theorem dX11_span_136 : decode cX11_span 136 = .ok (.aload_n 0, 1) := by decide +kernel
theorem dX11_span_137 : decode cX11_span 137 = .ok (.getfield 77, 3) := by decide +kernel
theorem dX11_span_140 : decode cX11_span 140 = .ok (.bipush 76, 2) := by decide +kernel
theorem dX11_span_142 : decode cX11_span 142 = .ok (.iaload, 1) := by decide +kernel
theorem dX11_span_143 : decode cX11_span 143 = .ok (.aload_n 0, 1) := by decide +kernel
theorem dX11_span_144 : decode cX11_span 144 = .ok (.getfield 74, 3) := by decide +kernel
theorem dX11_span_147 : decode cX11_span 147 = .ok (.bipush 76, 2) := by decide +kernel
theorem dX11_span_149 : decode cX11_span 149 = .ok (.iaload, 1) := by decide +kernel
theorem dX11_span_150 : decode cX11_span 150 = .ok (.if_icmp .ne 7, 3) := by decide +kernel
theorem dX11_span_153 : decode cX11_span 153 = .ok (.iconst 1, 1) := by decide +kernel
theorem dX11_span_154 : decode cX11_span 154 = .ok (.goto 4, 3) := by decide +kernel
theorem dX11_span_157 : decode cX11_span 157 = .ok (.iconst 0, 1) := by decide +kernel
theorem dX11_span_158 : decode cX11_span 158 = .ok (.iadd, 1) := by decide +kernel
theorem dX11_span_159 : decode cX11_span 159 = .ok (.istore 8, 2) := by decide +kernel
theorem dX11_span_161 : decode cX11_span 161 = .ok (.iinc 9 1, 3) := by decide +kernel
theorem dX11_span_164 : decode cX11_span 164 = .ok (.goto (-102), 3) := by decide +kernel
theorem dX11_span_167 : decode cX11_span 167 = .ok (.iload 5, 2) := by decide +kernel
theorem dX11_span_169 : decode cX11_span 169 = .ok (.ifCond .ne 8, 3) := by decide +kernel
theorem dX11_span_172 : decode cX11_span 172 = .ok (.iload 6, 2) := by decide +kernel
theorem dX11_span_174 : decode cX11_span 174 = .ok (.goto 16, 3) := by decide +kernel
theorem dX11_span_177 : decode cX11_span 177 = .ok (.iload 5, 2) := by decide +kernel
theorem dX11_span_179 : decode cX11_span 179 = .ok (.iconst 1, 1) := by decide +kernel
theorem dX11_span_180 : decode cX11_span 180 = .ok (.if_icmp .ne 8, 3) := by decide +kernel
theorem dX11_span_183 : decode cX11_span 183 = .ok (.iload 7, 2) := by decide +kernel
theorem dX11_span_185 : decode cX11_span 185 = .ok (.goto 5, 3) := by decide +kernel
theorem dX11_span_188 : decode cX11_span 188 = .ok (.iload 8, 2) := by decide +kernel
theorem dX11_span_190 : decode cX11_span 190 = .ok (.ireturn, 1) := by decide +kernel
theorem dX11_sums_0 : decode cX11_sums 0 = .ok (.aload_n 0, 1) := by decide +kernel
theorem dX11_sums_1 : decode cX11_sums 1 = .ok (.iconst 0, 1) := by decide +kernel
theorem dX11_sums_2 : decode cX11_sums 2 = .ok (.putfield 3, 3) := by decide +kernel
theorem dX11_sums_5 : decode cX11_sums 5 = .ok (.aload_n 0, 1) := by decide +kernel
theorem dX11_sums_6 : decode cX11_sums 6 = .ok (.iload_n 1, 1) := by decide +kernel
theorem dX11_sums_7 : decode cX11_sums 7 = .ok (.iconst 0, 1) := by decide +kernel
theorem dX11_sums_8 : decode cX11_sums 8 = .ok (.iconst 3, 1) := by decide +kernel
theorem dX11_sums_9 : decode cX11_sums 9 = .ok (.invokestatic 317, 3) := by decide +kernel
theorem dX11_sums_12 : decode cX11_sums 12 = .ok (.iconst 1, 1) := by decide +kernel
theorem dX11_sums_13 : decode cX11_sums 13 = .ok (.iconst 2, 1) := by decide +kernel
theorem dX11_sums_14 : decode cX11_sums 14 = .ok (.invokevirtual 252, 3) := by decide +kernel
theorem dX11_sums_17 : decode cX11_sums 17 = .ok (.ifCond .ne 5, 3) := by decide +kernel
theorem dX11_sums_20 : decode cX11_sums 20 = .ok (.iconst 0, 1) := by decide +kernel
theorem dX11_sums_21 : decode cX11_sums 21 = .ok (.ireturn, 1) := by decide +kernel
theorem dX11_sums_22 : decode cX11_sums 22 = .ok (.iload_n 1, 1) := by decide +kernel
theorem dX11_sums_23 : decode cX11_sums 23 = .ok (.iconst 2, 1) := by decide +kernel
theorem dX11_sums_24 : decode cX11_sums 24 = .ok (.if_icmp .ge 20, 3) := by decide +kernel
theorem dX11_sums_27 : decode cX11_sums 27 = .ok (.aload_n 0, 1) := by decide +kernel
theorem dX11_sums_28 : decode cX11_sums 28 = .ok (.getfield 74, 3) := by decide +kernel
theorem dX11_sums_31 : decode cX11_sums 31 = .ok (.iload_n 1, 1) := by decide +kernel
theorem dX11_sums_32 : decode cX11_sums 32 = .ok (.ifCond .ne 8, 3) := by decide +kernel
theorem dX11_sums_35 : decode cX11_sums 35 = .ok (.bipush 75, 2) := by decide +kernel
theorem dX11_sums_37 : decode cX11_sums 37 = .ok (.goto 5, 3) := by decide +kernel
theorem dX11_sums_40 : decode cX11_sums 40 = .ok (.bipush 76, 2) := by decide +kernel
theorem dX11_sums_42 : decode cX11_sums 42 = .ok (.iaload, 1) := by decide +kernel
theorem dX11_sums_43 : decode cX11_sums 43 = .ok (.ireturn, 1) := by decide +kernel
theorem dX11_sums_44 : decode cX11_sums 44 = .ok (.aload_n 0, 1) := by decide +kernel
theorem dX11_sums_45 : decode cX11_sums 45 = .ok (.invokevirtual 345, 3) := by decide +kernel
theorem dX11_sums_48 : decode cX11_sums 48 = .ok (.iconst 0, 1) := by decide +kernel
theorem dX11_sums_49 : decode cX11_sums 49 = .ok (.istore_n 2, 1) := by decide +kernel
theorem dX11_sums_50 : decode cX11_sums 50 = .ok (.iconst 0, 1) := by decide +kernel
theorem dX11_sums_51 : decode cX11_sums 51 = .ok (.istore_n 3, 1) := by decide +kernel
theorem dX11_sums_52 : decode cX11_sums 52 = .ok (.iload_n 3, 1) := by decide +kernel
theorem dX11_sums_53 : decode cX11_sums 53 = .ok (.bipush 48, 2) := by decide +kernel
theorem dX11_sums_55 : decode cX11_sums 55 = .ok (.if_icmp .ge 77, 3) := by decide +kernel
theorem dX11_sums_58 : decode cX11_sums 58 = .ok (.aload_n 0, 1) := by decide +kernel
theorem dX11_sums_59 : decode cX11_sums 59 = .ok (.iload_n 3, 1) := by decide +kernel
theorem dX11_sums_60 : decode cX11_sums 60 = .ok (.bipush 8, 2) := by decide +kernel
theorem dX11_sums_62 : decode cX11_sums 62 = .ok (.irem, 1) := by decide +kernel
theorem dX11_sums_63 : decode cX11_sums 63 = .ok (.iload_n 3, 1) := by decide +kernel
theorem dX11_sums_64 : decode cX11_sums 64 = .ok (.bipush 8, 2) := by decide +kernel
theorem dX11_sums_66 : decode cX11_sums 66 = .ok (.idiv, 1) := by decide +kernel
theorem dX11_sums_67 : decode cX11_sums 67 = .ok (.invokevirtual 367, 3) := by decide +kernel
theorem dX11_sums_70 : decode cX11_sums 70 = .ok (.istore 4, 2) := by decide +kernel
theorem dX11_sums_72 : decode cX11_sums 72 = .ok (.iload_n 2, 1) := by decide +kernel
theorem dX11_sums_73 : decode cX11_sums 73 = .ok (.iload_n 1, 1) := by decide +kernel
theorem dX11_sums_74 : decode cX11_sums 74 = .ok (.iconst 2, 1) := by decide +kernel
theorem dX11_sums_75 : decode cX11_sums 75 = .ok (.if_icmp .ne 16, 3) := by decide +kernel
theorem dX11_sums_78 : decode cX11_sums 78 = .ok (.iload 4, 2) := by decide +kernel
theorem dX11_sums_80 : decode cX11_sums 80 = .ok (.ifCond .eq 7, 3) := by decide +kernel
theorem dX11_sums_83 : decode cX11_sums 83 = .ok (.iconst 1, 1) := by decide +kernel
theorem dX11_sums_84 : decode cX11_sums 84 = .ok (.goto 40, 3) := by decide +kernel
theorem dX11_sums_87 : decode cX11_sums 87 = .ok (.iconst 0, 1) := by decide +kernel
theorem dX11_sums_88 : decode cX11_sums 88 = .ok (.goto 36, 3) := by decide +kernel
theorem dX11_sums_91 : decode cX11_sums 91 = .ok (.iload 4, 2) := by decide +kernel
theorem dX11_sums_93 : decode cX11_sums 93 = .ok (.ifCond .ne 30, 3) := by decide +kernel
theorem dX11_sums_96 : decode cX11_sums 96 = .ok (.aload_n 0, 1) := by decide +kernel
theorem dX11_sums_97 : decode cX11_sums 97 = .ok (.iload_n 3, 1) := by decide +kernel
theorem dX11_sums_98 : decode cX11_sums 98 = .ok (.bipush 8, 2) := by decide +kernel
theorem dX11_sums_100 : decode cX11_sums 100 = .ok (.irem, 1) := by decide +kernel
theorem dX11_sums_101 : decode cX11_sums 101 = .ok (.iload_n 3, 1) := by decide +kernel
theorem dX11_sums_102 : decode cX11_sums 102 = .ok (.bipush 8, 2) := by decide +kernel
theorem dX11_sums_104 : decode cX11_sums 104 = .ok (.idiv, 1) := by decide +kernel
theorem dX11_sums_105 : decode cX11_sums 105 = .ok (.invokevirtual 363, 3) := by decide +kernel
theorem dX11_sums_108 : decode cX11_sums 108 = .ok (.ifCond .eq 15, 3) := by decide +kernel
theorem dX11_sums_111 : decode cX11_sums 111 = .ok (.aload_n 0, 1) := by decide +kernel
theorem dX11_sums_112 : decode cX11_sums 112 = .ok (.iload_n 3, 1) := by decide +kernel
theorem dX11_sums_113 : decode cX11_sums 113 = .ok (.invokevirtual 385, 3) := by decide +kernel
theorem dX11_sums_116 : decode cX11_sums 116 = .ok (.ifCond .eq 7, 3) := by decide +kernel
theorem dX11_sums_119 : decode cX11_sums 119 = .ok (.iconst 1, 1) := by decide +kernel
theorem dX11_sums_120 : decode cX11_sums 120 = .ok (.goto 4, 3) := by decide +kernel
theorem dX11_sums_123 : decode cX11_sums 123 = .ok (.iconst 0, 1) := by decide +kernel
theorem dX11_sums_124 : decode cX11_sums 124 = .ok (.iadd, 1) := by decide +kernel
theorem dX11_sums_125 : decode cX11_sums 125 = .ok (.istore_n 2, 1) := by decide +kernel
theorem dX11_sums_126 : decode cX11_sums 126 = .ok (.iinc 3 1, 3) := by decide +kernel
theorem dX11_sums_129 : decode cX11_sums 129 = .ok (.goto (-77), 3) := by decide +kernel
theorem dX11_sums_132 : decode cX11_sums 132 = .ok (.iload_n 2, 1) := by decide +kernel
theorem dX11_sums_133 : decode cX11_sums 133 = .ok (.ireturn, 1) := by decide +kernel
theorem dX11_open_0 : decode cX11_open 0 = .ok (.aload_n 0, 1) := by decide +kernel
theorem dX11_open_1 : decode cX11_open 1 = .ok (.iconst 0, 1) := by decide +kernel
theorem dX11_open_2 : decode cX11_open 2 = .ok (.putfield 3, 3) := by decide +kernel
theorem dX11_open_5 : decode cX11_open 5 = .ok (.aload_n 0, 1) := by decide +kernel
theorem dX11_open_6 : decode cX11_open 6 = .ok (.iload_n 1, 1) := by decide +kernel
theorem dX11_open_7 : decode cX11_open 7 = .ok (.ifCond .lt 15, 3) := by decide +kernel
theorem dX11_open_10 : decode cX11_open 10 = .ok (.iload_n 1, 1) := by decide +kernel
theorem dX11_open_11 : decode cX11_open 11 = .ok (.aload_n 0, 1) := by decide +kernel
theorem dX11_open_12 : decode cX11_open 12 = .ok (.getfield 187, 3) := by decide +kernel
theorem dX11_open_15 : decode cX11_open 15 = .ok (.if_icmp .ge 7, 3) := by decide +kernel
theorem dX11_open_18 : decode cX11_open 18 = .ok (.iconst 1, 1) := by decide +kernel
theorem dX11_open_19 : decode cX11_open 19 = .ok (.goto 4, 3) := by decide +kernel
theorem dX11_open_22 : decode cX11_open 22 = .ok (.iconst 0, 1) := by decide +kernel
theorem dX11_open_23 : decode cX11_open 23 = .ok (.iconst 1, 1) := by decide +kernel
theorem dX11_open_24 : decode cX11_open 24 = .ok (.iconst 2, 1) := by decide +kernel
theorem dX11_open_25 : decode cX11_open 25 = .ok (.invokevirtual 252, 3) := by decide +kernel
theorem dX11_open_28 : decode cX11_open 28 = .ok (.ifCond .ne 5, 3) := by decide +kernel
theorem dX11_open_31 : decode cX11_open 31 = .ok (.iconst 0, 1) := by decide +kernel
theorem dX11_open_32 : decode cX11_open 32 = .ok (.ireturn, 1) := by decide +kernel
theorem dX11_open_33 : decode cX11_open 33 = .ok (.aload_n 0, 1) := by decide +kernel
theorem dX11_open_34 : decode cX11_open 34 = .ok (.invokevirtual 345, 3) := by decide +kernel
theorem dX11_open_37 : decode cX11_open 37 = .ok (.iconst 0, 1) := by decide +kernel
theorem dX11_open_38 : decode cX11_open 38 = .ok (.istore_n 2, 1) := by decide +kernel
theorem dX11_open_39 : decode cX11_open 39 = .ok (.iconst 0, 1) := by decide +kernel
theorem dX11_open_40 : decode cX11_open 40 = .ok (.istore_n 3, 1) := by decide +kernel
theorem dX11_open_41 : decode cX11_open 41 = .ok (.iload_n 3, 1) := by decide +kernel
theorem dX11_open_42 : decode cX11_open 42 = .ok (.aload_n 0, 1) := by decide +kernel
theorem dX11_open_43 : decode cX11_open 43 = .ok (.getfield 184, 3) := by decide +kernel
theorem dX11_open_46 : decode cX11_open 46 = .ok (.if_icmp .ge 28, 3) := by decide +kernel
theorem dX11_open_49 : decode cX11_open 49 = .ok (.iload_n 2, 1) := by decide +kernel
theorem dX11_open_50 : decode cX11_open 50 = .ok (.aload_n 0, 1) := by decide +kernel
theorem dX11_open_51 : decode cX11_open 51 = .ok (.iload_n 3, 1) := by decide +kernel
theorem dX11_open_52 : decode cX11_open 52 = .ok (.iload_n 1, 1) := by decide +kernel
theorem dX11_open_53 : decode cX11_open 53 = .ok (.invokevirtual 367, 3) := by decide +kernel
theorem dX11_open_56 : decode cX11_open 56 = .ok (.ifCond .eq 9, 3) := by decide +kernel
theorem dX11_open_59 : decode cX11_open 59 = .ok (.iconst 1, 1) := by decide +kernel
theorem dX11_open_60 : decode cX11_open 60 = .ok (.iload_n 3, 1) := by decide +kernel
theorem dX11_open_61 : decode cX11_open 61 = .ok (.ishl, 1) := by decide +kernel
theorem dX11_open_62 : decode cX11_open 62 = .ok (.goto 4, 3) := by decide +kernel
theorem dX11_open_65 : decode cX11_open 65 = .ok (.iconst 0, 1) := by decide +kernel
theorem dX11_open_66 : decode cX11_open 66 = .ok (.ior, 1) := by decide +kernel
theorem dX11_open_67 : decode cX11_open 67 = .ok (.istore_n 2, 1) := by decide +kernel
theorem dX11_open_68 : decode cX11_open 68 = .ok (.iinc 3 1, 3) := by decide +kernel
theorem dX11_open_71 : decode cX11_open 71 = .ok (.goto (-30), 3) := by decide +kernel
theorem dX11_open_74 : decode cX11_open 74 = .ok (.iload_n 2, 1) := by decide +kernel
theorem dX11_open_75 : decode cX11_open 75 = .ok (.ireturn, 1) := by decide +kernel
theorem dX11_keepsRow_0 : decode cX11_keepsRow 0 = .ok (.iconst 0, 1) := by decide +kernel
theorem dX11_keepsRow_1 : decode cX11_keepsRow 1 = .ok (.istore 5, 2) := by decide +kernel
theorem dX11_keepsRow_3 : decode cX11_keepsRow 3 = .ok (.iload 5, 2) := by decide +kernel
theorem dX11_keepsRow_5 : decode cX11_keepsRow 5 = .ok (.iload_n 3, 1) := by decide +kernel
theorem dX11_keepsRow_6 : decode cX11_keepsRow 6 = .ok (.if_icmp .ge 43, 3) := by decide +kernel
theorem dX11_keepsRow_9 : decode cX11_keepsRow 9 = .ok (.iload 4, 2) := by decide +kernel
theorem dX11_keepsRow_11 : decode cX11_keepsRow 11 = .ok (.ifCond .eq 19, 3) := by decide +kernel
theorem dX11_keepsRow_14 : decode cX11_keepsRow 14 = .ok (.aload_n 0, 1) := by decide +kernel
theorem dX11_keepsRow_15 : decode cX11_keepsRow 15 = .ok (.getfield 108, 3) := by decide +kernel
theorem dX11_keepsRow_18 : decode cX11_keepsRow 18 = .ok (.iload_n 1, 1) := by decide +kernel
theorem dX11_keepsRow_19 : decode cX11_keepsRow 19 = .ok (.iload 5, 2) := by decide +kernel
theorem dX11_keepsRow_21 : decode cX11_keepsRow 21 = .ok (.iadd, 1) := by decide +kernel
theorem dX11_keepsRow_22 : decode cX11_keepsRow 22 = .ok (.aload_n 2, 1) := by decide +kernel
theorem dX11_keepsRow_23 : decode cX11_keepsRow 23 = .ok (.iload 5, 2) := by decide +kernel
theorem dX11_keepsRow_25 : decode cX11_keepsRow 25 = .ok (.iaload, 1) := by decide +kernel
theorem dX11_keepsRow_26 : decode cX11_keepsRow 26 = .ok (.iastore, 1) := by decide +kernel
theorem dX11_keepsRow_27 : decode cX11_keepsRow 27 = .ok (.goto 16, 3) := by decide +kernel
theorem dX11_keepsRow_30 : decode cX11_keepsRow 30 = .ok (.aload_n 2, 1) := by decide +kernel
theorem dX11_keepsRow_31 : decode cX11_keepsRow 31 = .ok (.iload 5, 2) := by decide +kernel
theorem dX11_keepsRow_33 : decode cX11_keepsRow 33 = .ok (.aload_n 0, 1) := by decide +kernel
theorem dX11_keepsRow_34 : decode cX11_keepsRow 34 = .ok (.getfield 108, 3) := by decide +kernel
theorem dX11_keepsRow_37 : decode cX11_keepsRow 37 = .ok (.iload_n 1, 1) := by decide +kernel
theorem dX11_keepsRow_38 : decode cX11_keepsRow 38 = .ok (.iload 5, 2) := by decide +kernel
theorem dX11_keepsRow_40 : decode cX11_keepsRow 40 = .ok (.iadd, 1) := by decide +kernel
theorem dX11_keepsRow_41 : decode cX11_keepsRow 41 = .ok (.iaload, 1) := by decide +kernel
theorem dX11_keepsRow_42 : decode cX11_keepsRow 42 = .ok (.iastore, 1) := by decide +kernel
theorem dX11_keepsRow_43 : decode cX11_keepsRow 43 = .ok (.iinc 5 1, 3) := by decide +kernel
theorem dX11_keepsRow_46 : decode cX11_keepsRow 46 = .ok (.goto (-43), 3) := by decide +kernel
theorem dX11_keepsRow_49 : decode cX11_keepsRow 49 = .ok (.iload_n 1, 1) := by decide +kernel
theorem dX11_keepsRow_50 : decode cX11_keepsRow 50 = .ok (.iload_n 3, 1) := by decide +kernel
theorem dX11_keepsRow_51 : decode cX11_keepsRow 51 = .ok (.iadd, 1) := by decide +kernel
theorem dX11_keepsRow_52 : decode cX11_keepsRow 52 = .ok (.ireturn, 1) := by decide +kernel
theorem dX11_keepsAll_0 : decode cX11_keepsAll 0 = .ok (.aload_n 0, 1) := by decide +kernel
theorem dX11_keepsAll_1 : decode cX11_keepsAll 1 = .ok (.sipush 1310, 3) := by decide +kernel
theorem dX11_keepsAll_4 : decode cX11_keepsAll 4 = .ok (.iload_n 1, 1) := by decide +kernel
theorem dX11_keepsAll_5 : decode cX11_keepsAll 5 = .ok (.imul, 1) := by decide +kernel
theorem dX11_keepsAll_6 : decode cX11_keepsAll 6 = .ok (.aload_n 0, 1) := by decide +kernel
theorem dX11_keepsAll_7 : decode cX11_keepsAll 7 = .ok (.getfield 74, 3) := by decide +kernel
theorem dX11_keepsAll_10 : decode cX11_keepsAll 10 = .ok (.bipush 77, 2) := by decide +kernel
theorem dX11_keepsAll_12 : decode cX11_keepsAll 12 = .ok (.iload_n 2, 1) := by decide +kernel
theorem dX11_keepsAll_13 : decode cX11_keepsAll 13 = .ok (.invokevirtual 493, 3) := by decide +kernel
theorem dX11_keepsAll_16 : decode cX11_keepsAll 16 = .ok (.istore_n 3, 1) := by decide +kernel
theorem dX11_keepsAll_17 : decode cX11_keepsAll 17 = .ok (.aload_n 0, 1) := by decide +kernel
theorem dX11_keepsAll_18 : decode cX11_keepsAll 18 = .ok (.iload_n 3, 1) := by decide +kernel
theorem dX11_keepsAll_19 : decode cX11_keepsAll 19 = .ok (.aload_n 0, 1) := by decide +kernel
theorem dX11_keepsAll_20 : decode cX11_keepsAll 20 = .ok (.getfield 80, 3) := by decide +kernel
theorem dX11_keepsAll_23 : decode cX11_keepsAll 23 = .ok (.sipush 1232, 3) := by decide +kernel
theorem dX11_keepsAll_26 : decode cX11_keepsAll 26 = .ok (.iload_n 2, 1) := by decide +kernel
theorem dX11_keepsAll_27 : decode cX11_keepsAll 27 = .ok (.invokevirtual 493, 3) := by decide +kernel
theorem dX11_keepsAll_30 : decode cX11_keepsAll 30 = .ok (.istore_n 3, 1) := by decide +kernel
theorem dX11_keepsAll_31 : decode cX11_keepsAll 31 = .ok (.iload_n 2, 1) := by decide +kernel
theorem dX11_keepsAll_32 : decode cX11_keepsAll 32 = .ok (.ifCond .eq 16, 3) := by decide +kernel
theorem dX11_keepsAll_35 : decode cX11_keepsAll 35 = .ok (.aload_n 0, 1) := by decide +kernel
theorem dX11_keepsAll_36 : decode cX11_keepsAll 36 = .ok (.getfield 108, 3) := by decide +kernel
theorem dX11_keepsAll_39 : decode cX11_keepsAll 39 = .ok (.iload_n 3, 1) := by decide +kernel
theorem dX11_keepsAll_40 : decode cX11_keepsAll 40 = .ok (.aload_n 0, 1) := by decide +kernel
theorem dX11_keepsAll_41 : decode cX11_keepsAll 41 = .ok (.getfield 209, 3) := by decide +kernel
theorem dX11_keepsAll_44 : decode cX11_keepsAll 44 = .ok (.iastore, 1) := by decide +kernel
theorem dX11_keepsAll_45 : decode cX11_keepsAll 45 = .ok (.goto 13, 3) := by decide +kernel
theorem dX11_keepsAll_48 : decode cX11_keepsAll 48 = .ok (.aload_n 0, 1) := by decide +kernel
theorem dX11_keepsAll_49 : decode cX11_keepsAll 49 = .ok (.aload_n 0, 1) := by decide +kernel
theorem dX11_keepsAll_50 : decode cX11_keepsAll 50 = .ok (.getfield 108, 3) := by decide +kernel
theorem dX11_keepsAll_53 : decode cX11_keepsAll 53 = .ok (.iload_n 3, 1) := by decide +kernel
theorem dX11_keepsAll_54 : decode cX11_keepsAll 54 = .ok (.iaload, 1) := by decide +kernel
theorem dX11_keepsAll_55 : decode cX11_keepsAll 55 = .ok (.putfield 209, 3) := by decide +kernel
theorem dX11_keepsAll_58 : decode cX11_keepsAll 58 = .ok (.return_, 1) := by decide +kernel
theorem dX11_image_0 : decode cX11_image 0 = .ok (.aload_n 0, 1) := by decide +kernel
theorem dX11_image_1 : decode cX11_image 1 = .ok (.iconst 0, 1) := by decide +kernel
theorem dX11_image_2 : decode cX11_image 2 = .ok (.putfield 3, 3) := by decide +kernel
theorem dX11_image_5 : decode cX11_image 5 = .ok (.aload_n 0, 1) := by decide +kernel
theorem dX11_image_6 : decode cX11_image 6 = .ok (.getfield 212, 3) := by decide +kernel
theorem dX11_image_9 : decode cX11_image 9 = .ok (.iconst 3, 1) := by decide +kernel
theorem dX11_image_10 : decode cX11_image 10 = .ok (.if_icmp .ne 5, 3) := by decide +kernel
theorem dX11_image_13 : decode cX11_image 13 = .ok (.iconst (-1), 1) := by decide +kernel
theorem dX11_image_14 : decode cX11_image 14 = .ok (.ireturn, 1) := by decide +kernel
theorem dX11_image_15 : decode cX11_image 15 = .ok (.aload_n 0, 1) := by decide +kernel
theorem dX11_image_16 : decode cX11_image 16 = .ok (.aload_n 0, 1) := by decide +kernel
theorem dX11_image_17 : decode cX11_image 17 = .ok (.getfield 212, 3) := by decide +kernel
theorem dX11_image_20 : decode cX11_image 20 = .ok (.iconst 1, 1) := by decide +kernel
theorem dX11_image_21 : decode cX11_image 21 = .ok (.invokevirtual 497, 3) := by decide +kernel
theorem dX11_image_24 : decode cX11_image 24 = .ok (.aload_n 0, 1) := by decide +kernel
theorem dX11_image_25 : decode cX11_image 25 = .ok (.dup, 1) := by decide +kernel
theorem dX11_image_26 : decode cX11_image 26 = .ok (.getfield 212, 3) := by decide +kernel
theorem dX11_image_29 : decode cX11_image 29 = .ok (.iconst 1, 1) := by decide +kernel
theorem dX11_image_30 : decode cX11_image 30 = .ok (.iadd, 1) := by decide +kernel
theorem dX11_image_31 : decode cX11_image 31 = .ok (.putfield 212, 3) := by decide +kernel
theorem dX11_image_34 : decode cX11_image 34 = .ok (.aload_n 0, 1) := by decide +kernel
theorem dX11_image_35 : decode cX11_image 35 = .ok (.getfield 212, 3) := by decide +kernel
theorem dX11_image_38 : decode cX11_image 38 = .ok (.ireturn, 1) := by decide +kernel
theorem dX11_restore_0 : decode cX11_restore 0 = .ok (.aload_n 0, 1) := by decide +kernel
theorem dX11_restore_1 : decode cX11_restore 1 = .ok (.iconst 0, 1) := by decide +kernel
theorem dX11_restore_2 : decode cX11_restore 2 = .ok (.putfield 3, 3) := by decide +kernel
theorem dX11_restore_5 : decode cX11_restore 5 = .ok (.aload_n 0, 1) := by decide +kernel
theorem dX11_restore_6 : decode cX11_restore 6 = .ok (.getfield 212, 3) := by decide +kernel
theorem dX11_restore_9 : decode cX11_restore 9 = .ok (.ifCond .ne 5, 3) := by decide +kernel
theorem dX11_restore_12 : decode cX11_restore 12 = .ok (.iconst (-1), 1) := by decide +kernel
theorem dX11_restore_13 : decode cX11_restore 13 = .ok (.ireturn, 1) := by decide +kernel
theorem dX11_restore_14 : decode cX11_restore 14 = .ok (.aload_n 0, 1) := by decide +kernel
theorem dX11_restore_15 : decode cX11_restore 15 = .ok (.dup, 1) := by decide +kernel
theorem dX11_restore_16 : decode cX11_restore 16 = .ok (.getfield 212, 3) := by decide +kernel
theorem dX11_restore_19 : decode cX11_restore 19 = .ok (.iconst 1, 1) := by decide +kernel
theorem dX11_restore_20 : decode cX11_restore 20 = .ok (.isub, 1) := by decide +kernel
theorem dX11_restore_21 : decode cX11_restore 21 = .ok (.putfield 212, 3) := by decide +kernel
theorem dX11_restore_24 : decode cX11_restore 24 = .ok (.aload_n 0, 1) := by decide +kernel
theorem dX11_restore_25 : decode cX11_restore 25 = .ok (.aload_n 0, 1) := by decide +kernel
theorem dX11_restore_26 : decode cX11_restore 26 = .ok (.getfield 212, 3) := by decide +kernel
theorem dX11_restore_29 : decode cX11_restore 29 = .ok (.iconst 0, 1) := by decide +kernel
theorem dX11_restore_30 : decode cX11_restore 30 = .ok (.invokevirtual 497, 3) := by decide +kernel
theorem dX11_restore_33 : decode cX11_restore 33 = .ok (.aload_n 0, 1) := by decide +kernel
theorem dX11_restore_34 : decode cX11_restore 34 = .ok (.iconst 0, 1) := by decide +kernel
theorem dX11_restore_35 : decode cX11_restore 35 = .ok (.putfield 215, 3) := by decide +kernel
theorem dX11_restore_38 : decode cX11_restore 38 = .ok (.aload_n 0, 1) := by decide +kernel
theorem dX11_restore_39 : decode cX11_restore 39 = .ok (.getfield 212, 3) := by decide +kernel
theorem dX11_restore_42 : decode cX11_restore 42 = .ok (.ireturn, 1) := by decide +kernel
theorem dX11_status_0 : decode cX11_status 0 = .ok (.aload_n 0, 1) := by decide +kernel
theorem dX11_status_1 : decode cX11_status 1 = .ok (.iconst 0, 1) := by decide +kernel
theorem dX11_status_2 : decode cX11_status 2 = .ok (.putfield 3, 3) := by decide +kernel
theorem dX11_status_5 : decode cX11_status 5 = .ok (.iload_n 1, 1) := by decide +kernel
theorem dX11_status_6 : decode cX11_status 6 = .ok (.iconst 0, 1) := by decide +kernel
theorem dX11_status_7 : decode cX11_status 7 = .ok (.iconst 2, 1) := by decide +kernel
theorem dX11_status_8 : decode cX11_status 8 = .ok (.invokestatic 317, 3) := by decide +kernel
theorem dX11_status_11 : decode cX11_status 11 = .ok (.ifCond .eq 12, 3) := by decide +kernel
theorem dX11_status_14 : decode cX11_status 14 = .ok (.aload_n 0, 1) := by decide +kernel
theorem dX11_status_15 : decode cX11_status 15 = .ok (.getfield 7, 3) := by decide +kernel
theorem dX11_status_18 : decode cX11_status 18 = .ok (.iload_n 1, 1) := by decide +kernel
theorem dX11_status_19 : decode cX11_status 19 = .ok (.iaload, 1) := by decide +kernel
theorem dX11_status_20 : decode cX11_status 20 = .ok (.goto 4, 3) := by decide +kernel
theorem dX11_status_23 : decode cX11_status 23 = .ok (.iconst (-1), 1) := by decide +kernel
theorem dX11_status_24 : decode cX11_status 24 = .ok (.ireturn, 1) := by decide +kernel
theorem dX11_count_0 : decode cX11_count 0 = .ok (.aload_n 0, 1) := by decide +kernel
theorem dX11_count_1 : decode cX11_count 1 = .ok (.iconst 0, 1) := by decide +kernel
theorem dX11_count_2 : decode cX11_count 2 = .ok (.putfield 3, 3) := by decide +kernel
theorem dX11_count_5 : decode cX11_count 5 = .ok (.iload_n 1, 1) := by decide +kernel
theorem dX11_count_6 : decode cX11_count 6 = .ok (.ifCond .ne 10, 3) := by decide +kernel
theorem dX11_count_9 : decode cX11_count 9 = .ok (.aload_n 0, 1) := by decide +kernel
theorem dX11_count_10 : decode cX11_count 10 = .ok (.getfield 212, 3) := by decide +kernel
theorem dX11_count_13 : decode cX11_count 13 = .ok (.goto 28, 3) := by decide +kernel
theorem dX11_count_16 : decode cX11_count 16 = .ok (.iload_n 1, 1) := by decide +kernel
theorem dX11_count_17 : decode cX11_count 17 = .ok (.iconst 1, 1) := by decide +kernel
theorem dX11_count_18 : decode cX11_count 18 = .ok (.if_icmp .ne 10, 3) := by decide +kernel
theorem dX11_count_21 : decode cX11_count 21 = .ok (.aload_n 0, 1) := by decide +kernel
theorem dX11_count_22 : decode cX11_count 22 = .ok (.getfield 118, 3) := by decide +kernel
theorem dX11_count_25 : decode cX11_count 25 = .ok (.goto 16, 3) := by decide +kernel
theorem dX11_count_28 : decode cX11_count 28 = .ok (.iload_n 1, 1) := by decide +kernel
theorem dX11_count_29 : decode cX11_count 29 = .ok (.iconst 2, 1) := by decide +kernel
theorem dX11_count_30 : decode cX11_count 30 = .ok (.if_icmp .ne 10, 3) := by decide +kernel
theorem dX11_count_33 : decode cX11_count 33 = .ok (.aload_n 0, 1) := by decide +kernel
theorem dX11_count_34 : decode cX11_count 34 = .ok (.getfield 209, 3) := by decide +kernel
theorem dX11_count_37 : decode cX11_count 37 = .ok (.goto 4, 3) := by decide +kernel
theorem dX11_count_40 : decode cX11_count 40 = .ok (.iconst (-1), 1) := by decide +kernel
theorem dX11_count_41 : decode cX11_count 41 = .ok (.ireturn, 1) := by decide +kernel
theorem dJ6_bitCount_0f7a4_0 : decode cJ6_bitCount_0f7a4 0 = .ok (.iload_n 0, 1) := by decide +kernel
theorem dJ6_bitCount_0f7a4_1 : decode cJ6_bitCount_0f7a4 1 = .ok (.iload_n 0, 1) := by decide +kernel
theorem dJ6_bitCount_0f7a4_2 : decode cJ6_bitCount_0f7a4 2 = .ok (.iconst 1, 1) := by decide +kernel
theorem dJ6_bitCount_0f7a4_3 : decode cJ6_bitCount_0f7a4 3 = .ok (.iushr, 1) := by decide +kernel
theorem dJ6_bitCount_0f7a4_4 : decode cJ6_bitCount_0f7a4 4 = .ok (.ldc_w 265, 3) := by decide +kernel
theorem dJ6_bitCount_0f7a4_7 : decode cJ6_bitCount_0f7a4 7 = .ok (.iand, 1) := by decide +kernel
theorem dJ6_bitCount_0f7a4_8 : decode cJ6_bitCount_0f7a4 8 = .ok (.isub, 1) := by decide +kernel
theorem dJ6_bitCount_0f7a4_9 : decode cJ6_bitCount_0f7a4 9 = .ok (.istore_n 0, 1) := by decide +kernel
theorem dJ6_bitCount_0f7a4_10 : decode cJ6_bitCount_0f7a4 10 = .ok (.iload_n 0, 1) := by decide +kernel
theorem dJ6_bitCount_0f7a4_11 : decode cJ6_bitCount_0f7a4 11 = .ok (.ldc_w 266, 3) := by decide +kernel
theorem dJ6_bitCount_0f7a4_14 : decode cJ6_bitCount_0f7a4 14 = .ok (.iand, 1) := by decide +kernel
theorem dJ6_bitCount_0f7a4_15 : decode cJ6_bitCount_0f7a4 15 = .ok (.iload_n 0, 1) := by decide +kernel
theorem dJ6_bitCount_0f7a4_16 : decode cJ6_bitCount_0f7a4 16 = .ok (.iconst 2, 1) := by decide +kernel
theorem dJ6_bitCount_0f7a4_17 : decode cJ6_bitCount_0f7a4 17 = .ok (.iushr, 1) := by decide +kernel
theorem dJ6_bitCount_0f7a4_18 : decode cJ6_bitCount_0f7a4 18 = .ok (.ldc_w 266, 3) := by decide +kernel
theorem dJ6_bitCount_0f7a4_21 : decode cJ6_bitCount_0f7a4 21 = .ok (.iand, 1) := by decide +kernel
theorem dJ6_bitCount_0f7a4_22 : decode cJ6_bitCount_0f7a4 22 = .ok (.iadd, 1) := by decide +kernel
theorem dJ6_bitCount_0f7a4_23 : decode cJ6_bitCount_0f7a4 23 = .ok (.istore_n 0, 1) := by decide +kernel
theorem dJ6_bitCount_0f7a4_24 : decode cJ6_bitCount_0f7a4 24 = .ok (.iload_n 0, 1) := by decide +kernel
theorem dJ6_bitCount_0f7a4_25 : decode cJ6_bitCount_0f7a4 25 = .ok (.iload_n 0, 1) := by decide +kernel
theorem dJ6_bitCount_0f7a4_26 : decode cJ6_bitCount_0f7a4 26 = .ok (.iconst 4, 1) := by decide +kernel
theorem dJ6_bitCount_0f7a4_27 : decode cJ6_bitCount_0f7a4 27 = .ok (.iushr, 1) := by decide +kernel
theorem dJ6_bitCount_0f7a4_28 : decode cJ6_bitCount_0f7a4 28 = .ok (.iadd, 1) := by decide +kernel
theorem dJ6_bitCount_0f7a4_29 : decode cJ6_bitCount_0f7a4 29 = .ok (.ldc_w 267, 3) := by decide +kernel
theorem dJ6_bitCount_0f7a4_32 : decode cJ6_bitCount_0f7a4 32 = .ok (.iand, 1) := by decide +kernel
theorem dJ6_bitCount_0f7a4_33 : decode cJ6_bitCount_0f7a4 33 = .ok (.istore_n 0, 1) := by decide +kernel
theorem dJ6_bitCount_0f7a4_34 : decode cJ6_bitCount_0f7a4 34 = .ok (.iload_n 0, 1) := by decide +kernel
theorem dJ6_bitCount_0f7a4_35 : decode cJ6_bitCount_0f7a4 35 = .ok (.iload_n 0, 1) := by decide +kernel
theorem dJ6_bitCount_0f7a4_36 : decode cJ6_bitCount_0f7a4 36 = .ok (.bipush 8, 2) := by decide +kernel
theorem dJ6_bitCount_0f7a4_38 : decode cJ6_bitCount_0f7a4 38 = .ok (.iushr, 1) := by decide +kernel
theorem dJ6_bitCount_0f7a4_39 : decode cJ6_bitCount_0f7a4 39 = .ok (.iadd, 1) := by decide +kernel
theorem dJ6_bitCount_0f7a4_40 : decode cJ6_bitCount_0f7a4 40 = .ok (.istore_n 0, 1) := by decide +kernel
theorem dJ6_bitCount_0f7a4_41 : decode cJ6_bitCount_0f7a4 41 = .ok (.iload_n 0, 1) := by decide +kernel
theorem dJ6_bitCount_0f7a4_42 : decode cJ6_bitCount_0f7a4 42 = .ok (.iload_n 0, 1) := by decide +kernel
theorem dJ6_bitCount_0f7a4_43 : decode cJ6_bitCount_0f7a4 43 = .ok (.bipush 16, 2) := by decide +kernel
theorem dJ6_bitCount_0f7a4_45 : decode cJ6_bitCount_0f7a4 45 = .ok (.iushr, 1) := by decide +kernel
theorem dJ6_bitCount_0f7a4_46 : decode cJ6_bitCount_0f7a4 46 = .ok (.iadd, 1) := by decide +kernel
theorem dJ6_bitCount_0f7a4_47 : decode cJ6_bitCount_0f7a4 47 = .ok (.istore_n 0, 1) := by decide +kernel
theorem dJ6_bitCount_0f7a4_48 : decode cJ6_bitCount_0f7a4 48 = .ok (.iload_n 0, 1) := by decide +kernel
theorem dJ6_bitCount_0f7a4_49 : decode cJ6_bitCount_0f7a4 49 = .ok (.bipush 63, 2) := by decide +kernel
theorem dJ6_bitCount_0f7a4_51 : decode cJ6_bitCount_0f7a4 51 = .ok (.iand, 1) := by decide +kernel
theorem dJ6_bitCount_0f7a4_52 : decode cJ6_bitCount_0f7a4 52 = .ok (.ireturn, 1) := by decide +kernel
theorem dJ13_bitCount_95d88_0 : decode cJ13_bitCount_95d88 0 = .ok (.lload_n 0, 1) := by decide +kernel
theorem dJ13_bitCount_95d88_1 : decode cJ13_bitCount_95d88 1 = .ok (.lload_n 0, 1) := by decide +kernel
theorem dJ13_bitCount_95d88_2 : decode cJ13_bitCount_95d88 2 = .ok (.iconst 1, 1) := by decide +kernel
theorem dJ13_bitCount_95d88_3 : decode cJ13_bitCount_95d88 3 = .ok (.lushr, 1) := by decide +kernel
theorem dJ13_bitCount_95d88_4 : decode cJ13_bitCount_95d88 4 = .ok (.ldc2_w 314, 3) := by decide +kernel
theorem dJ13_bitCount_95d88_7 : decode cJ13_bitCount_95d88 7 = .ok (.land, 1) := by decide +kernel
theorem dJ13_bitCount_95d88_8 : decode cJ13_bitCount_95d88 8 = .ok (.lsub, 1) := by decide +kernel
theorem dJ13_bitCount_95d88_9 : decode cJ13_bitCount_95d88 9 = .ok (.lstore_n 0, 1) := by decide +kernel
theorem dJ13_bitCount_95d88_10 : decode cJ13_bitCount_95d88 10 = .ok (.lload_n 0, 1) := by decide +kernel
theorem dJ13_bitCount_95d88_11 : decode cJ13_bitCount_95d88 11 = .ok (.ldc2_w 316, 3) := by decide +kernel
theorem dJ13_bitCount_95d88_14 : decode cJ13_bitCount_95d88 14 = .ok (.land, 1) := by decide +kernel
theorem dJ13_bitCount_95d88_15 : decode cJ13_bitCount_95d88 15 = .ok (.lload_n 0, 1) := by decide +kernel
theorem dJ13_bitCount_95d88_16 : decode cJ13_bitCount_95d88 16 = .ok (.iconst 2, 1) := by decide +kernel
theorem dJ13_bitCount_95d88_17 : decode cJ13_bitCount_95d88 17 = .ok (.lushr, 1) := by decide +kernel
theorem dJ13_bitCount_95d88_18 : decode cJ13_bitCount_95d88 18 = .ok (.ldc2_w 316, 3) := by decide +kernel
theorem dJ13_bitCount_95d88_21 : decode cJ13_bitCount_95d88 21 = .ok (.land, 1) := by decide +kernel
theorem dJ13_bitCount_95d88_22 : decode cJ13_bitCount_95d88 22 = .ok (.ladd, 1) := by decide +kernel
theorem dJ13_bitCount_95d88_23 : decode cJ13_bitCount_95d88 23 = .ok (.lstore_n 0, 1) := by decide +kernel
theorem dJ13_bitCount_95d88_24 : decode cJ13_bitCount_95d88 24 = .ok (.lload_n 0, 1) := by decide +kernel
theorem dJ13_bitCount_95d88_25 : decode cJ13_bitCount_95d88 25 = .ok (.lload_n 0, 1) := by decide +kernel
theorem dJ13_bitCount_95d88_26 : decode cJ13_bitCount_95d88 26 = .ok (.iconst 4, 1) := by decide +kernel
theorem dJ13_bitCount_95d88_27 : decode cJ13_bitCount_95d88 27 = .ok (.lushr, 1) := by decide +kernel
theorem dJ13_bitCount_95d88_28 : decode cJ13_bitCount_95d88 28 = .ok (.ladd, 1) := by decide +kernel
theorem dJ13_bitCount_95d88_29 : decode cJ13_bitCount_95d88 29 = .ok (.ldc2_w 318, 3) := by decide +kernel
theorem dJ13_bitCount_95d88_32 : decode cJ13_bitCount_95d88 32 = .ok (.land, 1) := by decide +kernel
theorem dJ13_bitCount_95d88_33 : decode cJ13_bitCount_95d88 33 = .ok (.lstore_n 0, 1) := by decide +kernel
theorem dJ13_bitCount_95d88_34 : decode cJ13_bitCount_95d88 34 = .ok (.lload_n 0, 1) := by decide +kernel
theorem dJ13_bitCount_95d88_35 : decode cJ13_bitCount_95d88 35 = .ok (.lload_n 0, 1) := by decide +kernel
theorem dJ13_bitCount_95d88_36 : decode cJ13_bitCount_95d88 36 = .ok (.bipush 8, 2) := by decide +kernel
theorem dJ13_bitCount_95d88_38 : decode cJ13_bitCount_95d88 38 = .ok (.lushr, 1) := by decide +kernel
theorem dJ13_bitCount_95d88_39 : decode cJ13_bitCount_95d88 39 = .ok (.ladd, 1) := by decide +kernel
theorem dJ13_bitCount_95d88_40 : decode cJ13_bitCount_95d88 40 = .ok (.lstore_n 0, 1) := by decide +kernel
theorem dJ13_bitCount_95d88_41 : decode cJ13_bitCount_95d88 41 = .ok (.lload_n 0, 1) := by decide +kernel
theorem dJ13_bitCount_95d88_42 : decode cJ13_bitCount_95d88 42 = .ok (.lload_n 0, 1) := by decide +kernel
theorem dJ13_bitCount_95d88_43 : decode cJ13_bitCount_95d88 43 = .ok (.bipush 16, 2) := by decide +kernel
theorem dJ13_bitCount_95d88_45 : decode cJ13_bitCount_95d88 45 = .ok (.lushr, 1) := by decide +kernel
theorem dJ13_bitCount_95d88_46 : decode cJ13_bitCount_95d88 46 = .ok (.ladd, 1) := by decide +kernel
theorem dJ13_bitCount_95d88_47 : decode cJ13_bitCount_95d88 47 = .ok (.lstore_n 0, 1) := by decide +kernel
theorem dJ13_bitCount_95d88_48 : decode cJ13_bitCount_95d88 48 = .ok (.lload_n 0, 1) := by decide +kernel
theorem dJ13_bitCount_95d88_49 : decode cJ13_bitCount_95d88 49 = .ok (.lload_n 0, 1) := by decide +kernel
theorem dJ13_bitCount_95d88_50 : decode cJ13_bitCount_95d88 50 = .ok (.bipush 32, 2) := by decide +kernel
theorem dJ13_bitCount_95d88_52 : decode cJ13_bitCount_95d88 52 = .ok (.lushr, 1) := by decide +kernel
theorem dJ13_bitCount_95d88_53 : decode cJ13_bitCount_95d88 53 = .ok (.ladd, 1) := by decide +kernel
theorem dJ13_bitCount_95d88_54 : decode cJ13_bitCount_95d88 54 = .ok (.lstore_n 0, 1) := by decide +kernel
theorem dJ13_bitCount_95d88_55 : decode cJ13_bitCount_95d88 55 = .ok (.lload_n 0, 1) := by decide +kernel
theorem dJ13_bitCount_95d88_56 : decode cJ13_bitCount_95d88 56 = .ok (.l2i, 1) := by decide +kernel
theorem dJ13_bitCount_95d88_57 : decode cJ13_bitCount_95d88 57 = .ok (.bipush 127, 2) := by decide +kernel
theorem dJ13_bitCount_95d88_59 : decode cJ13_bitCount_95d88 59 = .ok (.iand, 1) := by decide +kernel
theorem dJ13_bitCount_95d88_60 : decode cJ13_bitCount_95d88 60 = .ok (.ireturn, 1) := by decide +kernel
theorem dJ9_max_7cf53_0 : decode cJ9_max_7cf53 0 = .ok (.iload_n 0, 1) := by decide +kernel
theorem dJ9_max_7cf53_1 : decode cJ9_max_7cf53 1 = .ok (.iload_n 1, 1) := by decide +kernel
theorem dJ9_max_7cf53_2 : decode cJ9_max_7cf53 2 = .ok (.if_icmp .lt 7, 3) := by decide +kernel
theorem dJ9_max_7cf53_5 : decode cJ9_max_7cf53 5 = .ok (.iload_n 0, 1) := by decide +kernel
theorem dJ9_max_7cf53_6 : decode cJ9_max_7cf53 6 = .ok (.goto 4, 3) := by decide +kernel
theorem dJ9_max_7cf53_9 : decode cJ9_max_7cf53 9 = .ok (.iload_n 1, 1) := by decide +kernel
theorem dJ9_max_7cf53_10 : decode cJ9_max_7cf53 10 = .ok (.ireturn, 1) := by decide +kernel
theorem dJ9_min_7cf53_0 : decode cJ9_min_7cf53 0 = .ok (.iload_n 0, 1) := by decide +kernel
theorem dJ9_min_7cf53_1 : decode cJ9_min_7cf53 1 = .ok (.iload_n 1, 1) := by decide +kernel
theorem dJ9_min_7cf53_2 : decode cJ9_min_7cf53 2 = .ok (.if_icmp .gt 7, 3) := by decide +kernel
theorem dJ9_min_7cf53_5 : decode cJ9_min_7cf53 5 = .ok (.iload_n 0, 1) := by decide +kernel
theorem dJ9_min_7cf53_6 : decode cJ9_min_7cf53 6 = .ok (.goto 4, 3) := by decide +kernel
theorem dJ9_min_7cf53_9 : decode cJ9_min_7cf53 9 = .ok (.iload_n 1, 1) := by decide +kernel
theorem dJ9_min_7cf53_10 : decode cJ9_min_7cf53 10 = .ok (.ireturn, 1) := by decide +kernel
theorem dJ0_length_8abf5_0 : decode cJ0_length_8abf5 0 = .ok (.aload_n 0, 1) := by decide +kernel
theorem dJ0_length_8abf5_1 : decode cJ0_length_8abf5 1 = .ok (.getfield 9, 3) := by decide +kernel
theorem dJ0_length_8abf5_4 : decode cJ0_length_8abf5 4 = .ok (.arraylength, 1) := by decide +kernel
theorem dJ0_length_8abf5_5 : decode cJ0_length_8abf5 5 = .ok (.aload_n 0, 1) := by decide +kernel
theorem dJ0_length_8abf5_6 : decode cJ0_length_8abf5 6 = .ok (.invokevirtual 335, 3) := by decide +kernel
theorem dJ0_length_8abf5_9 : decode cJ0_length_8abf5 9 = .ok (.ishr, 1) := by decide +kernel
theorem dJ0_length_8abf5_10 : decode cJ0_length_8abf5 10 = .ok (.ireturn, 1) := by decide +kernel
theorem dJ0_charAt_5068e_0 : decode cJ0_charAt_5068e 0 = .ok (.aload_n 0, 1) := by decide +kernel
theorem dJ0_charAt_5068e_1 : decode cJ0_charAt_5068e 1 = .ok (.invokevirtual 492, 3) := by decide +kernel
theorem dJ0_charAt_5068e_4 : decode cJ0_charAt_5068e 4 = .ok (.ifCond .eq 12, 3) := by decide +kernel
theorem dJ0_charAt_5068e_7 : decode cJ0_charAt_5068e 7 = .ok (.aload_n 0, 1) := by decide +kernel
theorem dJ0_charAt_5068e_8 : decode cJ0_charAt_5068e 8 = .ok (.getfield 9, 3) := by decide +kernel
theorem dJ0_charAt_5068e_11 : decode cJ0_charAt_5068e 11 = .ok (.iload_n 1, 1) := by decide +kernel
theorem dJ0_charAt_5068e_12 : decode cJ0_charAt_5068e 12 = .ok (.invokestatic 495, 3) := by decide +kernel
theorem dJ0_charAt_5068e_15 : decode cJ0_charAt_5068e 15 = .ok (.ireturn, 1) := by decide +kernel
theorem dJ0_charAt_5068e_16 : decode cJ0_charAt_5068e 16 = .ok (.aload_n 0, 1) := by decide +kernel
theorem dJ0_charAt_5068e_17 : decode cJ0_charAt_5068e 17 = .ok (.getfield 9, 3) := by decide +kernel
theorem dJ0_charAt_5068e_20 : decode cJ0_charAt_5068e 20 = .ok (.iload_n 1, 1) := by decide +kernel
theorem dJ0_charAt_5068e_21 : decode cJ0_charAt_5068e 21 = .ok (.invokestatic 498, 3) := by decide +kernel
theorem dJ0_charAt_5068e_24 : decode cJ0_charAt_5068e 24 = .ok (.ireturn, 1) := by decide +kernel
