theorem dX10_work_62 : decode cX10_work 62 = .ok (.getfield 50, 3) := by decide +kernel
theorem dX10_work_65 : decode cX10_work 65 = .ok (.invokevirtual 160, 3) := by decide +kernel
theorem dX10_work_68 : decode cX10_work 68 = .ok (.aload_n 0, 1) := by decide +kernel
theorem dX10_work_69 : decode cX10_work 69 = .ok (.getfield 60, 3) := by decide +kernel
theorem dX10_work_72 : decode cX10_work 72 = .ok (.aload_n 0, 1) := by decide +kernel
theorem dX10_work_73 : decode cX10_work 73 = .ok (.getfield 50, 3) := by decide +kernel
theorem dX10_work_76 : decode cX10_work 76 = .ok (.iconst 0, 1) := by decide +kernel
theorem dX10_work_77 : decode cX10_work 77 = .ok (.aload_n 0, 1) := by decide +kernel
theorem dX10_work_78 : decode cX10_work 78 = .ok (.getfield 60, 3) := by decide +kernel
theorem dX10_work_81 : decode cX10_work 81 = .ok (.getfield 163, 3) := by decide +kernel
theorem dX10_work_84 : decode cX10_work 84 = .ok (.iconst 0, 1) := by decide +kernel
theorem dX10_work_85 : decode cX10_work 85 = .ok (.invokestatic 166, 3) := by decide +kernel
theorem dX10_work_88 : decode cX10_work 88 = .ok (.aload_n 0, 1) := by decide +kernel
theorem dX10_work_89 : decode cX10_work 89 = .ok (.aload_n 0, 1) := by decide +kernel
theorem dX10_work_90 : decode cX10_work 90 = .ok (.getfield 60, 3) := by decide +kernel
theorem dX10_work_93 : decode cX10_work 93 = .ok (.getfield 170, 3) := by decide +kernel
theorem dX10_work_96 : decode cX10_work 96 = .ok (.putfield 139, 3) := by decide +kernel
theorem dX10_work_99 : decode cX10_work 99 = .ok (.aload_n 0, 1) := by decide +kernel
theorem dX10_work_100 : decode cX10_work 100 = .ok (.getfield 60, 3) := by decide +kernel
theorem dX10_work_103 : decode cX10_work 103 = .ok (.getfield 173, 3) := by decide +kernel
theorem dX10_work_106 : decode cX10_work 106 = .ok (.ireturn, 1) := by decide +kernel
theorem dX10_book_0 : decode cX10_book 0 = .ok (.aload_n 0, 1) := by decide +kernel
theorem dX10_book_1 : decode cX10_book 1 = .ok (.iload_n 1, 1) := by decide +kernel
theorem dX10_book_2 : decode cX10_book 2 = .ok (.bipush 100, 2) := by decide +kernel
theorem dX10_book_4 : decode cX10_book 4 = .ok (.invokevirtual 117, 3) := by decide +kernel
theorem dX10_book_7 : decode cX10_book 7 = .ok (.aload_n 0, 1) := by decide +kernel
theorem dX10_book_8 : decode cX10_book 8 = .ok (.getfield 85, 3) := by decide +kernel
theorem dX10_book_11 : decode cX10_book 11 = .ok (.aload_n 0, 1) := by decide +kernel
theorem dX10_book_12 : decode cX10_book 12 = .ok (.getfield 10, 3) := by decide +kernel
theorem dX10_book_15 : decode cX10_book 15 = .ok (.invokevirtual 176, 3) := by decide +kernel
theorem dX10_book_18 : decode cX10_book 18 = .ok (.aload_n 0, 1) := by decide +kernel
theorem dX10_book_19 : decode cX10_book 19 = .ok (.getfield 10, 3) := by decide +kernel
theorem dX10_book_22 : decode cX10_book 22 = .ok (.invokevirtual 125, 3) := by decide +kernel
theorem dX10_book_25 : decode cX10_book 25 = .ok (.ifCond .eq 13, 3) := by decide +kernel
theorem dX10_book_28 : decode cX10_book 28 = .ok (.aload_n 0, 1) := by decide +kernel
theorem dX10_book_29 : decode cX10_book 29 = .ok (.getfield 85, 3) := by decide +kernel
theorem dX10_book_32 : decode cX10_book 32 = .ok (.getfield 177, 3) := by decide +kernel
theorem dX10_book_35 : decode cX10_book 35 = .ok (.goto 13, 3) := by decide +kernel
theorem dX10_book_38 : decode cX10_book 38 = .ok (.aload_n 0, 1) := by decide +kernel
theorem dX10_book_39 : decode cX10_book 39 = .ok (.getfield 10, 3) := by decide +kernel
theorem dX10_book_42 : decode cX10_book 42 = .ok (.getfield 129, 3) := by decide +kernel
theorem dX10_book_45 : decode cX10_book 45 = .ok (.bipush 10, 2) := by decide +kernel
theorem dX10_book_47 : decode cX10_book 47 = .ok (.isub, 1) := by decide +kernel
theorem dX10_book_48 : decode cX10_book 48 = .ok (.ireturn, 1) := by decide +kernel
theorem dX10_fault_0 : decode cX10_fault 0 = .ok (.aload_n 0, 1) := by decide +kernel
theorem dX10_fault_1 : decode cX10_fault 1 = .ok (.getfield 10, 3) := by decide +kernel
theorem dX10_fault_4 : decode cX10_fault 4 = .ok (.getfield 180, 3) := by decide +kernel
theorem dX10_fault_7 : decode cX10_fault 7 = .ok (.ireturn, 1) := by decide +kernel
theorem dX10_undo_0 : decode cX10_undo 0 = .ok (.aload_n 0, 1) := by decide +kernel
theorem dX10_undo_1 : decode cX10_undo 1 = .ok (.getfield 67, 3) := by decide +kernel
theorem dX10_undo_4 : decode cX10_undo 4 = .ok (.getfield 183, 3) := by decide +kernel
theorem dX10_undo_7 : decode cX10_undo 7 = .ok (.ifCond .ne 5, 3) := by decide +kernel
theorem dX10_undo_10 : decode cX10_undo 10 = .ok (.iconst (-1), 1) := by decide +kernel
theorem dX10_undo_11 : decode cX10_undo 11 = .ok (.ireturn, 1) := by decide +kernel
theorem dX10_undo_12 : decode cX10_undo 12 = .ok (.aload_n 0, 1) := by decide +kernel
theorem dX10_undo_13 : decode cX10_undo 13 = .ok (.getfield 67, 3) := by decide +kernel
theorem dX10_undo_16 : decode cX10_undo 16 = .ok (.aload_n 0, 1) := by decide +kernel
theorem dX10_undo_17 : decode cX10_undo 17 = .ok (.getfield 50, 3) := by decide +kernel
theorem dX10_undo_20 : decode cX10_undo 20 = .ok (.invokevirtual 186, 3) := by decide +kernel
theorem dX10_undo_23 : decode cX10_undo 23 = .ok (.aload_n 0, 1) := by decide +kernel
theorem dX10_undo_24 : decode cX10_undo 24 = .ok (.iconst 0, 1) := by decide +kernel
theorem dX10_undo_25 : decode cX10_undo 25 = .ok (.putfield 139, 3) := by decide +kernel
theorem dX10_undo_28 : decode cX10_undo 28 = .ok (.aload_n 0, 1) := by decide +kernel
theorem dX10_undo_29 : decode cX10_undo 29 = .ok (.getfield 67, 3) := by decide +kernel
theorem dX10_undo_32 : decode cX10_undo 32 = .ok (.getfield 183, 3) := by decide +kernel
theorem dX10_undo_35 : decode cX10_undo 35 = .ok (.ireturn, 1) := by decide +kernel
theorem dX10_told_0 : decode cX10_told 0 = .ok (.aload_n 0, 1) := by decide +kernel
theorem dX10_told_1 : decode cX10_told 1 = .ok (.iload_n 1, 1) := by decide +kernel
theorem dX10_told_2 : decode cX10_told 2 = .ok (.ifCond .lt 13, 3) := by decide +kernel
theorem dX10_told_5 : decode cX10_told 5 = .ok (.iload_n 1, 1) := by decide +kernel
theorem dX10_told_6 : decode cX10_told 6 = .ok (.bipush 10, 2) := by decide +kernel
theorem dX10_told_8 : decode cX10_told 8 = .ok (.if_icmp .gt 7, 3) := by decide +kernel
theorem dX10_told_11 : decode cX10_told 11 = .ok (.iconst 1, 1) := by decide +kernel
theorem dX10_told_12 : decode cX10_told 12 = .ok (.goto 4, 3) := by decide +kernel
theorem dX10_told_15 : decode cX10_told 15 = .ok (.iconst 0, 1) := by decide +kernel
theorem dX10_told_16 : decode cX10_told 16 = .ok (.invokevirtual 146, 3) := by decide +kernel
theorem dX10_told_19 : decode cX10_told 19 = .ok (.iload_n 1, 1) := by decide +kernel
theorem dX10_told_20 : decode cX10_told 20 = .ok (.tableswitch 141 0 9 #[56, 64, 72, 80, 88, 104, 112, 120, 128, 136], 56) := by decide +kernel
theorem dX10_told_76 : decode cX10_told 76 = .ok (.aload_n 0, 1) := by decide +kernel
theorem dX10_told_77 : decode cX10_told 77 = .ok (.getfield 19, 3) := by decide +kernel
theorem dX10_told_80 : decode cX10_told 80 = .ok (.getfield 189, 3) := by decide +kernel
theorem dX10_told_83 : decode cX10_told 83 = .ok (.ireturn, 1) := by decide +kernel
theorem dX10_told_84 : decode cX10_told 84 = .ok (.aload_n 0, 1) := by decide +kernel
theorem dX10_told_85 : decode cX10_told 85 = .ok (.getfield 19, 3) := by decide +kernel
theorem dX10_told_88 : decode cX10_told 88 = .ok (.getfield 192, 3) := by decide +kernel
theorem dX10_told_91 : decode cX10_told 91 = .ok (.ireturn, 1) := by decide +kernel
theorem dX10_told_92 : decode cX10_told 92 = .ok (.aload_n 0, 1) := by decide +kernel
theorem dX10_told_93 : decode cX10_told 93 = .ok (.getfield 19, 3) := by decide +kernel
theorem dX10_told_96 : decode cX10_told 96 = .ok (.getfield 195, 3) := by decide +kernel
theorem dX10_told_99 : decode cX10_told 99 = .ok (.ireturn, 1) := by decide +kernel
theorem dX10_told_100 : decode cX10_told 100 = .ok (.aload_n 0, 1) := by decide +kernel
theorem dX10_told_101 : decode cX10_told 101 = .ok (.getfield 50, 3) := by decide +kernel
theorem dX10_told_104 : decode cX10_told 104 = .ok (.getfield 198, 3) := by decide +kernel
theorem dX10_told_107 : decode cX10_told 107 = .ok (.ireturn, 1) := by decide +kernel
theorem dX10_told_108 : decode cX10_told 108 = .ok (.aload_n 0, 1) := by decide +kernel
theorem dX10_told_109 : decode cX10_told 109 = .ok (.getfield 19, 3) := by decide +kernel
theorem dX10_told_112 : decode cX10_told 112 = .ok (.getfield 201, 3) := by decide +kernel
theorem dX10_told_115 : decode cX10_told 115 = .ok (.aload_n 0, 1) := by decide +kernel
theorem dX10_told_116 : decode cX10_told 116 = .ok (.getfield 50, 3) := by decide +kernel
theorem dX10_told_119 : decode cX10_told 119 = .ok (.getfield 204, 3) := by decide +kernel
theorem dX10_told_122 : decode cX10_told 122 = .ok (.isub, 1) := by decide +kernel
theorem dX10_told_123 : decode cX10_told 123 = .ok (.ireturn, 1) := by decide +kernel
theorem dX10_told_124 : decode cX10_told 124 = .ok (.aload_n 0, 1) := by decide +kernel
theorem dX10_told_125 : decode cX10_told 125 = .ok (.getfield 50, 3) := by decide +kernel
theorem dX10_told_128 : decode cX10_told 128 = .ok (.getfield 207, 3) := by decide +kernel
theorem dX10_told_131 : decode cX10_told 131 = .ok (.ireturn, 1) := by decide +kernel
theorem dX10_told_132 : decode cX10_told 132 = .ok (.aload_n 0, 1) := by decide +kernel
theorem dX10_told_133 : decode cX10_told 133 = .ok (.getfield 50, 3) := by decide +kernel
theorem dX10_told_136 : decode cX10_told 136 = .ok (.getfield 210, 3) := by decide +kernel
theorem dX10_told_139 : decode cX10_told 139 = .ok (.ireturn, 1) := by decide +kernel
theorem dX10_told_140 : decode cX10_told 140 = .ok (.aload_n 0, 1) := by decide +kernel
theorem dX10_told_141 : decode cX10_told 141 = .ok (.getfield 50, 3) := by decide +kernel
theorem dX10_told_144 : decode cX10_told 144 = .ok (.getfield 213, 3) := by decide +kernel
theorem dX10_told_147 : decode cX10_told 147 = .ok (.ireturn, 1) := by decide +kernel
theorem dX10_told_148 : decode cX10_told 148 = .ok (.aload_n 0, 1) := by decide +kernel
theorem dX10_told_149 : decode cX10_told 149 = .ok (.getfield 50, 3) := by decide +kernel
theorem dX10_told_152 : decode cX10_told 152 = .ok (.getfield 216, 3) := by decide +kernel
theorem dX10_told_155 : decode cX10_told 155 = .ok (.ireturn, 1) := by decide +kernel
theorem dX10_told_156 : decode cX10_told 156 = .ok (.aload_n 0, 1) := by decide +kernel
theorem dX10_told_157 : decode cX10_told 157 = .ok (.getfield 139, 3) := by decide +kernel
theorem dX10_told_160 : decode cX10_told 160 = .ok (.ireturn, 1) := by decide +kernel
theorem dX10_told_161 : decode cX10_told 161 = .ok (.aload_n 0, 1) := by decide +kernel
theorem dX10_told_162 : decode cX10_told 162 = .ok (.getfield 85, 3) := by decide +kernel
theorem dX10_told_165 : decode cX10_told 165 = .ok (.getfield 177, 3) := by decide +kernel
theorem dX10_told_168 : decode cX10_told 168 = .ok (.ireturn, 1) := by decide +kernel
theorem dX10_cell_0 : decode cX10_cell 0 = .ok (.aload_n 0, 1) := by decide +kernel
theorem dX10_cell_1 : decode cX10_cell 1 = .ok (.iload_n 1, 1) := by decide +kernel
theorem dX10_cell_2 : decode cX10_cell 2 = .ok (.iload_n 2, 1) := by decide +kernel
theorem dX10_cell_3 : decode cX10_cell 3 = .ok (.invokevirtual 219, 3) := by decide +kernel
theorem dX10_cell_6 : decode cX10_cell 6 = .ok (.istore 4, 2) := by decide +kernel
theorem dX10_cell_8 : decode cX10_cell 8 = .ok (.aload_n 0, 1) := by decide +kernel
theorem dX10_cell_9 : decode cX10_cell 9 = .ok (.iload_n 3, 1) := by decide +kernel
theorem dX10_cell_10 : decode cX10_cell 10 = .ok (.ifCond .lt 12, 3) := by decide +kernel
theorem dX10_cell_13 : decode cX10_cell 13 = .ok (.iload_n 3, 1) := by decide +kernel
theorem dX10_cell_14 : decode cX10_cell 14 = .ok (.iconst 3, 1) := by decide +kernel
theorem dX10_cell_15 : decode cX10_cell 15 = .ok (.if_icmp .gt 7, 3) := by decide +kernel
theorem dX10_cell_18 : decode cX10_cell 18 = .ok (.iconst 1, 1) := by decide +kernel
theorem dX10_cell_19 : decode cX10_cell 19 = .ok (.goto 4, 3) := by decide +kernel
theorem dX10_cell_22 : decode cX10_cell 22 = .ok (.iconst 0, 1) := by decide +kernel
theorem dX10_cell_23 : decode cX10_cell 23 = .ok (.invokevirtual 146, 3) := by decide +kernel
theorem dX10_cell_26 : decode cX10_cell 26 = .ok (.iload_n 3, 1) := by decide +kernel
theorem dX10_cell_27 : decode cX10_cell 27 = .ok (.tableswitch 57 0 2 #[25, 36, 47], 25) := by decide +kernel
theorem dX10_cell_52 : decode cX10_cell 52 = .ok (.aload_n 0, 1) := by decide +kernel
theorem dX10_cell_53 : decode cX10_cell 53 = .ok (.getfield 19, 3) := by decide +kernel
theorem dX10_cell_56 : decode cX10_cell 56 = .ok (.getfield 223, 3) := by decide +kernel
theorem dX10_cell_59 : decode cX10_cell 59 = .ok (.iload 4, 2) := by decide +kernel
theorem dX10_cell_61 : decode cX10_cell 61 = .ok (.iaload, 1) := by decide +kernel
theorem dX10_cell_62 : decode cX10_cell 62 = .ok (.ireturn, 1) := by decide +kernel
theorem dX10_cell_63 : decode cX10_cell 63 = .ok (.aload_n 0, 1) := by decide +kernel
theorem dX10_cell_64 : decode cX10_cell 64 = .ok (.getfield 19, 3) := by decide +kernel
theorem dX10_cell_67 : decode cX10_cell 67 = .ok (.getfield 226, 3) := by decide +kernel
theorem dX10_cell_70 : decode cX10_cell 70 = .ok (.iload 4, 2) := by decide +kernel
theorem dX10_cell_72 : decode cX10_cell 72 = .ok (.iaload, 1) := by decide +kernel
theorem dX10_cell_73 : decode cX10_cell 73 = .ok (.ireturn, 1) := by decide +kernel
theorem dX10_cell_74 : decode cX10_cell 74 = .ok (.aload_n 0, 1) := by decide +kernel
theorem dX10_cell_75 : decode cX10_cell 75 = .ok (.getfield 50, 3) := by decide +kernel
theorem dX10_cell_78 : decode cX10_cell 78 = .ok (.iload 4, 2) := by decide +kernel
theorem dX10_cell_80 : decode cX10_cell 80 = .ok (.invokevirtual 229, 3) := by decide +kernel
theorem dX10_cell_83 : decode cX10_cell 83 = .ok (.ireturn, 1) := by decide +kernel
theorem dX10_cell_84 : decode cX10_cell 84 = .ok (.aload_n 0, 1) := by decide +kernel
theorem dX10_cell_85 : decode cX10_cell 85 = .ok (.getfield 50, 3) := by decide +kernel
theorem dX10_cell_88 : decode cX10_cell 88 = .ok (.iload 4, 2) := by decide +kernel
theorem dX10_cell_90 : decode cX10_cell 90 = .ok (.invokevirtual 233, 3) := by decide +kernel
theorem dX10_cell_93 : decode cX10_cell 93 = .ok (.ireturn, 1) := by decide +kernel
theorem dX10_kind_0 : decode cX10_kind 0 = .ok (.aload_n 0, 1) := by decide +kernel
theorem dX10_kind_1 : decode cX10_kind 1 = .ok (.iload_n 1, 1) := by decide +kernel
theorem dX10_kind_2 : decode cX10_kind 2 = .ok (.invokestatic 236, 3) := by decide +kernel
theorem dX10_kind_5 : decode cX10_kind 5 = .ok (.ifCond .eq 16, 3) := by decide +kernel
theorem dX10_kind_8 : decode cX10_kind 8 = .ok (.iload_n 2, 1) := by decide +kernel
theorem dX10_kind_9 : decode cX10_kind 9 = .ok (.ifCond .lt 12, 3) := by decide +kernel
theorem dX10_kind_12 : decode cX10_kind 12 = .ok (.iload_n 2, 1) := by decide +kernel
theorem dX10_kind_13 : decode cX10_kind 13 = .ok (.iconst 4, 1) := by decide +kernel
theorem dX10_kind_14 : decode cX10_kind 14 = .ok (.if_icmp .gt 7, 3) := by decide +kernel
theorem dX10_kind_17 : decode cX10_kind 17 = .ok (.iconst 1, 1) := by decide +kernel
theorem dX10_kind_18 : decode cX10_kind 18 = .ok (.goto 4, 3) := by decide +kernel
theorem dX10_kind_21 : decode cX10_kind 21 = .ok (.iconst 0, 1) := by decide +kernel
theorem dX10_kind_22 : decode cX10_kind 22 = .ok (.invokevirtual 146, 3) := by decide +kernel
theorem dX10_kind_25 : decode cX10_kind 25 = .ok (.iload_n 2, 1) := by decide +kernel
theorem dX10_kind_26 : decode cX10_kind 26 = .ok (.tableswitch 69 0 3 #[30, 39, 49, 59], 30) := by decide +kernel
theorem dX10_kind_56 : decode cX10_kind 56 = .ok (.aload_n 0, 1) := by decide +kernel
theorem dX10_kind_57 : decode cX10_kind 57 = .ok (.getfield 50, 3) := by decide +kernel
theorem dX10_kind_60 : decode cX10_kind 60 = .ok (.iload_n 1, 1) := by decide +kernel
theorem dX10_kind_61 : decode cX10_kind 61 = .ok (.invokevirtual 240, 3) := by decide +kernel
theorem dX10_kind_64 : decode cX10_kind 64 = .ok (.ireturn, 1) := by decide +kernel
theorem dX10_kind_65 : decode cX10_kind 65 = .ok (.aload_n 0, 1) := by decide +kernel
theorem dX10_kind_66 : decode cX10_kind 66 = .ok (.getfield 50, 3) := by decide +kernel
theorem dX10_kind_69 : decode cX10_kind 69 = .ok (.getfield 243, 3) := by decide +kernel
theorem dX10_kind_72 : decode cX10_kind 72 = .ok (.iload_n 1, 1) := by decide +kernel
theorem dX10_kind_73 : decode cX10_kind 73 = .ok (.iaload, 1) := by decide +kernel
theorem dX10_kind_74 : decode cX10_kind 74 = .ok (.ireturn, 1) := by decide +kernel
theorem dX10_kind_75 : decode cX10_kind 75 = .ok (.aload_n 0, 1) := by decide +kernel
theorem dX10_kind_76 : decode cX10_kind 76 = .ok (.getfield 50, 3) := by decide +kernel
theorem dX10_kind_79 : decode cX10_kind 79 = .ok (.getfield 246, 3) := by decide +kernel
theorem dX10_kind_82 : decode cX10_kind 82 = .ok (.iload_n 1, 1) := by decide +kernel
theorem dX10_kind_83 : decode cX10_kind 83 = .ok (.iaload, 1) := by decide +kernel
theorem dX10_kind_84 : decode cX10_kind 84 = .ok (.ireturn, 1) := by decide +kernel
theorem dX10_kind_85 : decode cX10_kind 85 = .ok (.aload_n 0, 1) := by decide +kernel
theorem dX10_kind_86 : decode cX10_kind 86 = .ok (.getfield 50, 3) := by decide +kernel
theorem dX10_kind_89 : decode cX10_kind 89 = .ok (.getfield 249, 3) := by decide +kernel
theorem dX10_kind_92 : decode cX10_kind 92 = .ok (.iload_n 1, 1) := by decide +kernel
theorem dX10_kind_93 : decode cX10_kind 93 = .ok (.iaload, 1) := by decide +kernel
theorem dX10_kind_94 : decode cX10_kind 94 = .ok (.ireturn, 1) := by decide +kernel
theorem dX10_kind_95 : decode cX10_kind 95 = .ok (.aload_n 0, 1) := by decide +kernel
theorem dX10_kind_96 : decode cX10_kind 96 = .ok (.getfield 19, 3) := by decide +kernel
theorem dX10_kind_99 : decode cX10_kind 99 = .ok (.getfield 252, 3) := by decide +kernel
theorem dX10_kind_102 : decode cX10_kind 102 = .ok (.iload_n 1, 1) := by decide +kernel
theorem dX10_kind_103 : decode cX10_kind 103 = .ok (.iaload, 1) := by decide +kernel
theorem dX10_kind_104 : decode cX10_kind 104 = .ok (.ireturn, 1) := by decide +kernel
theorem dX10_order_0 : decode cX10_order 0 = .ok (.aload_n 0, 1) := by decide +kernel
theorem dX10_order_1 : decode cX10_order 1 = .ok (.iload_n 1, 1) := by decide +kernel
theorem dX10_order_2 : decode cX10_order 2 = .ok (.invokevirtual 255, 3) := by decide +kernel
theorem dX10_order_5 : decode cX10_order 5 = .ok (.aload_n 0, 1) := by decide +kernel
theorem dX10_order_6 : decode cX10_order 6 = .ok (.iload_n 2, 1) := by decide +kernel
theorem dX10_order_7 : decode cX10_order 7 = .ok (.ifCond .lt 12, 3) := by decide +kernel
theorem dX10_order_10 : decode cX10_order 10 = .ok (.iload_n 2, 1) := by decide +kernel
theorem dX10_order_11 : decode cX10_order 11 = .ok (.iconst 3, 1) := by decide +kernel
theorem dX10_order_12 : decode cX10_order 12 = .ok (.if_icmp .gt 7, 3) := by decide +kernel
theorem dX10_order_15 : decode cX10_order 15 = .ok (.iconst 1, 1) := by decide +kernel
theorem dX10_order_16 : decode cX10_order 16 = .ok (.goto 4, 3) := by decide +kernel
theorem dX10_order_19 : decode cX10_order 19 = .ok (.iconst 0, 1) := by decide +kernel
theorem dX10_order_20 : decode cX10_order 20 = .ok (.invokevirtual 146, 3) := by decide +kernel
theorem dX10_order_23 : decode cX10_order 23 = .ok (.iload_n 2, 1) := by decide +kernel
theorem dX10_order_24 : decode cX10_order 24 = .ok (.tableswitch 57 0 2 #[28, 38, 48], 28) := by decide +kernel
theorem dX10_order_52 : decode cX10_order 52 = .ok (.aload_n 0, 1) := by decide +kernel
theorem dX10_order_53 : decode cX10_order 53 = .ok (.getfield 19, 3) := by decide +kernel
theorem dX10_order_56 : decode cX10_order 56 = .ok (.getfield 258, 3) := by decide +kernel
theorem dX10_order_59 : decode cX10_order 59 = .ok (.iload_n 1, 1) := by decide +kernel
theorem dX10_order_60 : decode cX10_order 60 = .ok (.iaload, 1) := by decide +kernel
theorem dX10_order_61 : decode cX10_order 61 = .ok (.ireturn, 1) := by decide +kernel
theorem dX10_order_62 : decode cX10_order 62 = .ok (.aload_n 0, 1) := by decide +kernel
theorem dX10_order_63 : decode cX10_order 63 = .ok (.getfield 19, 3) := by decide +kernel
theorem dX10_order_66 : decode cX10_order 66 = .ok (.getfield 261, 3) := by decide +kernel
theorem dX10_order_69 : decode cX10_order 69 = .ok (.iload_n 1, 1) := by decide +kernel
theorem dX10_order_70 : decode cX10_order 70 = .ok (.iaload, 1) := by decide +kernel
theorem dX10_order_71 : decode cX10_order 71 = .ok (.ireturn, 1) := by decide +kernel
theorem dX10_order_72 : decode cX10_order 72 = .ok (.aload_n 0, 1) := by decide +kernel
theorem dX10_order_73 : decode cX10_order 73 = .ok (.getfield 19, 3) := by decide +kernel
theorem dX10_order_76 : decode cX10_order 76 = .ok (.iload_n 1, 1) := by decide +kernel
theorem dX10_order_77 : decode cX10_order 77 = .ok (.invokevirtual 264, 3) := by decide +kernel
theorem dX10_order_80 : decode cX10_order 80 = .ok (.ireturn, 1) := by decide +kernel
theorem dX10_order_81 : decode cX10_order 81 = .ok (.aload_n 0, 1) := by decide +kernel
theorem dX10_order_82 : decode cX10_order 82 = .ok (.getfield 50, 3) := by decide +kernel
theorem dX10_order_85 : decode cX10_order 85 = .ok (.getfield 267, 3) := by decide +kernel
theorem dX10_order_88 : decode cX10_order 88 = .ok (.iload_n 1, 1) := by decide +kernel
theorem dX10_order_89 : decode cX10_order 89 = .ok (.iaload, 1) := by decide +kernel
theorem dX10_order_90 : decode cX10_order 90 = .ok (.ireturn, 1) := by decide +kernel
theorem dX10_note_0 : decode cX10_note 0 = .ok (.aload_n 0, 1) := by decide +kernel
theorem dX10_note_1 : decode cX10_note 1 = .ok (.iload_n 1, 1) := by decide +kernel
theorem dX10_note_2 : decode cX10_note 2 = .ok (.invokevirtual 255, 3) := by decide +kernel
theorem dX10_note_5 : decode cX10_note 5 = .ok (.aload_n 0, 1) := by decide +kernel
theorem dX10_note_6 : decode cX10_note 6 = .ok (.iload_n 2, 1) := by decide +kernel
theorem dX10_note_7 : decode cX10_note 7 = .ok (.ifCond .lt 20, 3) := by decide +kernel
theorem dX10_note_10 : decode cX10_note 10 = .ok (.iload_n 2, 1) := by decide +kernel
theorem dX10_note_11 : decode cX10_note 11 = .ok (.aload_n 0, 1) := by decide +kernel
theorem dX10_note_12 : decode cX10_note 12 = .ok (.getfield 19, 3) := by decide +kernel
theorem dX10_note_15 : decode cX10_note 15 = .ok (.getfield 261, 3) := by decide +kernel
theorem dX10_note_18 : decode cX10_note 18 = .ok (.iload_n 1, 1) := by decide +kernel
theorem dX10_note_19 : decode cX10_note 19 = .ok (.iaload, 1) := by decide +kernel
theorem dX10_note_20 : decode cX10_note 20 = .ok (.if_icmp .ge 7, 3) := by decide +kernel
theorem dX10_note_23 : decode cX10_note 23 = .ok (.iconst 1, 1) := by decide +kernel
theorem dX10_note_24 : decode cX10_note 24 = .ok (.goto 4, 3) := by decide +kernel
theorem dX10_note_27 : decode cX10_note 27 = .ok (.iconst 0, 1) := by decide +kernel
theorem dX10_note_28 : decode cX10_note 28 = .ok (.invokevirtual 146, 3) := by decide +kernel
theorem dX10_note_31 : decode cX10_note 31 = .ok (.aload_n 0, 1) := by decide +kernel
theorem dX10_note_32 : decode cX10_note 32 = .ok (.getfield 19, 3) := by decide +kernel
theorem dX10_note_35 : decode cX10_note 35 = .ok (.getfield 270, 3) := by decide +kernel
theorem dX10_note_38 : decode cX10_note 38 = .ok (.iload_n 1, 1) := by decide +kernel
theorem dX10_note_39 : decode cX10_note 39 = .ok (.bipush 8, 2) := by decide +kernel
theorem dX10_note_41 : decode cX10_note 41 = .ok (.imul, 1) := by decide +kernel
theorem dX10_note_42 : decode cX10_note 42 = .ok (.iload_n 2, 1) := by decide +kernel
theorem dX10_note_43 : decode cX10_note 43 = .ok (.iadd, 1) := by decide +kernel
theorem dX10_note_44 : decode cX10_note 44 = .ok (.iaload, 1) := by decide +kernel
theorem dX10_note_45 : decode cX10_note 45 = .ok (.ireturn, 1) := by decide +kernel
theorem dX10_lacks_0 : decode cX10_lacks 0 = .ok (.aload_n 0, 1) := by decide +kernel
theorem dX10_lacks_1 : decode cX10_lacks 1 = .ok (.iload_n 1, 1) := by decide +kernel
theorem dX10_lacks_2 : decode cX10_lacks 2 = .ok (.invokevirtual 255, 3) := by decide +kernel
theorem dX10_lacks_5 : decode cX10_lacks 5 = .ok (.aload_n 0, 1) := by decide +kernel
theorem dX10_lacks_6 : decode cX10_lacks 6 = .ok (.getfield 50, 3) := by decide +kernel
theorem dX10_lacks_9 : decode cX10_lacks 9 = .ok (.iload_n 1, 1) := by decide +kernel
theorem dX10_lacks_10 : decode cX10_lacks 10 = .ok (.invokevirtual 273, 3) := by decide +kernel
theorem dX10_lacks_13 : decode cX10_lacks 13 = .ok (.ireturn, 1) := by decide +kernel
theorem dX10_can_0 : decode cX10_can 0 = .ok (.aload_n 0, 1) := by decide +kernel
theorem dX10_can_1 : decode cX10_can 1 = .ok (.getfield 50, 3) := by decide +kernel
theorem dX10_can_4 : decode cX10_can 4 = .ok (.aload_n 0, 1) := by decide +kernel
theorem dX10_can_5 : decode cX10_can 5 = .ok (.iload_n 1, 1) := by decide +kernel
theorem dX10_can_6 : decode cX10_can 6 = .ok (.iload_n 2, 1) := by decide +kernel
theorem dX10_can_7 : decode cX10_can 7 = .ok (.invokevirtual 219, 3) := by decide +kernel
theorem dX10_can_10 : decode cX10_can 10 = .ok (.invokevirtual 276, 3) := by decide +kernel
theorem dX10_can_13 : decode cX10_can 13 = .ok (.ireturn, 1) := by decide +kernel
theorem dX10_falls_0 : decode cX10_falls 0 = .ok (.aload_n 0, 1) := by decide +kernel
theorem dX10_falls_1 : decode cX10_falls 1 = .ok (.getfield 50, 3) := by decide +kernel
theorem dX10_falls_4 : decode cX10_falls 4 = .ok (.aload_n 0, 1) := by decide +kernel
theorem dX10_falls_5 : decode cX10_falls 5 = .ok (.iload_n 1, 1) := by decide +kernel
theorem dX10_falls_6 : decode cX10_falls 6 = .ok (.iload_n 2, 1) := by decide +kernel
theorem dX10_falls_7 : decode cX10_falls 7 = .ok (.invokevirtual 219, 3) := by decide +kernel
theorem dX10_falls_10 : decode cX10_falls 10 = .ok (.invokevirtual 279, 3) := by decide +kernel
theorem dX10_falls_13 : decode cX10_falls 13 = .ok (.ireturn, 1) := by decide +kernel
theorem dX10_risks_0 : decode cX10_risks 0 = .ok (.aload_n 0, 1) := by decide +kernel
theorem dX10_risks_1 : decode cX10_risks 1 = .ok (.iload_n 1, 1) := by decide +kernel
theorem dX10_risks_2 : decode cX10_risks 2 = .ok (.iload_n 2, 1) := by decide +kernel
theorem dX10_risks_3 : decode cX10_risks 3 = .ok (.invokevirtual 219, 3) := by decide +kernel
theorem dX10_risks_6 : decode cX10_risks 6 = .ok (.istore_n 3, 1) := by decide +kernel
theorem dX10_risks_7 : decode cX10_risks 7 = .ok (.aload_n 0, 1) := by decide +kernel
theorem dX10_risks_8 : decode cX10_risks 8 = .ok (.getfield 50, 3) := by decide +kernel
theorem dX10_risks_11 : decode cX10_risks 11 = .ok (.iload_n 3, 1) := by decide +kernel
theorem dX10_risks_12 : decode cX10_risks 12 = .ok (.invokevirtual 276, 3) := by decide +kernel
theorem dX10_risks_15 : decode cX10_risks 15 = .ok (.istore 4, 2) := by decide +kernel
theorem dX10_risks_17 : decode cX10_risks 17 = .ok (.iload 4, 2) := by decide +kernel
theorem dX10_risks_19 : decode cX10_risks 19 = .ok (.iconst 1, 1) := by decide +kernel
theorem dX10_risks_20 : decode cX10_risks 20 = .ok (.if_icmp .eq 9, 3) := by decide +kernel
theorem dX10_risks_23 : decode cX10_risks 23 = .ok (.iload 4, 2) := by decide +kernel
theorem dX10_risks_25 : decode cX10_risks 25 = .ok (.iconst 2, 1) := by decide +kernel
theorem dX10_risks_26 : decode cX10_risks 26 = .ok (.if_icmp .ne 5, 3) := by decide +kernel
theorem dX10_risks_29 : decode cX10_risks 29 = .ok (.iconst (-1), 1) := by decide +kernel
theorem dX10_risks_30 : decode cX10_risks 30 = .ok (.ireturn, 1) := by decide +kernel
theorem dX10_risks_31 : decode cX10_risks 31 = .ok (.aload_n 0, 1) := by decide +kernel
theorem dX10_risks_32 : decode cX10_risks 32 = .ok (.getfield 76, 3) := by decide +kernel
theorem dX10_risks_35 : decode cX10_risks 35 = .ok (.aload_n 0, 1) := by decide +kernel
theorem dX10_risks_36 : decode cX10_risks 36 = .ok (.getfield 50, 3) := by decide +kernel
theorem dX10_risks_39 : decode cX10_risks 39 = .ok (.iload_n 3, 1) := by decide +kernel
theorem dX10_risks_40 : decode cX10_risks 40 = .ok (.invokevirtual 282, 3) := by decide +kernel
theorem dX10_risks_43 : decode cX10_risks 43 = .ok (.ireturn, 1) := by decide +kernel
theorem dX10_harm_0 : decode cX10_harm 0 = .ok (.aload_n 0, 1) := by decide +kernel
theorem dX10_harm_1 : decode cX10_harm 1 = .ok (.getfield 50, 3) := by decide +kernel
theorem dX10_harm_4 : decode cX10_harm 4 = .ok (.aload_n 0, 1) := by decide +kernel
theorem dX10_harm_5 : decode cX10_harm 5 = .ok (.iload_n 1, 1) := by decide +kernel
theorem dX10_harm_6 : decode cX10_harm 6 = .ok (.iload_n 2, 1) := by decide +kernel
theorem dX10_harm_7 : decode cX10_harm 7 = .ok (.invokevirtual 219, 3) := by decide +kernel
theorem dX10_harm_10 : decode cX10_harm 10 = .ok (.invokevirtual 286, 3) := by decide +kernel
theorem dX10_harm_13 : decode cX10_harm 13 = .ok (.ireturn, 1) := by decide +kernel
theorem dX10_best_0 : decode cX10_best 0 = .ok (.aload_n 0, 1) := by decide +kernel
theorem dX10_best_1 : decode cX10_best 1 = .ok (.iload_n 1, 1) := by decide +kernel
theorem dX10_best_2 : decode cX10_best 2 = .ok (.ifCond .lt 19, 3) := by decide +kernel
theorem dX10_best_5 : decode cX10_best 5 = .ok (.iload_n 1, 1) := by decide +kernel
theorem dX10_best_6 : decode cX10_best 6 = .ok (.iconst 3, 1) := by decide +kernel
theorem dX10_best_7 : decode cX10_best 7 = .ok (.if_icmp .gt 14, 3) := by decide +kernel
theorem dX10_best_10 : decode cX10_best 10 = .ok (.iload_n 2, 1) := by decide +kernel
theorem dX10_best_11 : decode cX10_best 11 = .ok (.invokestatic 289, 3) := by decide +kernel
theorem dX10_best_14 : decode cX10_best 14 = .ok (.ifCond .eq 7, 3) := by decide +kernel
theorem dX10_best_17 : decode cX10_best 17 = .ok (.iconst 1, 1) := by decide +kernel
theorem dX10_best_18 : decode cX10_best 18 = .ok (.goto 4, 3) := by decide +kernel
theorem dX10_best_21 : decode cX10_best 21 = .ok (.iconst 0, 1) := by decide +kernel
theorem dX10_best_22 : decode cX10_best 22 = .ok (.invokevirtual 146, 3) := by decide +kernel
theorem dX10_best_25 : decode cX10_best 25 = .ok (.aload_n 0, 1) := by decide +kernel
theorem dX10_best_26 : decode cX10_best 26 = .ok (.getfield 76, 3) := by decide +kernel
theorem dX10_best_29 : decode cX10_best 29 = .ok (.aload_n 0, 1) := by decide +kernel
theorem dX10_best_30 : decode cX10_best 30 = .ok (.getfield 50, 3) := by decide +kernel
theorem dX10_best_33 : decode cX10_best 33 = .ok (.iload_n 1, 1) := by decide +kernel
theorem dX10_best_34 : decode cX10_best 34 = .ok (.invokevirtual 292, 3) := by decide +kernel
theorem dX10_best_37 : decode cX10_best 37 = .ok (.iload_n 2, 1) := by decide +kernel
theorem dX10_best_38 : decode cX10_best 38 = .ok (.ifCond .ne 14, 3) := by decide +kernel
theorem dX10_best_41 : decode cX10_best 41 = .ok (.aload_n 0, 1) := by decide +kernel
theorem dX10_best_42 : decode cX10_best 42 = .ok (.getfield 76, 3) := by decide +kernel
theorem dX10_best_45 : decode cX10_best 45 = .ok (.getfield 296, 3) := by decide +kernel
theorem dX10_best_48 : decode cX10_best 48 = .ok (.i2l, 1) := by decide +kernel
theorem dX10_best_49 : decode cX10_best 49 = .ok (.goto 10, 3) := by decide +kernel
theorem dX10_best_52 : decode cX10_best 52 = .ok (.aload_n 0, 1) := by decide +kernel
theorem dX10_best_53 : decode cX10_best 53 = .ok (.getfield 76, 3) := by decide +kernel
theorem dX10_best_56 : decode cX10_best 56 = .ok (.getfield 299, 3) := by decide +kernel
theorem dX10_best_59 : decode cX10_best 59 = .ok (.lreturn, 1) := by decide +kernel
theorem dX10_way_0 : decode cX10_way 0 = .ok (.aload_n 0, 1) := by decide +kernel
theorem dX10_way_1 : decode cX10_way 1 = .ok (.iload_n 1, 1) := by decide +kernel
theorem dX10_way_2 : decode cX10_way 2 = .ok (.iload_n 2, 1) := by decide +kernel
theorem dX10_way_3 : decode cX10_way 3 = .ok (.invokevirtual 219, 3) := by decide +kernel
theorem dX10_way_6 : decode cX10_way 6 = .ok (.istore 4, 2) := by decide +kernel
theorem dX10_way_8 : decode cX10_way 8 = .ok (.aload_n 0, 1) := by decide +kernel
theorem dX10_way_9 : decode cX10_way 9 = .ok (.iload_n 3, 1) := by decide +kernel
theorem dX10_way_10 : decode cX10_way 10 = .ok (.invokestatic 289, 3) := by decide +kernel
theorem dX10_way_13 : decode cX10_way 13 = .ok (.invokevirtual 146, 3) := by decide +kernel
theorem dX10_way_16 : decode cX10_way 16 = .ok (.aload_n 0, 1) := by decide +kernel
theorem dX10_way_17 : decode cX10_way 17 = .ok (.getfield 76, 3) := by decide +kernel
theorem dX10_way_20 : decode cX10_way 20 = .ok (.aload_n 0, 1) := by decide +kernel
theorem dX10_way_21 : decode cX10_way 21 = .ok (.getfield 50, 3) := by decide +kernel
theorem dX10_way_24 : decode cX10_way 24 = .ok (.iload 4, 2) := by decide +kernel
theorem dX10_way_26 : decode cX10_way 26 = .ok (.iload_n 3, 1) := by decide +kernel
theorem dX10_way_27 : decode cX10_way 27 = .ok (.iconst 1, 1) := by decide +kernel
theorem dX10_way_28 : decode cX10_way 28 = .ok (.if_icmp .ne 7, 3) := by decide +kernel
theorem dX10_way_31 : decode cX10_way 31 = .ok (.iconst 1, 1) := by decide +kernel
theorem dX10_way_32 : decode cX10_way 32 = .ok (.goto 4, 3) := by decide +kernel
theorem dX10_way_35 : decode cX10_way 35 = .ok (.iconst 0, 1) := by decide +kernel
theorem dX10_way_36 : decode cX10_way 36 = .ok (.invokevirtual 303, 3) := by decide +kernel
theorem dX10_way_39 : decode cX10_way 39 = .ok (.ireturn, 1) := by decide +kernel
theorem dX10_hold_0 : decode cX10_hold 0 = .ok (.aload_n 0, 1) := by decide +kernel
theorem dX10_hold_1 : decode cX10_hold 1 = .ok (.iload_n 1, 1) := by decide +kernel
theorem dX10_hold_2 : decode cX10_hold 2 = .ok (.invokestatic 289, 3) := by decide +kernel
theorem dX10_hold_5 : decode cX10_hold 5 = .ok (.invokevirtual 146, 3) := by decide +kernel
theorem dX10_hold_8 : decode cX10_hold 8 = .ok (.aload_n 0, 1) := by decide +kernel
theorem dX10_hold_9 : decode cX10_hold 9 = .ok (.getfield 76, 3) := by decide +kernel
theorem dX10_hold_12 : decode cX10_hold 12 = .ok (.aload_n 0, 1) := by decide +kernel
theorem dX10_hold_13 : decode cX10_hold 13 = .ok (.getfield 50, 3) := by decide +kernel
theorem dX10_hold_16 : decode cX10_hold 16 = .ok (.iload_n 1, 1) := by decide +kernel
theorem dX10_hold_17 : decode cX10_hold 17 = .ok (.iconst 1, 1) := by decide +kernel
theorem dX10_hold_18 : decode cX10_hold 18 = .ok (.if_icmp .ne 7, 3) := by decide +kernel
theorem dX10_hold_21 : decode cX10_hold 21 = .ok (.iconst 1, 1) := by decide +kernel
theorem dX10_hold_22 : decode cX10_hold 22 = .ok (.goto 4, 3) := by decide +kernel
theorem dX10_hold_25 : decode cX10_hold 25 = .ok (.iconst 0, 1) := by decide +kernel
theorem dX10_hold_26 : decode cX10_hold 26 = .ok (.invokevirtual 307, 3) := by decide +kernel
theorem dX10_hold_29 : decode cX10_hold 29 = .ok (.lreturn, 1) := by decide +kernel
theorem dX10_fill_0 : decode cX10_fill 0 = .ok (.aload_n 0, 1) := by decide +kernel
theorem dX10_fill_1 : decode cX10_fill 1 = .ok (.iload_n 1, 1) := by decide +kernel
theorem dX10_fill_2 : decode cX10_fill 2 = .ok (.invokestatic 289, 3) := by decide +kernel
theorem dX10_fill_5 : decode cX10_fill 5 = .ok (.invokevirtual 146, 3) := by decide +kernel
theorem dX10_fill_8 : decode cX10_fill 8 = .ok (.aload_n 0, 1) := by decide +kernel
theorem dX10_fill_9 : decode cX10_fill 9 = .ok (.getfield 76, 3) := by decide +kernel
theorem dX10_fill_12 : decode cX10_fill 12 = .ok (.aload_n 0, 1) := by decide +kernel
theorem dX10_fill_13 : decode cX10_fill 13 = .ok (.getfield 50, 3) := by decide +kernel
theorem dX10_fill_16 : decode cX10_fill 16 = .ok (.iload_n 1, 1) := by decide +kernel
theorem dX10_fill_17 : decode cX10_fill 17 = .ok (.iconst 1, 1) := by decide +kernel
theorem dX10_fill_18 : decode cX10_fill 18 = .ok (.if_icmp .ne 7, 3) := by decide +kernel
theorem dX10_fill_21 : decode cX10_fill 21 = .ok (.iconst 1, 1) := by decide +kernel
theorem dX10_fill_22 : decode cX10_fill 22 = .ok (.goto 4, 3) := by decide +kernel
theorem dX10_fill_25 : decode cX10_fill 25 = .ok (.iconst 0, 1) := by decide +kernel
theorem dX10_fill_26 : decode cX10_fill 26 = .ok (.invokevirtual 311, 3) := by decide +kernel
theorem dX10_fill_29 : decode cX10_fill 29 = .ok (.ireturn, 1) := by decide +kernel
theorem dX10_tap_0 : decode cX10_tap 0 = .ok (.aload_n 0, 1) := by decide +kernel
theorem dX10_tap_1 : decode cX10_tap 1 = .ok (.aload_n 0, 1) := by decide +kernel
theorem dX10_tap_2 : decode cX10_tap 2 = .ok (.iload_n 1, 1) := by decide +kernel
theorem dX10_tap_3 : decode cX10_tap 3 = .ok (.invokevirtual 315, 3) := by decide +kernel
theorem dX10_tap_6 : decode cX10_tap 6 = .ok (.invokevirtual 146, 3) := by decide +kernel
theorem dX10_tap_9 : decode cX10_tap 9 = .ok (.aload_n 0, 1) := by decide +kernel
theorem dX10_tap_10 : decode cX10_tap 10 = .ok (.getfield 85, 3) := by decide +kernel
theorem dX10_tap_13 : decode cX10_tap 13 = .ok (.iload_n 1, 1) := by decide +kernel
theorem dX10_tap_14 : decode cX10_tap 14 = .ok (.iconst 0, 1) := by decide +kernel
theorem dX10_tap_15 : decode cX10_tap 15 = .ok (.invokevirtual 318, 3) := by decide +kernel
theorem dX10_tap_18 : decode cX10_tap 18 = .ok (.ireturn, 1) := by decide +kernel
theorem dX10_moved_0 : decode cX10_moved 0 = .ok (.aload_n 0, 1) := by decide +kernel
theorem dX10_moved_1 : decode cX10_moved 1 = .ok (.aload_n 0, 1) := by decide +kernel
theorem dX10_moved_2 : decode cX10_moved 2 = .ok (.iload_n 1, 1) := by decide +kernel
theorem dX10_moved_3 : decode cX10_moved 3 = .ok (.invokevirtual 315, 3) := by decide +kernel
theorem dX10_moved_6 : decode cX10_moved 6 = .ok (.ifCond .eq 19, 3) := by decide +kernel
theorem dX10_moved_9 : decode cX10_moved 9 = .ok (.iload_n 2, 1) := by decide +kernel
theorem dX10_moved_10 : decode cX10_moved 10 = .ok (.bipush (-7), 2) := by decide +kernel
theorem dX10_moved_12 : decode cX10_moved 12 = .ok (.if_icmp .lt 13, 3) := by decide +kernel
theorem dX10_moved_15 : decode cX10_moved 15 = .ok (.iload_n 2, 1) := by decide +kernel
theorem dX10_moved_16 : decode cX10_moved 16 = .ok (.bipush 7, 2) := by decide +kernel
theorem dX10_moved_18 : decode cX10_moved 18 = .ok (.if_icmp .gt 7, 3) := by decide +kernel
theorem dX10_moved_21 : decode cX10_moved 21 = .ok (.iconst 1, 1) := by decide +kernel
theorem dX10_moved_22 : decode cX10_moved 22 = .ok (.goto 4, 3) := by decide +kernel
theorem dX10_moved_25 : decode cX10_moved 25 = .ok (.iconst 0, 1) := by decide +kernel
theorem dX10_moved_26 : decode cX10_moved 26 = .ok (.invokevirtual 146, 3) := by decide +kernel
theorem dX10_moved_29 : decode cX10_moved 29 = .ok (.aload_n 0, 1) := by decide +kernel
theorem dX10_moved_30 : decode cX10_moved 30 = .ok (.getfield 85, 3) := by decide +kernel
theorem dX10_moved_33 : decode cX10_moved 33 = .ok (.iload_n 1, 1) := by decide +kernel
theorem dX10_moved_34 : decode cX10_moved 34 = .ok (.iload_n 2, 1) := by decide +kernel
theorem dX10_moved_35 : decode cX10_moved 35 = .ok (.invokevirtual 318, 3) := by decide +kernel
theorem dX10_moved_38 : decode cX10_moved 38 = .ok (.ireturn, 1) := by decide +kernel
theorem dX10_fits_0 : decode cX10_fits 0 = .ok (.aload_n 0, 1) := by decide +kernel
theorem dX10_fits_1 : decode cX10_fits 1 = .ok (.getfield 85, 3) := by decide +kernel
theorem dX10_fits_4 : decode cX10_fits 4 = .ok (.invokevirtual 321, 3) := by decide +kernel
theorem dX10_fits_7 : decode cX10_fits 7 = .ok (.ireturn, 1) := by decide +kernel
theorem dX10_next_0 : decode cX10_next 0 = .ok (.aload_n 0, 1) := by decide +kernel
theorem dX10_next_1 : decode cX10_next 1 = .ok (.iload_n 1, 1) := by decide +kernel
theorem dX10_next_2 : decode cX10_next 2 = .ok (.invokestatic 289, 3) := by decide +kernel
theorem dX10_next_5 : decode cX10_next 5 = .ok (.invokevirtual 146, 3) := by decide +kernel
theorem dX10_next_8 : decode cX10_next 8 = .ok (.aload_n 0, 1) := by decide +kernel
theorem dX10_next_9 : decode cX10_next 9 = .ok (.getfield 85, 3) := by decide +kernel
theorem dX10_next_12 : decode cX10_next 12 = .ok (.iload_n 1, 1) := by decide +kernel
theorem dX10_next_13 : decode cX10_next 13 = .ok (.iconst 1, 1) := by decide +kernel
theorem dX10_next_14 : decode cX10_next 14 = .ok (.if_icmp .ne 7, 3) := by decide +kernel
theorem dX10_next_17 : decode cX10_next 17 = .ok (.iconst 1, 1) := by decide +kernel
theorem dX10_next_18 : decode cX10_next 18 = .ok (.goto 4, 3) := by decide +kernel
theorem dX10_next_21 : decode cX10_next 21 = .ok (.iconst 0, 1) := by decide +kernel
theorem dX10_next_22 : decode cX10_next 22 = .ok (.invokevirtual 324, 3) := by decide +kernel
theorem dX10_next_25 : decode cX10_next 25 = .ok (.ireturn, 1) := by decide +kernel
theorem dX10_canon_0 : decode cX10_canon 0 = .ok (.aload_n 0, 1) := by decide +kernel
theorem dX10_canon_1 : decode cX10_canon 1 = .ok (.aload_n 0, 1) := by decide +kernel
theorem dX10_canon_2 : decode cX10_canon 2 = .ok (.iload_n 1, 1) := by decide +kernel
theorem dX10_canon_3 : decode cX10_canon 3 = .ok (.invokevirtual 315, 3) := by decide +kernel
theorem dX10_canon_6 : decode cX10_canon 6 = .ok (.ifCond .eq 22, 3) := by decide +kernel
theorem dX10_canon_9 : decode cX10_canon 9 = .ok (.aload_n 0, 1) := by decide +kernel
theorem dX10_canon_10 : decode cX10_canon 10 = .ok (.iload_n 2, 1) := by decide +kernel
theorem dX10_canon_11 : decode cX10_canon 11 = .ok (.invokevirtual 315, 3) := by decide +kernel
theorem dX10_canon_14 : decode cX10_canon 14 = .ok (.ifCond .eq 14, 3) := by decide +kernel
theorem dX10_canon_17 : decode cX10_canon 17 = .ok (.iload_n 3, 1) := by decide +kernel
theorem dX10_canon_18 : decode cX10_canon 18 = .ok (.invokestatic 289, 3) := by decide +kernel
theorem dX10_canon_21 : decode cX10_canon 21 = .ok (.ifCond .eq 7, 3) := by decide +kernel
theorem dX10_canon_24 : decode cX10_canon 24 = .ok (.iconst 1, 1) := by decide +kernel
theorem dX10_canon_25 : decode cX10_canon 25 = .ok (.goto 4, 3) := by decide +kernel
theorem dX10_canon_28 : decode cX10_canon 28 = .ok (.iconst 0, 1) := by decide +kernel
theorem dX10_canon_29 : decode cX10_canon 29 = .ok (.invokevirtual 146, 3) := by decide +kernel
theorem dX10_canon_32 : decode cX10_canon 32 = .ok (.aload_n 0, 1) := by decide +kernel
theorem dX10_canon_33 : decode cX10_canon 33 = .ok (.getfield 85, 3) := by decide +kernel
theorem dX10_canon_36 : decode cX10_canon 36 = .ok (.iload_n 1, 1) := by decide +kernel
theorem dX10_canon_37 : decode cX10_canon 37 = .ok (.iload_n 2, 1) := by decide +kernel
theorem dX10_canon_38 : decode cX10_canon 38 = .ok (.iload_n 3, 1) := by decide +kernel
theorem dX10_canon_39 : decode cX10_canon 39 = .ok (.iconst 1, 1) := by decide +kernel
theorem dX10_canon_40 : decode cX10_canon 40 = .ok (.if_icmp .ne 7, 3) := by decide +kernel
theorem dX10_canon_43 : decode cX10_canon 43 = .ok (.iconst 1, 1) := by decide +kernel
theorem dX10_canon_44 : decode cX10_canon 44 = .ok (.goto 4, 3) := by decide +kernel
theorem dX10_canon_47 : decode cX10_canon 47 = .ok (.iconst 0, 1) := by decide +kernel
theorem dX10_canon_48 : decode cX10_canon 48 = .ok (.invokevirtual 328, 3) := by decide +kernel
theorem dX10_canon_51 : decode cX10_canon 51 = .ok (.ireturn, 1) := by decide +kernel
theorem dX10_owners_0 : decode cX10_owners 0 = .ok (.aload_n 0, 1) := by decide +kernel
theorem dX10_owners_1 : decode cX10_owners 1 = .ok (.iload_n 1, 1) := by decide +kernel
theorem dX10_owners_2 : decode cX10_owners 2 = .ok (.invokestatic 236, 3) := by decide +kernel
theorem dX10_owners_5 : decode cX10_owners 5 = .ok (.ifCond .eq 26, 3) := by decide +kernel
theorem dX10_owners_8 : decode cX10_owners 8 = .ok (.iload_n 2, 1) := by decide +kernel
theorem dX10_owners_9 : decode cX10_owners 9 = .ok (.ifCond .lt 22, 3) := by decide +kernel
theorem dX10_owners_12 : decode cX10_owners 12 = .ok (.iload_n 2, 1) := by decide +kernel
theorem dX10_owners_13 : decode cX10_owners 13 = .ok (.bipush 20, 2) := by decide +kernel
theorem dX10_owners_15 : decode cX10_owners 15 = .ok (.if_icmp .gt 16, 3) := by decide +kernel
theorem dX10_owners_18 : decode cX10_owners 18 = .ok (.iload_n 3, 1) := by decide +kernel
theorem dX10_owners_19 : decode cX10_owners 19 = .ok (.ifCond .lt 12, 3) := by decide +kernel
theorem dX10_owners_22 : decode cX10_owners 22 = .ok (.iload_n 3, 1) := by decide +kernel
theorem dX10_owners_23 : decode cX10_owners 23 = .ok (.iconst 2, 1) := by decide +kernel
theorem dX10_owners_24 : decode cX10_owners 24 = .ok (.if_icmp .gt 7, 3) := by decide +kernel
theorem dX10_owners_27 : decode cX10_owners 27 = .ok (.iconst 1, 1) := by decide +kernel
theorem dX10_owners_28 : decode cX10_owners 28 = .ok (.goto 4, 3) := by decide +kernel
theorem dX10_owners_31 : decode cX10_owners 31 = .ok (.iconst 0, 1) := by decide +kernel
theorem dX10_owners_32 : decode cX10_owners 32 = .ok (.invokevirtual 146, 3) := by decide +kernel
theorem dX10_owners_35 : decode cX10_owners 35 = .ok (.aload_n 0, 1) := by decide +kernel
theorem dX10_owners_36 : decode cX10_owners 36 = .ok (.getfield 101, 3) := by decide +kernel
theorem dX10_owners_39 : decode cX10_owners 39 = .ok (.aload_n 0, 1) := by decide +kernel
theorem dX10_owners_40 : decode cX10_owners 40 = .ok (.getfield 19, 3) := by decide +kernel
theorem dX10_owners_43 : decode cX10_owners 43 = .ok (.getfield 252, 3) := by decide +kernel
theorem dX10_owners_46 : decode cX10_owners 46 = .ok (.iload_n 1, 1) := by decide +kernel
theorem dX10_owners_47 : decode cX10_owners 47 = .ok (.iaload, 1) := by decide +kernel
theorem dX10_owners_48 : decode cX10_owners 48 = .ok (.iload_n 2, 1) := by decide +kernel
theorem dX10_owners_49 : decode cX10_owners 49 = .ok (.invokevirtual 332, 3) := by decide +kernel
theorem dX10_owners_52 : decode cX10_owners 52 = .ok (.iload_n 3, 1) := by decide +kernel
theorem dX10_owners_53 : decode cX10_owners 53 = .ok (.lookupswitch 43 #[(0, 27), (1, 35)], 27) := by decide +kernel
theorem dX10_owners_80 : decode cX10_owners 80 = .ok (.aload_n 0, 1) := by decide +kernel
theorem dX10_owners_81 : decode cX10_owners 81 = .ok (.getfield 101, 3) := by decide +kernel
theorem dX10_owners_84 : decode cX10_owners 84 = .ok (.getfield 335, 3) := by decide +kernel
theorem dX10_owners_87 : decode cX10_owners 87 = .ok (.ireturn, 1) := by decide +kernel
theorem dX10_owners_88 : decode cX10_owners 88 = .ok (.aload_n 0, 1) := by decide +kernel
theorem dX10_owners_89 : decode cX10_owners 89 = .ok (.getfield 101, 3) := by decide +kernel
theorem dX10_owners_92 : decode cX10_owners 92 = .ok (.getfield 338, 3) := by decide +kernel
theorem dX10_owners_95 : decode cX10_owners 95 = .ok (.ireturn, 1) := by decide +kernel
theorem dX10_owners_96 : decode cX10_owners 96 = .ok (.aload_n 0, 1) := by decide +kernel
theorem dX10_owners_97 : decode cX10_owners 97 = .ok (.getfield 101, 3) := by decide +kernel
theorem dX10_owners_100 : decode cX10_owners 100 = .ok (.getfield 341, 3) := by decide +kernel
theorem dX10_owners_103 : decode cX10_owners 103 = .ok (.ireturn, 1) := by decide +kernel
theorem dX10_face_0 : decode cX10_face 0 = .ok (.aload_n 0, 1) := by decide +kernel
theorem dX10_face_1 : decode cX10_face 1 = .ok (.iload_n 1, 1) := by decide +kernel
theorem dX10_face_2 : decode cX10_face 2 = .ok (.invokestatic 236, 3) := by decide +kernel
theorem dX10_face_5 : decode cX10_face 5 = .ok (.ifCond .eq 14, 3) := by decide +kernel
theorem dX10_face_8 : decode cX10_face 8 = .ok (.iload_n 2, 1) := by decide +kernel
theorem dX10_face_9 : decode cX10_face 9 = .ok (.invokestatic 289, 3) := by decide +kernel
theorem dX10_face_12 : decode cX10_face 12 = .ok (.ifCond .eq 7, 3) := by decide +kernel
theorem dX10_face_15 : decode cX10_face 15 = .ok (.iconst 1, 1) := by decide +kernel
theorem dX10_face_16 : decode cX10_face 16 = .ok (.goto 4, 3) := by decide +kernel
theorem dX10_face_19 : decode cX10_face 19 = .ok (.iconst 0, 1) := by decide +kernel
theorem dX10_face_20 : decode cX10_face 20 = .ok (.invokevirtual 146, 3) := by decide +kernel
theorem dX10_face_23 : decode cX10_face 23 = .ok (.aload_n 0, 1) := by decide +kernel
theorem dX10_face_24 : decode cX10_face 24 = .ok (.getfield 50, 3) := by decide +kernel
theorem dX10_face_27 : decode cX10_face 27 = .ok (.iload_n 1, 1) := by decide +kernel
theorem dX10_face_28 : decode cX10_face 28 = .ok (.iload_n 2, 1) := by decide +kernel
theorem dX10_face_29 : decode cX10_face 29 = .ok (.iconst 1, 1) := by decide +kernel
theorem dX10_face_30 : decode cX10_face 30 = .ok (.if_icmp .ne 7, 3) := by decide +kernel
theorem dX10_face_33 : decode cX10_face 33 = .ok (.iconst 1, 1) := by decide +kernel
theorem dX10_face_34 : decode cX10_face 34 = .ok (.goto 4, 3) := by decide +kernel
theorem dX10_face_37 : decode cX10_face 37 = .ok (.iconst 0, 1) := by decide +kernel
theorem dX10_face_38 : decode cX10_face 38 = .ok (.invokevirtual 344, 3) := by decide +kernel
theorem dX10_face_41 : decode cX10_face 41 = .ok (.ireturn, 1) := by decide +kernel
theorem dX10_level_0 : decode cX10_level 0 = .ok (.aload_n 0, 1) := by decide +kernel
theorem dX10_level_1 : decode cX10_level 1 = .ok (.getfield 50, 3) := by decide +kernel
theorem dX10_level_4 : decode cX10_level 4 = .ok (.invokevirtual 348, 3) := by decide +kernel
theorem dX10_level_7 : decode cX10_level 7 = .ok (.ireturn, 1) := by decide +kernel
theorem dX10_pick_0 : decode cX10_pick 0 = .ok (.aload_n 0, 1) := by decide +kernel
theorem dX10_pick_1 : decode cX10_pick 1 = .ok (.getfield 50, 3) := by decide +kernel
theorem dX10_pick_4 : decode cX10_pick 4 = .ok (.invokevirtual 351, 3) := by decide +kernel
theorem dX10_pick_7 : decode cX10_pick 7 = .ok (.ireturn, 1) := by decide +kernel
theorem dX10_decade_0 : decode cX10_decade 0 = .ok (.aload_n 0, 1) := by decide +kernel
theorem dX10_decade_1 : decode cX10_decade 1 = .ok (.iload_n 2, 1) := by decide +kernel
theorem dX10_decade_2 : decode cX10_decade 2 = .ok (.iload_n 3, 1) := by decide +kernel
theorem dX10_decade_3 : decode cX10_decade 3 = .ok (.invokestatic 354, 3) := by decide +kernel
theorem dX10_decade_6 : decode cX10_decade 6 = .ok (.ifCond .eq 18, 3) := by decide +kernel
theorem dX10_decade_9 : decode cX10_decade 9 = .ok (.iload 4, 2) := by decide +kernel
theorem dX10_decade_11 : decode cX10_decade 11 = .ok (.ifCond .lt 13, 3) := by decide +kernel
theorem dX10_decade_14 : decode cX10_decade 14 = .ok (.iload 4, 2) := by decide +kernel
theorem dX10_decade_16 : decode cX10_decade 16 = .ok (.iconst 3, 1) := by decide +kernel
theorem dX10_decade_17 : decode cX10_decade 17 = .ok (.if_icmp .gt 7, 3) := by decide +kernel
theorem dX10_decade_20 : decode cX10_decade 20 = .ok (.iconst 1, 1) := by decide +kernel
theorem dX10_decade_21 : decode cX10_decade 21 = .ok (.goto 4, 3) := by decide +kernel
theorem dX10_decade_24 : decode cX10_decade 24 = .ok (.iconst 0, 1) := by decide +kernel
theorem dX10_decade_25 : decode cX10_decade 25 = .ok (.invokevirtual 146, 3) := by decide +kernel
theorem dX10_decade_28 : decode cX10_decade 28 = .ok (.aload_n 0, 1) := by decide +kernel
theorem dX10_decade_29 : decode cX10_decade 29 = .ok (.getfield 94, 3) := by decide +kernel
theorem dX10_decade_32 : decode cX10_decade 32 = .ok (.aload_n 0, 1) := by decide +kernel
theorem dX10_decade_33 : decode cX10_decade 33 = .ok (.getfield 50, 3) := by decide +kernel
theorem dX10_decade_36 : decode cX10_decade 36 = .ok (.iload_n 1, 1) := by decide +kernel
theorem dX10_decade_37 : decode cX10_decade 37 = .ok (.iload_n 2, 1) := by decide +kernel
theorem dX10_decade_38 : decode cX10_decade 38 = .ok (.iload_n 3, 1) := by decide +kernel
theorem dX10_decade_39 : decode cX10_decade 39 = .ok (.invokevirtual 358, 3) := by decide +kernel
theorem dX10_decade_42 : decode cX10_decade 42 = .ok (.iload 4, 2) := by decide +kernel
theorem dX10_decade_44 : decode cX10_decade 44 = .ok (.tableswitch 52 0 2 #[28, 36, 44], 28) := by decide +kernel
theorem dX10_decade_72 : decode cX10_decade 72 = .ok (.aload_n 0, 1) := by decide +kernel
theorem dX10_decade_73 : decode cX10_decade 73 = .ok (.getfield 94, 3) := by decide +kernel
theorem dX10_decade_76 : decode cX10_decade 76 = .ok (.getfield 362, 3) := by decide +kernel
theorem dX10_decade_79 : decode cX10_decade 79 = .ok (.ireturn, 1) := by decide +kernel
theorem dX10_decade_80 : decode cX10_decade 80 = .ok (.aload_n 0, 1) := by decide +kernel
theorem dX10_decade_81 : decode cX10_decade 81 = .ok (.getfield 94, 3) := by decide +kernel
theorem dX10_decade_84 : decode cX10_decade 84 = .ok (.getfield 364, 3) := by decide +kernel
theorem dX10_decade_87 : decode cX10_decade 87 = .ok (.ireturn, 1) := by decide +kernel
theorem dX10_decade_88 : decode cX10_decade 88 = .ok (.aload_n 0, 1) := by decide +kernel
theorem dX10_decade_89 : decode cX10_decade 89 = .ok (.getfield 94, 3) := by decide +kernel
theorem dX10_decade_92 : decode cX10_decade 92 = .ok (.getfield 367, 3) := by decide +kernel
theorem dX10_decade_95 : decode cX10_decade 95 = .ok (.ireturn, 1) := by decide +kernel
theorem dX10_decade_96 : decode cX10_decade 96 = .ok (.aload_n 0, 1) := by decide +kernel
theorem dX10_decade_97 : decode cX10_decade 97 = .ok (.getfield 94, 3) := by decide +kernel
theorem dX10_decade_100 : decode cX10_decade 100 = .ok (.getfield 370, 3) := by decide +kernel
theorem dX10_decade_103 : decode cX10_decade 103 = .ok (.ireturn, 1) := by decide +kernel
theorem dX10_span_0 : decode cX10_span 0 = .ok (.aload_n 0, 1) := by decide +kernel
theorem dX10_span_1 : decode cX10_span 1 = .ok (.iload_n 2, 1) := by decide +kernel
theorem dX10_span_2 : decode cX10_span 2 = .ok (.iconst 1, 1) := by decide +kernel
theorem dX10_span_3 : decode cX10_span 3 = .ok (.if_icmp .lt 33, 3) := by decide +kernel
theorem dX10_span_6 : decode cX10_span 6 = .ok (.iload_n 2, 1) := by decide +kernel
theorem dX10_span_7 : decode cX10_span 7 = .ok (.bipush 20, 2) := by decide +kernel
theorem dX10_span_9 : decode cX10_span 9 = .ok (.if_icmp .gt 27, 3) := by decide +kernel
theorem dX10_span_12 : decode cX10_span 12 = .ok (.iload_n 3, 1) := by decide +kernel
theorem dX10_span_13 : decode cX10_span 13 = .ok (.iload 4, 2) := by decide +kernel
theorem dX10_span_15 : decode cX10_span 15 = .ok (.invokestatic 354, 3) := by decide +kernel
theorem dX10_span_18 : decode cX10_span 18 = .ok (.ifCond .eq 18, 3) := by decide +kernel
theorem dX10_span_21 : decode cX10_span 21 = .ok (.iload 5, 2) := by decide +kernel
theorem dX10_span_23 : decode cX10_span 23 = .ok (.ifCond .lt 13, 3) := by decide +kernel
theorem dX10_span_26 : decode cX10_span 26 = .ok (.iload 5, 2) := by decide +kernel
theorem dX10_span_28 : decode cX10_span 28 = .ok (.iconst 2, 1) := by decide +kernel
theorem dX10_span_29 : decode cX10_span 29 = .ok (.if_icmp .gt 7, 3) := by decide +kernel
theorem dX10_span_32 : decode cX10_span 32 = .ok (.iconst 1, 1) := by decide +kernel
theorem dX10_span_33 : decode cX10_span 33 = .ok (.goto 4, 3) := by decide +kernel
theorem dX10_span_36 : decode cX10_span 36 = .ok (.iconst 0, 1) := by decide +kernel
theorem dX10_span_37 : decode cX10_span 37 = .ok (.invokevirtual 146, 3) := by decide +kernel
theorem dX10_span_40 : decode cX10_span 40 = .ok (.iconst 0, 1) := by decide +kernel
theorem dX10_span_41 : decode cX10_span 41 = .ok (.istore 6, 2) := by decide +kernel
theorem dX10_span_43 : decode cX10_span 43 = .ok (.iconst 0, 1) := by decide +kernel
theorem dX10_span_44 : decode cX10_span 44 = .ok (.istore 7, 2) := by decide +kernel
theorem dX10_span_46 : decode cX10_span 46 = .ok (.iconst 0, 1) := by decide +kernel
theorem dX10_span_47 : decode cX10_span 47 = .ok (.istore 8, 2) := by decide +kernel
theorem dX10_span_49 : decode cX10_span 49 = .ok (.iconst 0, 1) := by decide +kernel
theorem dX10_span_50 : decode cX10_span 50 = .ok (.istore 9, 2) := by decide +kernel
theorem dX10_span_52 : decode cX10_span 52 = .ok (.iload 9, 2) := by decide +kernel
theorem dX10_span_54 : decode cX10_span 54 = .ok (.iload_n 2, 1) := by decide +kernel
theorem dX10_span_55 : decode cX10_span 55 = .ok (.if_icmp .ge 90, 3) := by decide +kernel
theorem dX10_span_58 : decode cX10_span 58 = .ok (.aload_n 0, 1) := by decide +kernel
theorem dX10_span_59 : decode cX10_span 59 = .ok (.getfield 94, 3) := by decide +kernel
theorem dX10_span_62 : decode cX10_span 62 = .ok (.aload_n 0, 1) := by decide +kernel
theorem dX10_span_63 : decode cX10_span 63 = .ok (.getfield 50, 3) := by decide +kernel
theorem dX10_span_66 : decode cX10_span 66 = .ok (.iload_n 1, 1) := by decide +kernel
theorem dX10_span_67 : decode cX10_span 67 = .ok (.iload 9, 2) := by decide +kernel
theorem dX10_span_69 : decode cX10_span 69 = .ok (.iadd, 1) := by decide +kernel
theorem dX10_span_70 : decode cX10_span 70 = .ok (.iload_n 3, 1) := by decide +kernel
theorem dX10_span_71 : decode cX10_span 71 = .ok (.iload 4, 2) := by decide +kernel
theorem dX10_span_73 : decode cX10_span 73 = .ok (.invokevirtual 358, 3) := by decide +kernel
theorem dX10_span_76 : decode cX10_span 76 = .ok (.iload 9, 2) := by decide +kernel
theorem dX10_span_78 : decode cX10_span 78 = .ok (.ifCond .ne 13, 3) := by decide +kernel
theorem dX10_span_81 : decode cX10_span 81 = .ok (.aload_n 0, 1) := by decide +kernel
theorem dX10_span_82 : decode cX10_span 82 = .ok (.getfield 94, 3) := by decide +kernel
theorem dX10_span_85 : decode cX10_span 85 = .ok (.getfield 362, 3) := by decide +kernel
theorem dX10_span_88 : decode cX10_span 88 = .ok (.goto 15, 3) := by decide +kernel
theorem dX10_span_91 : decode cX10_span 91 = .ok (.iload 6, 2) := by decide +kernel
theorem dX10_span_93 : decode cX10_span 93 = .ok (.aload_n 0, 1) := by decide +kernel
theorem dX10_span_94 : decode cX10_span 94 = .ok (.getfield 94, 3) := by decide +kernel
theorem dX10_span_97 : decode cX10_span 97 = .ok (.getfield 362, 3) := by decide +kernel
theorem dX10_span_100 : decode cX10_span 100 = .ok (.invokestatic 371, 3) := by decide +kernel
theorem dX10_span_103 : decode cX10_span 103 = .ok (.istore 6, 2) := by decide +kernel
theorem dX10_span_105 : decode cX10_span 105 = .ok (.iload 7, 2) := by decide +kernel
theorem dX10_span_107 : decode cX10_span 107 = .ok (.aload_n 0, 1) := by decide +kernel
theorem dX10_span_108 : decode cX10_span 108 = .ok (.getfield 94, 3) := by decide +kernel
theorem dX10_span_111 : decode cX10_span 111 = .ok (.getfield 362, 3) := by decide +kernel
theorem dX10_span_114 : decode cX10_span 114 = .ok (.invokestatic 376, 3) := by decide +kernel
theorem dX10_span_117 : decode cX10_span 117 = .ok (.istore 7, 2) := by decide +kernel
theorem dX10_span_119 : decode cX10_span 119 = .ok (.iload 8, 2) := by decide +kernel
theorem dX10_span_121 : decode cX10_span 121 = .ok (.aload_n 0, 1) := by decide +kernel
theorem dX10_span_122 : decode cX10_span 122 = .ok (.getfield 94, 3) := by decide +kernel
theorem dX10_span_125 : decode cX10_span 125 = .ok (.getfield 364, 3) := by decide +kernel
theorem dX10_span_128 : decode cX10_span 128 = .ok (.ifCond .ne 7, 3) := by decide +kernel
theorem dX10_span_131 : decode cX10_span 131 = .ok (.iconst 1, 1) := by decide +kernel
theorem dX10_span_132 : decode cX10_span 132 = .ok (.goto 4, 3) := by decide +kernel
theorem dX10_span_135 : decode cX10_span 135 = .ok (.iconst 0, 1) := by decide +kernel
theorem dX10_span_136 : decode cX10_span 136 = .ok (.iadd, 1) := by decide +kernel
theorem dX10_span_137 : decode cX10_span 137 = .ok (.istore 8, 2) := by decide +kernel
theorem dX10_span_139 : decode cX10_span 139 = .ok (.iinc 9 1, 3) := by decide +kernel
theorem dX10_span_142 : decode cX10_span 142 = .ok (.goto (-90), 3) := by decide +kernel
theorem dX10_span_145 : decode cX10_span 145 = .ok (.iload 5, 2) := by decide +kernel
theorem dX10_span_147 : decode cX10_span 147 = .ok (.lookupswitch 31 #[(0, 25), (1, 28)], 25) := by decide +kernel
theorem dX10_span_172 : decode cX10_span 172 = .ok (.iload 6, 2) := by decide +kernel
theorem dX10_span_174 : decode cX10_span 174 = .ok (.ireturn, 1) := by decide +kernel
theorem dX10_span_175 : decode cX10_span 175 = .ok (.iload 7, 2) := by decide +kernel
theorem dX10_span_177 : decode cX10_span 177 = .ok (.ireturn, 1) := by decide +kernel
theorem dX10_span_178 : decode cX10_span 178 = .ok (.iload 8, 2) := by decide +kernel
theorem dX10_span_180 : decode cX10_span 180 = .ok (.ireturn, 1) := by decide +kernel
theorem dX10_sums_0 : decode cX10_sums 0 = .ok (.aload_n 0, 1) := by decide +kernel
theorem dX10_sums_1 : decode cX10_sums 1 = .ok (.iload_n 1, 1) := by decide +kernel
theorem dX10_sums_2 : decode cX10_sums 2 = .ok (.ifCond .lt 12, 3) := by decide +kernel
theorem dX10_sums_5 : decode cX10_sums 5 = .ok (.iload_n 1, 1) := by decide +kernel
theorem dX10_sums_6 : decode cX10_sums 6 = .ok (.iconst 3, 1) := by decide +kernel
theorem dX10_sums_7 : decode cX10_sums 7 = .ok (.if_icmp .gt 7, 3) := by decide +kernel
theorem dX10_sums_10 : decode cX10_sums 10 = .ok (.iconst 1, 1) := by decide +kernel
theorem dX10_sums_11 : decode cX10_sums 11 = .ok (.goto 4, 3) := by decide +kernel
theorem dX10_sums_14 : decode cX10_sums 14 = .ok (.iconst 0, 1) := by decide +kernel
theorem dX10_sums_15 : decode cX10_sums 15 = .ok (.invokevirtual 146, 3) := by decide +kernel
theorem dX10_sums_18 : decode cX10_sums 18 = .ok (.iload_n 1, 1) := by decide +kernel
theorem dX10_sums_19 : decode cX10_sums 19 = .ok (.tableswitch 52 0 2 #[25, 33, 41], 25) := by decide +kernel
theorem dX10_sums_44 : decode cX10_sums 44 = .ok (.aload_n 0, 1) := by decide +kernel
theorem dX10_sums_45 : decode cX10_sums 45 = .ok (.getfield 50, 3) := by decide +kernel
theorem dX10_sums_48 : decode cX10_sums 48 = .ok (.getfield 379, 3) := by decide +kernel
theorem dX10_sums_51 : decode cX10_sums 51 = .ok (.ireturn, 1) := by decide +kernel
theorem dX10_sums_52 : decode cX10_sums 52 = .ok (.aload_n 0, 1) := by decide +kernel
theorem dX10_sums_53 : decode cX10_sums 53 = .ok (.getfield 50, 3) := by decide +kernel
theorem dX10_sums_56 : decode cX10_sums 56 = .ok (.getfield 382, 3) := by decide +kernel
theorem dX10_sums_59 : decode cX10_sums 59 = .ok (.ireturn, 1) := by decide +kernel
theorem dX10_sums_60 : decode cX10_sums 60 = .ok (.aload_n 0, 1) := by decide +kernel
theorem dX10_sums_61 : decode cX10_sums 61 = .ok (.getfield 50, 3) := by decide +kernel
theorem dX10_sums_64 : decode cX10_sums 64 = .ok (.invokevirtual 383, 3) := by decide +kernel
theorem dX10_sums_67 : decode cX10_sums 67 = .ok (.invokestatic 387, 3) := by decide +kernel
theorem dX10_sums_70 : decode cX10_sums 70 = .ok (.ireturn, 1) := by decide +kernel
theorem dX10_sums_71 : decode cX10_sums 71 = .ok (.aload_n 0, 1) := by decide +kernel
theorem dX10_sums_72 : decode cX10_sums 72 = .ok (.getfield 50, 3) := by decide +kernel
theorem dX10_sums_75 : decode cX10_sums 75 = .ok (.invokevirtual 393, 3) := by decide +kernel
theorem dX10_sums_78 : decode cX10_sums 78 = .ok (.aload_n 0, 1) := by decide +kernel
theorem dX10_sums_79 : decode cX10_sums 79 = .ok (.getfield 50, 3) := by decide +kernel
theorem dX10_sums_82 : decode cX10_sums 82 = .ok (.invokevirtual 383, 3) := by decide +kernel
theorem dX10_sums_85 : decode cX10_sums 85 = .ok (.ldc2_w 396, 3) := by decide +kernel
theorem dX10_sums_88 : decode cX10_sums 88 = .ok (.lxor, 1) := by decide +kernel
theorem dX10_sums_89 : decode cX10_sums 89 = .ok (.land, 1) := by decide +kernel
theorem dX10_sums_90 : decode cX10_sums 90 = .ok (.invokestatic 387, 3) := by decide +kernel
theorem dX10_sums_93 : decode cX10_sums 93 = .ok (.ireturn, 1) := by decide +kernel
theorem dX10_open_0 : decode cX10_open 0 = .ok (.aload_n 0, 1) := by decide +kernel
theorem dX10_open_1 : decode cX10_open 1 = .ok (.iload_n 1, 1) := by decide +kernel
theorem dX10_open_2 : decode cX10_open 2 = .ok (.ifCond .lt 18, 3) := by decide +kernel
theorem dX10_open_5 : decode cX10_open 5 = .ok (.iload_n 1, 1) := by decide +kernel
theorem dX10_open_6 : decode cX10_open 6 = .ok (.aload_n 0, 1) := by decide +kernel
theorem dX10_open_7 : decode cX10_open 7 = .ok (.getfield 19, 3) := by decide +kernel
theorem dX10_open_10 : decode cX10_open 10 = .ok (.getfield 192, 3) := by decide +kernel
theorem dX10_open_13 : decode cX10_open 13 = .ok (.if_icmp .ge 7, 3) := by decide +kernel
theorem dX10_open_16 : decode cX10_open 16 = .ok (.iconst 1, 1) := by decide +kernel
theorem dX10_open_17 : decode cX10_open 17 = .ok (.goto 4, 3) := by decide +kernel
theorem dX10_open_20 : decode cX10_open 20 = .ok (.iconst 0, 1) := by decide +kernel
theorem dX10_open_21 : decode cX10_open 21 = .ok (.invokevirtual 146, 3) := by decide +kernel
theorem dX10_open_24 : decode cX10_open 24 = .ok (.aload_n 0, 1) := by decide +kernel
theorem dX10_open_25 : decode cX10_open 25 = .ok (.getfield 50, 3) := by decide +kernel
theorem dX10_open_28 : decode cX10_open 28 = .ok (.invokevirtual 383, 3) := by decide +kernel
theorem dX10_open_31 : decode cX10_open 31 = .ok (.iload_n 1, 1) := by decide +kernel
theorem dX10_open_32 : decode cX10_open 32 = .ok (.invokestatic 398, 3) := by decide +kernel
theorem dX10_open_35 : decode cX10_open 35 = .ok (.ireturn, 1) := by decide +kernel
theorem dX10_image_0 : decode cX10_image 0 = .ok (.aload_n 0, 1) := by decide +kernel
theorem dX10_image_1 : decode cX10_image 1 = .ok (.getfield 67, 3) := by decide +kernel
theorem dX10_image_4 : decode cX10_image 4 = .ok (.aload_n 0, 1) := by decide +kernel
theorem dX10_image_5 : decode cX10_image 5 = .ok (.getfield 50, 3) := by decide +kernel
theorem dX10_image_8 : decode cX10_image 8 = .ok (.invokevirtual 402, 3) := by decide +kernel
theorem dX10_image_11 : decode cX10_image 11 = .ok (.ifCond .eq 13, 3) := by decide +kernel
theorem dX10_image_14 : decode cX10_image 14 = .ok (.aload_n 0, 1) := by decide +kernel
theorem dX10_image_15 : decode cX10_image 15 = .ok (.getfield 67, 3) := by decide +kernel
theorem dX10_image_18 : decode cX10_image 18 = .ok (.getfield 406, 3) := by decide +kernel
theorem dX10_image_21 : decode cX10_image 21 = .ok (.goto 4, 3) := by decide +kernel
theorem dX10_image_24 : decode cX10_image 24 = .ok (.iconst (-1), 1) := by decide +kernel
theorem dX10_image_25 : decode cX10_image 25 = .ok (.ireturn, 1) := by decide +kernel
theorem dX10_restore_0 : decode cX10_restore 0 = .ok (.aload_n 0, 1) := by decide +kernel
theorem dX10_restore_1 : decode cX10_restore 1 = .ok (.getfield 67, 3) := by decide +kernel
theorem dX10_restore_4 : decode cX10_restore 4 = .ok (.getfield 406, 3) := by decide +kernel
theorem dX10_restore_7 : decode cX10_restore 7 = .ok (.ifCond .ne 5, 3) := by decide +kernel
theorem dX10_restore_10 : decode cX10_restore 10 = .ok (.iconst (-1), 1) := by decide +kernel
theorem dX10_restore_11 : decode cX10_restore 11 = .ok (.ireturn, 1) := by decide +kernel
theorem dX10_restore_12 : decode cX10_restore 12 = .ok (.aload_n 0, 1) := by decide +kernel
theorem dX10_restore_13 : decode cX10_restore 13 = .ok (.getfield 67, 3) := by decide +kernel
theorem dX10_restore_16 : decode cX10_restore 16 = .ok (.aload_n 0, 1) := by decide +kernel
theorem dX10_restore_17 : decode cX10_restore 17 = .ok (.getfield 50, 3) := by decide +kernel
theorem dX10_restore_20 : decode cX10_restore 20 = .ok (.invokevirtual 409, 3) := by decide +kernel
theorem dX10_restore_23 : decode cX10_restore 23 = .ok (.aload_n 0, 1) := by decide +kernel
theorem dX10_restore_24 : decode cX10_restore 24 = .ok (.iconst 0, 1) := by decide +kernel
theorem dX10_restore_25 : decode cX10_restore 25 = .ok (.putfield 139, 3) := by decide +kernel
theorem dX10_restore_28 : decode cX10_restore 28 = .ok (.aload_n 0, 1) := by decide +kernel
theorem dX10_restore_29 : decode cX10_restore 29 = .ok (.getfield 67, 3) := by decide +kernel
theorem dX10_restore_32 : decode cX10_restore 32 = .ok (.getfield 406, 3) := by decide +kernel
theorem dX10_restore_35 : decode cX10_restore 35 = .ok (.ireturn, 1) := by decide +kernel
theorem dX10_status_0 : decode cX10_status 0 = .ok (.iload_n 1, 1) := by decide +kernel
theorem dX10_status_1 : decode cX10_status 1 = .ok (.ifCond .lt 21, 3) := by decide +kernel
theorem dX10_status_4 : decode cX10_status 4 = .ok (.iload_n 1, 1) := by decide +kernel
theorem dX10_status_5 : decode cX10_status 5 = .ok (.aload_n 0, 1) := by decide +kernel
theorem dX10_status_6 : decode cX10_status 6 = .ok (.getfield 105, 3) := by decide +kernel
theorem dX10_status_9 : decode cX10_status 9 = .ok (.arraylength, 1) := by decide +kernel
theorem dX10_status_10 : decode cX10_status 10 = .ok (.if_icmp .ge 12, 3) := by decide +kernel
theorem dX10_status_13 : decode cX10_status 13 = .ok (.aload_n 0, 1) := by decide +kernel
theorem dX10_status_14 : decode cX10_status 14 = .ok (.getfield 105, 3) := by decide +kernel
theorem dX10_status_17 : decode cX10_status 17 = .ok (.iload_n 1, 1) := by decide +kernel
theorem dX10_status_18 : decode cX10_status 18 = .ok (.iaload, 1) := by decide +kernel
theorem dX10_status_19 : decode cX10_status 19 = .ok (.goto 4, 3) := by decide +kernel
theorem dX10_status_22 : decode cX10_status 22 = .ok (.iconst (-1), 1) := by decide +kernel
theorem dX10_status_23 : decode cX10_status 23 = .ok (.ireturn, 1) := by decide +kernel
theorem dX10_count_0 : decode cX10_count 0 = .ok (.iload_n 1, 1) := by decide +kernel
theorem dX10_count_1 : decode cX10_count 1 = .ok (.tableswitch 51 0 2 #[27, 35, 43], 27) := by decide +kernel
theorem dX10_count_28 : decode cX10_count 28 = .ok (.aload_n 0, 1) := by decide +kernel
theorem dX10_count_29 : decode cX10_count 29 = .ok (.getfield 67, 3) := by decide +kernel
theorem dX10_count_32 : decode cX10_count 32 = .ok (.getfield 406, 3) := by decide +kernel
theorem dX10_count_35 : decode cX10_count 35 = .ok (.ireturn, 1) := by decide +kernel
theorem dX10_count_36 : decode cX10_count 36 = .ok (.aload_n 0, 1) := by decide +kernel
theorem dX10_count_37 : decode cX10_count 37 = .ok (.getfield 10, 3) := by decide +kernel
theorem dX10_count_40 : decode cX10_count 40 = .ok (.getfield 109, 3) := by decide +kernel
theorem dX10_count_43 : decode cX10_count 43 = .ok (.ireturn, 1) := by decide +kernel
theorem dX10_count_44 : decode cX10_count 44 = .ok (.aload_n 0, 1) := by decide +kernel
theorem dX10_count_45 : decode cX10_count 45 = .ok (.getfield 67, 3) := by decide +kernel
theorem dX10_count_48 : decode cX10_count 48 = .ok (.getfield 183, 3) := by decide +kernel
theorem dX10_count_51 : decode cX10_count 51 = .ok (.ireturn, 1) := by decide +kernel
theorem dX10_count_52 : decode cX10_count 52 = .ok (.iconst (-1), 1) := by decide +kernel
theorem dX10_count_53 : decode cX10_count 53 = .ok (.ireturn, 1) := by decide +kernel
theorem dX10_takeText_0 : decode cX10_takeText 0 = .ok (.aload_n 0, 1) := by decide +kernel
theorem dX10_takeText_1 : decode cX10_takeText 1 = .ok (.iload_n 1, 1) := by decide +kernel
theorem dX10_takeText_2 : decode cX10_takeText 2 = .ok (.ifCond .lt 23, 3) := by decide +kernel
theorem dX10_takeText_5 : decode cX10_takeText 5 = .ok (.iload_n 1, 1) := by decide +kernel
theorem dX10_takeText_6 : decode cX10_takeText 6 = .ok (.iload_n 2, 1) := by decide +kernel
theorem dX10_takeText_7 : decode cX10_takeText 7 = .ok (.if_icmp .gt 18, 3) := by decide +kernel
theorem dX10_takeText_10 : decode cX10_takeText 10 = .ok (.iload_n 1, 1) := by decide +kernel
theorem dX10_takeText_11 : decode cX10_takeText 11 = .ok (.aload_n 0, 1) := by decide +kernel
theorem dX10_takeText_12 : decode cX10_takeText 12 = .ok (.getfield 10, 3) := by decide +kernel
theorem dX10_takeText_15 : decode cX10_takeText 15 = .ok (.getfield 109, 3) := by decide +kernel
theorem dX10_takeText_18 : decode cX10_takeText 18 = .ok (.if_icmp .gt 7, 3) := by decide +kernel
theorem dX10_takeText_21 : decode cX10_takeText 21 = .ok (.iconst 1, 1) := by decide +kernel
theorem dX10_takeText_22 : decode cX10_takeText 22 = .ok (.goto 4, 3) := by decide +kernel
theorem dX10_takeText_25 : decode cX10_takeText 25 = .ok (.iconst 0, 1) := by decide +kernel
theorem dX10_takeText_26 : decode cX10_takeText 26 = .ok (.invokevirtual 146, 3) := by decide +kernel
theorem dX10_takeText_29 : decode cX10_takeText 29 = .ok (.aload_n 0, 1) := by decide +kernel
theorem dX10_takeText_30 : decode cX10_takeText 30 = .ok (.getfield 10, 3) := by decide +kernel
theorem dX10_takeText_33 : decode cX10_takeText 33 = .ok (.iload_n 1, 1) := by decide +kernel
theorem dX10_takeText_34 : decode cX10_takeText 34 = .ok (.invokevirtual 412, 3) := by decide +kernel
theorem dX10_takeText_37 : decode cX10_takeText 37 = .ok (.return_, 1) := by decide +kernel
theorem dX10_need_0 : decode cX10_need 0 = .ok (.iload_n 1, 1) := by decide +kernel
theorem dX10_need_1 : decode cX10_need 1 = .ok (.ifCond .ne 24, 3) := by decide +kernel
theorem dX10_need_4 : decode cX10_need 4 = .ok (.aload_n 0, 1) := by decide +kernel
theorem dX10_need_5 : decode cX10_need 5 = .ok (.getfield 105, 3) := by decide +kernel
theorem dX10_need_8 : decode cX10_need 8 = .ok (.iconst 2, 1) := by decide +kernel
theorem dX10_need_9 : decode cX10_need 9 = .ok (.dup2, 1) := by decide +kernel
theorem dX10_need_10 : decode cX10_need 10 = .ok (.iaload, 1) := by decide +kernel
theorem dX10_need_11 : decode cX10_need 11 = .ok (.iconst 1, 1) := by decide +kernel
theorem dX10_need_12 : decode cX10_need 12 = .ok (.iadd, 1) := by decide +kernel
theorem dX10_need_13 : decode cX10_need 13 = .ok (.iastore, 1) := by decide +kernel
theorem dX10_need_14 : decode cX10_need 14 = .ok (.new 414, 3) := by decide +kernel
theorem dX10_need_17 : decode cX10_need 17 = .ok (.dup, 1) := by decide +kernel
theorem dX10_need_18 : decode cX10_need 18 = .ok (.ldc_w 416, 3) := by decide +kernel
theorem dX10_need_21 : decode cX10_need 21 = .ok (.invokespecial 418, 3) := by decide +kernel
theorem dX10_need_24 : decode cX10_need 24 = .ok (.athrow, 1) := by decide +kernel
theorem dX10_need_25 : decode cX10_need 25 = .ok (.return_, 1) := by decide +kernel
theorem dX10_needOrder_0 : decode cX10_needOrder 0 = .ok (.iload_n 1, 1) := by decide +kernel
theorem dX10_needOrder_1 : decode cX10_needOrder 1 = .ok (.ifCond .lt 14, 3) := by decide +kernel
theorem dX10_needOrder_4 : decode cX10_needOrder 4 = .ok (.iload_n 1, 1) := by decide +kernel
theorem dX10_needOrder_5 : decode cX10_needOrder 5 = .ok (.aload_n 0, 1) := by decide +kernel
theorem dX10_needOrder_6 : decode cX10_needOrder 6 = .ok (.getfield 19, 3) := by decide +kernel
theorem dX10_needOrder_9 : decode cX10_needOrder 9 = .ok (.getfield 195, 3) := by decide +kernel
theorem dX10_needOrder_12 : decode cX10_needOrder 12 = .ok (.if_icmp .lt 24, 3) := by decide +kernel
theorem dX10_needOrder_15 : decode cX10_needOrder 15 = .ok (.aload_n 0, 1) := by decide +kernel
theorem dX10_needOrder_16 : decode cX10_needOrder 16 = .ok (.getfield 105, 3) := by decide +kernel
theorem dX10_needOrder_19 : decode cX10_needOrder 19 = .ok (.iconst 1, 1) := by decide +kernel
theorem dX10_needOrder_20 : decode cX10_needOrder 20 = .ok (.dup2, 1) := by decide +kernel
theorem dX10_needOrder_21 : decode cX10_needOrder 21 = .ok (.iaload, 1) := by decide +kernel
theorem dX10_needOrder_22 : decode cX10_needOrder 22 = .ok (.iconst 1, 1) := by decide +kernel
theorem dX10_needOrder_23 : decode cX10_needOrder 23 = .ok (.iadd, 1) := by decide +kernel
theorem dX10_needOrder_24 : decode cX10_needOrder 24 = .ok (.iastore, 1) := by decide +kernel
theorem dX10_needOrder_25 : decode cX10_needOrder 25 = .ok (.new 421, 3) := by decide +kernel
theorem dX10_needOrder_28 : decode cX10_needOrder 28 = .ok (.dup, 1) := by decide +kernel
theorem dX10_needOrder_29 : decode cX10_needOrder 29 = .ok (.ldc_w 423, 3) := by decide +kernel
theorem dX10_needOrder_32 : decode cX10_needOrder 32 = .ok (.invokespecial 425, 3) := by decide +kernel
theorem dX10_needOrder_35 : decode cX10_needOrder 35 = .ok (.athrow, 1) := by decide +kernel
theorem dX10_needOrder_36 : decode cX10_needOrder 36 = .ok (.return_, 1) := by decide +kernel
theorem dX10_cellAt_0 : decode cX10_cellAt 0 = .ok (.iload_n 1, 1) := by decide +kernel
theorem dX10_cellAt_1 : decode cX10_cellAt 1 = .ok (.ifCond .lt 29, 3) := by decide +kernel
theorem dX10_cellAt_4 : decode cX10_cellAt 4 = .ok (.iload_n 1, 1) := by decide +kernel
theorem dX10_cellAt_5 : decode cX10_cellAt 5 = .ok (.aload_n 0, 1) := by decide +kernel
theorem dX10_cellAt_6 : decode cX10_cellAt 6 = .ok (.getfield 19, 3) := by decide +kernel
theorem dX10_cellAt_9 : decode cX10_cellAt 9 = .ok (.getfield 189, 3) := by decide +kernel
theorem dX10_cellAt_12 : decode cX10_cellAt 12 = .ok (.if_icmp .ge 18, 3) := by decide +kernel
theorem dX10_cellAt_15 : decode cX10_cellAt 15 = .ok (.iload_n 2, 1) := by decide +kernel
theorem dX10_cellAt_16 : decode cX10_cellAt 16 = .ok (.ifCond .lt 14, 3) := by decide +kernel
theorem dX10_cellAt_19 : decode cX10_cellAt 19 = .ok (.iload_n 2, 1) := by decide +kernel
theorem dX10_cellAt_20 : decode cX10_cellAt 20 = .ok (.aload_n 0, 1) := by decide +kernel
theorem dX10_cellAt_21 : decode cX10_cellAt 21 = .ok (.getfield 19, 3) := by decide +kernel
theorem dX10_cellAt_24 : decode cX10_cellAt 24 = .ok (.getfield 192, 3) := by decide +kernel
theorem dX10_cellAt_27 : decode cX10_cellAt 27 = .ok (.if_icmp .lt 24, 3) := by decide +kernel
theorem dX10_cellAt_30 : decode cX10_cellAt 30 = .ok (.aload_n 0, 1) := by decide +kernel
theorem dX10_cellAt_31 : decode cX10_cellAt 31 = .ok (.getfield 105, 3) := by decide +kernel
theorem dX10_cellAt_34 : decode cX10_cellAt 34 = .ok (.iconst 0, 1) := by decide +kernel
theorem dX10_cellAt_35 : decode cX10_cellAt 35 = .ok (.dup2, 1) := by decide +kernel
theorem dX10_cellAt_36 : decode cX10_cellAt 36 = .ok (.iaload, 1) := by decide +kernel
theorem dX10_cellAt_37 : decode cX10_cellAt 37 = .ok (.iconst 1, 1) := by decide +kernel
theorem dX10_cellAt_38 : decode cX10_cellAt 38 = .ok (.iadd, 1) := by decide +kernel
theorem dX10_cellAt_39 : decode cX10_cellAt 39 = .ok (.iastore, 1) := by decide +kernel
theorem dX10_cellAt_40 : decode cX10_cellAt 40 = .ok (.new 426, 3) := by decide +kernel
theorem dX10_cellAt_43 : decode cX10_cellAt 43 = .ok (.dup, 1) := by decide +kernel
theorem dX10_cellAt_44 : decode cX10_cellAt 44 = .ok (.ldc_w 428, 3) := by decide +kernel
theorem dX10_cellAt_47 : decode cX10_cellAt 47 = .ok (.invokespecial 430, 3) := by decide +kernel
theorem dX10_cellAt_50 : decode cX10_cellAt 50 = .ok (.athrow, 1) := by decide +kernel
theorem dX10_cellAt_51 : decode cX10_cellAt 51 = .ok (.bipush 8, 2) := by decide +kernel
theorem dX10_cellAt_53 : decode cX10_cellAt 53 = .ok (.iload_n 2, 1) := by decide +kernel
theorem dX10_cellAt_54 : decode cX10_cellAt 54 = .ok (.imul, 1) := by decide +kernel
theorem dX10_cellAt_55 : decode cX10_cellAt 55 = .ok (.iload_n 1, 1) := by decide +kernel
theorem dX10_cellAt_56 : decode cX10_cellAt 56 = .ok (.iadd, 1) := by decide +kernel
theorem dX10_cellAt_57 : decode cX10_cellAt 57 = .ok (.ireturn, 1) := by decide +kernel
theorem dX10_isColumn_0 : decode cX10_isColumn 0 = .ok (.iload_n 1, 1) := by decide +kernel
theorem dX10_isColumn_1 : decode cX10_isColumn 1 = .ok (.ifCond .lt 18, 3) := by decide +kernel
theorem dX10_isColumn_4 : decode cX10_isColumn 4 = .ok (.iload_n 1, 1) := by decide +kernel
theorem dX10_isColumn_5 : decode cX10_isColumn 5 = .ok (.aload_n 0, 1) := by decide +kernel
theorem dX10_isColumn_6 : decode cX10_isColumn 6 = .ok (.getfield 19, 3) := by decide +kernel
theorem dX10_isColumn_9 : decode cX10_isColumn 9 = .ok (.getfield 189, 3) := by decide +kernel
theorem dX10_isColumn_12 : decode cX10_isColumn 12 = .ok (.if_icmp .ge 7, 3) := by decide +kernel
theorem dX10_isColumn_15 : decode cX10_isColumn 15 = .ok (.iconst 1, 1) := by decide +kernel
theorem dX10_isColumn_16 : decode cX10_isColumn 16 = .ok (.goto 4, 3) := by decide +kernel
theorem dX10_isColumn_19 : decode cX10_isColumn 19 = .ok (.iconst 0, 1) := by decide +kernel
theorem dX10_isColumn_20 : decode cX10_isColumn 20 = .ok (.ireturn, 1) := by decide +kernel
theorem dX10_isMusic_0 : decode cX10_isMusic 0 = .ok (.iload_n 0, 1) := by decide +kernel
theorem dX10_isMusic_1 : decode cX10_isMusic 1 = .ok (.iconst 1, 1) := by decide +kernel
theorem dX10_isMusic_2 : decode cX10_isMusic 2 = .ok (.if_icmp .lt 12, 3) := by decide +kernel
theorem dX10_isMusic_5 : decode cX10_isMusic 5 = .ok (.iload_n 0, 1) := by decide +kernel
theorem dX10_isMusic_6 : decode cX10_isMusic 6 = .ok (.iconst 4, 1) := by decide +kernel
theorem dX10_isMusic_7 : decode cX10_isMusic 7 = .ok (.if_icmp .gt 7, 3) := by decide +kernel
theorem dX10_isMusic_10 : decode cX10_isMusic 10 = .ok (.iconst 1, 1) := by decide +kernel
theorem dX10_isMusic_11 : decode cX10_isMusic 11 = .ok (.goto 4, 3) := by decide +kernel
theorem dX10_isMusic_14 : decode cX10_isMusic 14 = .ok (.iconst 0, 1) := by decide +kernel
theorem dX10_isMusic_15 : decode cX10_isMusic 15 = .ok (.ireturn, 1) := by decide +kernel
theorem dX10_isEither_0 : decode cX10_isEither 0 = .ok (.iload_n 0, 1) := by decide +kernel
theorem dX10_isEither_1 : decode cX10_isEither 1 = .ok (.ifCond .eq 8, 3) := by decide +kernel
theorem dX10_isEither_4 : decode cX10_isEither 4 = .ok (.iload_n 0, 1) := by decide +kernel
theorem dX10_isEither_5 : decode cX10_isEither 5 = .ok (.iconst 1, 1) := by decide +kernel
theorem dX10_isEither_6 : decode cX10_isEither 6 = .ok (.if_icmp .ne 7, 3) := by decide +kernel
theorem dX10_isEither_9 : decode cX10_isEither 9 = .ok (.iconst 1, 1) := by decide +kernel
theorem dX10_isEither_10 : decode cX10_isEither 10 = .ok (.goto 4, 3) := by decide +kernel
theorem dX10_isEither_13 : decode cX10_isEither 13 = .ok (.iconst 0, 1) := by decide +kernel
theorem dX10_isEither_14 : decode cX10_isEither 14 = .ok (.ireturn, 1) := by decide +kernel
theorem dX10_isDecade_0 : decode cX10_isDecade 0 = .ok (.iload_n 0, 1) := by decide +kernel
theorem dX10_isDecade_1 : decode cX10_isDecade 1 = .ok (.ifCond .lt 24, 3) := by decide +kernel
theorem dX10_isDecade_4 : decode cX10_isDecade 4 = .ok (.iload_n 0, 1) := by decide +kernel
theorem dX10_isDecade_5 : decode cX10_isDecade 5 = .ok (.bipush 16, 2) := by decide +kernel
theorem dX10_isDecade_7 : decode cX10_isDecade 7 = .ok (.if_icmp .gt 18, 3) := by decide +kernel
theorem dX10_isDecade_10 : decode cX10_isDecade 10 = .ok (.iload_n 1, 1) := by decide +kernel
theorem dX10_isDecade_11 : decode cX10_isDecade 11 = .ok (.iconst 1, 1) := by decide +kernel
theorem dX10_isDecade_12 : decode cX10_isDecade 12 = .ok (.if_icmp .lt 13, 3) := by decide +kernel
theorem dX10_isDecade_15 : decode cX10_isDecade 15 = .ok (.iload_n 1, 1) := by decide +kernel
theorem dX10_isDecade_16 : decode cX10_isDecade 16 = .ok (.bipush 40, 2) := by decide +kernel
theorem dX10_isDecade_18 : decode cX10_isDecade 18 = .ok (.if_icmp .gt 7, 3) := by decide +kernel
theorem dX10_isDecade_21 : decode cX10_isDecade 21 = .ok (.iconst 1, 1) := by decide +kernel
theorem dX10_isDecade_22 : decode cX10_isDecade 22 = .ok (.goto 4, 3) := by decide +kernel
theorem dX10_isDecade_25 : decode cX10_isDecade 25 = .ok (.iconst 0, 1) := by decide +kernel
theorem dX10_isDecade_26 : decode cX10_isDecade 26 = .ok (.ireturn, 1) := by decide +kernel
theorem dX10_rowOf_0 : decode cX10_rowOf 0 = .ok (.lload_n 0, 1) := by decide +kernel
theorem dX10_rowOf_1 : decode cX10_rowOf 1 = .ok (.bipush 8, 2) := by decide +kernel
theorem dX10_rowOf_3 : decode cX10_rowOf 3 = .ok (.iload_n 2, 1) := by decide +kernel
theorem dX10_rowOf_4 : decode cX10_rowOf 4 = .ok (.imul, 1) := by decide +kernel
theorem dX10_rowOf_5 : decode cX10_rowOf 5 = .ok (.lushr, 1) := by decide +kernel
theorem dX10_rowOf_6 : decode cX10_rowOf 6 = .ok (.l2i, 1) := by decide +kernel
theorem dX10_rowOf_7 : decode cX10_rowOf 7 = .ok (.sipush 255, 3) := by decide +kernel
theorem dX10_rowOf_10 : decode cX10_rowOf 10 = .ok (.iand, 1) := by decide +kernel
theorem dX10_rowOf_11 : decode cX10_rowOf 11 = .ok (.ireturn, 1) := by decide +kernel
theorem dX11_thrown_0 : decode cX11_thrown 0 = .ok (.aload_n 0, 1) := by decide +kernel
theorem dX11_thrown_1 : decode cX11_thrown 1 = .ok (.getfield 3, 3) := by decide +kernel
theorem dX11_thrown_4 : decode cX11_thrown 4 = .ok (.ireturn, 1) := by decide +kernel
theorem dX11_may_0 : decode cX11_may 0 = .ok (.iload_n 1, 1) := by decide +kernel
theorem dX11_may_1 : decode cX11_may 1 = .ok (.ifCond .ne 25, 3) := by decide +kernel
theorem dX11_may_4 : decode cX11_may 4 = .ok (.aload_n 0, 1) := by decide +kernel
theorem dX11_may_5 : decode cX11_may 5 = .ok (.getfield 3, 3) := by decide +kernel
theorem dX11_may_8 : decode cX11_may 8 = .ok (.ifCond .ne 18, 3) := by decide +kernel
theorem dX11_may_11 : decode cX11_may 11 = .ok (.aload_n 0, 1) := by decide +kernel
theorem dX11_may_12 : decode cX11_may 12 = .ok (.iload_n 2, 1) := by decide +kernel
theorem dX11_may_13 : decode cX11_may 13 = .ok (.putfield 3, 3) := by decide +kernel
theorem dX11_may_16 : decode cX11_may 16 = .ok (.aload_n 0, 1) := by decide +kernel
theorem dX11_may_17 : decode cX11_may 17 = .ok (.getfield 7, 3) := by decide +kernel
theorem dX11_may_20 : decode cX11_may 20 = .ok (.iload_n 3, 1) := by decide +kernel
theorem dX11_may_21 : decode cX11_may 21 = .ok (.dup2, 1) := by decide +kernel
theorem dX11_may_22 : decode cX11_may 22 = .ok (.iaload, 1) := by decide +kernel
theorem dX11_may_23 : decode cX11_may 23 = .ok (.iconst 1, 1) := by decide +kernel
theorem dX11_may_24 : decode cX11_may 24 = .ok (.iadd, 1) := by decide +kernel
theorem dX11_may_25 : decode cX11_may 25 = .ok (.iastore, 1) := by decide +kernel
theorem dX11_may_26 : decode cX11_may 26 = .ok (.aload_n 0, 1) := by decide +kernel
theorem dX11_may_27 : decode cX11_may 27 = .ok (.getfield 3, 3) := by decide +kernel
theorem dX11_may_30 : decode cX11_may 30 = .ok (.ifCond .ne 7, 3) := by decide +kernel
theorem dX11_may_33 : decode cX11_may 33 = .ok (.iconst 1, 1) := by decide +kernel
theorem dX11_may_34 : decode cX11_may 34 = .ok (.goto 4, 3) := by decide +kernel
theorem dX11_may_37 : decode cX11_may 37 = .ok (.iconst 0, 1) := by decide +kernel
theorem dX11_may_38 : decode cX11_may 38 = .ok (.ireturn, 1) := by decide +kernel
theorem dX11_within_0 : decode cX11_within 0 = .ok (.iload_n 0, 1) := by decide +kernel
theorem dX11_within_1 : decode cX11_within 1 = .ok (.iload_n 1, 1) := by decide +kernel
theorem dX11_within_2 : decode cX11_within 2 = .ok (.if_icmp .lt 12, 3) := by decide +kernel
theorem dX11_within_5 : decode cX11_within 5 = .ok (.iload_n 0, 1) := by decide +kernel
theorem dX11_within_6 : decode cX11_within 6 = .ok (.iload_n 2, 1) := by decide +kernel
theorem dX11_within_7 : decode cX11_within 7 = .ok (.if_icmp .gt 7, 3) := by decide +kernel
theorem dX11_within_10 : decode cX11_within 10 = .ok (.iconst 1, 1) := by decide +kernel
theorem dX11_within_11 : decode cX11_within 11 = .ok (.goto 4, 3) := by decide +kernel
theorem dX11_within_14 : decode cX11_within 14 = .ok (.iconst 0, 1) := by decide +kernel
theorem dX11_within_15 : decode cX11_within 15 = .ok (.ireturn, 1) := by decide +kernel
theorem dX11_init_0 : decode cX11_init 0 = .ok (.aload_n 0, 1) := by decide +kernel
theorem dX11_init_1 : decode cX11_init 1 = .ok (.invokespecial 11, 3) := by decide +kernel
theorem dX11_init_4 : decode cX11_init 4 = .ok (.aload_n 0, 1) := by decide +kernel
theorem dX11_init_5 : decode cX11_init 5 = .ok (.iconst 3, 1) := by decide +kernel
theorem dX11_init_6 : decode cX11_init 6 = .ok (.newarray .int, 2) := by decide +kernel
theorem dX11_init_8 : decode cX11_init 8 = .ok (.putfield 7, 3) := by decide +kernel
theorem dX11_init_11 : decode cX11_init 11 = .ok (.aload_n 0, 1) := by decide +kernel
theorem dX11_init_12 : decode cX11_init 12 = .ok (.iconst (-1), 1) := by decide +kernel
theorem dX11_init_13 : decode cX11_init 13 = .ok (.putfield 17, 3) := by decide +kernel
theorem dX11_init_16 : decode cX11_init 16 = .ok (.aload_n 0, 1) := by decide +kernel
theorem dX11_init_17 : decode cX11_init 17 = .ok (.sipush 600, 3) := by decide +kernel
theorem dX11_init_20 : decode cX11_init 20 = .ok (.newarray .int, 2) := by decide +kernel
theorem dX11_init_22 : decode cX11_init 22 = .ok (.putfield 20, 3) := by decide +kernel
theorem dX11_init_25 : decode cX11_init 25 = .ok (.aload_n 0, 1) := by decide +kernel
theorem dX11_init_26 : decode cX11_init 26 = .ok (.bipush 48, 2) := by decide +kernel
theorem dX11_init_28 : decode cX11_init 28 = .ok (.newarray .int, 2) := by decide +kernel
theorem dX11_init_30 : decode cX11_init 30 = .ok (.putfield 23, 3) := by decide +kernel
theorem dX11_init_33 : decode cX11_init 33 = .ok (.aload_n 0, 1) := by decide +kernel
theorem dX11_init_34 : decode cX11_init 34 = .ok (.bipush 48, 2) := by decide +kernel
theorem dX11_init_36 : decode cX11_init 36 = .ok (.newarray .int, 2) := by decide +kernel
theorem dX11_init_38 : decode cX11_init 38 = .ok (.putfield 26, 3) := by decide +kernel
theorem dX11_init_41 : decode cX11_init 41 = .ok (.aload_n 0, 1) := by decide +kernel
theorem dX11_init_42 : decode cX11_init 42 = .ok (.iconst 5, 1) := by decide +kernel
theorem dX11_init_43 : decode cX11_init 43 = .ok (.newarray .int, 2) := by decide +kernel
theorem dX11_init_45 : decode cX11_init 45 = .ok (.putfield 29, 3) := by decide +kernel
theorem dX11_init_48 : decode cX11_init 48 = .ok (.aload_n 0, 1) := by decide +kernel
theorem dX11_init_49 : decode cX11_init 49 = .ok (.bipush 60, 2) := by decide +kernel
theorem dX11_init_51 : decode cX11_init 51 = .ok (.newarray .int, 2) := by decide +kernel
theorem dX11_init_53 : decode cX11_init 53 = .ok (.putfield 32, 3) := by decide +kernel
theorem dX11_init_56 : decode cX11_init 56 = .ok (.aload_n 0, 1) := by decide +kernel
theorem dX11_init_57 : decode cX11_init 57 = .ok (.bipush 48, 2) := by decide +kernel
theorem dX11_init_59 : decode cX11_init 59 = .ok (.newarray .int, 2) := by decide +kernel
theorem dX11_init_61 : decode cX11_init 61 = .ok (.putfield 35, 3) := by decide +kernel
theorem dX11_init_64 : decode cX11_init 64 = .ok (.aload_n 0, 1) := by decide +kernel
theorem dX11_init_65 : decode cX11_init 65 = .ok (.bipush 48, 2) := by decide +kernel
theorem dX11_init_67 : decode cX11_init 67 = .ok (.newarray .int, 2) := by decide +kernel
theorem dX11_init_69 : decode cX11_init 69 = .ok (.putfield 38, 3) := by decide +kernel
theorem dX11_init_72 : decode cX11_init 72 = .ok (.aload_n 0, 1) := by decide +kernel
theorem dX11_init_73 : decode cX11_init 73 = .ok (.iconst 5, 1) := by decide +kernel
theorem dX11_init_74 : decode cX11_init 74 = .ok (.newarray .int, 2) := by decide +kernel
theorem dX11_init_76 : decode cX11_init 76 = .ok (.putfield 41, 3) := by decide +kernel
theorem dX11_init_79 : decode cX11_init 79 = .ok (.aload_n 0, 1) := by decide +kernel
theorem dX11_init_80 : decode cX11_init 80 = .ok (.bipush 60, 2) := by decide +kernel
theorem dX11_init_82 : decode cX11_init 82 = .ok (.newarray .int, 2) := by decide +kernel
theorem dX11_init_84 : decode cX11_init 84 = .ok (.putfield 44, 3) := by decide +kernel
theorem dX11_init_87 : decode cX11_init 87 = .ok (.aload_n 0, 1) := by decide +kernel
theorem dX11_init_88 : decode cX11_init 88 = .ok (.sipush 150, 3) := by decide +kernel
theorem dX11_init_91 : decode cX11_init 91 = .ok (.newarray .int, 2) := by decide +kernel
theorem dX11_init_93 : decode cX11_init 93 = .ok (.putfield 47, 3) := by decide +kernel
theorem dX11_init_96 : decode cX11_init 96 = .ok (.aload_n 0, 1) := by decide +kernel
theorem dX11_init_97 : decode cX11_init 97 = .ok (.sipush 150, 3) := by decide +kernel
theorem dX11_init_100 : decode cX11_init 100 = .ok (.newarray .int, 2) := by decide +kernel
theorem dX11_init_102 : decode cX11_init 102 = .ok (.putfield 50, 3) := by decide +kernel
theorem dX11_init_105 : decode cX11_init 105 = .ok (.aload_n 0, 1) := by decide +kernel
theorem dX11_init_106 : decode cX11_init 106 = .ok (.sipush 300, 3) := by decide +kernel
theorem dX11_init_109 : decode cX11_init 109 = .ok (.newarray .int, 2) := by decide +kernel
theorem dX11_init_111 : decode cX11_init 111 = .ok (.putfield 53, 3) := by decide +kernel
theorem dX11_init_114 : decode cX11_init 114 = .ok (.aload_n 0, 1) := by decide +kernel
theorem dX11_init_115 : decode cX11_init 115 = .ok (.sipush 300, 3) := by decide +kernel
theorem dX11_init_118 : decode cX11_init 118 = .ok (.newarray .int, 2) := by decide +kernel
theorem dX11_init_120 : decode cX11_init 120 = .ok (.putfield 56, 3) := by decide +kernel
theorem dX11_init_123 : decode cX11_init 123 = .ok (.aload_n 0, 1) := by decide +kernel
theorem dX11_init_124 : decode cX11_init 124 = .ok (.iconst 2, 1) := by decide +kernel
theorem dX11_init_125 : decode cX11_init 125 = .ok (.newarray .int, 2) := by decide +kernel
theorem dX11_init_127 : decode cX11_init 127 = .ok (.putfield 59, 3) := by decide +kernel
theorem dX11_init_130 : decode cX11_init 130 = .ok (.aload_n 0, 1) := by decide +kernel
theorem dX11_init_131 : decode cX11_init 131 = .ok (.sipush 150, 3) := by decide +kernel
theorem dX11_init_134 : decode cX11_init 134 = .ok (.newarray .int, 2) := by decide +kernel
theorem dX11_init_136 : decode cX11_init 136 = .ok (.putfield 62, 3) := by decide +kernel
theorem dX11_init_139 : decode cX11_init 139 = .ok (.aload_n 0, 1) := by decide +kernel
theorem dX11_init_140 : decode cX11_init 140 = .ok (.bipush 8, 2) := by decide +kernel
theorem dX11_init_142 : decode cX11_init 142 = .ok (.newarray .int, 2) := by decide +kernel
theorem dX11_init_144 : decode cX11_init 144 = .ok (.putfield 65, 3) := by decide +kernel
theorem dX11_init_147 : decode cX11_init 147 = .ok (.aload_n 0, 1) := by decide +kernel
theorem dX11_init_148 : decode cX11_init 148 = .ok (.sipush 150, 3) := by decide +kernel
theorem dX11_init_151 : decode cX11_init 151 = .ok (.newarray .int, 2) := by decide +kernel
theorem dX11_init_153 : decode cX11_init 153 = .ok (.putfield 68, 3) := by decide +kernel
theorem dX11_init_156 : decode cX11_init 156 = .ok (.aload_n 0, 1) := by decide +kernel
theorem dX11_init_157 : decode cX11_init 157 = .ok (.sipush 150, 3) := by decide +kernel
theorem dX11_init_160 : decode cX11_init 160 = .ok (.newarray .int, 2) := by decide +kernel
theorem dX11_init_162 : decode cX11_init 162 = .ok (.putfield 71, 3) := by decide +kernel
theorem dX11_init_165 : decode cX11_init 165 = .ok (.aload_n 0, 1) := by decide +kernel
theorem dX11_init_166 : decode cX11_init 166 = .ok (.bipush 77, 2) := by decide +kernel
theorem dX11_init_168 : decode cX11_init 168 = .ok (.newarray .int, 2) := by decide +kernel
theorem dX11_init_170 : decode cX11_init 170 = .ok (.putfield 74, 3) := by decide +kernel
theorem dX11_init_173 : decode cX11_init 173 = .ok (.aload_n 0, 1) := by decide +kernel
theorem dX11_init_174 : decode cX11_init 174 = .ok (.bipush 77, 2) := by decide +kernel
theorem dX11_init_176 : decode cX11_init 176 = .ok (.newarray .int, 2) := by decide +kernel
theorem dX11_init_178 : decode cX11_init 178 = .ok (.putfield 77, 3) := by decide +kernel
theorem dX11_init_181 : decode cX11_init 181 = .ok (.aload_n 0, 1) := by decide +kernel
theorem dX11_init_182 : decode cX11_init 182 = .ok (.sipush 1232, 3) := by decide +kernel
theorem dX11_init_185 : decode cX11_init 185 = .ok (.newarray .int, 2) := by decide +kernel
theorem dX11_init_187 : decode cX11_init 187 = .ok (.putfield 80, 3) := by decide +kernel
theorem dX11_init_190 : decode cX11_init 190 = .ok (.aload_n 0, 1) := by decide +kernel
theorem dX11_init_191 : decode cX11_init 191 = .ok (.bipush 48, 2) := by decide +kernel
theorem dX11_init_193 : decode cX11_init 193 = .ok (.newarray .boolean, 2) := by decide +kernel
theorem dX11_init_195 : decode cX11_init 195 = .ok (.putfield 83, 3) := by decide +kernel
theorem dX11_init_198 : decode cX11_init 198 = .ok (.aload_n 0, 1) := by decide +kernel
theorem dX11_init_199 : decode cX11_init 199 = .ok (.iconst 5, 1) := by decide +kernel
theorem dX11_init_200 : decode cX11_init 200 = .ok (.newarray .int, 2) := by decide +kernel
theorem dX11_init_202 : decode cX11_init 202 = .ok (.putfield 87, 3) := by decide +kernel
theorem dX11_init_205 : decode cX11_init 205 = .ok (.aload_n 0, 1) := by decide +kernel
theorem dX11_init_206 : decode cX11_init 206 = .ok (.bipush 16, 2) := by decide +kernel
theorem dX11_init_208 : decode cX11_init 208 = .ok (.newarray .int, 2) := by decide +kernel
theorem dX11_init_210 : decode cX11_init 210 = .ok (.putfield 90, 3) := by decide +kernel
theorem dX11_init_213 : decode cX11_init 213 = .ok (.aload_n 0, 1) := by decide +kernel
theorem dX11_init_214 : decode cX11_init 214 = .ok (.bipush 16, 2) := by decide +kernel
theorem dX11_init_216 : decode cX11_init 216 = .ok (.newarray .int, 2) := by decide +kernel
theorem dX11_init_218 : decode cX11_init 218 = .ok (.putfield 93, 3) := by decide +kernel
theorem dX11_init_221 : decode cX11_init 221 = .ok (.aload_n 0, 1) := by decide +kernel
theorem dX11_init_222 : decode cX11_init 222 = .ok (.sipush 385, 3) := by decide +kernel
theorem dX11_init_225 : decode cX11_init 225 = .ok (.newarray .int, 2) := by decide +kernel
theorem dX11_init_227 : decode cX11_init 227 = .ok (.putfield 96, 3) := by decide +kernel
theorem dX11_init_230 : decode cX11_init 230 = .ok (.aload_n 0, 1) := by decide +kernel
theorem dX11_init_231 : decode cX11_init 231 = .ok (.bipush 48, 2) := by decide +kernel
theorem dX11_init_233 : decode cX11_init 233 = .ok (.newarray .int, 2) := by decide +kernel
theorem dX11_init_235 : decode cX11_init 235 = .ok (.putfield 99, 3) := by decide +kernel
theorem dX11_init_238 : decode cX11_init 238 = .ok (.aload_n 0, 1) := by decide +kernel
theorem dX11_init_239 : decode cX11_init 239 = .ok (.bipush 48, 2) := by decide +kernel
theorem dX11_init_241 : decode cX11_init 241 = .ok (.newarray .int, 2) := by decide +kernel
theorem dX11_init_243 : decode cX11_init 243 = .ok (.putfield 102, 3) := by decide +kernel
theorem dX11_init_246 : decode cX11_init 246 = .ok (.aload_n 0, 1) := by decide +kernel
theorem dX11_init_247 : decode cX11_init 247 = .ok (.bipush 7, 2) := by decide +kernel
theorem dX11_init_249 : decode cX11_init 249 = .ok (.newarray .int, 2) := by decide +kernel
theorem dX11_init_251 : decode cX11_init 251 = .ok (.putfield 105, 3) := by decide +kernel
theorem dX11_init_254 : decode cX11_init 254 = .ok (.aload_n 0, 1) := by decide +kernel
theorem dX11_init_255 : decode cX11_init 255 = .ok (.sipush 3930, 3) := by decide +kernel
theorem dX11_init_258 : decode cX11_init 258 = .ok (.newarray .int, 2) := by decide +kernel
theorem dX11_init_260 : decode cX11_init 260 = .ok (.putfield 108, 3) := by decide +kernel
theorem dX11_init_263 : decode cX11_init 263 = .ok (.aload_n 0, 1) := by decide +kernel
theorem dX11_init_264 : decode cX11_init 264 = .ok (.invokevirtual 111, 3) := by decide +kernel
theorem dX11_init_267 : decode cX11_init 267 = .ok (.aload_n 0, 1) := by decide +kernel
theorem dX11_init_268 : decode cX11_init 268 = .ok (.invokevirtual 114, 3) := by decide +kernel
theorem dX11_init_271 : decode cX11_init 271 = .ok (.pop, 1) := by decide +kernel
theorem dX11_init_272 : decode cX11_init 272 = .ok (.return_, 1) := by decide +kernel
theorem dX11_feed_0 : decode cX11_feed 0 = .ok (.aload_n 0, 1) := by decide +kernel
theorem dX11_feed_1 : decode cX11_feed 1 = .ok (.iconst 0, 1) := by decide +kernel
theorem dX11_feed_2 : decode cX11_feed 2 = .ok (.putfield 3, 3) := by decide +kernel
theorem dX11_feed_5 : decode cX11_feed 5 = .ok (.aload_n 0, 1) := by decide +kernel
theorem dX11_feed_6 : decode cX11_feed 6 = .ok (.getfield 118, 3) := by decide +kernel
theorem dX11_feed_9 : decode cX11_feed 9 = .ok (.bipush 20, 2) := by decide +kernel
theorem dX11_feed_11 : decode cX11_feed 11 = .ok (.iadd, 1) := by decide +kernel
theorem dX11_feed_12 : decode cX11_feed 12 = .ok (.sipush 600, 3) := by decide +kernel
theorem dX11_feed_15 : decode cX11_feed 15 = .ok (.if_icmp .le 5, 3) := by decide +kernel
theorem dX11_feed_18 : decode cX11_feed 18 = .ok (.iconst (-1), 1) := by decide +kernel
theorem dX11_feed_19 : decode cX11_feed 19 = .ok (.ireturn, 1) := by decide +kernel
theorem dX11_feed_20 : decode cX11_feed 20 = .ok (.iconst 0, 1) := by decide +kernel
theorem dX11_feed_21 : decode cX11_feed 21 = .ok (.istore 6, 2) := by decide +kernel
theorem dX11_feed_23 : decode cX11_feed 23 = .ok (.iload 6, 2) := by decide +kernel
theorem dX11_feed_25 : decode cX11_feed 25 = .ok (.bipush 20, 2) := by decide +kernel
theorem dX11_feed_27 : decode cX11_feed 27 = .ok (.if_icmp .ge 93, 3) := by decide +kernel
theorem dX11_feed_30 : decode cX11_feed 30 = .ok (.iload 6, 2) := by decide +kernel
theorem dX11_feed_32 : decode cX11_feed 32 = .ok (.iconst 4, 1) := by decide +kernel
theorem dX11_feed_33 : decode cX11_feed 33 = .ok (.if_icmp .ge 7, 3) := by decide +kernel
theorem dX11_feed_36 : decode cX11_feed 36 = .ok (.iload_n 1, 1) := by decide +kernel
theorem dX11_feed_37 : decode cX11_feed 37 = .ok (.goto 39, 3) := by decide +kernel
theorem dX11_feed_40 : decode cX11_feed 40 = .ok (.iload 6, 2) := by decide +kernel
theorem dX11_feed_42 : decode cX11_feed 42 = .ok (.bipush 8, 2) := by decide +kernel
theorem dX11_feed_44 : decode cX11_feed 44 = .ok (.if_icmp .ge 7, 3) := by decide +kernel
theorem dX11_feed_47 : decode cX11_feed 47 = .ok (.iload_n 2, 1) := by decide +kernel
theorem dX11_feed_48 : decode cX11_feed 48 = .ok (.goto 28, 3) := by decide +kernel
theorem dX11_feed_51 : decode cX11_feed 51 = .ok (.iload 6, 2) := by decide +kernel
theorem dX11_feed_53 : decode cX11_feed 53 = .ok (.bipush 12, 2) := by decide +kernel
theorem dX11_feed_55 : decode cX11_feed 55 = .ok (.if_icmp .ge 7, 3) := by decide +kernel
theorem dX11_feed_58 : decode cX11_feed 58 = .ok (.iload_n 3, 1) := by decide +kernel
theorem dX11_feed_59 : decode cX11_feed 59 = .ok (.goto 17, 3) := by decide +kernel
theorem dX11_feed_62 : decode cX11_feed 62 = .ok (.iload 6, 2) := by decide +kernel
theorem dX11_feed_64 : decode cX11_feed 64 = .ok (.bipush 16, 2) := by decide +kernel
theorem dX11_feed_66 : decode cX11_feed 66 = .ok (.if_icmp .ge 8, 3) := by decide +kernel
theorem dX11_feed_69 : decode cX11_feed 69 = .ok (.iload 4, 2) := by decide +kernel
theorem dX11_feed_71 : decode cX11_feed 71 = .ok (.goto 5, 3) := by decide +kernel
theorem dX11_feed_74 : decode cX11_feed 74 = .ok (.iload 5, 2) := by decide +kernel
theorem dX11_feed_76 : decode cX11_feed 76 = .ok (.istore 7, 2) := by decide +kernel
theorem dX11_feed_78 : decode cX11_feed 78 = .ok (.aload_n 0, 1) := by decide +kernel
theorem dX11_feed_79 : decode cX11_feed 79 = .ok (.getfield 20, 3) := by decide +kernel
theorem dX11_feed_82 : decode cX11_feed 82 = .ok (.aload_n 0, 1) := by decide +kernel
theorem dX11_feed_83 : decode cX11_feed 83 = .ok (.getfield 118, 3) := by decide +kernel
theorem dX11_feed_86 : decode cX11_feed 86 = .ok (.iload 7, 2) := by decide +kernel
theorem dX11_feed_88 : decode cX11_feed 88 = .ok (.bipush 24, 2) := by decide +kernel
theorem dX11_feed_90 : decode cX11_feed 90 = .ok (.bipush 8, 2) := by decide +kernel
theorem dX11_feed_92 : decode cX11_feed 92 = .ok (.iload 6, 2) := by decide +kernel
theorem dX11_feed_94 : decode cX11_feed 94 = .ok (.iconst 4, 1) := by decide +kernel
theorem dX11_feed_95 : decode cX11_feed 95 = .ok (.irem, 1) := by decide +kernel
theorem dX11_feed_96 : decode cX11_feed 96 = .ok (.imul, 1) := by decide +kernel
theorem dX11_feed_97 : decode cX11_feed 97 = .ok (.isub, 1) := by decide +kernel
theorem dX11_feed_98 : decode cX11_feed 98 = .ok (.ishr, 1) := by decide +kernel
theorem dX11_feed_99 : decode cX11_feed 99 = .ok (.sipush 255, 3) := by decide +kernel
theorem dX11_feed_102 : decode cX11_feed 102 = .ok (.iand, 1) := by decide +kernel
theorem dX11_feed_103 : decode cX11_feed 103 = .ok (.iastore, 1) := by decide +kernel
theorem dX11_feed_104 : decode cX11_feed 104 = .ok (.aload_n 0, 1) := by decide +kernel
theorem dX11_feed_105 : decode cX11_feed 105 = .ok (.dup, 1) := by decide +kernel
theorem dX11_feed_106 : decode cX11_feed 106 = .ok (.getfield 118, 3) := by decide +kernel
theorem dX11_feed_109 : decode cX11_feed 109 = .ok (.iconst 1, 1) := by decide +kernel
theorem dX11_feed_110 : decode cX11_feed 110 = .ok (.iadd, 1) := by decide +kernel
theorem dX11_feed_111 : decode cX11_feed 111 = .ok (.putfield 118, 3) := by decide +kernel
theorem dX11_feed_114 : decode cX11_feed 114 = .ok (.iinc 6 1, 3) := by decide +kernel
theorem dX11_feed_117 : decode cX11_feed 117 = .ok (.goto (-94), 3) := by decide +kernel
theorem dX11_feed_120 : decode cX11_feed 120 = .ok (.aload_n 0, 1) := by decide +kernel
theorem dX11_feed_121 : decode cX11_feed 121 = .ok (.getfield 118, 3) := by decide +kernel
theorem dX11_feed_124 : decode cX11_feed 124 = .ok (.ireturn, 1) := by decide +kernel
theorem dX11_fine_0 : decode cX11_fine 0 = .ok (.aload_n 0, 1) := by decide +kernel
theorem dX11_fine_1 : decode cX11_fine 1 = .ok (.getfield 121, 3) := by decide +kernel
theorem dX11_fine_4 : decode cX11_fine 4 = .ok (.iconst (-1), 1) := by decide +kernel
theorem dX11_fine_5 : decode cX11_fine 5 = .ok (.if_icmp .ne 7, 3) := by decide +kernel
theorem dX11_fine_8 : decode cX11_fine 8 = .ok (.iconst 1, 1) := by decide +kernel
theorem dX11_fine_9 : decode cX11_fine 9 = .ok (.goto 4, 3) := by decide +kernel
theorem dX11_fine_12 : decode cX11_fine 12 = .ok (.iconst 0, 1) := by decide +kernel
theorem dX11_fine_13 : decode cX11_fine 13 = .ok (.ireturn, 1) := by decide +kernel
theorem dX11_wrong_0 : decode cX11_wrong 0 = .ok (.aload_n 0, 1) := by decide +kernel
theorem dX11_wrong_1 : decode cX11_wrong 1 = .ok (.getfield 121, 3) := by decide +kernel
theorem dX11_wrong_4 : decode cX11_wrong 4 = .ok (.iconst (-1), 1) := by decide +kernel
theorem dX11_wrong_5 : decode cX11_wrong 5 = .ok (.if_icmp .eq 4, 3) := by decide +kernel
theorem dX11_wrong_8 : decode cX11_wrong 8 = .ok (.return_, 1) := by decide +kernel
theorem dX11_wrong_9 : decode cX11_wrong 9 = .ok (.aload_n 0, 1) := by decide +kernel
theorem dX11_wrong_10 : decode cX11_wrong 10 = .ok (.iload_n 2, 1) := by decide +kernel
theorem dX11_wrong_11 : decode cX11_wrong 11 = .ok (.putfield 121, 3) := by decide +kernel
theorem dX11_wrong_14 : decode cX11_wrong 14 = .ok (.aload_n 0, 1) := by decide +kernel
theorem dX11_wrong_15 : decode cX11_wrong 15 = .ok (.iload_n 1, 1) := by decide +kernel
theorem dX11_wrong_16 : decode cX11_wrong 16 = .ok (.putfield 124, 3) := by decide +kernel
theorem dX11_wrong_19 : decode cX11_wrong 19 = .ok (.return_, 1) := by decide +kernel
theorem dX11_here_0 : decode cX11_here 0 = .ok (.aload_n 0, 1) := by decide +kernel
theorem dX11_here_1 : decode cX11_here 1 = .ok (.getfield 127, 3) := by decide +kernel
theorem dX11_here_4 : decode cX11_here 4 = .ok (.aload_n 0, 1) := by decide +kernel
theorem dX11_here_5 : decode cX11_here 5 = .ok (.getfield 130, 3) := by decide +kernel
theorem dX11_here_8 : decode cX11_here 8 = .ok (.if_icmp .ge 30, 3) := by decide +kernel
theorem dX11_here_11 : decode cX11_here 11 = .ok (.aload_n 0, 1) := by decide +kernel
theorem dX11_here_12 : decode cX11_here 12 = .ok (.getfield 20, 3) := by decide +kernel
theorem dX11_here_15 : decode cX11_here 15 = .ok (.aload_n 0, 1) := by decide +kernel
theorem dX11_here_16 : decode cX11_here 16 = .ok (.getfield 127, 3) := by decide +kernel
theorem dX11_here_19 : decode cX11_here 19 = .ok (.iaload, 1) := by decide +kernel
theorem dX11_here_20 : decode cX11_here 20 = .ok (.bipush 32, 2) := by decide +kernel
theorem dX11_here_22 : decode cX11_here 22 = .ok (.if_icmp .ne 16, 3) := by decide +kernel
theorem dX11_here_25 : decode cX11_here 25 = .ok (.aload_n 0, 1) := by decide +kernel
theorem dX11_here_26 : decode cX11_here 26 = .ok (.dup, 1) := by decide +kernel
theorem dX11_here_27 : decode cX11_here 27 = .ok (.getfield 127, 3) := by decide +kernel
theorem dX11_here_30 : decode cX11_here 30 = .ok (.iconst 1, 1) := by decide +kernel
theorem dX11_here_31 : decode cX11_here 31 = .ok (.iadd, 1) := by decide +kernel
theorem dX11_here_32 : decode cX11_here 32 = .ok (.putfield 127, 3) := by decide +kernel
theorem dX11_here_35 : decode cX11_here 35 = .ok (.goto (-35), 3) := by decide +kernel
theorem dX11_here_38 : decode cX11_here 38 = .ok (.aload_n 0, 1) := by decide +kernel
theorem dX11_here_39 : decode cX11_here 39 = .ok (.getfield 127, 3) := by decide +kernel
theorem dX11_here_42 : decode cX11_here 42 = .ok (.aload_n 0, 1) := by decide +kernel
theorem dX11_here_43 : decode cX11_here 43 = .ok (.getfield 130, 3) := by decide +kernel
theorem dX11_here_46 : decode cX11_here 46 = .ok (.if_icmp .ge 15, 3) := by decide +kernel
theorem dX11_here_49 : decode cX11_here 49 = .ok (.aload_n 0, 1) := by decide +kernel
theorem dX11_here_50 : decode cX11_here 50 = .ok (.getfield 20, 3) := by decide +kernel
theorem dX11_here_53 : decode cX11_here 53 = .ok (.aload_n 0, 1) := by decide +kernel
theorem dX11_here_54 : decode cX11_here 54 = .ok (.getfield 127, 3) := by decide +kernel
theorem dX11_here_57 : decode cX11_here 57 = .ok (.iaload, 1) := by decide +kernel
theorem dX11_here_58 : decode cX11_here 58 = .ok (.goto 4, 3) := by decide +kernel
theorem dX11_here_61 : decode cX11_here 61 = .ok (.iconst 0, 1) := by decide +kernel
theorem dX11_here_62 : decode cX11_here 62 = .ok (.ireturn, 1) := by decide +kernel
theorem dX11_isSmall_0 : decode cX11_isSmall 0 = .ok (.iload_n 0, 1) := by decide +kernel
theorem dX11_isSmall_1 : decode cX11_isSmall 1 = .ok (.bipush 97, 2) := by decide +kernel
theorem dX11_isSmall_3 : decode cX11_isSmall 3 = .ok (.if_icmp .lt 13, 3) := by decide +kernel
theorem dX11_isSmall_6 : decode cX11_isSmall 6 = .ok (.iload_n 0, 1) := by decide +kernel
theorem dX11_isSmall_7 : decode cX11_isSmall 7 = .ok (.bipush 122, 2) := by decide +kernel
theorem dX11_isSmall_9 : decode cX11_isSmall 9 = .ok (.if_icmp .gt 7, 3) := by decide +kernel
theorem dX11_isSmall_12 : decode cX11_isSmall 12 = .ok (.iconst 1, 1) := by decide +kernel
theorem dX11_isSmall_13 : decode cX11_isSmall 13 = .ok (.goto 4, 3) := by decide +kernel
theorem dX11_isSmall_16 : decode cX11_isSmall 16 = .ok (.iconst 0, 1) := by decide +kernel
theorem dX11_isSmall_17 : decode cX11_isSmall 17 = .ok (.ireturn, 1) := by decide +kernel
theorem dX11_isDigit_0 : decode cX11_isDigit 0 = .ok (.iload_n 0, 1) := by decide +kernel
theorem dX11_isDigit_1 : decode cX11_isDigit 1 = .ok (.bipush 48, 2) := by decide +kernel
theorem dX11_isDigit_3 : decode cX11_isDigit 3 = .ok (.if_icmp .lt 13, 3) := by decide +kernel
theorem dX11_isDigit_6 : decode cX11_isDigit 6 = .ok (.iload_n 0, 1) := by decide +kernel
theorem dX11_isDigit_7 : decode cX11_isDigit 7 = .ok (.bipush 57, 2) := by decide +kernel
theorem dX11_isDigit_9 : decode cX11_isDigit 9 = .ok (.if_icmp .gt 7, 3) := by decide +kernel
theorem dX11_isDigit_12 : decode cX11_isDigit 12 = .ok (.iconst 1, 1) := by decide +kernel
theorem dX11_isDigit_13 : decode cX11_isDigit 13 = .ok (.goto 4, 3) := by decide +kernel
theorem dX11_isDigit_16 : decode cX11_isDigit 16 = .ok (.iconst 0, 1) := by decide +kernel
theorem dX11_isDigit_17 : decode cX11_isDigit 17 = .ok (.ireturn, 1) := by decide +kernel
theorem dX11_word_0 : decode cX11_word 0 = .ok (.aload_n 0, 1) := by decide +kernel
theorem dX11_word_1 : decode cX11_word 1 = .ok (.invokevirtual 133, 3) := by decide +kernel
theorem dX11_word_4 : decode cX11_word 4 = .ok (.pop, 1) := by decide +kernel
theorem dX11_word_5 : decode cX11_word 5 = .ok (.iconst 0, 1) := by decide +kernel
theorem dX11_word_6 : decode cX11_word 6 = .ok (.istore_n 1, 1) := by decide +kernel
theorem dX11_word_7 : decode cX11_word 7 = .ok (.iconst 0, 1) := by decide +kernel
theorem dX11_word_8 : decode cX11_word 8 = .ok (.istore_n 2, 1) := by decide +kernel
theorem dX11_word_9 : decode cX11_word 9 = .ok (.aload_n 0, 1) := by decide +kernel
theorem dX11_word_10 : decode cX11_word 10 = .ok (.getfield 127, 3) := by decide +kernel
theorem dX11_word_13 : decode cX11_word 13 = .ok (.istore_n 3, 1) := by decide +kernel
theorem dX11_word_14 : decode cX11_word 14 = .ok (.iload_n 3, 1) := by decide +kernel
theorem dX11_word_15 : decode cX11_word 15 = .ok (.aload_n 0, 1) := by decide +kernel
theorem dX11_word_16 : decode cX11_word 16 = .ok (.getfield 130, 3) := by decide +kernel
theorem dX11_word_19 : decode cX11_word 19 = .ok (.if_icmp .ge 48, 3) := by decide +kernel
theorem dX11_word_22 : decode cX11_word 22 = .ok (.aload_n 0, 1) := by decide +kernel
theorem dX11_word_23 : decode cX11_word 23 = .ok (.getfield 20, 3) := by decide +kernel
theorem dX11_word_26 : decode cX11_word 26 = .ok (.iload_n 3, 1) := by decide +kernel
theorem dX11_word_27 : decode cX11_word 27 = .ok (.iaload, 1) := by decide +kernel
theorem dX11_word_28 : decode cX11_word 28 = .ok (.invokestatic 136, 3) := by decide +kernel
theorem dX11_word_31 : decode cX11_word 31 = .ok (.ifCond .eq 36, 3) := by decide +kernel
theorem dX11_word_34 : decode cX11_word 34 = .ok (.iload_n 2, 1) := by decide +kernel
theorem dX11_word_35 : decode cX11_word 35 = .ok (.bipush 6, 2) := by decide +kernel
theorem dX11_word_37 : decode cX11_word 37 = .ok (.if_icmp .ge 19, 3) := by decide +kernel
theorem dX11_word_40 : decode cX11_word 40 = .ok (.iload_n 1, 1) := by decide +kernel
theorem dX11_word_41 : decode cX11_word 41 = .ok (.iconst 5, 1) := by decide +kernel
theorem dX11_word_42 : decode cX11_word 42 = .ok (.ishl, 1) := by decide +kernel
theorem dX11_word_43 : decode cX11_word 43 = .ok (.aload_n 0, 1) := by decide +kernel
theorem dX11_word_44 : decode cX11_word 44 = .ok (.getfield 20, 3) := by decide +kernel
theorem dX11_word_47 : decode cX11_word 47 = .ok (.iload_n 3, 1) := by decide +kernel
theorem dX11_word_48 : decode cX11_word 48 = .ok (.iaload, 1) := by decide +kernel
theorem dX11_word_49 : decode cX11_word 49 = .ok (.bipush 96, 2) := by decide +kernel
theorem dX11_word_51 : decode cX11_word 51 = .ok (.isub, 1) := by decide +kernel
theorem dX11_word_52 : decode cX11_word 52 = .ok (.ior, 1) := by decide +kernel
theorem dX11_word_53 : decode cX11_word 53 = .ok (.goto 4, 3) := by decide +kernel
theorem dX11_word_56 : decode cX11_word 56 = .ok (.iconst 0, 1) := by decide +kernel
theorem dX11_word_57 : decode cX11_word 57 = .ok (.istore_n 1, 1) := by decide +kernel
theorem dX11_word_58 : decode cX11_word 58 = .ok (.iinc 2 1, 3) := by decide +kernel
theorem dX11_word_61 : decode cX11_word 61 = .ok (.iinc 3 1, 3) := by decide +kernel
theorem dX11_word_64 : decode cX11_word 64 = .ok (.goto (-50), 3) := by decide +kernel
theorem dX11_word_67 : decode cX11_word 67 = .ok (.iload_n 2, 1) := by decide +kernel
theorem dX11_word_68 : decode cX11_word 68 = .ok (.bipush 6, 2) := by decide +kernel
theorem dX11_word_70 : decode cX11_word 70 = .ok (.if_icmp .le 7, 3) := by decide +kernel
theorem dX11_word_73 : decode cX11_word 73 = .ok (.iconst 0, 1) := by decide +kernel
theorem dX11_word_74 : decode cX11_word 74 = .ok (.goto 4, 3) := by decide +kernel
theorem dX11_word_77 : decode cX11_word 77 = .ok (.iload_n 1, 1) := by decide +kernel
theorem dX11_word_78 : decode cX11_word 78 = .ok (.ireturn, 1) := by decide +kernel
theorem dX11_of_0 : decode cX11_of 0 = .ok (.iconst 0, 1) := by decide +kernel
theorem dX11_of_1 : decode cX11_of 1 = .ok (.istore_n 1, 1) := by decide +kernel
theorem dX11_of_2 : decode cX11_of 2 = .ok (.iconst 0, 1) := by decide +kernel
theorem dX11_of_3 : decode cX11_of 3 = .ok (.istore_n 2, 1) := by decide +kernel
theorem dX11_of_4 : decode cX11_of 4 = .ok (.iload_n 2, 1) := by decide +kernel
theorem dX11_of_5 : decode cX11_of 5 = .ok (.aload_n 0, 1) := by decide +kernel
theorem dX11_of_6 : decode cX11_of 6 = .ok (.invokevirtual 140, 3) := by decide +kernel
theorem dX11_of_9 : decode cX11_of 9 = .ok (.if_icmp .ge 22, 3) := by decide +kernel
theorem dX11_of_12 : decode cX11_of 12 = .ok (.iload_n 1, 1) := by decide +kernel
theorem dX11_of_13 : decode cX11_of 13 = .ok (.iconst 5, 1) := by decide +kernel
theorem dX11_of_14 : decode cX11_of 14 = .ok (.ishl, 1) := by decide +kernel
theorem dX11_of_15 : decode cX11_of 15 = .ok (.aload_n 0, 1) := by decide +kernel
theorem dX11_of_16 : decode cX11_of 16 = .ok (.iload_n 2, 1) := by decide +kernel
theorem dX11_of_17 : decode cX11_of 17 = .ok (.invokevirtual 145, 3) := by decide +kernel
theorem dX11_of_20 : decode cX11_of 20 = .ok (.bipush 96, 2) := by decide +kernel
theorem dX11_of_22 : decode cX11_of 22 = .ok (.isub, 1) := by decide +kernel
theorem dX11_of_23 : decode cX11_of 23 = .ok (.ior, 1) := by decide +kernel
theorem dX11_of_24 : decode cX11_of 24 = .ok (.istore_n 1, 1) := by decide +kernel
theorem dX11_of_25 : decode cX11_of 25 = .ok (.iinc 2 1, 3) := by decide +kernel
theorem dX11_of_28 : decode cX11_of 28 = .ok (.goto (-24), 3) := by decide +kernel
theorem dX11_of_31 : decode cX11_of 31 = .ok (.iload_n 1, 1) := by decide +kernel
theorem dX11_of_32 : decode cX11_of 32 = .ok (.ireturn, 1) := by decide +kernel
theorem dX11_pass_0 : decode cX11_pass 0 = .ok (.aload_n 0, 1) := by decide +kernel
theorem dX11_pass_1 : decode cX11_pass 1 = .ok (.getfield 127, 3) := by decide +kernel
theorem dX11_pass_4 : decode cX11_pass 4 = .ok (.aload_n 0, 1) := by decide +kernel
theorem dX11_pass_5 : decode cX11_pass 5 = .ok (.getfield 130, 3) := by decide +kernel
theorem dX11_pass_8 : decode cX11_pass 8 = .ok (.if_icmp .ge 31, 3) := by decide +kernel
theorem dX11_pass_11 : decode cX11_pass 11 = .ok (.aload_n 0, 1) := by decide +kernel
theorem dX11_pass_12 : decode cX11_pass 12 = .ok (.getfield 20, 3) := by decide +kernel
theorem dX11_pass_15 : decode cX11_pass 15 = .ok (.aload_n 0, 1) := by decide +kernel
theorem dX11_pass_16 : decode cX11_pass 16 = .ok (.getfield 127, 3) := by decide +kernel
theorem dX11_pass_19 : decode cX11_pass 19 = .ok (.iaload, 1) := by decide +kernel
theorem dX11_pass_20 : decode cX11_pass 20 = .ok (.invokestatic 136, 3) := by decide +kernel
theorem dX11_pass_23 : decode cX11_pass 23 = .ok (.ifCond .eq 16, 3) := by decide +kernel
theorem dX11_pass_26 : decode cX11_pass 26 = .ok (.aload_n 0, 1) := by decide +kernel
theorem dX11_pass_27 : decode cX11_pass 27 = .ok (.dup, 1) := by decide +kernel
theorem dX11_pass_28 : decode cX11_pass 28 = .ok (.getfield 127, 3) := by decide +kernel
theorem dX11_pass_31 : decode cX11_pass 31 = .ok (.iconst 1, 1) := by decide +kernel
theorem dX11_pass_32 : decode cX11_pass 32 = .ok (.iadd, 1) := by decide +kernel
theorem dX11_pass_33 : decode cX11_pass 33 = .ok (.putfield 127, 3) := by decide +kernel
theorem dX11_pass_36 : decode cX11_pass 36 = .ok (.goto (-36), 3) := by decide +kernel
theorem dX11_pass_39 : decode cX11_pass 39 = .ok (.return_, 1) := by decide +kernel
theorem dX11_readNumber_0 : decode cX11_readNumber 0 = .ok (.aload_n 0, 1) := by decide +kernel
theorem dX11_readNumber_1 : decode cX11_readNumber 1 = .ok (.invokevirtual 149, 3) := by decide +kernel
theorem dX11_readNumber_4 : decode cX11_readNumber 4 = .ok (.ifCond .ne 5, 3) := by decide +kernel
theorem dX11_readNumber_7 : decode cX11_readNumber 7 = .ok (.iconst 0, 1) := by decide +kernel
theorem dX11_readNumber_8 : decode cX11_readNumber 8 = .ok (.ireturn, 1) := by decide +kernel
theorem dX11_readNumber_9 : decode cX11_readNumber 9 = .ok (.aload_n 0, 1) := by decide +kernel
theorem dX11_readNumber_10 : decode cX11_readNumber 10 = .ok (.invokevirtual 133, 3) := by decide +kernel
theorem dX11_readNumber_13 : decode cX11_readNumber 13 = .ok (.istore_n 3, 1) := by decide +kernel
theorem dX11_readNumber_14 : decode cX11_readNumber 14 = .ok (.aload_n 0, 1) := by decide +kernel
theorem dX11_readNumber_15 : decode cX11_readNumber 15 = .ok (.getfield 127, 3) := by decide +kernel
theorem dX11_readNumber_18 : decode cX11_readNumber 18 = .ok (.istore 4, 2) := by decide +kernel
theorem dX11_readNumber_20 : decode cX11_readNumber 20 = .ok (.iconst 0, 1) := by decide +kernel
theorem dX11_readNumber_21 : decode cX11_readNumber 21 = .ok (.istore 5, 2) := by decide +kernel
theorem dX11_readNumber_23 : decode cX11_readNumber 23 = .ok (.iload_n 3, 1) := by decide +kernel
theorem dX11_readNumber_24 : decode cX11_readNumber 24 = .ok (.invokestatic 153, 3) := by decide +kernel
theorem dX11_readNumber_27 : decode cX11_readNumber 27 = .ok (.ifCond .ne 14, 3) := by decide +kernel
theorem dX11_readNumber_30 : decode cX11_readNumber 30 = .ok (.aload_n 0, 1) := by decide +kernel
theorem dX11_readNumber_31 : decode cX11_readNumber 31 = .ok (.iconst 1, 1) := by decide +kernel
theorem dX11_readNumber_32 : decode cX11_readNumber 32 = .ok (.aload_n 0, 1) := by decide +kernel
theorem dX11_readNumber_33 : decode cX11_readNumber 33 = .ok (.getfield 127, 3) := by decide +kernel
theorem dX11_readNumber_36 : decode cX11_readNumber 36 = .ok (.invokevirtual 156, 3) := by decide +kernel
theorem dX11_readNumber_39 : decode cX11_readNumber 39 = .ok (.iconst 0, 1) := by decide +kernel
theorem dX11_readNumber_40 : decode cX11_readNumber 40 = .ok (.ireturn, 1) := by decide +kernel
theorem dX11_readNumber_41 : decode cX11_readNumber 41 = .ok (.aload_n 0, 1) := by decide +kernel
theorem dX11_readNumber_42 : decode cX11_readNumber 42 = .ok (.getfield 127, 3) := by decide +kernel
theorem dX11_readNumber_45 : decode cX11_readNumber 45 = .ok (.aload_n 0, 1) := by decide +kernel
theorem dX11_readNumber_46 : decode cX11_readNumber 46 = .ok (.getfield 130, 3) := by decide +kernel
theorem dX11_readNumber_49 : decode cX11_readNumber 49 = .ok (.if_icmp .ge 65, 3) := by decide +kernel
theorem dX11_readNumber_52 : decode cX11_readNumber 52 = .ok (.aload_n 0, 1) := by decide +kernel
theorem dX11_readNumber_53 : decode cX11_readNumber 53 = .ok (.getfield 20, 3) := by decide +kernel
theorem dX11_readNumber_56 : decode cX11_readNumber 56 = .ok (.aload_n 0, 1) := by decide +kernel
theorem dX11_readNumber_57 : decode cX11_readNumber 57 = .ok (.getfield 127, 3) := by decide +kernel
theorem dX11_readNumber_60 : decode cX11_readNumber 60 = .ok (.iaload, 1) := by decide +kernel
theorem dX11_readNumber_61 : decode cX11_readNumber 61 = .ok (.invokestatic 153, 3) := by decide +kernel
theorem dX11_readNumber_64 : decode cX11_readNumber 64 = .ok (.ifCond .eq 50, 3) := by decide +kernel
theorem dX11_readNumber_67 : decode cX11_readNumber 67 = .ok (.iload 5, 2) := by decide +kernel
theorem dX11_readNumber_69 : decode cX11_readNumber 69 = .ok (.sipush 9999, 3) := by decide +kernel
theorem dX11_readNumber_72 : decode cX11_readNumber 72 = .ok (.if_icmp .le 9, 3) := by decide +kernel
theorem dX11_readNumber_75 : decode cX11_readNumber 75 = .ok (.sipush 10000, 3) := by decide +kernel
theorem dX11_readNumber_78 : decode cX11_readNumber 78 = .ok (.goto 21, 3) := by decide +kernel
theorem dX11_readNumber_81 : decode cX11_readNumber 81 = .ok (.bipush 10, 2) := by decide +kernel
theorem dX11_readNumber_83 : decode cX11_readNumber 83 = .ok (.iload 5, 2) := by decide +kernel
theorem dX11_readNumber_85 : decode cX11_readNumber 85 = .ok (.imul, 1) := by decide +kernel
theorem dX11_readNumber_86 : decode cX11_readNumber 86 = .ok (.aload_n 0, 1) := by decide +kernel
theorem dX11_readNumber_87 : decode cX11_readNumber 87 = .ok (.getfield 20, 3) := by decide +kernel
theorem dX11_readNumber_90 : decode cX11_readNumber 90 = .ok (.aload_n 0, 1) := by decide +kernel
theorem dX11_readNumber_91 : decode cX11_readNumber 91 = .ok (.getfield 127, 3) := by decide +kernel
theorem dX11_readNumber_94 : decode cX11_readNumber 94 = .ok (.iaload, 1) := by decide +kernel
theorem dX11_readNumber_95 : decode cX11_readNumber 95 = .ok (.iadd, 1) := by decide +kernel
theorem dX11_readNumber_96 : decode cX11_readNumber 96 = .ok (.bipush 48, 2) := by decide +kernel
theorem dX11_readNumber_98 : decode cX11_readNumber 98 = .ok (.isub, 1) := by decide +kernel
theorem dX11_readNumber_99 : decode cX11_readNumber 99 = .ok (.istore 5, 2) := by decide +kernel
theorem dX11_readNumber_101 : decode cX11_readNumber 101 = .ok (.aload_n 0, 1) := by decide +kernel
theorem dX11_readNumber_102 : decode cX11_readNumber 102 = .ok (.dup, 1) := by decide +kernel
theorem dX11_readNumber_103 : decode cX11_readNumber 103 = .ok (.getfield 127, 3) := by decide +kernel
theorem dX11_readNumber_106 : decode cX11_readNumber 106 = .ok (.iconst 1, 1) := by decide +kernel
theorem dX11_readNumber_107 : decode cX11_readNumber 107 = .ok (.iadd, 1) := by decide +kernel
theorem dX11_readNumber_108 : decode cX11_readNumber 108 = .ok (.putfield 127, 3) := by decide +kernel
theorem dX11_readNumber_111 : decode cX11_readNumber 111 = .ok (.goto (-70), 3) := by decide +kernel
theorem dX11_readNumber_114 : decode cX11_readNumber 114 = .ok (.iload 5, 2) := by decide +kernel
theorem dX11_readNumber_116 : decode cX11_readNumber 116 = .ok (.iload_n 1, 1) := by decide +kernel
theorem dX11_readNumber_117 : decode cX11_readNumber 117 = .ok (.if_icmp .lt 9, 3) := by decide +kernel
theorem dX11_readNumber_120 : decode cX11_readNumber 120 = .ok (.iload 5, 2) := by decide +kernel
theorem dX11_readNumber_122 : decode cX11_readNumber 122 = .ok (.iload_n 2, 1) := by decide +kernel
theorem dX11_readNumber_123 : decode cX11_readNumber 123 = .ok (.if_icmp .le 12, 3) := by decide +kernel
theorem dX11_readNumber_126 : decode cX11_readNumber 126 = .ok (.aload_n 0, 1) := by decide +kernel
theorem dX11_readNumber_127 : decode cX11_readNumber 127 = .ok (.iconst 2, 1) := by decide +kernel
theorem dX11_readNumber_128 : decode cX11_readNumber 128 = .ok (.iload 4, 2) := by decide +kernel
theorem dX11_readNumber_130 : decode cX11_readNumber 130 = .ok (.invokevirtual 156, 3) := by decide +kernel
theorem dX11_readNumber_133 : decode cX11_readNumber 133 = .ok (.iconst 0, 1) := by decide +kernel
theorem dX11_readNumber_134 : decode cX11_readNumber 134 = .ok (.ireturn, 1) := by decide +kernel
theorem dX11_readNumber_135 : decode cX11_readNumber 135 = .ok (.iload 5, 2) := by decide +kernel
theorem dX11_readNumber_137 : decode cX11_readNumber 137 = .ok (.ireturn, 1) := by decide +kernel
theorem dX11_sign_0 : decode cX11_sign 0 = .ok (.aload_n 0, 1) := by decide +kernel
theorem dX11_sign_1 : decode cX11_sign 1 = .ok (.invokevirtual 149, 3) := by decide +kernel
theorem dX11_sign_4 : decode cX11_sign 4 = .ok (.ifCond .eq 20, 3) := by decide +kernel
theorem dX11_sign_7 : decode cX11_sign 7 = .ok (.aload_n 0, 1) := by decide +kernel
theorem dX11_sign_8 : decode cX11_sign 8 = .ok (.invokevirtual 133, 3) := by decide +kernel
theorem dX11_sign_11 : decode cX11_sign 11 = .ok (.iload_n 1, 1) := by decide +kernel
theorem dX11_sign_12 : decode cX11_sign 12 = .ok (.if_icmp .eq 12, 3) := by decide +kernel
theorem dX11_sign_15 : decode cX11_sign 15 = .ok (.aload_n 0, 1) := by decide +kernel
theorem dX11_sign_16 : decode cX11_sign 16 = .ok (.iconst 1, 1) := by decide +kernel
theorem dX11_sign_17 : decode cX11_sign 17 = .ok (.aload_n 0, 1) := by decide +kernel
theorem dX11_sign_18 : decode cX11_sign 18 = .ok (.getfield 127, 3) := by decide +kernel
theorem dX11_sign_21 : decode cX11_sign 21 = .ok (.invokevirtual 156, 3) := by decide +kernel
theorem dX11_sign_24 : decode cX11_sign 24 = .ok (.aload_n 0, 1) := by decide +kernel
theorem dX11_sign_25 : decode cX11_sign 25 = .ok (.invokevirtual 149, 3) := by decide +kernel
theorem dX11_sign_28 : decode cX11_sign 28 = .ok (.ifCond .eq 13, 3) := by decide +kernel
theorem dX11_sign_31 : decode cX11_sign 31 = .ok (.aload_n 0, 1) := by decide +kernel
theorem dX11_sign_32 : decode cX11_sign 32 = .ok (.dup, 1) := by decide +kernel
theorem dX11_sign_33 : decode cX11_sign 33 = .ok (.getfield 127, 3) := by decide +kernel
theorem dX11_sign_36 : decode cX11_sign 36 = .ok (.iconst 1, 1) := by decide +kernel
theorem dX11_sign_37 : decode cX11_sign 37 = .ok (.iadd, 1) := by decide +kernel
theorem dX11_sign_38 : decode cX11_sign 38 = .ok (.putfield 127, 3) := by decide +kernel
theorem dX11_sign_41 : decode cX11_sign 41 = .ok (.return_, 1) := by decide +kernel
theorem dX11_isMore_0 : decode cX11_isMore 0 = .ok (.aload_n 0, 1) := by decide +kernel
theorem dX11_isMore_1 : decode cX11_isMore 1 = .ok (.invokevirtual 133, 3) := by decide +kernel
theorem dX11_isMore_4 : decode cX11_isMore 4 = .ok (.pop, 1) := by decide +kernel
theorem dX11_isMore_5 : decode cX11_isMore 5 = .ok (.aload_n 0, 1) := by decide +kernel
theorem dX11_isMore_6 : decode cX11_isMore 6 = .ok (.getfield 127, 3) := by decide +kernel
theorem dX11_isMore_9 : decode cX11_isMore 9 = .ok (.aload_n 0, 1) := by decide +kernel
theorem dX11_isMore_10 : decode cX11_isMore 10 = .ok (.getfield 130, 3) := by decide +kernel
theorem dX11_isMore_13 : decode cX11_isMore 13 = .ok (.if_icmp .ge 7, 3) := by decide +kernel
theorem dX11_isMore_16 : decode cX11_isMore 16 = .ok (.iconst 1, 1) := by decide +kernel
theorem dX11_isMore_17 : decode cX11_isMore 17 = .ok (.goto 4, 3) := by decide +kernel
theorem dX11_isMore_20 : decode cX11_isMore 20 = .ok (.iconst 0, 1) := by decide +kernel
theorem dX11_isMore_21 : decode cX11_isMore 21 = .ok (.ireturn, 1) := by decide +kernel
theorem dX11_begins_0 : decode cX11_begins 0 = .ok (.aload_n 0, 1) := by decide +kernel
theorem dX11_begins_1 : decode cX11_begins 1 = .ok (.iconst 0, 1) := by decide +kernel
theorem dX11_begins_2 : decode cX11_begins 2 = .ok (.putfield 118, 3) := by decide +kernel
theorem dX11_begins_5 : decode cX11_begins 5 = .ok (.aload_n 0, 1) := by decide +kernel
theorem dX11_begins_6 : decode cX11_begins 6 = .ok (.iconst (-1), 1) := by decide +kernel
theorem dX11_begins_7 : decode cX11_begins 7 = .ok (.putfield 17, 3) := by decide +kernel
theorem dX11_begins_10 : decode cX11_begins 10 = .ok (.aload_n 0, 1) := by decide +kernel
theorem dX11_begins_11 : decode cX11_begins 11 = .ok (.iload_n 1, 1) := by decide +kernel
theorem dX11_begins_12 : decode cX11_begins 12 = .ok (.putfield 130, 3) := by decide +kernel
theorem dX11_begins_15 : decode cX11_begins 15 = .ok (.aload_n 0, 1) := by decide +kernel
theorem dX11_begins_16 : decode cX11_begins 16 = .ok (.iconst 0, 1) := by decide +kernel
theorem dX11_begins_17 : decode cX11_begins 17 = .ok (.putfield 127, 3) := by decide +kernel
theorem dX11_begins_20 : decode cX11_begins 20 = .ok (.aload_n 0, 1) := by decide +kernel
theorem dX11_begins_21 : decode cX11_begins 21 = .ok (.iconst (-1), 1) := by decide +kernel
theorem dX11_begins_22 : decode cX11_begins 22 = .ok (.putfield 121, 3) := by decide +kernel
theorem dX11_begins_25 : decode cX11_begins 25 = .ok (.aload_n 0, 1) := by decide +kernel
theorem dX11_begins_26 : decode cX11_begins 26 = .ok (.iconst 0, 1) := by decide +kernel
theorem dX11_begins_27 : decode cX11_begins 27 = .ok (.putfield 160, 3) := by decide +kernel
theorem dX11_begins_30 : decode cX11_begins 30 = .ok (.return_, 1) := by decide +kernel
theorem dX11_result_0 : decode cX11_result 0 = .ok (.aload_n 0, 1) := by decide +kernel
theorem dX11_result_1 : decode cX11_result 1 = .ok (.aload_n 0, 1) := by decide +kernel
theorem dX11_result_2 : decode cX11_result 2 = .ok (.getfield 121, 3) := by decide +kernel
theorem dX11_result_5 : decode cX11_result 5 = .ok (.putfield 17, 3) := by decide +kernel
theorem dX11_result_8 : decode cX11_result 8 = .ok (.aload_n 0, 1) := by decide +kernel
theorem dX11_result_9 : decode cX11_result 9 = .ok (.invokevirtual 149, 3) := by decide +kernel
theorem dX11_result_12 : decode cX11_result 12 = .ok (.ifCond .eq 7, 3) := by decide +kernel
theorem dX11_result_15 : decode cX11_result 15 = .ok (.iload_n 1, 1) := by decide +kernel
theorem dX11_result_16 : decode cX11_result 16 = .ok (.goto 10, 3) := by decide +kernel
theorem dX11_result_19 : decode cX11_result 19 = .ok (.aload_n 0, 1) := by decide +kernel
theorem dX11_result_20 : decode cX11_result 20 = .ok (.getfield 124, 3) := by decide +kernel
theorem dX11_result_23 : decode cX11_result 23 = .ok (.bipush 10, 2) := by decide +kernel
theorem dX11_result_25 : decode cX11_result 25 = .ok (.isub, 1) := by decide +kernel
theorem dX11_result_26 : decode cX11_result 26 = .ok (.ireturn, 1) := by decide +kernel
theorem dX11_fault_0 : decode cX11_fault 0 = .ok (.aload_n 0, 1) := by decide +kernel
theorem dX11_fault_1 : decode cX11_fault 1 = .ok (.iconst 0, 1) := by decide +kernel
theorem dX11_fault_2 : decode cX11_fault 2 = .ok (.putfield 3, 3) := by decide +kernel
theorem dX11_fault_5 : decode cX11_fault 5 = .ok (.aload_n 0, 1) := by decide +kernel
theorem dX11_fault_6 : decode cX11_fault 6 = .ok (.getfield 17, 3) := by decide +kernel
theorem dX11_fault_9 : decode cX11_fault 9 = .ok (.ireturn, 1) := by decide +kernel
theorem dX11_clears_0 : decode cX11_clears 0 = .ok (.aload_n 0, 1) := by decide +kernel
theorem dX11_clears_1 : decode cX11_clears 1 = .ok (.bipush 6, 2) := by decide +kernel
theorem dX11_clears_3 : decode cX11_clears 3 = .ok (.putfield 163, 3) := by decide +kernel
theorem dX11_clears_6 : decode cX11_clears 6 = .ok (.aload_n 0, 1) := by decide +kernel
theorem dX11_clears_7 : decode cX11_clears 7 = .ok (.iconst 4, 1) := by decide +kernel
theorem dX11_clears_8 : decode cX11_clears 8 = .ok (.putfield 166, 3) := by decide +kernel
theorem dX11_clears_11 : decode cX11_clears 11 = .ok (.aload_n 0, 1) := by decide +kernel
theorem dX11_clears_12 : decode cX11_clears 12 = .ok (.iconst 0, 1) := by decide +kernel
theorem dX11_clears_13 : decode cX11_clears 13 = .ok (.putfield 169, 3) := by decide +kernel
theorem dX11_clears_16 : decode cX11_clears 16 = .ok (.aload_n 0, 1) := by decide +kernel
theorem dX11_clears_17 : decode cX11_clears 17 = .ok (.iconst 0, 1) := by decide +kernel
theorem dX11_clears_18 : decode cX11_clears 18 = .ok (.putfield 172, 3) := by decide +kernel
theorem dX11_clears_21 : decode cX11_clears 21 = .ok (.aload_n 0, 1) := by decide +kernel
theorem dX11_clears_22 : decode cX11_clears 22 = .ok (.iconst 4, 1) := by decide +kernel
theorem dX11_clears_23 : decode cX11_clears 23 = .ok (.putfield 175, 3) := by decide +kernel
theorem dX11_clears_26 : decode cX11_clears 26 = .ok (.aload_n 0, 1) := by decide +kernel
theorem dX11_clears_27 : decode cX11_clears 27 = .ok (.iconst 5, 1) := by decide +kernel
theorem dX11_clears_28 : decode cX11_clears 28 = .ok (.putfield 178, 3) := by decide +kernel
theorem dX11_clears_31 : decode cX11_clears 31 = .ok (.aload_n 0, 1) := by decide +kernel
theorem dX11_clears_32 : decode cX11_clears 32 = .ok (.iconst 0, 1) := by decide +kernel
theorem dX11_clears_33 : decode cX11_clears 33 = .ok (.putfield 181, 3) := by decide +kernel
theorem dX11_clears_36 : decode cX11_clears 36 = .ok (.iconst 0, 1) := by decide +kernel
theorem dX11_clears_37 : decode cX11_clears 37 = .ok (.istore_n 1, 1) := by decide +kernel
theorem dX11_clears_38 : decode cX11_clears 38 = .ok (.iload_n 1, 1) := by decide +kernel
theorem dX11_clears_39 : decode cX11_clears 39 = .ok (.bipush 48, 2) := by decide +kernel
theorem dX11_clears_41 : decode cX11_clears 41 = .ok (.if_icmp .ge 23, 3) := by decide +kernel
theorem dX11_clears_44 : decode cX11_clears 44 = .ok (.aload_n 0, 1) := by decide +kernel
theorem dX11_clears_45 : decode cX11_clears 45 = .ok (.getfield 23, 3) := by decide +kernel
theorem dX11_clears_48 : decode cX11_clears 48 = .ok (.iload_n 1, 1) := by decide +kernel
theorem dX11_clears_49 : decode cX11_clears 49 = .ok (.iconst 0, 1) := by decide +kernel
theorem dX11_clears_50 : decode cX11_clears 50 = .ok (.iastore, 1) := by decide +kernel
theorem dX11_clears_51 : decode cX11_clears 51 = .ok (.aload_n 0, 1) := by decide +kernel
theorem dX11_clears_52 : decode cX11_clears 52 = .ok (.getfield 26, 3) := by decide +kernel
theorem dX11_clears_55 : decode cX11_clears 55 = .ok (.iload_n 1, 1) := by decide +kernel
theorem dX11_clears_56 : decode cX11_clears 56 = .ok (.iconst 0, 1) := by decide +kernel
theorem dX11_clears_57 : decode cX11_clears 57 = .ok (.iastore, 1) := by decide +kernel
theorem dX11_clears_58 : decode cX11_clears 58 = .ok (.iinc 1 1, 3) := by decide +kernel
theorem dX11_clears_61 : decode cX11_clears 61 = .ok (.goto (-23), 3) := by decide +kernel
theorem dX11_clears_64 : decode cX11_clears 64 = .ok (.iconst 0, 1) := by decide +kernel
theorem dX11_clears_65 : decode cX11_clears 65 = .ok (.istore_n 1, 1) := by decide +kernel
theorem dX11_clears_66 : decode cX11_clears 66 = .ok (.iload_n 1, 1) := by decide +kernel
theorem dX11_clears_67 : decode cX11_clears 67 = .ok (.iconst 5, 1) := by decide +kernel
theorem dX11_clears_68 : decode cX11_clears 68 = .ok (.if_icmp .ge 16, 3) := by decide +kernel
theorem dX11_clears_71 : decode cX11_clears 71 = .ok (.aload_n 0, 1) := by decide +kernel
theorem dX11_clears_72 : decode cX11_clears 72 = .ok (.getfield 29, 3) := by decide +kernel
theorem dX11_clears_75 : decode cX11_clears 75 = .ok (.iload_n 1, 1) := by decide +kernel
theorem dX11_clears_76 : decode cX11_clears 76 = .ok (.iconst 1, 1) := by decide +kernel
theorem dX11_clears_77 : decode cX11_clears 77 = .ok (.iastore, 1) := by decide +kernel
theorem dX11_clears_78 : decode cX11_clears 78 = .ok (.iinc 1 1, 3) := by decide +kernel
theorem dX11_clears_81 : decode cX11_clears 81 = .ok (.goto (-15), 3) := by decide +kernel
theorem dX11_clears_84 : decode cX11_clears 84 = .ok (.return_, 1) := by decide +kernel
theorem dX11_copies_0 : decode cX11_copies 0 = .ok (.iconst 0, 1) := by decide +kernel
theorem dX11_copies_1 : decode cX11_copies 1 = .ok (.istore 4, 2) := by decide +kernel
theorem dX11_copies_3 : decode cX11_copies 3 = .ok (.iload 4, 2) := by decide +kernel
theorem dX11_copies_5 : decode cX11_copies 5 = .ok (.iload_n 3, 1) := by decide +kernel
theorem dX11_copies_6 : decode cX11_copies 6 = .ok (.if_icmp .ge 17, 3) := by decide +kernel
theorem dX11_copies_9 : decode cX11_copies 9 = .ok (.aload_n 2, 1) := by decide +kernel
theorem dX11_copies_10 : decode cX11_copies 10 = .ok (.iload 4, 2) := by decide +kernel
theorem dX11_copies_12 : decode cX11_copies 12 = .ok (.aload_n 1, 1) := by decide +kernel
theorem dX11_copies_13 : decode cX11_copies 13 = .ok (.iload 4, 2) := by decide +kernel
theorem dX11_copies_15 : decode cX11_copies 15 = .ok (.iaload, 1) := by decide +kernel
theorem dX11_copies_16 : decode cX11_copies 16 = .ok (.iastore, 1) := by decide +kernel
theorem dX11_copies_17 : decode cX11_copies 17 = .ok (.iinc 4 1, 3) := by decide +kernel
theorem dX11_copies_20 : decode cX11_copies 20 = .ok (.goto (-17), 3) := by decide +kernel
theorem dX11_copies_23 : decode cX11_copies 23 = .ok (.return_, 1) := by decide +kernel
theorem dX11_sets_0 : decode cX11_sets 0 = .ok (.aload_n 0, 1) := by decide +kernel
theorem dX11_sets_1 : decode cX11_sets 1 = .ok (.aload_n 0, 1) := by decide +kernel
theorem dX11_sets_2 : decode cX11_sets 2 = .ok (.getfield 163, 3) := by decide +kernel
theorem dX11_sets_5 : decode cX11_sets 5 = .ok (.putfield 184, 3) := by decide +kernel
theorem dX11_sets_8 : decode cX11_sets 8 = .ok (.aload_n 0, 1) := by decide +kernel
theorem dX11_sets_9 : decode cX11_sets 9 = .ok (.aload_n 0, 1) := by decide +kernel
theorem dX11_sets_10 : decode cX11_sets 10 = .ok (.getfield 166, 3) := by decide +kernel
theorem dX11_sets_13 : decode cX11_sets 13 = .ok (.putfield 187, 3) := by decide +kernel
theorem dX11_sets_16 : decode cX11_sets 16 = .ok (.aload_n 0, 1) := by decide +kernel
theorem dX11_sets_17 : decode cX11_sets 17 = .ok (.aload_n 0, 1) := by decide +kernel
theorem dX11_sets_18 : decode cX11_sets 18 = .ok (.getfield 169, 3) := by decide +kernel
theorem dX11_sets_21 : decode cX11_sets 21 = .ok (.putfield 190, 3) := by decide +kernel
theorem dX11_sets_24 : decode cX11_sets 24 = .ok (.aload_n 0, 1) := by decide +kernel
theorem dX11_sets_25 : decode cX11_sets 25 = .ok (.aload_n 0, 1) := by decide +kernel
theorem dX11_sets_26 : decode cX11_sets 26 = .ok (.getfield 175, 3) := by decide +kernel
theorem dX11_sets_29 : decode cX11_sets 29 = .ok (.putfield 193, 3) := by decide +kernel
theorem dX11_sets_32 : decode cX11_sets 32 = .ok (.aload_n 0, 1) := by decide +kernel
theorem dX11_sets_33 : decode cX11_sets 33 = .ok (.aload_n 0, 1) := by decide +kernel
theorem dX11_sets_34 : decode cX11_sets 34 = .ok (.getfield 178, 3) := by decide +kernel
theorem dX11_sets_37 : decode cX11_sets 37 = .ok (.putfield 196, 3) := by decide +kernel
theorem dX11_sets_40 : decode cX11_sets 40 = .ok (.aload_n 0, 1) := by decide +kernel
theorem dX11_sets_41 : decode cX11_sets 41 = .ok (.aload_n 0, 1) := by decide +kernel
theorem dX11_sets_42 : decode cX11_sets 42 = .ok (.getfield 181, 3) := by decide +kernel
theorem dX11_sets_45 : decode cX11_sets 45 = .ok (.putfield 199, 3) := by decide +kernel
theorem dX11_sets_48 : decode cX11_sets 48 = .ok (.aload_n 0, 1) := by decide +kernel
theorem dX11_sets_49 : decode cX11_sets 49 = .ok (.aload_n 0, 1) := by decide +kernel
theorem dX11_sets_50 : decode cX11_sets 50 = .ok (.getfield 23, 3) := by decide +kernel
theorem dX11_sets_53 : decode cX11_sets 53 = .ok (.aload_n 0, 1) := by decide +kernel
theorem dX11_sets_54 : decode cX11_sets 54 = .ok (.getfield 35, 3) := by decide +kernel
theorem dX11_sets_57 : decode cX11_sets 57 = .ok (.bipush 48, 2) := by decide +kernel
theorem dX11_sets_59 : decode cX11_sets 59 = .ok (.invokevirtual 202, 3) := by decide +kernel
theorem dX11_sets_62 : decode cX11_sets 62 = .ok (.aload_n 0, 1) := by decide +kernel
theorem dX11_sets_63 : decode cX11_sets 63 = .ok (.aload_n 0, 1) := by decide +kernel
theorem dX11_sets_64 : decode cX11_sets 64 = .ok (.getfield 26, 3) := by decide +kernel
theorem dX11_sets_67 : decode cX11_sets 67 = .ok (.aload_n 0, 1) := by decide +kernel
theorem dX11_sets_68 : decode cX11_sets 68 = .ok (.getfield 38, 3) := by decide +kernel
theorem dX11_sets_71 : decode cX11_sets 71 = .ok (.bipush 48, 2) := by decide +kernel
theorem dX11_sets_73 : decode cX11_sets 73 = .ok (.invokevirtual 202, 3) := by decide +kernel
theorem dX11_sets_76 : decode cX11_sets 76 = .ok (.aload_n 0, 1) := by decide +kernel
theorem dX11_sets_77 : decode cX11_sets 77 = .ok (.aload_n 0, 1) := by decide +kernel
theorem dX11_sets_78 : decode cX11_sets 78 = .ok (.getfield 29, 3) := by decide +kernel
theorem dX11_sets_81 : decode cX11_sets 81 = .ok (.aload_n 0, 1) := by decide +kernel
theorem dX11_sets_82 : decode cX11_sets 82 = .ok (.getfield 41, 3) := by decide +kernel
theorem dX11_sets_85 : decode cX11_sets 85 = .ok (.iconst 5, 1) := by decide +kernel
theorem dX11_sets_86 : decode cX11_sets 86 = .ok (.invokevirtual 202, 3) := by decide +kernel
theorem dX11_sets_89 : decode cX11_sets 89 = .ok (.aload_n 0, 1) := by decide +kernel
theorem dX11_sets_90 : decode cX11_sets 90 = .ok (.aload_n 0, 1) := by decide +kernel
theorem dX11_sets_91 : decode cX11_sets 91 = .ok (.getfield 32, 3) := by decide +kernel
theorem dX11_sets_94 : decode cX11_sets 94 = .ok (.aload_n 0, 1) := by decide +kernel
theorem dX11_sets_95 : decode cX11_sets 95 = .ok (.getfield 44, 3) := by decide +kernel
theorem dX11_sets_98 : decode cX11_sets 98 = .ok (.bipush 60, 2) := by decide +kernel
theorem dX11_sets_100 : decode cX11_sets 100 = .ok (.invokevirtual 202, 3) := by decide +kernel
theorem dX11_sets_103 : decode cX11_sets 103 = .ok (.aload_n 0, 1) := by decide +kernel
theorem dX11_sets_104 : decode cX11_sets 104 = .ok (.getfield 59, 3) := by decide +kernel
theorem dX11_sets_107 : decode cX11_sets 107 = .ok (.iconst 0, 1) := by decide +kernel
theorem dX11_sets_108 : decode cX11_sets 108 = .ok (.iconst 0, 1) := by decide +kernel
theorem dX11_sets_109 : decode cX11_sets 109 = .ok (.iastore, 1) := by decide +kernel
theorem dX11_sets_110 : decode cX11_sets 110 = .ok (.aload_n 0, 1) := by decide +kernel
theorem dX11_sets_111 : decode cX11_sets 111 = .ok (.getfield 59, 3) := by decide +kernel
theorem dX11_sets_114 : decode cX11_sets 114 = .ok (.iconst 1, 1) := by decide +kernel
theorem dX11_sets_115 : decode cX11_sets 115 = .ok (.iconst 0, 1) := by decide +kernel
theorem dX11_sets_116 : decode cX11_sets 116 = .ok (.iastore, 1) := by decide +kernel
theorem dX11_sets_117 : decode cX11_sets 117 = .ok (.aload_n 0, 1) := by decide +kernel
theorem dX11_sets_118 : decode cX11_sets 118 = .ok (.iconst 0, 1) := by decide +kernel
theorem dX11_sets_119 : decode cX11_sets 119 = .ok (.putfield 206, 3) := by decide +kernel
theorem dX11_sets_122 : decode cX11_sets 122 = .ok (.aload_n 0, 1) := by decide +kernel
theorem dX11_sets_123 : decode cX11_sets 123 = .ok (.iconst 0, 1) := by decide +kernel
theorem dX11_sets_124 : decode cX11_sets 124 = .ok (.putfield 209, 3) := by decide +kernel
theorem dX11_sets_127 : decode cX11_sets 127 = .ok (.aload_n 0, 1) := by decide +kernel
theorem dX11_sets_128 : decode cX11_sets 128 = .ok (.iconst 0, 1) := by decide +kernel
theorem dX11_sets_129 : decode cX11_sets 129 = .ok (.putfield 212, 3) := by decide +kernel
theorem dX11_sets_132 : decode cX11_sets 132 = .ok (.aload_n 0, 1) := by decide +kernel
theorem dX11_sets_133 : decode cX11_sets 133 = .ok (.iconst 0, 1) := by decide +kernel
theorem dX11_sets_134 : decode cX11_sets 134 = .ok (.putfield 215, 3) := by decide +kernel
theorem dX11_sets_137 : decode cX11_sets 137 = .ok (.iconst 0, 1) := by decide +kernel
theorem dX11_sets_138 : decode cX11_sets 138 = .ok (.istore_n 1, 1) := by decide +kernel
theorem dX11_sets_139 : decode cX11_sets 139 = .ok (.iload_n 1, 1) := by decide +kernel
theorem dX11_sets_140 : decode cX11_sets 140 = .ok (.bipush 77, 2) := by decide +kernel
theorem dX11_sets_142 : decode cX11_sets 142 = .ok (.if_icmp .ge 16, 3) := by decide +kernel
theorem dX11_sets_145 : decode cX11_sets 145 = .ok (.aload_n 0, 1) := by decide +kernel
theorem dX11_sets_146 : decode cX11_sets 146 = .ok (.getfield 74, 3) := by decide +kernel
theorem dX11_sets_149 : decode cX11_sets 149 = .ok (.iload_n 1, 1) := by decide +kernel
theorem dX11_sets_150 : decode cX11_sets 150 = .ok (.iconst 0, 1) := by decide +kernel
theorem dX11_sets_151 : decode cX11_sets 151 = .ok (.iastore, 1) := by decide +kernel
theorem dX11_sets_152 : decode cX11_sets 152 = .ok (.iinc 1 1, 3) := by decide +kernel
theorem dX11_sets_155 : decode cX11_sets 155 = .ok (.goto (-16), 3) := by decide +kernel
theorem dX11_sets_158 : decode cX11_sets 158 = .ok (.aload_n 0, 1) := by decide +kernel
theorem dX11_sets_159 : decode cX11_sets 159 = .ok (.getfield 74, 3) := by decide +kernel
theorem dX11_sets_162 : decode cX11_sets 162 = .ok (.bipush 69, 2) := by decide +kernel
theorem dX11_sets_164 : decode cX11_sets 164 = .ok (.iconst 1, 1) := by decide +kernel
theorem dX11_sets_165 : decode cX11_sets 165 = .ok (.iastore, 1) := by decide +kernel
theorem dX11_sets_166 : decode cX11_sets 166 = .ok (.aload_n 0, 1) := by decide +kernel
theorem dX11_sets_167 : decode cX11_sets 167 = .ok (.getfield 74, 3) := by decide +kernel
theorem dX11_sets_170 : decode cX11_sets 170 = .ok (.bipush 71, 2) := by decide +kernel
theorem dX11_sets_172 : decode cX11_sets 172 = .ok (.aload_n 0, 1) := by decide +kernel
theorem dX11_sets_173 : decode cX11_sets 173 = .ok (.getfield 196, 3) := by decide +kernel
theorem dX11_sets_176 : decode cX11_sets 176 = .ok (.iastore, 1) := by decide +kernel
theorem dX11_sets_177 : decode cX11_sets 177 = .ok (.aload_n 0, 1) := by decide +kernel
theorem dX11_sets_178 : decode cX11_sets 178 = .ok (.getfield 74, 3) := by decide +kernel
theorem dX11_sets_181 : decode cX11_sets 181 = .ok (.bipush 74, 2) := by decide +kernel
theorem dX11_sets_183 : decode cX11_sets 183 = .ok (.aload_n 0, 1) := by decide +kernel
theorem dX11_sets_184 : decode cX11_sets 184 = .ok (.getfield 187, 3) := by decide +kernel
theorem dX11_sets_187 : decode cX11_sets 187 = .ok (.iastore, 1) := by decide +kernel
theorem dX11_sets_188 : decode cX11_sets 188 = .ok (.iconst 0, 1) := by decide +kernel
theorem dX11_sets_189 : decode cX11_sets 189 = .ok (.istore_n 1, 1) := by decide +kernel
theorem dX11_sets_190 : decode cX11_sets 190 = .ok (.iconst 0, 1) := by decide +kernel
theorem dX11_sets_191 : decode cX11_sets 191 = .ok (.istore_n 2, 1) := by decide +kernel
theorem dX11_sets_192 : decode cX11_sets 192 = .ok (.iload_n 2, 1) := by decide +kernel
theorem dX11_sets_193 : decode cX11_sets 193 = .ok (.bipush 48, 2) := by decide +kernel
theorem dX11_sets_195 : decode cX11_sets 195 = .ok (.if_icmp .ge 18, 3) := by decide +kernel
theorem dX11_sets_198 : decode cX11_sets 198 = .ok (.iload_n 1, 1) := by decide +kernel
theorem dX11_sets_199 : decode cX11_sets 199 = .ok (.aload_n 0, 1) := by decide +kernel
theorem dX11_sets_200 : decode cX11_sets 200 = .ok (.getfield 38, 3) := by decide +kernel
theorem dX11_sets_203 : decode cX11_sets 203 = .ok (.iload_n 2, 1) := by decide +kernel
theorem dX11_sets_204 : decode cX11_sets 204 = .ok (.iaload, 1) := by decide +kernel
theorem dX11_sets_205 : decode cX11_sets 205 = .ok (.iadd, 1) := by decide +kernel
theorem dX11_sets_206 : decode cX11_sets 206 = .ok (.istore_n 1, 1) := by decide +kernel
theorem dX11_sets_207 : decode cX11_sets 207 = .ok (.iinc 2 1, 3) := by decide +kernel
theorem dX11_sets_210 : decode cX11_sets 210 = .ok (.goto (-18), 3) := by decide +kernel
theorem dX11_sets_213 : decode cX11_sets 213 = .ok (.iload_n 1, 1) := by decide +kernel
theorem dX11_sets_214 : decode cX11_sets 214 = .ok (.ireturn, 1) := by decide +kernel
theorem dX11_readSeam_0 : decode cX11_readSeam 0 = .ok (.aload_n 0, 1) := by decide +kernel
theorem dX11_readSeam_1 : decode cX11_readSeam 1 = .ok (.iconst 0, 1) := by decide +kernel
theorem dX11_readSeam_2 : decode cX11_readSeam 2 = .ok (.aload_n 0, 1) := by decide +kernel
theorem dX11_readSeam_3 : decode cX11_readSeam 3 = .ok (.getfield 163, 3) := by decide +kernel
theorem dX11_readSeam_6 : decode cX11_readSeam 6 = .ok (.iconst 1, 1) := by decide +kernel
theorem dX11_readSeam_7 : decode cX11_readSeam 7 = .ok (.isub, 1) := by decide +kernel
theorem dX11_readSeam_8 : decode cX11_readSeam 8 = .ok (.invokevirtual 218, 3) := by decide +kernel
theorem dX11_readSeam_11 : decode cX11_readSeam 11 = .ok (.istore_n 1, 1) := by decide +kernel
theorem dX11_readSeam_12 : decode cX11_readSeam 12 = .ok (.aload_n 0, 1) := by decide +kernel
theorem dX11_readSeam_13 : decode cX11_readSeam 13 = .ok (.iconst 0, 1) := by decide +kernel
theorem dX11_readSeam_14 : decode cX11_readSeam 14 = .ok (.aload_n 0, 1) := by decide +kernel
theorem dX11_readSeam_15 : decode cX11_readSeam 15 = .ok (.getfield 166, 3) := by decide +kernel
theorem dX11_readSeam_18 : decode cX11_readSeam 18 = .ok (.iconst 1, 1) := by decide +kernel
theorem dX11_readSeam_19 : decode cX11_readSeam 19 = .ok (.isub, 1) := by decide +kernel
theorem dX11_readSeam_20 : decode cX11_readSeam 20 = .ok (.invokevirtual 218, 3) := by decide +kernel
theorem dX11_readSeam_23 : decode cX11_readSeam 23 = .ok (.istore_n 2, 1) := by decide +kernel
theorem dX11_readSeam_24 : decode cX11_readSeam 24 = .ok (.aload_n 0, 1) := by decide +kernel
theorem dX11_readSeam_25 : decode cX11_readSeam 25 = .ok (.iconst 1, 1) := by decide +kernel
theorem dX11_readSeam_26 : decode cX11_readSeam 26 = .ok (.aload_n 0, 1) := by decide +kernel
theorem dX11_readSeam_27 : decode cX11_readSeam 27 = .ok (.getfield 163, 3) := by decide +kernel
theorem dX11_readSeam_30 : decode cX11_readSeam 30 = .ok (.iload_n 1, 1) := by decide +kernel
theorem dX11_readSeam_31 : decode cX11_readSeam 31 = .ok (.isub, 1) := by decide +kernel
theorem dX11_readSeam_32 : decode cX11_readSeam 32 = .ok (.invokevirtual 218, 3) := by decide +kernel
theorem dX11_readSeam_35 : decode cX11_readSeam 35 = .ok (.istore_n 3, 1) := by decide +kernel
theorem dX11_readSeam_36 : decode cX11_readSeam 36 = .ok (.aload_n 0, 1) := by decide +kernel
theorem dX11_readSeam_37 : decode cX11_readSeam 37 = .ok (.iconst 1, 1) := by decide +kernel
theorem dX11_readSeam_38 : decode cX11_readSeam 38 = .ok (.aload_n 0, 1) := by decide +kernel
theorem dX11_readSeam_39 : decode cX11_readSeam 39 = .ok (.getfield 166, 3) := by decide +kernel
theorem dX11_readSeam_42 : decode cX11_readSeam 42 = .ok (.iload_n 2, 1) := by decide +kernel
theorem dX11_readSeam_43 : decode cX11_readSeam 43 = .ok (.isub, 1) := by decide +kernel
theorem dX11_readSeam_44 : decode cX11_readSeam 44 = .ok (.invokevirtual 218, 3) := by decide +kernel
theorem dX11_readSeam_47 : decode cX11_readSeam 47 = .ok (.istore 4, 2) := by decide +kernel
theorem dX11_readSeam_49 : decode cX11_readSeam 49 = .ok (.aload_n 0, 1) := by decide +kernel
theorem dX11_readSeam_50 : decode cX11_readSeam 50 = .ok (.iconst 1, 1) := by decide +kernel
theorem dX11_readSeam_51 : decode cX11_readSeam 51 = .ok (.iconst 4, 1) := by decide +kernel
theorem dX11_readSeam_52 : decode cX11_readSeam 52 = .ok (.invokevirtual 218, 3) := by decide +kernel
theorem dX11_readSeam_55 : decode cX11_readSeam 55 = .ok (.istore 5, 2) := by decide +kernel
theorem dX11_readSeam_57 : decode cX11_readSeam 57 = .ok (.aload_n 0, 1) := by decide +kernel
theorem dX11_readSeam_58 : decode cX11_readSeam 58 = .ok (.iconst 1, 1) := by decide +kernel
theorem dX11_readSeam_59 : decode cX11_readSeam 59 = .ok (.bipush 9, 2) := by decide +kernel
theorem dX11_readSeam_61 : decode cX11_readSeam 61 = .ok (.invokevirtual 218, 3) := by decide +kernel
theorem dX11_readSeam_64 : decode cX11_readSeam 64 = .ok (.istore 6, 2) := by decide +kernel
theorem dX11_readSeam_66 : decode cX11_readSeam 66 = .ok (.aload_n 0, 1) := by decide +kernel
theorem dX11_readSeam_67 : decode cX11_readSeam 67 = .ok (.invokevirtual 149, 3) := by decide +kernel
theorem dX11_readSeam_70 : decode cX11_readSeam 70 = .ok (.ifCond .ne 4, 3) := by decide +kernel
theorem dX11_readSeam_73 : decode cX11_readSeam 73 = .ok (.return_, 1) := by decide +kernel
theorem dX11_readSeam_74 : decode cX11_readSeam 74 = .ok (.iload_n 2, 1) := by decide +kernel
theorem dX11_readSeam_75 : decode cX11_readSeam 75 = .ok (.istore 7, 2) := by decide +kernel
theorem dX11_readSeam_77 : decode cX11_readSeam 77 = .ok (.iload 7, 2) := by decide +kernel
theorem dX11_readSeam_79 : decode cX11_readSeam 79 = .ok (.iload_n 2, 1) := by decide +kernel
theorem dX11_readSeam_80 : decode cX11_readSeam 80 = .ok (.iload 4, 2) := by decide +kernel
theorem dX11_readSeam_82 : decode cX11_readSeam 82 = .ok (.iadd, 1) := by decide +kernel
theorem dX11_readSeam_83 : decode cX11_readSeam 83 = .ok (.if_icmp .ge 56, 3) := by decide +kernel
theorem dX11_readSeam_86 : decode cX11_readSeam 86 = .ok (.iload_n 1, 1) := by decide +kernel
theorem dX11_readSeam_87 : decode cX11_readSeam 87 = .ok (.istore 8, 2) := by decide +kernel
theorem dX11_readSeam_89 : decode cX11_readSeam 89 = .ok (.iload 8, 2) := by decide +kernel
theorem dX11_readSeam_91 : decode cX11_readSeam 91 = .ok (.iload_n 1, 1) := by decide +kernel
theorem dX11_readSeam_92 : decode cX11_readSeam 92 = .ok (.iload_n 3, 1) := by decide +kernel
theorem dX11_readSeam_93 : decode cX11_readSeam 93 = .ok (.iadd, 1) := by decide +kernel
theorem dX11_readSeam_94 : decode cX11_readSeam 94 = .ok (.if_icmp .ge 39, 3) := by decide +kernel
theorem dX11_readSeam_97 : decode cX11_readSeam 97 = .ok (.aload_n 0, 1) := by decide +kernel
theorem dX11_readSeam_98 : decode cX11_readSeam 98 = .ok (.getfield 23, 3) := by decide +kernel
theorem dX11_readSeam_101 : decode cX11_readSeam 101 = .ok (.bipush 8, 2) := by decide +kernel
theorem dX11_readSeam_103 : decode cX11_readSeam 103 = .ok (.iload 7, 2) := by decide +kernel
theorem dX11_readSeam_105 : decode cX11_readSeam 105 = .ok (.imul, 1) := by decide +kernel
theorem dX11_readSeam_106 : decode cX11_readSeam 106 = .ok (.iload 8, 2) := by decide +kernel
theorem dX11_readSeam_108 : decode cX11_readSeam 108 = .ok (.iadd, 1) := by decide +kernel
theorem dX11_readSeam_109 : decode cX11_readSeam 109 = .ok (.iload 5, 2) := by decide +kernel
theorem dX11_readSeam_111 : decode cX11_readSeam 111 = .ok (.iastore, 1) := by decide +kernel
theorem dX11_readSeam_112 : decode cX11_readSeam 112 = .ok (.aload_n 0, 1) := by decide +kernel
theorem dX11_readSeam_113 : decode cX11_readSeam 113 = .ok (.getfield 26, 3) := by decide +kernel
theorem dX11_readSeam_116 : decode cX11_readSeam 116 = .ok (.bipush 8, 2) := by decide +kernel
theorem dX11_readSeam_118 : decode cX11_readSeam 118 = .ok (.iload 7, 2) := by decide +kernel
theorem dX11_readSeam_120 : decode cX11_readSeam 120 = .ok (.imul, 1) := by decide +kernel
theorem dX11_readSeam_121 : decode cX11_readSeam 121 = .ok (.iload 8, 2) := by decide +kernel
theorem dX11_readSeam_123 : decode cX11_readSeam 123 = .ok (.iadd, 1) := by decide +kernel
theorem dX11_readSeam_124 : decode cX11_readSeam 124 = .ok (.iload 6, 2) := by decide +kernel
theorem dX11_readSeam_126 : decode cX11_readSeam 126 = .ok (.iastore, 1) := by decide +kernel
theorem dX11_readSeam_127 : decode cX11_readSeam 127 = .ok (.iinc 8 1, 3) := by decide +kernel
theorem dX11_readSeam_130 : decode cX11_readSeam 130 = .ok (.goto (-41), 3) := by decide +kernel
theorem dX11_readSeam_133 : decode cX11_readSeam 133 = .ok (.iinc 7 1, 3) := by decide +kernel
theorem dX11_readSeam_136 : decode cX11_readSeam 136 = .ok (.goto (-59), 3) := by decide +kernel
theorem dX11_readSeam_139 : decode cX11_readSeam 139 = .ok (.return_, 1) := by decide +kernel
theorem dX11_readOrder_0 : decode cX11_readOrder 0 = .ok (.bipush 10, 2) := by decide +kernel
theorem dX11_readOrder_2 : decode cX11_readOrder 2 = .ok (.aload_n 0, 1) := by decide +kernel
theorem dX11_readOrder_3 : decode cX11_readOrder 3 = .ok (.getfield 181, 3) := by decide +kernel
theorem dX11_readOrder_6 : decode cX11_readOrder 6 = .ok (.imul, 1) := by decide +kernel
theorem dX11_readOrder_7 : decode cX11_readOrder 7 = .ok (.istore_n 1, 1) := by decide +kernel
theorem dX11_readOrder_8 : decode cX11_readOrder 8 = .ok (.aload_n 0, 1) := by decide +kernel
theorem dX11_readOrder_9 : decode cX11_readOrder 9 = .ok (.getfield 32, 3) := by decide +kernel
theorem dX11_readOrder_12 : decode cX11_readOrder 12 = .ok (.iload_n 1, 1) := by decide +kernel
theorem dX11_readOrder_13 : decode cX11_readOrder 13 = .ok (.aload_n 0, 1) := by decide +kernel
theorem dX11_readOrder_14 : decode cX11_readOrder 14 = .ok (.iconst 1, 1) := by decide +kernel
theorem dX11_readOrder_15 : decode cX11_readOrder 15 = .ok (.bipush 60, 2) := by decide +kernel
theorem dX11_readOrder_17 : decode cX11_readOrder 17 = .ok (.invokevirtual 218, 3) := by decide +kernel
theorem dX11_readOrder_20 : decode cX11_readOrder 20 = .ok (.iastore, 1) := by decide +kernel
theorem dX11_readOrder_21 : decode cX11_readOrder 21 = .ok (.iconst 0, 1) := by decide +kernel
theorem dX11_readOrder_22 : decode cX11_readOrder 22 = .ok (.istore_n 2, 1) := by decide +kernel
theorem dX11_readOrder_23 : decode cX11_readOrder 23 = .ok (.aload_n 0, 1) := by decide +kernel
theorem dX11_readOrder_24 : decode cX11_readOrder 24 = .ok (.invokevirtual 149, 3) := by decide +kernel
theorem dX11_readOrder_27 : decode cX11_readOrder 27 = .ok (.ifCond .eq 71, 3) := by decide +kernel
theorem dX11_readOrder_30 : decode cX11_readOrder 30 = .ok (.aload_n 0, 1) := by decide +kernel
theorem dX11_readOrder_31 : decode cX11_readOrder 31 = .ok (.invokevirtual 133, 3) := by decide +kernel
theorem dX11_readOrder_34 : decode cX11_readOrder 34 = .ok (.invokestatic 153, 3) := by decide +kernel
theorem dX11_readOrder_37 : decode cX11_readOrder 37 = .ok (.ifCond .eq 61, 3) := by decide +kernel
theorem dX11_readOrder_40 : decode cX11_readOrder 40 = .ok (.aload_n 0, 1) := by decide +kernel
theorem dX11_readOrder_41 : decode cX11_readOrder 41 = .ok (.getfield 127, 3) := by decide +kernel
theorem dX11_readOrder_44 : decode cX11_readOrder 44 = .ok (.istore_n 3, 1) := by decide +kernel
theorem dX11_readOrder_45 : decode cX11_readOrder 45 = .ok (.aload_n 0, 1) := by decide +kernel
theorem dX11_readOrder_46 : decode cX11_readOrder 46 = .ok (.iconst 1, 1) := by decide +kernel
theorem dX11_readOrder_47 : decode cX11_readOrder 47 = .ok (.iconst 4, 1) := by decide +kernel
theorem dX11_readOrder_48 : decode cX11_readOrder 48 = .ok (.invokevirtual 218, 3) := by decide +kernel
theorem dX11_readOrder_51 : decode cX11_readOrder 51 = .ok (.istore 4, 2) := by decide +kernel
theorem dX11_readOrder_53 : decode cX11_readOrder 53 = .ok (.aload_n 0, 1) := by decide +kernel
theorem dX11_readOrder_54 : decode cX11_readOrder 54 = .ok (.invokevirtual 149, 3) := by decide +kernel
theorem dX11_readOrder_57 : decode cX11_readOrder 57 = .ok (.ifCond .eq 15, 3) := by decide +kernel
theorem dX11_readOrder_60 : decode cX11_readOrder 60 = .ok (.iload_n 2, 1) := by decide +kernel
theorem dX11_readOrder_61 : decode cX11_readOrder 61 = .ok (.bipush 8, 2) := by decide +kernel
theorem dX11_readOrder_63 : decode cX11_readOrder 63 = .ok (.if_icmp .ne 9, 3) := by decide +kernel
theorem dX11_readOrder_66 : decode cX11_readOrder 66 = .ok (.aload_n 0, 1) := by decide +kernel
theorem dX11_readOrder_67 : decode cX11_readOrder 67 = .ok (.iconst 3, 1) := by decide +kernel
theorem dX11_readOrder_68 : decode cX11_readOrder 68 = .ok (.iload_n 3, 1) := by decide +kernel
theorem dX11_readOrder_69 : decode cX11_readOrder 69 = .ok (.invokevirtual 156, 3) := by decide +kernel
theorem dX11_readOrder_72 : decode cX11_readOrder 72 = .ok (.aload_n 0, 1) := by decide +kernel
theorem dX11_readOrder_73 : decode cX11_readOrder 73 = .ok (.invokevirtual 149, 3) := by decide +kernel
theorem dX11_readOrder_76 : decode cX11_readOrder 76 = .ok (.ifCond .ne 4, 3) := by decide +kernel
theorem dX11_readOrder_79 : decode cX11_readOrder 79 = .ok (.return_, 1) := by decide +kernel
theorem dX11_readOrder_80 : decode cX11_readOrder 80 = .ok (.aload_n 0, 1) := by decide +kernel
theorem dX11_readOrder_81 : decode cX11_readOrder 81 = .ok (.getfield 32, 3) := by decide +kernel
theorem dX11_readOrder_84 : decode cX11_readOrder 84 = .ok (.iload_n 1, 1) := by decide +kernel
theorem dX11_readOrder_85 : decode cX11_readOrder 85 = .ok (.iconst 2, 1) := by decide +kernel
theorem dX11_readOrder_86 : decode cX11_readOrder 86 = .ok (.iadd, 1) := by decide +kernel
theorem dX11_readOrder_87 : decode cX11_readOrder 87 = .ok (.iload_n 2, 1) := by decide +kernel
theorem dX11_readOrder_88 : decode cX11_readOrder 88 = .ok (.iadd, 1) := by decide +kernel
theorem dX11_readOrder_89 : decode cX11_readOrder 89 = .ok (.iload 4, 2) := by decide +kernel
theorem dX11_readOrder_91 : decode cX11_readOrder 91 = .ok (.iastore, 1) := by decide +kernel
theorem dX11_readOrder_92 : decode cX11_readOrder 92 = .ok (.iinc 2 1, 3) := by decide +kernel
theorem dX11_readOrder_95 : decode cX11_readOrder 95 = .ok (.goto (-72), 3) := by decide +kernel
theorem dX11_readOrder_98 : decode cX11_readOrder 98 = .ok (.aload_n 0, 1) := by decide +kernel
theorem dX11_readOrder_99 : decode cX11_readOrder 99 = .ok (.invokevirtual 149, 3) := by decide +kernel
theorem dX11_readOrder_102 : decode cX11_readOrder 102 = .ok (.ifCond .eq 28, 3) := by decide +kernel
theorem dX11_readOrder_105 : decode cX11_readOrder 105 = .ok (.iload_n 2, 1) := by decide +kernel
theorem dX11_readOrder_106 : decode cX11_readOrder 106 = .ok (.ifCond .eq 15, 3) := by decide +kernel
theorem dX11_readOrder_109 : decode cX11_readOrder 109 = .ok (.aload_n 0, 1) := by decide +kernel
theorem dX11_readOrder_110 : decode cX11_readOrder 110 = .ok (.invokevirtual 222, 3) := by decide +kernel
theorem dX11_readOrder_113 : decode cX11_readOrder 113 = .ok (.ldc 225, 2) := by decide +kernel
theorem dX11_readOrder_115 : decode cX11_readOrder 115 = .ok (.invokestatic 227, 3) := by decide +kernel
theorem dX11_readOrder_118 : decode cX11_readOrder 118 = .ok (.if_icmp .eq 12, 3) := by decide +kernel
theorem dX11_readOrder_121 : decode cX11_readOrder 121 = .ok (.aload_n 0, 1) := by decide +kernel
theorem dX11_readOrder_122 : decode cX11_readOrder 122 = .ok (.iconst 1, 1) := by decide +kernel
theorem dX11_readOrder_123 : decode cX11_readOrder 123 = .ok (.aload_n 0, 1) := by decide +kernel
theorem dX11_readOrder_124 : decode cX11_readOrder 124 = .ok (.getfield 127, 3) := by decide +kernel
theorem dX11_readOrder_127 : decode cX11_readOrder 127 = .ok (.invokevirtual 156, 3) := by decide +kernel
theorem dX11_readOrder_130 : decode cX11_readOrder 130 = .ok (.aload_n 0, 1) := by decide +kernel
theorem dX11_readOrder_131 : decode cX11_readOrder 131 = .ok (.invokevirtual 149, 3) := by decide +kernel
theorem dX11_readOrder_134 : decode cX11_readOrder 134 = .ok (.ifCond .ne 4, 3) := by decide +kernel
theorem dX11_readOrder_137 : decode cX11_readOrder 137 = .ok (.return_, 1) := by decide +kernel
theorem dX11_readOrder_138 : decode cX11_readOrder 138 = .ok (.aload_n 0, 1) := by decide +kernel
theorem dX11_readOrder_139 : decode cX11_readOrder 139 = .ok (.invokevirtual 231, 3) := by decide +kernel
theorem dX11_readOrder_142 : decode cX11_readOrder 142 = .ok (.aload_n 0, 1) := by decide +kernel
theorem dX11_readOrder_143 : decode cX11_readOrder 143 = .ok (.getfield 32, 3) := by decide +kernel
theorem dX11_readOrder_146 : decode cX11_readOrder 146 = .ok (.iload_n 1, 1) := by decide +kernel
theorem dX11_readOrder_147 : decode cX11_readOrder 147 = .ok (.iconst 1, 1) := by decide +kernel
theorem dX11_readOrder_148 : decode cX11_readOrder 148 = .ok (.iadd, 1) := by decide +kernel
theorem dX11_readOrder_149 : decode cX11_readOrder 149 = .ok (.iload_n 2, 1) := by decide +kernel
theorem dX11_readOrder_150 : decode cX11_readOrder 150 = .ok (.iastore, 1) := by decide +kernel
theorem dX11_readOrder_151 : decode cX11_readOrder 151 = .ok (.aload_n 0, 1) := by decide +kernel
theorem dX11_readOrder_152 : decode cX11_readOrder 152 = .ok (.dup, 1) := by decide +kernel
theorem dX11_readOrder_153 : decode cX11_readOrder 153 = .ok (.getfield 181, 3) := by decide +kernel
theorem dX11_readOrder_156 : decode cX11_readOrder 156 = .ok (.iconst 1, 1) := by decide +kernel
theorem dX11_readOrder_157 : decode cX11_readOrder 157 = .ok (.iadd, 1) := by decide +kernel
theorem dX11_readOrder_158 : decode cX11_readOrder 158 = .ok (.putfield 181, 3) := by decide +kernel
theorem dX11_readOrder_161 : decode cX11_readOrder 161 = .ok (.return_, 1) := by decide +kernel
theorem dX11_readClause_0 : decode cX11_readClause 0 = .ok (.iload_n 1, 1) := by decide +kernel
theorem dX11_readClause_1 : decode cX11_readClause 1 = .ok (.ldc 234, 2) := by decide +kernel
theorem dX11_readClause_3 : decode cX11_readClause 3 = .ok (.invokestatic 227, 3) := by decide +kernel
theorem dX11_readClause_6 : decode cX11_readClause 6 = .ok (.if_icmp .ne 28, 3) := by decide +kernel
theorem dX11_readClause_9 : decode cX11_readClause 9 = .ok (.aload_n 0, 1) := by decide +kernel
theorem dX11_readClause_10 : decode cX11_readClause 10 = .ok (.aload_n 0, 1) := by decide +kernel
theorem dX11_readClause_11 : decode cX11_readClause 11 = .ok (.iconst 1, 1) := by decide +kernel
theorem dX11_readClause_12 : decode cX11_readClause 12 = .ok (.bipush 8, 2) := by decide +kernel
theorem dX11_readClause_14 : decode cX11_readClause 14 = .ok (.invokevirtual 218, 3) := by decide +kernel
theorem dX11_readClause_17 : decode cX11_readClause 17 = .ok (.putfield 163, 3) := by decide +kernel
theorem dX11_readClause_20 : decode cX11_readClause 20 = .ok (.aload_n 0, 1) := by decide +kernel
theorem dX11_readClause_21 : decode cX11_readClause 21 = .ok (.aload_n 0, 1) := by decide +kernel
theorem dX11_readClause_22 : decode cX11_readClause 22 = .ok (.iconst 1, 1) := by decide +kernel
theorem dX11_readClause_23 : decode cX11_readClause 23 = .ok (.bipush 6, 2) := by decide +kernel
theorem dX11_readClause_25 : decode cX11_readClause 25 = .ok (.invokevirtual 218, 3) := by decide +kernel
theorem dX11_readClause_28 : decode cX11_readClause 28 = .ok (.putfield 166, 3) := by decide +kernel
theorem dX11_readClause_31 : decode cX11_readClause 31 = .ok (.goto 231, 3) := by decide +kernel
theorem dX11_readClause_34 : decode cX11_readClause 34 = .ok (.iload_n 1, 1) := by decide +kernel
theorem dX11_readClause_35 : decode cX11_readClause 35 = .ok (.ldc 235, 2) := by decide +kernel
theorem dX11_readClause_37 : decode cX11_readClause 37 = .ok (.invokestatic 227, 3) := by decide +kernel
theorem dX11_readClause_40 : decode cX11_readClause 40 = .ok (.if_icmp .ne 10, 3) := by decide +kernel
theorem dX11_readClause_43 : decode cX11_readClause 43 = .ok (.aload_n 0, 1) := by decide +kernel
theorem dX11_readClause_44 : decode cX11_readClause 44 = .ok (.invokevirtual 237, 3) := by decide +kernel
theorem dX11_readClause_47 : decode cX11_readClause 47 = .ok (.goto 215, 3) := by decide +kernel
theorem dX11_readClause_50 : decode cX11_readClause 50 = .ok (.iload_n 1, 1) := by decide +kernel
theorem dX11_readClause_51 : decode cX11_readClause 51 = .ok (.ldc 240, 2) := by decide +kernel
theorem dX11_readClause_53 : decode cX11_readClause 53 = .ok (.invokestatic 227, 3) := by decide +kernel
theorem dX11_readClause_56 : decode cX11_readClause 56 = .ok (.if_icmp .ne 62, 3) := by decide +kernel
theorem dX11_readClause_59 : decode cX11_readClause 59 = .ok (.aload_n 0, 1) := by decide +kernel
theorem dX11_readClause_60 : decode cX11_readClause 60 = .ok (.iconst 0, 1) := by decide +kernel
theorem dX11_readClause_61 : decode cX11_readClause 61 = .ok (.aload_n 0, 1) := by decide +kernel
theorem dX11_readClause_62 : decode cX11_readClause 62 = .ok (.getfield 163, 3) := by decide +kernel
theorem dX11_readClause_65 : decode cX11_readClause 65 = .ok (.iconst 1, 1) := by decide +kernel
theorem dX11_readClause_66 : decode cX11_readClause 66 = .ok (.isub, 1) := by decide +kernel
theorem dX11_readClause_67 : decode cX11_readClause 67 = .ok (.invokevirtual 218, 3) := by decide +kernel
theorem dX11_readClause_70 : decode cX11_readClause 70 = .ok (.istore_n 2, 1) := by decide +kernel
theorem dX11_readClause_71 : decode cX11_readClause 71 = .ok (.aload_n 0, 1) := by decide +kernel
theorem dX11_readClause_72 : decode cX11_readClause 72 = .ok (.iconst 0, 1) := by decide +kernel
theorem dX11_readClause_73 : decode cX11_readClause 73 = .ok (.aload_n 0, 1) := by decide +kernel
theorem dX11_readClause_74 : decode cX11_readClause 74 = .ok (.getfield 166, 3) := by decide +kernel
theorem dX11_readClause_77 : decode cX11_readClause 77 = .ok (.iconst 1, 1) := by decide +kernel
theorem dX11_readClause_78 : decode cX11_readClause 78 = .ok (.isub, 1) := by decide +kernel
theorem dX11_readClause_79 : decode cX11_readClause 79 = .ok (.invokevirtual 218, 3) := by decide +kernel
theorem dX11_readClause_82 : decode cX11_readClause 82 = .ok (.istore_n 3, 1) := by decide +kernel
theorem dX11_readClause_83 : decode cX11_readClause 83 = .ok (.aload_n 0, 1) := by decide +kernel
theorem dX11_readClause_84 : decode cX11_readClause 84 = .ok (.invokevirtual 149, 3) := by decide +kernel
theorem dX11_readClause_87 : decode cX11_readClause 87 = .ok (.ifCond .ne 4, 3) := by decide +kernel
theorem dX11_readClause_90 : decode cX11_readClause 90 = .ok (.return_, 1) := by decide +kernel
theorem dX11_readClause_91 : decode cX11_readClause 91 = .ok (.aload_n 0, 1) := by decide +kernel
theorem dX11_readClause_92 : decode cX11_readClause 92 = .ok (.getfield 23, 3) := by decide +kernel
theorem dX11_readClause_95 : decode cX11_readClause 95 = .ok (.bipush 8, 2) := by decide +kernel
theorem dX11_readClause_97 : decode cX11_readClause 97 = .ok (.iload_n 3, 1) := by decide +kernel
theorem dX11_readClause_98 : decode cX11_readClause 98 = .ok (.imul, 1) := by decide +kernel
theorem dX11_readClause_99 : decode cX11_readClause 99 = .ok (.iload_n 2, 1) := by decide +kernel
theorem dX11_readClause_100 : decode cX11_readClause 100 = .ok (.iadd, 1) := by decide +kernel
theorem dX11_readClause_101 : decode cX11_readClause 101 = .ok (.iconst 5, 1) := by decide +kernel
theorem dX11_readClause_102 : decode cX11_readClause 102 = .ok (.iastore, 1) := by decide +kernel
theorem dX11_readClause_103 : decode cX11_readClause 103 = .ok (.aload_n 0, 1) := by decide +kernel
theorem dX11_readClause_104 : decode cX11_readClause 104 = .ok (.getfield 26, 3) := by decide +kernel
theorem dX11_readClause_107 : decode cX11_readClause 107 = .ok (.bipush 8, 2) := by decide +kernel
theorem dX11_readClause_109 : decode cX11_readClause 109 = .ok (.iload_n 3, 1) := by decide +kernel
theorem dX11_readClause_110 : decode cX11_readClause 110 = .ok (.imul, 1) := by decide +kernel
theorem dX11_readClause_111 : decode cX11_readClause 111 = .ok (.iload_n 2, 1) := by decide +kernel
theorem dX11_readClause_112 : decode cX11_readClause 112 = .ok (.iadd, 1) := by decide +kernel
theorem dX11_readClause_113 : decode cX11_readClause 113 = .ok (.iconst 0, 1) := by decide +kernel
theorem dX11_readClause_114 : decode cX11_readClause 114 = .ok (.iastore, 1) := by decide +kernel
theorem dX11_readClause_115 : decode cX11_readClause 115 = .ok (.goto 147, 3) := by decide +kernel
theorem dX11_readClause_118 : decode cX11_readClause 118 = .ok (.iload_n 1, 1) := by decide +kernel
theorem dX11_readClause_119 : decode cX11_readClause 119 = .ok (.ldc 242, 2) := by decide +kernel
theorem dX11_readClause_121 : decode cX11_readClause 121 = .ok (.invokestatic 227, 3) := by decide +kernel
theorem dX11_readClause_124 : decode cX11_readClause 124 = .ok (.if_icmp .ne 47, 3) := by decide +kernel
theorem dX11_readClause_127 : decode cX11_readClause 127 = .ok (.aload_n 0, 1) := by decide +kernel
theorem dX11_readClause_128 : decode cX11_readClause 128 = .ok (.iconst 0, 1) := by decide +kernel
theorem dX11_readClause_129 : decode cX11_readClause 129 = .ok (.aload_n 0, 1) := by decide +kernel
theorem dX11_readClause_130 : decode cX11_readClause 130 = .ok (.getfield 163, 3) := by decide +kernel
theorem dX11_readClause_133 : decode cX11_readClause 133 = .ok (.iconst 1, 1) := by decide +kernel
theorem dX11_readClause_134 : decode cX11_readClause 134 = .ok (.isub, 1) := by decide +kernel
theorem dX11_readClause_135 : decode cX11_readClause 135 = .ok (.invokevirtual 218, 3) := by decide +kernel
theorem dX11_readClause_138 : decode cX11_readClause 138 = .ok (.istore_n 2, 1) := by decide +kernel
theorem dX11_readClause_139 : decode cX11_readClause 139 = .ok (.aload_n 0, 1) := by decide +kernel
theorem dX11_readClause_140 : decode cX11_readClause 140 = .ok (.invokevirtual 149, 3) := by decide +kernel
theorem dX11_readClause_143 : decode cX11_readClause 143 = .ok (.ifCond .eq 15, 3) := by decide +kernel
theorem dX11_readClause_146 : decode cX11_readClause 146 = .ok (.aload_n 0, 1) := by decide +kernel
theorem dX11_readClause_147 : decode cX11_readClause 147 = .ok (.dup, 1) := by decide +kernel
theorem dX11_readClause_148 : decode cX11_readClause 148 = .ok (.getfield 169, 3) := by decide +kernel
theorem dX11_readClause_151 : decode cX11_readClause 151 = .ok (.iconst 1, 1) := by decide +kernel
theorem dX11_readClause_152 : decode cX11_readClause 152 = .ok (.iload_n 2, 1) := by decide +kernel
theorem dX11_readClause_153 : decode cX11_readClause 153 = .ok (.ishl, 1) := by decide +kernel
theorem dX11_readClause_154 : decode cX11_readClause 154 = .ok (.ior, 1) := by decide +kernel
theorem dX11_readClause_155 : decode cX11_readClause 155 = .ok (.putfield 169, 3) := by decide +kernel
theorem dX11_readClause_158 : decode cX11_readClause 158 = .ok (.aload_n 0, 1) := by decide +kernel
theorem dX11_readClause_159 : decode cX11_readClause 159 = .ok (.dup, 1) := by decide +kernel
theorem dX11_readClause_160 : decode cX11_readClause 160 = .ok (.getfield 172, 3) := by decide +kernel
theorem dX11_readClause_163 : decode cX11_readClause 163 = .ok (.iconst 1, 1) := by decide +kernel
theorem dX11_readClause_164 : decode cX11_readClause 164 = .ok (.iadd, 1) := by decide +kernel
theorem dX11_readClause_165 : decode cX11_readClause 165 = .ok (.putfield 172, 3) := by decide +kernel
theorem dX11_readClause_168 : decode cX11_readClause 168 = .ok (.goto 94, 3) := by decide +kernel
theorem dX11_readClause_171 : decode cX11_readClause 171 = .ok (.iload_n 1, 1) := by decide +kernel
theorem dX11_readClause_172 : decode cX11_readClause 172 = .ok (.ldc 244, 2) := by decide +kernel
theorem dX11_readClause_174 : decode cX11_readClause 174 = .ok (.invokestatic 227, 3) := by decide +kernel
theorem dX11_readClause_177 : decode cX11_readClause 177 = .ok (.if_icmp .ne 17, 3) := by decide +kernel
theorem dX11_readClause_180 : decode cX11_readClause 180 = .ok (.aload_n 0, 1) := by decide +kernel
theorem dX11_readClause_181 : decode cX11_readClause 181 = .ok (.aload_n 0, 1) := by decide +kernel
theorem dX11_readClause_182 : decode cX11_readClause 182 = .ok (.iconst 1, 1) := by decide +kernel
theorem dX11_readClause_183 : decode cX11_readClause 183 = .ok (.bipush 9, 2) := by decide +kernel
theorem dX11_readClause_185 : decode cX11_readClause 185 = .ok (.invokevirtual 218, 3) := by decide +kernel
theorem dX11_readClause_188 : decode cX11_readClause 188 = .ok (.putfield 175, 3) := by decide +kernel
theorem dX11_readClause_191 : decode cX11_readClause 191 = .ok (.goto 71, 3) := by decide +kernel
theorem dX11_readClause_194 : decode cX11_readClause 194 = .ok (.iload_n 1, 1) := by decide +kernel
theorem dX11_readClause_195 : decode cX11_readClause 195 = .ok (.ldc 245, 2) := by decide +kernel
theorem dX11_readClause_197 : decode cX11_readClause 197 = .ok (.invokestatic 227, 3) := by decide +kernel
theorem dX11_readClause_200 : decode cX11_readClause 200 = .ok (.if_icmp .ne 17, 3) := by decide +kernel
theorem dX11_readClause_203 : decode cX11_readClause 203 = .ok (.aload_n 0, 1) := by decide +kernel
theorem dX11_readClause_204 : decode cX11_readClause 204 = .ok (.aload_n 0, 1) := by decide +kernel
theorem dX11_readClause_205 : decode cX11_readClause 205 = .ok (.iconst 0, 1) := by decide +kernel
theorem dX11_readClause_206 : decode cX11_readClause 206 = .ok (.bipush 20, 2) := by decide +kernel
theorem dX11_readClause_208 : decode cX11_readClause 208 = .ok (.invokevirtual 218, 3) := by decide +kernel
theorem dX11_readClause_211 : decode cX11_readClause 211 = .ok (.putfield 178, 3) := by decide +kernel
theorem dX11_readClause_214 : decode cX11_readClause 214 = .ok (.goto 48, 3) := by decide +kernel
theorem dX11_readClause_217 : decode cX11_readClause 217 = .ok (.iload_n 1, 1) := by decide +kernel
theorem dX11_readClause_218 : decode cX11_readClause 218 = .ok (.ldc 246, 2) := by decide +kernel
theorem dX11_readClause_220 : decode cX11_readClause 220 = .ok (.invokestatic 227, 3) := by decide +kernel
theorem dX11_readClause_223 : decode cX11_readClause 223 = .ok (.if_icmp .ne 35, 3) := by decide +kernel
theorem dX11_readClause_226 : decode cX11_readClause 226 = .ok (.aload_n 0, 1) := by decide +kernel
theorem dX11_readClause_227 : decode cX11_readClause 227 = .ok (.iconst 1, 1) := by decide +kernel
theorem dX11_readClause_228 : decode cX11_readClause 228 = .ok (.iconst 4, 1) := by decide +kernel
theorem dX11_readClause_229 : decode cX11_readClause 229 = .ok (.invokevirtual 218, 3) := by decide +kernel
theorem dX11_readClause_232 : decode cX11_readClause 232 = .ok (.istore_n 2, 1) := by decide +kernel
theorem dX11_readClause_233 : decode cX11_readClause 233 = .ok (.aload_n 0, 1) := by decide +kernel
theorem dX11_readClause_234 : decode cX11_readClause 234 = .ok (.iconst 0, 1) := by decide +kernel
theorem dX11_readClause_235 : decode cX11_readClause 235 = .ok (.bipush 99, 2) := by decide +kernel
theorem dX11_readClause_237 : decode cX11_readClause 237 = .ok (.invokevirtual 218, 3) := by decide +kernel
theorem dX11_readClause_240 : decode cX11_readClause 240 = .ok (.istore_n 3, 1) := by decide +kernel
theorem dX11_readClause_241 : decode cX11_readClause 241 = .ok (.aload_n 0, 1) := by decide +kernel
theorem dX11_readClause_242 : decode cX11_readClause 242 = .ok (.invokevirtual 149, 3) := by decide +kernel
theorem dX11_readClause_245 : decode cX11_readClause 245 = .ok (.ifCond .eq 10, 3) := by decide +kernel
theorem dX11_readClause_248 : decode cX11_readClause 248 = .ok (.aload_n 0, 1) := by decide +kernel
theorem dX11_readClause_249 : decode cX11_readClause 249 = .ok (.getfield 29, 3) := by decide +kernel
theorem dX11_readClause_252 : decode cX11_readClause 252 = .ok (.iload_n 2, 1) := by decide +kernel
theorem dX11_readClause_253 : decode cX11_readClause 253 = .ok (.iload_n 3, 1) := by decide +kernel
theorem dX11_readClause_254 : decode cX11_readClause 254 = .ok (.iastore, 1) := by decide +kernel
theorem dX11_readClause_255 : decode cX11_readClause 255 = .ok (.goto 7, 3) := by decide +kernel
theorem dX11_readClause_258 : decode cX11_readClause 258 = .ok (.aload_n 0, 1) := by decide +kernel
theorem dX11_readClause_259 : decode cX11_readClause 259 = .ok (.invokevirtual 247, 3) := by decide +kernel
theorem dX11_readClause_262 : decode cX11_readClause 262 = .ok (.return_, 1) := by decide +kernel
theorem dX11_isClause_0 : decode cX11_isClause 0 = .ok (.iload_n 0, 1) := by decide +kernel
theorem dX11_isClause_1 : decode cX11_isClause 1 = .ok (.ldc 234, 2) := by decide +kernel
theorem dX11_isClause_3 : decode cX11_isClause 3 = .ok (.invokestatic 227, 3) := by decide +kernel
theorem dX11_isClause_6 : decode cX11_isClause 6 = .ok (.if_icmp .eq 66, 3) := by decide +kernel
theorem dX11_isClause_9 : decode cX11_isClause 9 = .ok (.iload_n 0, 1) := by decide +kernel
theorem dX11_isClause_10 : decode cX11_isClause 10 = .ok (.ldc 235, 2) := by decide +kernel
theorem dX11_isClause_12 : decode cX11_isClause 12 = .ok (.invokestatic 227, 3) := by decide +kernel
theorem dX11_isClause_15 : decode cX11_isClause 15 = .ok (.if_icmp .eq 57, 3) := by decide +kernel
theorem dX11_isClause_18 : decode cX11_isClause 18 = .ok (.iload_n 0, 1) := by decide +kernel
theorem dX11_isClause_19 : decode cX11_isClause 19 = .ok (.ldc 240, 2) := by decide +kernel
theorem dX11_isClause_21 : decode cX11_isClause 21 = .ok (.invokestatic 227, 3) := by decide +kernel
theorem dX11_isClause_24 : decode cX11_isClause 24 = .ok (.if_icmp .eq 48, 3) := by decide +kernel
theorem dX11_isClause_27 : decode cX11_isClause 27 = .ok (.iload_n 0, 1) := by decide +kernel
theorem dX11_isClause_28 : decode cX11_isClause 28 = .ok (.ldc 242, 2) := by decide +kernel
theorem dX11_isClause_30 : decode cX11_isClause 30 = .ok (.invokestatic 227, 3) := by decide +kernel
theorem dX11_isClause_33 : decode cX11_isClause 33 = .ok (.if_icmp .eq 39, 3) := by decide +kernel
theorem dX11_isClause_36 : decode cX11_isClause 36 = .ok (.iload_n 0, 1) := by decide +kernel
theorem dX11_isClause_37 : decode cX11_isClause 37 = .ok (.ldc 244, 2) := by decide +kernel
theorem dX11_isClause_39 : decode cX11_isClause 39 = .ok (.invokestatic 227, 3) := by decide +kernel
theorem dX11_isClause_42 : decode cX11_isClause 42 = .ok (.if_icmp .eq 30, 3) := by decide +kernel
theorem dX11_isClause_45 : decode cX11_isClause 45 = .ok (.iload_n 0, 1) := by decide +kernel
theorem dX11_isClause_46 : decode cX11_isClause 46 = .ok (.ldc 245, 2) := by decide +kernel
theorem dX11_isClause_48 : decode cX11_isClause 48 = .ok (.invokestatic 227, 3) := by decide +kernel
theorem dX11_isClause_51 : decode cX11_isClause 51 = .ok (.if_icmp .eq 21, 3) := by decide +kernel
theorem dX11_isClause_54 : decode cX11_isClause 54 = .ok (.iload_n 0, 1) := by decide +kernel
theorem dX11_isClause_55 : decode cX11_isClause 55 = .ok (.ldc 246, 2) := by decide +kernel
theorem dX11_isClause_57 : decode cX11_isClause 57 = .ok (.invokestatic 227, 3) := by decide +kernel
theorem dX11_isClause_60 : decode cX11_isClause 60 = .ok (.if_icmp .eq 12, 3) := by decide +kernel
theorem dX11_isClause_63 : decode cX11_isClause 63 = .ok (.iload_n 0, 1) := by decide +kernel
theorem dX11_isClause_64 : decode cX11_isClause 64 = .ok (.ldc 250, 2) := by decide +kernel
theorem dX11_isClause_66 : decode cX11_isClause 66 = .ok (.invokestatic 227, 3) := by decide +kernel
theorem dX11_isClause_69 : decode cX11_isClause 69 = .ok (.if_icmp .ne 7, 3) := by decide +kernel
theorem dX11_isClause_72 : decode cX11_isClause 72 = .ok (.iconst 1, 1) := by decide +kernel
theorem dX11_isClause_73 : decode cX11_isClause 73 = .ok (.goto 4, 3) := by decide +kernel
theorem dX11_isClause_76 : decode cX11_isClause 76 = .ok (.iconst 0, 1) := by decide +kernel
theorem dX11_isClause_77 : decode cX11_isClause 77 = .ok (.ireturn, 1) := by decide +kernel
theorem dX11_pit_0 : decode cX11_pit 0 = .ok (.aload_n 0, 1) := by decide +kernel
theorem dX11_pit_1 : decode cX11_pit 1 = .ok (.iconst 0, 1) := by decide +kernel
theorem dX11_pit_2 : decode cX11_pit 2 = .ok (.putfield 3, 3) := by decide +kernel
theorem dX11_pit_5 : decode cX11_pit 5 = .ok (.aload_n 0, 1) := by decide +kernel
theorem dX11_pit_6 : decode cX11_pit 6 = .ok (.iload_n 1, 1) := by decide +kernel
theorem dX11_pit_7 : decode cX11_pit 7 = .ok (.ifCond .lt 15, 3) := by decide +kernel
theorem dX11_pit_10 : decode cX11_pit 10 = .ok (.iload_n 1, 1) := by decide +kernel
theorem dX11_pit_11 : decode cX11_pit 11 = .ok (.aload_n 0, 1) := by decide +kernel
theorem dX11_pit_12 : decode cX11_pit 12 = .ok (.getfield 118, 3) := by decide +kernel
theorem dX11_pit_15 : decode cX11_pit 15 = .ok (.if_icmp .gt 7, 3) := by decide +kernel
theorem dX11_pit_18 : decode cX11_pit 18 = .ok (.iconst 1, 1) := by decide +kernel
theorem dX11_pit_19 : decode cX11_pit 19 = .ok (.goto 4, 3) := by decide +kernel
theorem dX11_pit_22 : decode cX11_pit 22 = .ok (.iconst 0, 1) := by decide +kernel
theorem dX11_pit_23 : decode cX11_pit 23 = .ok (.iconst 1, 1) := by decide +kernel
theorem dX11_pit_24 : decode cX11_pit 24 = .ok (.iconst 2, 1) := by decide +kernel
theorem dX11_pit_25 : decode cX11_pit 25 = .ok (.invokevirtual 252, 3) := by decide +kernel
theorem dX11_pit_28 : decode cX11_pit 28 = .ok (.ifCond .ne 5, 3) := by decide +kernel
theorem dX11_pit_31 : decode cX11_pit 31 = .ok (.iconst 0, 1) := by decide +kernel
theorem dX11_pit_32 : decode cX11_pit 32 = .ok (.ireturn, 1) := by decide +kernel
theorem dX11_pit_33 : decode cX11_pit 33 = .ok (.aload_n 0, 1) := by decide +kernel
theorem dX11_pit_34 : decode cX11_pit 34 = .ok (.iload_n 1, 1) := by decide +kernel
theorem dX11_pit_35 : decode cX11_pit 35 = .ok (.invokevirtual 256, 3) := by decide +kernel
theorem dX11_pit_38 : decode cX11_pit 38 = .ok (.aload_n 0, 1) := by decide +kernel
theorem dX11_pit_39 : decode cX11_pit 39 = .ok (.invokevirtual 111, 3) := by decide +kernel
theorem dX11_pit_42 : decode cX11_pit 42 = .ok (.iconst 0, 1) := by decide +kernel
theorem dX11_pit_43 : decode cX11_pit 43 = .ok (.istore_n 2, 1) := by decide +kernel
theorem dX11_pit_44 : decode cX11_pit 44 = .ok (.aload_n 0, 1) := by decide +kernel
theorem dX11_pit_45 : decode cX11_pit 45 = .ok (.invokevirtual 149, 3) := by decide +kernel
theorem dX11_pit_48 : decode cX11_pit 48 = .ok (.ifCond .eq 140, 3) := by decide +kernel
theorem dX11_pit_51 : decode cX11_pit 51 = .ok (.aload_n 0, 1) := by decide +kernel
theorem dX11_pit_52 : decode cX11_pit 52 = .ok (.invokevirtual 260, 3) := by decide +kernel
theorem dX11_pit_55 : decode cX11_pit 55 = .ok (.ifCond .eq 133, 3) := by decide +kernel
theorem dX11_pit_58 : decode cX11_pit 58 = .ok (.aload_n 0, 1) := by decide +kernel
theorem dX11_pit_59 : decode cX11_pit 59 = .ok (.invokevirtual 222, 3) := by decide +kernel
theorem dX11_pit_62 : decode cX11_pit 62 = .ok (.istore_n 3, 1) := by decide +kernel
theorem dX11_pit_63 : decode cX11_pit 63 = .ok (.iload_n 3, 1) := by decide +kernel
theorem dX11_pit_64 : decode cX11_pit 64 = .ok (.invokestatic 263, 3) := by decide +kernel
theorem dX11_pit_67 : decode cX11_pit 67 = .ok (.ifCond .ne 15, 3) := by decide +kernel
theorem dX11_pit_70 : decode cX11_pit 70 = .ok (.aload_n 0, 1) := by decide +kernel
theorem dX11_pit_71 : decode cX11_pit 71 = .ok (.iconst 1, 1) := by decide +kernel
theorem dX11_pit_72 : decode cX11_pit 72 = .ok (.aload_n 0, 1) := by decide +kernel
theorem dX11_pit_73 : decode cX11_pit 73 = .ok (.getfield 127, 3) := by decide +kernel
theorem dX11_pit_76 : decode cX11_pit 76 = .ok (.invokevirtual 156, 3) := by decide +kernel
theorem dX11_pit_79 : decode cX11_pit 79 = .ok (.goto 78, 3) := by decide +kernel
theorem dX11_pit_82 : decode cX11_pit 82 = .ok (.iload_n 2, 1) := by decide +kernel
theorem dX11_pit_83 : decode cX11_pit 83 = .ok (.bipush 60, 2) := by decide +kernel
theorem dX11_pit_85 : decode cX11_pit 85 = .ok (.if_icmp .eq 38, 3) := by decide +kernel
theorem dX11_pit_88 : decode cX11_pit 88 = .ok (.iload_n 3, 1) := by decide +kernel
theorem dX11_pit_89 : decode cX11_pit 89 = .ok (.ldc 242, 2) := by decide +kernel
theorem dX11_pit_91 : decode cX11_pit 91 = .ok (.invokestatic 227, 3) := by decide +kernel
theorem dX11_pit_94 : decode cX11_pit 94 = .ok (.if_icmp .ne 11, 3) := by decide +kernel
theorem dX11_pit_97 : decode cX11_pit 97 = .ok (.aload_n 0, 1) := by decide +kernel
theorem dX11_pit_98 : decode cX11_pit 98 = .ok (.getfield 172, 3) := by decide +kernel
theorem dX11_pit_101 : decode cX11_pit 101 = .ok (.iconst 4, 1) := by decide +kernel
theorem dX11_pit_102 : decode cX11_pit 102 = .ok (.if_icmp .eq 21, 3) := by decide +kernel
theorem dX11_pit_105 : decode cX11_pit 105 = .ok (.iload_n 3, 1) := by decide +kernel
theorem dX11_pit_106 : decode cX11_pit 106 = .ok (.ldc 250, 2) := by decide +kernel
theorem dX11_pit_108 : decode cX11_pit 108 = .ok (.invokestatic 227, 3) := by decide +kernel
theorem dX11_pit_111 : decode cX11_pit 111 = .ok (.if_icmp .ne 24, 3) := by decide +kernel
theorem dX11_pit_114 : decode cX11_pit 114 = .ok (.aload_n 0, 1) := by decide +kernel
theorem dX11_pit_115 : decode cX11_pit 115 = .ok (.getfield 181, 3) := by decide +kernel
theorem dX11_pit_118 : decode cX11_pit 118 = .ok (.bipush 6, 2) := by decide +kernel
theorem dX11_pit_120 : decode cX11_pit 120 = .ok (.if_icmp .ne 15, 3) := by decide +kernel
theorem dX11_pit_123 : decode cX11_pit 123 = .ok (.aload_n 0, 1) := by decide +kernel
theorem dX11_pit_124 : decode cX11_pit 124 = .ok (.iconst 3, 1) := by decide +kernel
theorem dX11_pit_125 : decode cX11_pit 125 = .ok (.aload_n 0, 1) := by decide +kernel
theorem dX11_pit_126 : decode cX11_pit 126 = .ok (.getfield 127, 3) := by decide +kernel
theorem dX11_pit_129 : decode cX11_pit 129 = .ok (.invokevirtual 156, 3) := by decide +kernel
theorem dX11_pit_132 : decode cX11_pit 132 = .ok (.goto 25, 3) := by decide +kernel
theorem dX11_pit_135 : decode cX11_pit 135 = .ok (.iload_n 3, 1) := by decide +kernel
theorem dX11_pit_136 : decode cX11_pit 136 = .ok (.ldc 234, 2) := by decide +kernel
theorem dX11_pit_138 : decode cX11_pit 138 = .ok (.invokestatic 227, 3) := by decide +kernel
theorem dX11_pit_141 : decode cX11_pit 141 = .ok (.if_icmp .ne 16, 3) := by decide +kernel
theorem dX11_pit_144 : decode cX11_pit 144 = .ok (.iload_n 2, 1) := by decide +kernel
theorem dX11_pit_145 : decode cX11_pit 145 = .ok (.ifCond .le 12, 3) := by decide +kernel
theorem dX11_pit_148 : decode cX11_pit 148 = .ok (.aload_n 0, 1) := by decide +kernel
theorem dX11_pit_149 : decode cX11_pit 149 = .ok (.iconst 4, 1) := by decide +kernel
theorem dX11_pit_150 : decode cX11_pit 150 = .ok (.aload_n 0, 1) := by decide +kernel
theorem dX11_pit_151 : decode cX11_pit 151 = .ok (.getfield 127, 3) := by decide +kernel
theorem dX11_pit_154 : decode cX11_pit 154 = .ok (.invokevirtual 156, 3) := by decide +kernel
theorem dX11_pit_157 : decode cX11_pit 157 = .ok (.aload_n 0, 1) := by decide +kernel
theorem dX11_pit_158 : decode cX11_pit 158 = .ok (.invokevirtual 149, 3) := by decide +kernel
theorem dX11_pit_161 : decode cX11_pit 161 = .ok (.ifCond .ne 6, 3) := by decide +kernel
theorem dX11_pit_164 : decode cX11_pit 164 = .ok (.goto 24, 3) := by decide +kernel
theorem dX11_pit_167 : decode cX11_pit 167 = .ok (.aload_n 0, 1) := by decide +kernel
theorem dX11_pit_168 : decode cX11_pit 168 = .ok (.invokevirtual 231, 3) := by decide +kernel
theorem dX11_pit_171 : decode cX11_pit 171 = .ok (.aload_n 0, 1) := by decide +kernel
theorem dX11_pit_172 : decode cX11_pit 172 = .ok (.iload_n 3, 1) := by decide +kernel
theorem dX11_pit_173 : decode cX11_pit 173 = .ok (.invokevirtual 266, 3) := by decide +kernel
theorem dX11_pit_176 : decode cX11_pit 176 = .ok (.aload_n 0, 1) := by decide +kernel
theorem dX11_pit_177 : decode cX11_pit 177 = .ok (.bipush 59, 2) := by decide +kernel
theorem dX11_pit_179 : decode cX11_pit 179 = .ok (.invokevirtual 269, 3) := by decide +kernel
theorem dX11_pit_182 : decode cX11_pit 182 = .ok (.iinc 2 1, 3) := by decide +kernel
theorem dX11_pit_185 : decode cX11_pit 185 = .ok (.goto (-141), 3) := by decide +kernel
theorem dX11_pit_188 : decode cX11_pit 188 = .ok (.aload_n 0, 1) := by decide +kernel
theorem dX11_pit_189 : decode cX11_pit 189 = .ok (.iconst 0, 1) := by decide +kernel
theorem dX11_pit_190 : decode cX11_pit 190 = .ok (.invokevirtual 272, 3) := by decide +kernel
theorem dX11_pit_193 : decode cX11_pit 193 = .ok (.istore_n 3, 1) := by decide +kernel
theorem dX11_pit_194 : decode cX11_pit 194 = .ok (.aload_n 0, 1) := by decide +kernel
theorem dX11_pit_195 : decode cX11_pit 195 = .ok (.getfield 121, 3) := by decide +kernel
theorem dX11_pit_198 : decode cX11_pit 198 = .ok (.iconst (-1), 1) := by decide +kernel
theorem dX11_pit_199 : decode cX11_pit 199 = .ok (.if_icmp .ne 10, 3) := by decide +kernel
theorem dX11_pit_202 : decode cX11_pit 202 = .ok (.aload_n 0, 1) := by decide +kernel
theorem dX11_pit_203 : decode cX11_pit 203 = .ok (.invokevirtual 114, 3) := by decide +kernel
theorem dX11_pit_206 : decode cX11_pit 206 = .ok (.goto 4, 3) := by decide +kernel
theorem dX11_pit_209 : decode cX11_pit 209 = .ok (.iload_n 3, 1) := by decide +kernel
theorem dX11_pit_210 : decode cX11_pit 210 = .ok (.ireturn, 1) := by decide +kernel
theorem dX11_emit_0 : decode cX11_emit 0 = .ok (.aload_n 0, 1) := by decide +kernel
theorem dX11_emit_1 : decode cX11_emit 1 = .ok (.invokevirtual 149, 3) := by decide +kernel
theorem dX11_emit_4 : decode cX11_emit 4 = .ok (.ifCond .ne 4, 3) := by decide +kernel
theorem dX11_emit_7 : decode cX11_emit 7 = .ok (.return_, 1) := by decide +kernel
theorem dX11_emit_8 : decode cX11_emit 8 = .ok (.aload_n 0, 1) := by decide +kernel
theorem dX11_emit_9 : decode cX11_emit 9 = .ok (.getfield 47, 3) := by decide +kernel
theorem dX11_emit_12 : decode cX11_emit 12 = .ok (.aload_n 0, 1) := by decide +kernel
theorem dX11_emit_13 : decode cX11_emit 13 = .ok (.getfield 276, 3) := by decide +kernel
theorem dX11_emit_16 : decode cX11_emit 16 = .ok (.iload_n 1, 1) := by decide +kernel
theorem dX11_emit_17 : decode cX11_emit 17 = .ok (.iastore, 1) := by decide +kernel
theorem dX11_emit_18 : decode cX11_emit 18 = .ok (.aload_n 0, 1) := by decide +kernel
theorem dX11_emit_19 : decode cX11_emit 19 = .ok (.getfield 50, 3) := by decide +kernel
theorem dX11_emit_22 : decode cX11_emit 22 = .ok (.aload_n 0, 1) := by decide +kernel
theorem dX11_emit_23 : decode cX11_emit 23 = .ok (.getfield 276, 3) := by decide +kernel
theorem dX11_emit_26 : decode cX11_emit 26 = .ok (.iload_n 2, 1) := by decide +kernel
theorem dX11_emit_27 : decode cX11_emit 27 = .ok (.iastore, 1) := by decide +kernel
theorem dX11_emit_28 : decode cX11_emit 28 = .ok (.aload_n 0, 1) := by decide +kernel
theorem dX11_emit_29 : decode cX11_emit 29 = .ok (.dup, 1) := by decide +kernel
theorem dX11_emit_30 : decode cX11_emit 30 = .ok (.getfield 276, 3) := by decide +kernel
theorem dX11_emit_33 : decode cX11_emit 33 = .ok (.iconst 1, 1) := by decide +kernel
theorem dX11_emit_34 : decode cX11_emit 34 = .ok (.iadd, 1) := by decide +kernel
theorem dX11_emit_35 : decode cX11_emit 35 = .ok (.putfield 276, 3) := by decide +kernel
theorem dX11_emit_38 : decode cX11_emit 38 = .ok (.return_, 1) := by decide +kernel
theorem dX11_opensOne_0 : decode cX11_opensOne 0 = .ok (.aload_n 0, 1) := by decide +kernel
theorem dX11_opensOne_1 : decode cX11_opensOne 1 = .ok (.invokevirtual 149, 3) := by decide +kernel
theorem dX11_opensOne_4 : decode cX11_opensOne 4 = .ok (.ifCond .eq 21, 3) := by decide +kernel
theorem dX11_opensOne_7 : decode cX11_opensOne 7 = .ok (.aload_n 0, 1) := by decide +kernel
theorem dX11_opensOne_8 : decode cX11_opensOne 8 = .ok (.getfield 160, 3) := by decide +kernel
theorem dX11_opensOne_11 : decode cX11_opensOne 11 = .ok (.bipush 6, 2) := by decide +kernel
theorem dX11_opensOne_13 : decode cX11_opensOne 13 = .ok (.if_icmp .ne 12, 3) := by decide +kernel
theorem dX11_opensOne_16 : decode cX11_opensOne 16 = .ok (.aload_n 0, 1) := by decide +kernel
theorem dX11_opensOne_17 : decode cX11_opensOne 17 = .ok (.iconst 3, 1) := by decide +kernel
theorem dX11_opensOne_18 : decode cX11_opensOne 18 = .ok (.aload_n 0, 1) := by decide +kernel
theorem dX11_opensOne_19 : decode cX11_opensOne 19 = .ok (.getfield 127, 3) := by decide +kernel
theorem dX11_opensOne_22 : decode cX11_opensOne 22 = .ok (.invokevirtual 156, 3) := by decide +kernel
theorem dX11_opensOne_25 : decode cX11_opensOne 25 = .ok (.aload_n 0, 1) := by decide +kernel
theorem dX11_opensOne_26 : decode cX11_opensOne 26 = .ok (.invokevirtual 149, 3) := by decide +kernel
theorem dX11_opensOne_29 : decode cX11_opensOne 29 = .ok (.ifCond .eq 13, 3) := by decide +kernel
theorem dX11_opensOne_32 : decode cX11_opensOne 32 = .ok (.aload_n 0, 1) := by decide +kernel
theorem dX11_opensOne_33 : decode cX11_opensOne 33 = .ok (.dup, 1) := by decide +kernel
theorem dX11_opensOne_34 : decode cX11_opensOne 34 = .ok (.getfield 127, 3) := by decide +kernel
theorem dX11_opensOne_37 : decode cX11_opensOne 37 = .ok (.iload_n 1, 1) := by decide +kernel
theorem dX11_opensOne_38 : decode cX11_opensOne 38 = .ok (.iadd, 1) := by decide +kernel
theorem dX11_opensOne_39 : decode cX11_opensOne 39 = .ok (.putfield 127, 3) := by decide +kernel
theorem dX11_opensOne_42 : decode cX11_opensOne 42 = .ok (.aload_n 0, 1) := by decide +kernel
theorem dX11_opensOne_43 : decode cX11_opensOne 43 = .ok (.dup, 1) := by decide +kernel
theorem dX11_opensOne_44 : decode cX11_opensOne 44 = .ok (.getfield 160, 3) := by decide +kernel
theorem dX11_opensOne_47 : decode cX11_opensOne 47 = .ok (.iconst 1, 1) := by decide +kernel
theorem dX11_opensOne_48 : decode cX11_opensOne 48 = .ok (.iadd, 1) := by decide +kernel
theorem dX11_opensOne_49 : decode cX11_opensOne 49 = .ok (.putfield 160, 3) := by decide +kernel
theorem dX11_opensOne_52 : decode cX11_opensOne 52 = .ok (.return_, 1) := by decide +kernel
theorem dX11_readSum_0 : decode cX11_readSum 0 = .ok (.aload_n 0, 1) := by decide +kernel
theorem dX11_readSum_1 : decode cX11_readSum 1 = .ok (.invokevirtual 279, 3) := by decide +kernel
theorem dX11_readSum_4 : decode cX11_readSum 4 = .ok (.aload_n 0, 1) := by decide +kernel
theorem dX11_readSum_5 : decode cX11_readSum 5 = .ok (.invokevirtual 149, 3) := by decide +kernel
theorem dX11_readSum_8 : decode cX11_readSum 8 = .ok (.ifCond .eq 59, 3) := by decide +kernel
theorem dX11_readSum_11 : decode cX11_readSum 11 = .ok (.aload_n 0, 1) := by decide +kernel
theorem dX11_readSum_12 : decode cX11_readSum 12 = .ok (.invokevirtual 133, 3) := by decide +kernel
theorem dX11_readSum_15 : decode cX11_readSum 15 = .ok (.bipush 43, 2) := by decide +kernel
theorem dX11_readSum_17 : decode cX11_readSum 17 = .ok (.if_icmp .eq 12, 3) := by decide +kernel
theorem dX11_readSum_20 : decode cX11_readSum 20 = .ok (.aload_n 0, 1) := by decide +kernel
theorem dX11_readSum_21 : decode cX11_readSum 21 = .ok (.invokevirtual 133, 3) := by decide +kernel
theorem dX11_readSum_24 : decode cX11_readSum 24 = .ok (.bipush 45, 2) := by decide +kernel
theorem dX11_readSum_26 : decode cX11_readSum 26 = .ok (.if_icmp .ne 41, 3) := by decide +kernel
theorem dX11_readSum_29 : decode cX11_readSum 29 = .ok (.aload_n 0, 1) := by decide +kernel
theorem dX11_readSum_30 : decode cX11_readSum 30 = .ok (.invokevirtual 133, 3) := by decide +kernel
theorem dX11_readSum_33 : decode cX11_readSum 33 = .ok (.bipush 43, 2) := by decide +kernel
theorem dX11_readSum_35 : decode cX11_readSum 35 = .ok (.if_icmp .ne 7, 3) := by decide +kernel
theorem dX11_readSum_38 : decode cX11_readSum 38 = .ok (.iconst 2, 1) := by decide +kernel
theorem dX11_readSum_39 : decode cX11_readSum 39 = .ok (.goto 4, 3) := by decide +kernel
theorem dX11_readSum_42 : decode cX11_readSum 42 = .ok (.iconst 3, 1) := by decide +kernel
