theorem dX7_init_0 : decode cX7_init 0 = .ok (.aload_n 0, 1) := by decide +kernel
theorem dX7_init_1 : decode cX7_init 1 = .ok (.invokespecial 1, 3) := by decide +kernel
theorem dX7_init_4 : decode cX7_init 4 = .ok (.aload_n 0, 1) := by decide +kernel
theorem dX7_init_5 : decode cX7_init 5 = .ok (.bipush 7, 2) := by decide +kernel
theorem dX7_init_7 : decode cX7_init 7 = .ok (.newarray .int, 2) := by decide +kernel
theorem dX7_init_9 : decode cX7_init 9 = .ok (.putfield 7, 3) := by decide +kernel
theorem dX7_init_12 : decode cX7_init 12 = .ok (.aload_n 0, 1) := by decide +kernel
theorem dX7_init_13 : decode cX7_init 13 = .ok (.bipush 8, 2) := by decide +kernel
theorem dX7_init_15 : decode cX7_init 15 = .ok (.newarray .int, 2) := by decide +kernel
theorem dX7_init_17 : decode cX7_init 17 = .ok (.putfield 13, 3) := by decide +kernel
theorem dX7_init_20 : decode cX7_init 20 = .ok (.aload_n 0, 1) := by decide +kernel
theorem dX7_init_21 : decode cX7_init 21 = .ok (.bipush 8, 2) := by decide +kernel
theorem dX7_init_23 : decode cX7_init 23 = .ok (.newarray .int, 2) := by decide +kernel
theorem dX7_init_25 : decode cX7_init 25 = .ok (.putfield 16, 3) := by decide +kernel
theorem dX7_init_28 : decode cX7_init 28 = .ok (.aload_n 0, 1) := by decide +kernel
theorem dX7_init_29 : decode cX7_init 29 = .ok (.bipush 8, 2) := by decide +kernel
theorem dX7_init_31 : decode cX7_init 31 = .ok (.newarray .int, 2) := by decide +kernel
theorem dX7_init_33 : decode cX7_init 33 = .ok (.putfield 19, 3) := by decide +kernel
theorem dX7_init_36 : decode cX7_init 36 = .ok (.aload_n 0, 1) := by decide +kernel
theorem dX7_init_37 : decode cX7_init 37 = .ok (.bipush 8, 2) := by decide +kernel
theorem dX7_init_39 : decode cX7_init 39 = .ok (.newarray .int, 2) := by decide +kernel
theorem dX7_init_41 : decode cX7_init 41 = .ok (.putfield 22, 3) := by decide +kernel
theorem dX7_init_44 : decode cX7_init 44 = .ok (.aload_n 0, 1) := by decide +kernel
theorem dX7_init_45 : decode cX7_init 45 = .ok (.iconst 4, 1) := by decide +kernel
theorem dX7_init_46 : decode cX7_init 46 = .ok (.newarray .int, 2) := by decide +kernel
theorem dX7_init_48 : decode cX7_init 48 = .ok (.putfield 25, 3) := by decide +kernel
theorem dX7_init_51 : decode cX7_init 51 = .ok (.aload_n 0, 1) := by decide +kernel
theorem dX7_init_52 : decode cX7_init 52 = .ok (.iconst 4, 1) := by decide +kernel
theorem dX7_init_53 : decode cX7_init 53 = .ok (.newarray .int, 2) := by decide +kernel
theorem dX7_init_55 : decode cX7_init 55 = .ok (.putfield 28, 3) := by decide +kernel
theorem dX7_init_58 : decode cX7_init 58 = .ok (.aload_n 0, 1) := by decide +kernel
theorem dX7_init_59 : decode cX7_init 59 = .ok (.iconst 4, 1) := by decide +kernel
theorem dX7_init_60 : decode cX7_init 60 = .ok (.newarray .int, 2) := by decide +kernel
theorem dX7_init_62 : decode cX7_init 62 = .ok (.putfield 31, 3) := by decide +kernel
theorem dX7_init_65 : decode cX7_init 65 = .ok (.aload_n 0, 1) := by decide +kernel
theorem dX7_init_66 : decode cX7_init 66 = .ok (.iconst 4, 1) := by decide +kernel
theorem dX7_init_67 : decode cX7_init 67 = .ok (.newarray .int, 2) := by decide +kernel
theorem dX7_init_69 : decode cX7_init 69 = .ok (.putfield 34, 3) := by decide +kernel
theorem dX7_init_72 : decode cX7_init 72 = .ok (.aload_n 0, 1) := by decide +kernel
theorem dX7_init_73 : decode cX7_init 73 = .ok (.iconst 4, 1) := by decide +kernel
theorem dX7_init_74 : decode cX7_init 74 = .ok (.newarray .int, 2) := by decide +kernel
theorem dX7_init_76 : decode cX7_init 76 = .ok (.putfield 37, 3) := by decide +kernel
theorem dX7_init_79 : decode cX7_init 79 = .ok (.aload_n 0, 1) := by decide +kernel
theorem dX7_init_80 : decode cX7_init 80 = .ok (.iconst 4, 1) := by decide +kernel
theorem dX7_init_81 : decode cX7_init 81 = .ok (.newarray .int, 2) := by decide +kernel
theorem dX7_init_83 : decode cX7_init 83 = .ok (.putfield 40, 3) := by decide +kernel
theorem dX7_init_86 : decode cX7_init 86 = .ok (.aload_n 0, 1) := by decide +kernel
theorem dX7_init_87 : decode cX7_init 87 = .ok (.iconst 4, 1) := by decide +kernel
theorem dX7_init_88 : decode cX7_init 88 = .ok (.newarray .int, 2) := by decide +kernel
theorem dX7_init_90 : decode cX7_init 90 = .ok (.putfield 43, 3) := by decide +kernel
theorem dX7_init_93 : decode cX7_init 93 = .ok (.aload_n 0, 1) := by decide +kernel
theorem dX7_init_94 : decode cX7_init 94 = .ok (.iconst 4, 1) := by decide +kernel
theorem dX7_init_95 : decode cX7_init 95 = .ok (.newarray .int, 2) := by decide +kernel
theorem dX7_init_97 : decode cX7_init 97 = .ok (.putfield 46, 3) := by decide +kernel
theorem dX7_init_100 : decode cX7_init 100 = .ok (.aload_n 0, 1) := by decide +kernel
theorem dX7_init_101 : decode cX7_init 101 = .ok (.bipush 30, 2) := by decide +kernel
theorem dX7_init_103 : decode cX7_init 103 = .ok (.putfield 49, 3) := by decide +kernel
theorem dX7_init_106 : decode cX7_init 106 = .ok (.aload_n 0, 1) := by decide +kernel
theorem dX7_init_107 : decode cX7_init 107 = .ok (.bipush 96, 2) := by decide +kernel
theorem dX7_init_109 : decode cX7_init 109 = .ok (.newarray .int, 2) := by decide +kernel
theorem dX7_init_111 : decode cX7_init 111 = .ok (.putfield 53, 3) := by decide +kernel
theorem dX7_init_114 : decode cX7_init 114 = .ok (.aload_n 0, 1) := by decide +kernel
theorem dX7_init_115 : decode cX7_init 115 = .ok (.bipush 48, 2) := by decide +kernel
theorem dX7_init_117 : decode cX7_init 117 = .ok (.newarray .int, 2) := by decide +kernel
theorem dX7_init_119 : decode cX7_init 119 = .ok (.putfield 56, 3) := by decide +kernel
theorem dX7_init_122 : decode cX7_init 122 = .ok (.aload_n 0, 1) := by decide +kernel
theorem dX7_init_123 : decode cX7_init 123 = .ok (.bipush 48, 2) := by decide +kernel
theorem dX7_init_125 : decode cX7_init 125 = .ok (.newarray .int, 2) := by decide +kernel
theorem dX7_init_127 : decode cX7_init 127 = .ok (.putfield 59, 3) := by decide +kernel
theorem dX7_init_130 : decode cX7_init 130 = .ok (.aload_n 0, 1) := by decide +kernel
theorem dX7_init_131 : decode cX7_init 131 = .ok (.sipush 192, 3) := by decide +kernel
theorem dX7_init_134 : decode cX7_init 134 = .ok (.newarray .int, 2) := by decide +kernel
theorem dX7_init_136 : decode cX7_init 136 = .ok (.putfield 62, 3) := by decide +kernel
theorem dX7_init_139 : decode cX7_init 139 = .ok (.aload_n 0, 1) := by decide +kernel
theorem dX7_init_140 : decode cX7_init 140 = .ok (.sipush 160, 3) := by decide +kernel
theorem dX7_init_143 : decode cX7_init 143 = .ok (.newarray .int, 2) := by decide +kernel
theorem dX7_init_145 : decode cX7_init 145 = .ok (.putfield 65, 3) := by decide +kernel
theorem dX7_init_148 : decode cX7_init 148 = .ok (.aload_n 0, 1) := by decide +kernel
theorem dX7_init_149 : decode cX7_init 149 = .ok (.sipush 999, 3) := by decide +kernel
theorem dX7_init_152 : decode cX7_init 152 = .ok (.putfield 68, 3) := by decide +kernel
theorem dX7_init_155 : decode cX7_init 155 = .ok (.aload_n 0, 1) := by decide +kernel
theorem dX7_init_156 : decode cX7_init 156 = .ok (.bipush 54, 2) := by decide +kernel
theorem dX7_init_158 : decode cX7_init 158 = .ok (.newarray .int, 2) := by decide +kernel
theorem dX7_init_160 : decode cX7_init 160 = .ok (.putfield 71, 3) := by decide +kernel
theorem dX7_init_163 : decode cX7_init 163 = .ok (.aload_n 0, 1) := by decide +kernel
theorem dX7_init_164 : decode cX7_init 164 = .ok (.bipush 9, 2) := by decide +kernel
theorem dX7_init_166 : decode cX7_init 166 = .ok (.newarray .int, 2) := by decide +kernel
theorem dX7_init_168 : decode cX7_init 168 = .ok (.putfield 74, 3) := by decide +kernel
theorem dX7_init_171 : decode cX7_init 171 = .ok (.aload_n 0, 1) := by decide +kernel
theorem dX7_init_172 : decode cX7_init 172 = .ok (.bipush 9, 2) := by decide +kernel
theorem dX7_init_174 : decode cX7_init 174 = .ok (.newarray .int, 2) := by decide +kernel
theorem dX7_init_176 : decode cX7_init 176 = .ok (.putfield 77, 3) := by decide +kernel
theorem dX7_init_179 : decode cX7_init 179 = .ok (.aload_n 0, 1) := by decide +kernel
theorem dX7_init_180 : decode cX7_init 180 = .ok (.bipush 12, 2) := by decide +kernel
theorem dX7_init_182 : decode cX7_init 182 = .ok (.newarray .int, 2) := by decide +kernel
theorem dX7_init_184 : decode cX7_init 184 = .ok (.putfield 80, 3) := by decide +kernel
theorem dX7_init_187 : decode cX7_init 187 = .ok (.return_, 1) := by decide +kernel
theorem dX7_no_0 : decode cX7_no 0 = .ok (.aload_n 0, 1) := by decide +kernel
theorem dX7_no_1 : decode cX7_no 1 = .ok (.getfield 7, 3) := by decide +kernel
theorem dX7_no_4 : decode cX7_no 4 = .ok (.iload_n 1, 1) := by decide +kernel
theorem dX7_no_5 : decode cX7_no 5 = .ok (.ineg, 1) := by decide +kernel
theorem dX7_no_6 : decode cX7_no 6 = .ok (.dup2, 1) := by decide +kernel
theorem dX7_no_7 : decode cX7_no 7 = .ok (.iaload, 1) := by decide +kernel
theorem dX7_no_8 : decode cX7_no 8 = .ok (.iconst 1, 1) := by decide +kernel
theorem dX7_no_9 : decode cX7_no 9 = .ok (.iadd, 1) := by decide +kernel
theorem dX7_no_10 : decode cX7_no 10 = .ok (.iastore, 1) := by decide +kernel
theorem dX7_no_11 : decode cX7_no 11 = .ok (.iload_n 1, 1) := by decide +kernel
theorem dX7_no_12 : decode cX7_no 12 = .ok (.ireturn, 1) := by decide +kernel
theorem dX7_lower_0 : decode cX7_lower 0 = .ok (.aload_n 0, 1) := by decide +kernel
theorem dX7_lower_1 : decode cX7_lower 1 = .ok (.getfield 7, 3) := by decide +kernel
theorem dX7_lower_4 : decode cX7_lower 4 = .ok (.iload_n 1, 1) := by decide +kernel
theorem dX7_lower_5 : decode cX7_lower 5 = .ok (.ineg, 1) := by decide +kernel
theorem dX7_lower_6 : decode cX7_lower 6 = .ok (.dup2, 1) := by decide +kernel
theorem dX7_lower_7 : decode cX7_lower 7 = .ok (.iaload, 1) := by decide +kernel
theorem dX7_lower_8 : decode cX7_lower 8 = .ok (.iconst 1, 1) := by decide +kernel
theorem dX7_lower_9 : decode cX7_lower 9 = .ok (.iadd, 1) := by decide +kernel
theorem dX7_lower_10 : decode cX7_lower 10 = .ok (.iastore, 1) := by decide +kernel
theorem dX7_lower_11 : decode cX7_lower 11 = .ok (.ldc 83, 2) := by decide +kernel
theorem dX7_lower_13 : decode cX7_lower 13 = .ok (.iload_n 1, 1) := by decide +kernel
theorem dX7_lower_14 : decode cX7_lower 14 = .ok (.isub, 1) := by decide +kernel
theorem dX7_lower_15 : decode cX7_lower 15 = .ok (.ireturn, 1) := by decide +kernel
theorem dX7_lowest_0 : decode cX7_lowest 0 = .ok (.aload_n 0, 1) := by decide +kernel
theorem dX7_lowest_1 : decode cX7_lowest 1 = .ok (.getfield 7, 3) := by decide +kernel
theorem dX7_lowest_4 : decode cX7_lowest 4 = .ok (.iload_n 1, 1) := by decide +kernel
theorem dX7_lowest_5 : decode cX7_lowest 5 = .ok (.ineg, 1) := by decide +kernel
theorem dX7_lowest_6 : decode cX7_lowest 6 = .ok (.dup2, 1) := by decide +kernel
theorem dX7_lowest_7 : decode cX7_lowest 7 = .ok (.iaload, 1) := by decide +kernel
theorem dX7_lowest_8 : decode cX7_lowest 8 = .ok (.iconst 1, 1) := by decide +kernel
theorem dX7_lowest_9 : decode cX7_lowest 9 = .ok (.iadd, 1) := by decide +kernel
theorem dX7_lowest_10 : decode cX7_lowest 10 = .ok (.iastore, 1) := by decide +kernel
theorem dX7_lowest_11 : decode cX7_lowest 11 = .ok (.ldc2_w 84, 3) := by decide +kernel
theorem dX7_lowest_14 : decode cX7_lowest 14 = .ok (.iload_n 1, 1) := by decide +kernel
theorem dX7_lowest_15 : decode cX7_lowest 15 = .ok (.i2l, 1) := by decide +kernel
theorem dX7_lowest_16 : decode cX7_lowest 16 = .ok (.lsub, 1) := by decide +kernel
theorem dX7_lowest_17 : decode cX7_lowest 17 = .ok (.lreturn, 1) := by decide +kernel
theorem dX7_isIn_0 : decode cX7_isIn 0 = .ok (.iload_n 0, 1) := by decide +kernel
theorem dX7_isIn_1 : decode cX7_isIn 1 = .ok (.iload_n 1, 1) := by decide +kernel
theorem dX7_isIn_2 : decode cX7_isIn 2 = .ok (.if_icmp .lt 12, 3) := by decide +kernel
theorem dX7_isIn_5 : decode cX7_isIn 5 = .ok (.iload_n 0, 1) := by decide +kernel
theorem dX7_isIn_6 : decode cX7_isIn 6 = .ok (.iload_n 2, 1) := by decide +kernel
theorem dX7_isIn_7 : decode cX7_isIn 7 = .ok (.if_icmp .gt 7, 3) := by decide +kernel
theorem dX7_isIn_10 : decode cX7_isIn 10 = .ok (.iconst 1, 1) := by decide +kernel
theorem dX7_isIn_11 : decode cX7_isIn 11 = .ok (.goto 4, 3) := by decide +kernel
theorem dX7_isIn_14 : decode cX7_isIn 14 = .ok (.iconst 0, 1) := by decide +kernel
theorem dX7_isIn_15 : decode cX7_isIn 15 = .ok (.ireturn, 1) := by decide +kernel
theorem dX7_bound_0 : decode cX7_bound 0 = .ok (.iload_n 0, 1) := by decide +kernel
theorem dX7_bound_1 : decode cX7_bound 1 = .ok (.iload_n 1, 1) := by decide +kernel
theorem dX7_bound_2 : decode cX7_bound 2 = .ok (.if_icmp .ge 8, 3) := by decide +kernel
theorem dX7_bound_5 : decode cX7_bound 5 = .ok (.bipush (-4), 2) := by decide +kernel
theorem dX7_bound_7 : decode cX7_bound 7 = .ok (.goto 14, 3) := by decide +kernel
theorem dX7_bound_10 : decode cX7_bound 10 = .ok (.iload_n 0, 1) := by decide +kernel
theorem dX7_bound_11 : decode cX7_bound 11 = .ok (.iload_n 2, 1) := by decide +kernel
theorem dX7_bound_12 : decode cX7_bound 12 = .ok (.if_icmp .le 8, 3) := by decide +kernel
theorem dX7_bound_15 : decode cX7_bound 15 = .ok (.bipush (-6), 2) := by decide +kernel
theorem dX7_bound_17 : decode cX7_bound 17 = .ok (.goto 4, 3) := by decide +kernel
theorem dX7_bound_20 : decode cX7_bound 20 = .ok (.iconst 0, 1) := by decide +kernel
theorem dX7_bound_21 : decode cX7_bound 21 = .ok (.ireturn, 1) := by decide +kernel
theorem dX7_isLine_0 : decode cX7_isLine 0 = .ok (.iload_n 1, 1) := by decide +kernel
theorem dX7_isLine_1 : decode cX7_isLine 1 = .ok (.ifCond .lt 15, 3) := by decide +kernel
theorem dX7_isLine_4 : decode cX7_isLine 4 = .ok (.iload_n 1, 1) := by decide +kernel
theorem dX7_isLine_5 : decode cX7_isLine 5 = .ok (.aload_n 0, 1) := by decide +kernel
theorem dX7_isLine_6 : decode cX7_isLine 6 = .ok (.getfield 86, 3) := by decide +kernel
theorem dX7_isLine_9 : decode cX7_isLine 9 = .ok (.if_icmp .ge 7, 3) := by decide +kernel
theorem dX7_isLine_12 : decode cX7_isLine 12 = .ok (.iconst 1, 1) := by decide +kernel
theorem dX7_isLine_13 : decode cX7_isLine 13 = .ok (.goto 4, 3) := by decide +kernel
theorem dX7_isLine_16 : decode cX7_isLine 16 = .ok (.iconst 0, 1) := by decide +kernel
theorem dX7_isLine_17 : decode cX7_isLine 17 = .ok (.ireturn, 1) := by decide +kernel
theorem dX7_isLooker_0 : decode cX7_isLooker 0 = .ok (.iload_n 1, 1) := by decide +kernel
theorem dX7_isLooker_1 : decode cX7_isLooker 1 = .ok (.ifCond .lt 15, 3) := by decide +kernel
theorem dX7_isLooker_4 : decode cX7_isLooker 4 = .ok (.iload_n 1, 1) := by decide +kernel
theorem dX7_isLooker_5 : decode cX7_isLooker 5 = .ok (.aload_n 0, 1) := by decide +kernel
theorem dX7_isLooker_6 : decode cX7_isLooker 6 = .ok (.getfield 89, 3) := by decide +kernel
theorem dX7_isLooker_9 : decode cX7_isLooker 9 = .ok (.if_icmp .ge 7, 3) := by decide +kernel
theorem dX7_isLooker_12 : decode cX7_isLooker 12 = .ok (.iconst 1, 1) := by decide +kernel
theorem dX7_isLooker_13 : decode cX7_isLooker 13 = .ok (.goto 4, 3) := by decide +kernel
theorem dX7_isLooker_16 : decode cX7_isLooker 16 = .ok (.iconst 0, 1) := by decide +kernel
theorem dX7_isLooker_17 : decode cX7_isLooker 17 = .ok (.ireturn, 1) := by decide +kernel
theorem dX7_areTwo_0 : decode cX7_areTwo 0 = .ok (.aload_n 0, 1) := by decide +kernel
theorem dX7_areTwo_1 : decode cX7_areTwo 1 = .ok (.iload_n 1, 1) := by decide +kernel
theorem dX7_areTwo_2 : decode cX7_areTwo 2 = .ok (.invokevirtual 92, 3) := by decide +kernel
theorem dX7_areTwo_5 : decode cX7_areTwo 5 = .ok (.ifCond .eq 20, 3) := by decide +kernel
theorem dX7_areTwo_8 : decode cX7_areTwo 8 = .ok (.aload_n 0, 1) := by decide +kernel
theorem dX7_areTwo_9 : decode cX7_areTwo 9 = .ok (.iload_n 2, 1) := by decide +kernel
theorem dX7_areTwo_10 : decode cX7_areTwo 10 = .ok (.invokevirtual 92, 3) := by decide +kernel
theorem dX7_areTwo_13 : decode cX7_areTwo 13 = .ok (.ifCond .eq 12, 3) := by decide +kernel
theorem dX7_areTwo_16 : decode cX7_areTwo 16 = .ok (.iload_n 1, 1) := by decide +kernel
theorem dX7_areTwo_17 : decode cX7_areTwo 17 = .ok (.iload_n 2, 1) := by decide +kernel
theorem dX7_areTwo_18 : decode cX7_areTwo 18 = .ok (.if_icmp .eq 7, 3) := by decide +kernel
theorem dX7_areTwo_21 : decode cX7_areTwo 21 = .ok (.iconst 1, 1) := by decide +kernel
theorem dX7_areTwo_22 : decode cX7_areTwo 22 = .ok (.goto 4, 3) := by decide +kernel
theorem dX7_areTwo_25 : decode cX7_areTwo 25 = .ok (.iconst 0, 1) := by decide +kernel
theorem dX7_areTwo_26 : decode cX7_areTwo 26 = .ok (.ireturn, 1) := by decide +kernel
theorem dX7_feed_0 : decode cX7_feed 0 = .ok (.iload_n 1, 1) := by decide +kernel
theorem dX7_feed_1 : decode cX7_feed 1 = .ok (.iconst 0, 1) := by decide +kernel
theorem dX7_feed_2 : decode cX7_feed 2 = .ok (.sipush 255, 3) := by decide +kernel
theorem dX7_feed_5 : decode cX7_feed 5 = .ok (.invokestatic 96, 3) := by decide +kernel
theorem dX7_feed_8 : decode cX7_feed 8 = .ok (.istore_n 2, 1) := by decide +kernel
theorem dX7_feed_9 : decode cX7_feed 9 = .ok (.iload_n 2, 1) := by decide +kernel
theorem dX7_feed_10 : decode cX7_feed 10 = .ok (.ifCond .ne 15, 3) := by decide +kernel
theorem dX7_feed_13 : decode cX7_feed 13 = .ok (.aload_n 0, 1) := by decide +kernel
theorem dX7_feed_14 : decode cX7_feed 14 = .ok (.getfield 100, 3) := by decide +kernel
theorem dX7_feed_17 : decode cX7_feed 17 = .ok (.bipush 96, 2) := by decide +kernel
theorem dX7_feed_19 : decode cX7_feed 19 = .ok (.if_icmp .ne 6, 3) := by decide +kernel
theorem dX7_feed_22 : decode cX7_feed 22 = .ok (.bipush (-6), 2) := by decide +kernel
theorem dX7_feed_24 : decode cX7_feed 24 = .ok (.istore_n 2, 1) := by decide +kernel
theorem dX7_feed_25 : decode cX7_feed 25 = .ok (.iload_n 2, 1) := by decide +kernel
theorem dX7_feed_26 : decode cX7_feed 26 = .ok (.ifCond .eq 9, 3) := by decide +kernel
theorem dX7_feed_29 : decode cX7_feed 29 = .ok (.aload_n 0, 1) := by decide +kernel
theorem dX7_feed_30 : decode cX7_feed 30 = .ok (.iload_n 2, 1) := by decide +kernel
theorem dX7_feed_31 : decode cX7_feed 31 = .ok (.invokevirtual 103, 3) := by decide +kernel
theorem dX7_feed_34 : decode cX7_feed 34 = .ok (.ireturn, 1) := by decide +kernel
theorem dX7_feed_35 : decode cX7_feed 35 = .ok (.aload_n 0, 1) := by decide +kernel
theorem dX7_feed_36 : decode cX7_feed 36 = .ok (.getfield 53, 3) := by decide +kernel
theorem dX7_feed_39 : decode cX7_feed 39 = .ok (.aload_n 0, 1) := by decide +kernel
theorem dX7_feed_40 : decode cX7_feed 40 = .ok (.getfield 100, 3) := by decide +kernel
theorem dX7_feed_43 : decode cX7_feed 43 = .ok (.iload_n 1, 1) := by decide +kernel
theorem dX7_feed_44 : decode cX7_feed 44 = .ok (.iastore, 1) := by decide +kernel
theorem dX7_feed_45 : decode cX7_feed 45 = .ok (.aload_n 0, 1) := by decide +kernel
theorem dX7_feed_46 : decode cX7_feed 46 = .ok (.dup, 1) := by decide +kernel
theorem dX7_feed_47 : decode cX7_feed 47 = .ok (.getfield 100, 3) := by decide +kernel
theorem dX7_feed_50 : decode cX7_feed 50 = .ok (.iconst 1, 1) := by decide +kernel
theorem dX7_feed_51 : decode cX7_feed 51 = .ok (.iadd, 1) := by decide +kernel
theorem dX7_feed_52 : decode cX7_feed 52 = .ok (.putfield 100, 3) := by decide +kernel
theorem dX7_feed_55 : decode cX7_feed 55 = .ok (.aload_n 0, 1) := by decide +kernel
theorem dX7_feed_56 : decode cX7_feed 56 = .ok (.getfield 100, 3) := by decide +kernel
theorem dX7_feed_59 : decode cX7_feed 59 = .ok (.ireturn, 1) := by decide +kernel
theorem dX7_next_0 : decode cX7_next 0 = .ok (.aload_n 0, 1) := by decide +kernel
theorem dX7_next_1 : decode cX7_next 1 = .ok (.getfield 107, 3) := by decide +kernel
theorem dX7_next_4 : decode cX7_next 4 = .ok (.aload_n 0, 1) := by decide +kernel
theorem dX7_next_5 : decode cX7_next 5 = .ok (.getfield 100, 3) := by decide +kernel
theorem dX7_next_8 : decode cX7_next 8 = .ok (.if_icmp .ge 15, 3) := by decide +kernel
theorem dX7_next_11 : decode cX7_next 11 = .ok (.aload_n 0, 1) := by decide +kernel
theorem dX7_next_12 : decode cX7_next 12 = .ok (.getfield 53, 3) := by decide +kernel
theorem dX7_next_15 : decode cX7_next 15 = .ok (.aload_n 0, 1) := by decide +kernel
theorem dX7_next_16 : decode cX7_next 16 = .ok (.getfield 107, 3) := by decide +kernel
theorem dX7_next_19 : decode cX7_next 19 = .ok (.iaload, 1) := by decide +kernel
theorem dX7_next_20 : decode cX7_next 20 = .ok (.goto 4, 3) := by decide +kernel
theorem dX7_next_23 : decode cX7_next 23 = .ok (.iconst (-1), 1) := by decide +kernel
theorem dX7_next_24 : decode cX7_next 24 = .ok (.ireturn, 1) := by decide +kernel
theorem dX7_isDigit_0 : decode cX7_isDigit 0 = .ok (.aload_n 0, 1) := by decide +kernel
theorem dX7_isDigit_1 : decode cX7_isDigit 1 = .ok (.invokevirtual 110, 3) := by decide +kernel
theorem dX7_isDigit_4 : decode cX7_isDigit 4 = .ok (.bipush 48, 2) := by decide +kernel
theorem dX7_isDigit_6 : decode cX7_isDigit 6 = .ok (.bipush 57, 2) := by decide +kernel
theorem dX7_isDigit_8 : decode cX7_isDigit 8 = .ok (.invokestatic 114, 3) := by decide +kernel
theorem dX7_isDigit_11 : decode cX7_isDigit 11 = .ok (.ireturn, 1) := by decide +kernel
theorem dX7_readsNumber_0 : decode cX7_readsNumber 0 = .ok (.iconst 0, 1) := by decide +kernel
theorem dX7_readsNumber_1 : decode cX7_readsNumber 1 = .ok (.istore 4, 2) := by decide +kernel
theorem dX7_readsNumber_3 : decode cX7_readsNumber 3 = .ok (.iconst 0, 1) := by decide +kernel
theorem dX7_readsNumber_4 : decode cX7_readsNumber 4 = .ok (.istore 5, 2) := by decide +kernel
theorem dX7_readsNumber_6 : decode cX7_readsNumber 6 = .ok (.iload 5, 2) := by decide +kernel
theorem dX7_readsNumber_8 : decode cX7_readsNumber 8 = .ok (.iload_n 3, 1) := by decide +kernel
theorem dX7_readsNumber_9 : decode cX7_readsNumber 9 = .ok (.if_icmp .ge 41, 3) := by decide +kernel
theorem dX7_readsNumber_12 : decode cX7_readsNumber 12 = .ok (.aload_n 0, 1) := by decide +kernel
theorem dX7_readsNumber_13 : decode cX7_readsNumber 13 = .ok (.invokevirtual 118, 3) := by decide +kernel
theorem dX7_readsNumber_16 : decode cX7_readsNumber 16 = .ok (.ifCond .eq 34, 3) := by decide +kernel
theorem dX7_readsNumber_19 : decode cX7_readsNumber 19 = .ok (.bipush 10, 2) := by decide +kernel
theorem dX7_readsNumber_21 : decode cX7_readsNumber 21 = .ok (.iload 4, 2) := by decide +kernel
theorem dX7_readsNumber_23 : decode cX7_readsNumber 23 = .ok (.imul, 1) := by decide +kernel
theorem dX7_readsNumber_24 : decode cX7_readsNumber 24 = .ok (.aload_n 0, 1) := by decide +kernel
theorem dX7_readsNumber_25 : decode cX7_readsNumber 25 = .ok (.invokevirtual 110, 3) := by decide +kernel
theorem dX7_readsNumber_28 : decode cX7_readsNumber 28 = .ok (.iadd, 1) := by decide +kernel
theorem dX7_readsNumber_29 : decode cX7_readsNumber 29 = .ok (.bipush 48, 2) := by decide +kernel
theorem dX7_readsNumber_31 : decode cX7_readsNumber 31 = .ok (.isub, 1) := by decide +kernel
theorem dX7_readsNumber_32 : decode cX7_readsNumber 32 = .ok (.istore 4, 2) := by decide +kernel
theorem dX7_readsNumber_34 : decode cX7_readsNumber 34 = .ok (.aload_n 0, 1) := by decide +kernel
theorem dX7_readsNumber_35 : decode cX7_readsNumber 35 = .ok (.dup, 1) := by decide +kernel
theorem dX7_readsNumber_36 : decode cX7_readsNumber 36 = .ok (.getfield 107, 3) := by decide +kernel
theorem dX7_readsNumber_39 : decode cX7_readsNumber 39 = .ok (.iconst 1, 1) := by decide +kernel
theorem dX7_readsNumber_40 : decode cX7_readsNumber 40 = .ok (.iadd, 1) := by decide +kernel
theorem dX7_readsNumber_41 : decode cX7_readsNumber 41 = .ok (.putfield 107, 3) := by decide +kernel
theorem dX7_readsNumber_44 : decode cX7_readsNumber 44 = .ok (.iinc 5 1, 3) := by decide +kernel
theorem dX7_readsNumber_47 : decode cX7_readsNumber 47 = .ok (.goto (-41), 3) := by decide +kernel
theorem dX7_readsNumber_50 : decode cX7_readsNumber 50 = .ok (.aload_n 0, 1) := by decide +kernel
theorem dX7_readsNumber_51 : decode cX7_readsNumber 51 = .ok (.getfield 62, 3) := by decide +kernel
theorem dX7_readsNumber_54 : decode cX7_readsNumber 54 = .ok (.iload_n 1, 1) := by decide +kernel
theorem dX7_readsNumber_55 : decode cX7_readsNumber 55 = .ok (.iload 4, 2) := by decide +kernel
theorem dX7_readsNumber_57 : decode cX7_readsNumber 57 = .ok (.iastore, 1) := by decide +kernel
theorem dX7_readsNumber_58 : decode cX7_readsNumber 58 = .ok (.iload 5, 2) := by decide +kernel
theorem dX7_readsNumber_60 : decode cX7_readsNumber 60 = .ok (.iload_n 2, 1) := by decide +kernel
theorem dX7_readsNumber_61 : decode cX7_readsNumber 61 = .ok (.if_icmp .lt 7, 3) := by decide +kernel
theorem dX7_readsNumber_64 : decode cX7_readsNumber 64 = .ok (.iconst 1, 1) := by decide +kernel
theorem dX7_readsNumber_65 : decode cX7_readsNumber 65 = .ok (.goto 4, 3) := by decide +kernel
theorem dX7_readsNumber_68 : decode cX7_readsNumber 68 = .ok (.iconst 0, 1) := by decide +kernel
theorem dX7_readsNumber_69 : decode cX7_readsNumber 69 = .ok (.ireturn, 1) := by decide +kernel
theorem dX7_readsSign_0 : decode cX7_readsSign 0 = .ok (.aload_n 0, 1) := by decide +kernel
theorem dX7_readsSign_1 : decode cX7_readsSign 1 = .ok (.invokevirtual 110, 3) := by decide +kernel
theorem dX7_readsSign_4 : decode cX7_readsSign 4 = .ok (.istore_n 2, 1) := by decide +kernel
theorem dX7_readsSign_5 : decode cX7_readsSign 5 = .ok (.iload_n 2, 1) := by decide +kernel
theorem dX7_readsSign_6 : decode cX7_readsSign 6 = .ok (.bipush 43, 2) := by decide +kernel
theorem dX7_readsSign_8 : decode cX7_readsSign 8 = .ok (.if_icmp .eq 17, 3) := by decide +kernel
theorem dX7_readsSign_11 : decode cX7_readsSign 11 = .ok (.iload_n 2, 1) := by decide +kernel
theorem dX7_readsSign_12 : decode cX7_readsSign 12 = .ok (.bipush 45, 2) := by decide +kernel
theorem dX7_readsSign_14 : decode cX7_readsSign 14 = .ok (.if_icmp .eq 11, 3) := by decide +kernel
theorem dX7_readsSign_17 : decode cX7_readsSign 17 = .ok (.iload_n 2, 1) := by decide +kernel
theorem dX7_readsSign_18 : decode cX7_readsSign 18 = .ok (.bipush 48, 2) := by decide +kernel
theorem dX7_readsSign_20 : decode cX7_readsSign 20 = .ok (.if_icmp .eq 5, 3) := by decide +kernel
theorem dX7_readsSign_23 : decode cX7_readsSign 23 = .ok (.iconst 0, 1) := by decide +kernel
theorem dX7_readsSign_24 : decode cX7_readsSign 24 = .ok (.ireturn, 1) := by decide +kernel
theorem dX7_readsSign_25 : decode cX7_readsSign 25 = .ok (.aload_n 0, 1) := by decide +kernel
theorem dX7_readsSign_26 : decode cX7_readsSign 26 = .ok (.getfield 62, 3) := by decide +kernel
theorem dX7_readsSign_29 : decode cX7_readsSign 29 = .ok (.iload_n 1, 1) := by decide +kernel
theorem dX7_readsSign_30 : decode cX7_readsSign 30 = .ok (.iload_n 2, 1) := by decide +kernel
theorem dX7_readsSign_31 : decode cX7_readsSign 31 = .ok (.bipush 43, 2) := by decide +kernel
theorem dX7_readsSign_33 : decode cX7_readsSign 33 = .ok (.if_icmp .ne 7, 3) := by decide +kernel
theorem dX7_readsSign_36 : decode cX7_readsSign 36 = .ok (.iconst 1, 1) := by decide +kernel
theorem dX7_readsSign_37 : decode cX7_readsSign 37 = .ok (.goto 14, 3) := by decide +kernel
theorem dX7_readsSign_40 : decode cX7_readsSign 40 = .ok (.iload_n 2, 1) := by decide +kernel
theorem dX7_readsSign_41 : decode cX7_readsSign 41 = .ok (.bipush 45, 2) := by decide +kernel
theorem dX7_readsSign_43 : decode cX7_readsSign 43 = .ok (.if_icmp .ne 7, 3) := by decide +kernel
theorem dX7_readsSign_46 : decode cX7_readsSign 46 = .ok (.iconst (-1), 1) := by decide +kernel
theorem dX7_readsSign_47 : decode cX7_readsSign 47 = .ok (.goto 4, 3) := by decide +kernel
theorem dX7_readsSign_50 : decode cX7_readsSign 50 = .ok (.iconst 0, 1) := by decide +kernel
theorem dX7_readsSign_51 : decode cX7_readsSign 51 = .ok (.iastore, 1) := by decide +kernel
theorem dX7_readsSign_52 : decode cX7_readsSign 52 = .ok (.aload_n 0, 1) := by decide +kernel
theorem dX7_readsSign_53 : decode cX7_readsSign 53 = .ok (.dup, 1) := by decide +kernel
theorem dX7_readsSign_54 : decode cX7_readsSign 54 = .ok (.getfield 107, 3) := by decide +kernel
theorem dX7_readsSign_57 : decode cX7_readsSign 57 = .ok (.iconst 1, 1) := by decide +kernel
theorem dX7_readsSign_58 : decode cX7_readsSign 58 = .ok (.iadd, 1) := by decide +kernel
theorem dX7_readsSign_59 : decode cX7_readsSign 59 = .ok (.putfield 107, 3) := by decide +kernel
theorem dX7_readsSign_62 : decode cX7_readsSign 62 = .ok (.iconst 1, 1) := by decide +kernel
theorem dX7_readsSign_63 : decode cX7_readsSign 63 = .ok (.ireturn, 1) := by decide +kernel
theorem dX7_readsAll_0 : decode cX7_readsAll 0 = .ok (.iload_n 1, 1) := by decide +kernel
theorem dX7_readsAll_1 : decode cX7_readsAll 1 = .ok (.lookupswitch 133 #[(104, 87), (108, 35), (116, 127)], 35) := by decide +kernel
theorem dX7_readsAll_36 : decode cX7_readsAll 36 = .ok (.aload_n 0, 1) := by decide +kernel
theorem dX7_readsAll_37 : decode cX7_readsAll 37 = .ok (.iload_n 2, 1) := by decide +kernel
theorem dX7_readsAll_38 : decode cX7_readsAll 38 = .ok (.iconst 1, 1) := by decide +kernel
theorem dX7_readsAll_39 : decode cX7_readsAll 39 = .ok (.iconst 1, 1) := by decide +kernel
theorem dX7_readsAll_40 : decode cX7_readsAll 40 = .ok (.invokevirtual 122, 3) := by decide +kernel
theorem dX7_readsAll_43 : decode cX7_readsAll 43 = .ok (.ifCond .eq 43, 3) := by decide +kernel
theorem dX7_readsAll_46 : decode cX7_readsAll 46 = .ok (.aload_n 0, 1) := by decide +kernel
theorem dX7_readsAll_47 : decode cX7_readsAll 47 = .ok (.iload_n 2, 1) := by decide +kernel
theorem dX7_readsAll_48 : decode cX7_readsAll 48 = .ok (.iconst 1, 1) := by decide +kernel
theorem dX7_readsAll_49 : decode cX7_readsAll 49 = .ok (.iadd, 1) := by decide +kernel
theorem dX7_readsAll_50 : decode cX7_readsAll 50 = .ok (.iconst 1, 1) := by decide +kernel
theorem dX7_readsAll_51 : decode cX7_readsAll 51 = .ok (.iconst 1, 1) := by decide +kernel
theorem dX7_readsAll_52 : decode cX7_readsAll 52 = .ok (.invokevirtual 122, 3) := by decide +kernel
theorem dX7_readsAll_55 : decode cX7_readsAll 55 = .ok (.ifCond .eq 31, 3) := by decide +kernel
theorem dX7_readsAll_58 : decode cX7_readsAll 58 = .ok (.aload_n 0, 1) := by decide +kernel
theorem dX7_readsAll_59 : decode cX7_readsAll 59 = .ok (.iload_n 2, 1) := by decide +kernel
theorem dX7_readsAll_60 : decode cX7_readsAll 60 = .ok (.iconst 2, 1) := by decide +kernel
theorem dX7_readsAll_61 : decode cX7_readsAll 61 = .ok (.iadd, 1) := by decide +kernel
theorem dX7_readsAll_62 : decode cX7_readsAll 62 = .ok (.iconst 1, 1) := by decide +kernel
theorem dX7_readsAll_63 : decode cX7_readsAll 63 = .ok (.iconst 1, 1) := by decide +kernel
theorem dX7_readsAll_64 : decode cX7_readsAll 64 = .ok (.invokevirtual 122, 3) := by decide +kernel
theorem dX7_readsAll_67 : decode cX7_readsAll 67 = .ok (.ifCond .eq 19, 3) := by decide +kernel
theorem dX7_readsAll_70 : decode cX7_readsAll 70 = .ok (.aload_n 0, 1) := by decide +kernel
theorem dX7_readsAll_71 : decode cX7_readsAll 71 = .ok (.iload_n 2, 1) := by decide +kernel
theorem dX7_readsAll_72 : decode cX7_readsAll 72 = .ok (.iconst 3, 1) := by decide +kernel
theorem dX7_readsAll_73 : decode cX7_readsAll 73 = .ok (.iadd, 1) := by decide +kernel
theorem dX7_readsAll_74 : decode cX7_readsAll 74 = .ok (.iconst 1, 1) := by decide +kernel
theorem dX7_readsAll_75 : decode cX7_readsAll 75 = .ok (.iconst 1, 1) := by decide +kernel
theorem dX7_readsAll_76 : decode cX7_readsAll 76 = .ok (.invokevirtual 122, 3) := by decide +kernel
theorem dX7_readsAll_79 : decode cX7_readsAll 79 = .ok (.ifCond .eq 7, 3) := by decide +kernel
theorem dX7_readsAll_82 : decode cX7_readsAll 82 = .ok (.iconst 1, 1) := by decide +kernel
theorem dX7_readsAll_83 : decode cX7_readsAll 83 = .ok (.goto 4, 3) := by decide +kernel
theorem dX7_readsAll_86 : decode cX7_readsAll 86 = .ok (.iconst 0, 1) := by decide +kernel
theorem dX7_readsAll_87 : decode cX7_readsAll 87 = .ok (.ireturn, 1) := by decide +kernel
theorem dX7_readsAll_88 : decode cX7_readsAll 88 = .ok (.aload_n 0, 1) := by decide +kernel
theorem dX7_readsAll_89 : decode cX7_readsAll 89 = .ok (.iload_n 2, 1) := by decide +kernel
theorem dX7_readsAll_90 : decode cX7_readsAll 90 = .ok (.iconst 1, 1) := by decide +kernel
theorem dX7_readsAll_91 : decode cX7_readsAll 91 = .ok (.iconst 1, 1) := by decide +kernel
theorem dX7_readsAll_92 : decode cX7_readsAll 92 = .ok (.invokevirtual 122, 3) := by decide +kernel
theorem dX7_readsAll_95 : decode cX7_readsAll 95 = .ok (.ifCond .eq 31, 3) := by decide +kernel
theorem dX7_readsAll_98 : decode cX7_readsAll 98 = .ok (.aload_n 0, 1) := by decide +kernel
theorem dX7_readsAll_99 : decode cX7_readsAll 99 = .ok (.iload_n 2, 1) := by decide +kernel
theorem dX7_readsAll_100 : decode cX7_readsAll 100 = .ok (.iconst 1, 1) := by decide +kernel
theorem dX7_readsAll_101 : decode cX7_readsAll 101 = .ok (.iadd, 1) := by decide +kernel
theorem dX7_readsAll_102 : decode cX7_readsAll 102 = .ok (.iconst 1, 1) := by decide +kernel
theorem dX7_readsAll_103 : decode cX7_readsAll 103 = .ok (.iconst 1, 1) := by decide +kernel
theorem dX7_readsAll_104 : decode cX7_readsAll 104 = .ok (.invokevirtual 122, 3) := by decide +kernel
theorem dX7_readsAll_107 : decode cX7_readsAll 107 = .ok (.ifCond .eq 19, 3) := by decide +kernel
theorem dX7_readsAll_110 : decode cX7_readsAll 110 = .ok (.aload_n 0, 1) := by decide +kernel
theorem dX7_readsAll_111 : decode cX7_readsAll 111 = .ok (.iload_n 2, 1) := by decide +kernel
theorem dX7_readsAll_112 : decode cX7_readsAll 112 = .ok (.iconst 2, 1) := by decide +kernel
theorem dX7_readsAll_113 : decode cX7_readsAll 113 = .ok (.iadd, 1) := by decide +kernel
theorem dX7_readsAll_114 : decode cX7_readsAll 114 = .ok (.iconst 2, 1) := by decide +kernel
theorem dX7_readsAll_115 : decode cX7_readsAll 115 = .ok (.iconst 2, 1) := by decide +kernel
theorem dX7_readsAll_116 : decode cX7_readsAll 116 = .ok (.invokevirtual 122, 3) := by decide +kernel
theorem dX7_readsAll_119 : decode cX7_readsAll 119 = .ok (.ifCond .eq 7, 3) := by decide +kernel
theorem dX7_readsAll_122 : decode cX7_readsAll 122 = .ok (.iconst 1, 1) := by decide +kernel
theorem dX7_readsAll_123 : decode cX7_readsAll 123 = .ok (.goto 4, 3) := by decide +kernel
theorem dX7_readsAll_126 : decode cX7_readsAll 126 = .ok (.iconst 0, 1) := by decide +kernel
theorem dX7_readsAll_127 : decode cX7_readsAll 127 = .ok (.ireturn, 1) := by decide +kernel
theorem dX7_readsAll_128 : decode cX7_readsAll 128 = .ok (.aload_n 0, 1) := by decide +kernel
theorem dX7_readsAll_129 : decode cX7_readsAll 129 = .ok (.iload_n 2, 1) := by decide +kernel
theorem dX7_readsAll_130 : decode cX7_readsAll 130 = .ok (.invokevirtual 125, 3) := by decide +kernel
theorem dX7_readsAll_133 : decode cX7_readsAll 133 = .ok (.ireturn, 1) := by decide +kernel
theorem dX7_readsAll_134 : decode cX7_readsAll 134 = .ok (.aload_n 0, 1) := by decide +kernel
theorem dX7_readsAll_135 : decode cX7_readsAll 135 = .ok (.iload_n 2, 1) := by decide +kernel
theorem dX7_readsAll_136 : decode cX7_readsAll 136 = .ok (.iconst 1, 1) := by decide +kernel
theorem dX7_readsAll_137 : decode cX7_readsAll 137 = .ok (.iconst 1, 1) := by decide +kernel
theorem dX7_readsAll_138 : decode cX7_readsAll 138 = .ok (.invokevirtual 122, 3) := by decide +kernel
theorem dX7_readsAll_141 : decode cX7_readsAll 141 = .ok (.ifCond .eq 31, 3) := by decide +kernel
theorem dX7_readsAll_144 : decode cX7_readsAll 144 = .ok (.aload_n 0, 1) := by decide +kernel
theorem dX7_readsAll_145 : decode cX7_readsAll 145 = .ok (.iload_n 2, 1) := by decide +kernel
theorem dX7_readsAll_146 : decode cX7_readsAll 146 = .ok (.iconst 1, 1) := by decide +kernel
theorem dX7_readsAll_147 : decode cX7_readsAll 147 = .ok (.iadd, 1) := by decide +kernel
theorem dX7_readsAll_148 : decode cX7_readsAll 148 = .ok (.iconst 1, 1) := by decide +kernel
theorem dX7_readsAll_149 : decode cX7_readsAll 149 = .ok (.iconst 1, 1) := by decide +kernel
theorem dX7_readsAll_150 : decode cX7_readsAll 150 = .ok (.invokevirtual 122, 3) := by decide +kernel
theorem dX7_readsAll_153 : decode cX7_readsAll 153 = .ok (.ifCond .eq 19, 3) := by decide +kernel
theorem dX7_readsAll_156 : decode cX7_readsAll 156 = .ok (.aload_n 0, 1) := by decide +kernel
theorem dX7_readsAll_157 : decode cX7_readsAll 157 = .ok (.iload_n 2, 1) := by decide +kernel
theorem dX7_readsAll_158 : decode cX7_readsAll 158 = .ok (.iconst 2, 1) := by decide +kernel
theorem dX7_readsAll_159 : decode cX7_readsAll 159 = .ok (.iadd, 1) := by decide +kernel
theorem dX7_readsAll_160 : decode cX7_readsAll 160 = .ok (.iconst 1, 1) := by decide +kernel
theorem dX7_readsAll_161 : decode cX7_readsAll 161 = .ok (.iconst 2, 1) := by decide +kernel
theorem dX7_readsAll_162 : decode cX7_readsAll 162 = .ok (.invokevirtual 122, 3) := by decide +kernel
theorem dX7_readsAll_165 : decode cX7_readsAll 165 = .ok (.ifCond .eq 7, 3) := by decide +kernel
theorem dX7_readsAll_168 : decode cX7_readsAll 168 = .ok (.iconst 1, 1) := by decide +kernel
theorem dX7_readsAll_169 : decode cX7_readsAll 169 = .ok (.goto 4, 3) := by decide +kernel
theorem dX7_readsAll_172 : decode cX7_readsAll 172 = .ok (.iconst 0, 1) := by decide +kernel
theorem dX7_readsAll_173 : decode cX7_readsAll 173 = .ok (.ireturn, 1) := by decide +kernel
theorem dX7_statement_0 : decode cX7_statement 0 = .ok (.aload_n 0, 1) := by decide +kernel
theorem dX7_statement_1 : decode cX7_statement 1 = .ok (.invokevirtual 110, 3) := by decide +kernel
theorem dX7_statement_4 : decode cX7_statement 4 = .ok (.istore_n 1, 1) := by decide +kernel
theorem dX7_statement_5 : decode cX7_statement 5 = .ok (.iload_n 1, 1) := by decide +kernel
theorem dX7_statement_6 : decode cX7_statement 6 = .ok (.bipush 108, 2) := by decide +kernel
theorem dX7_statement_8 : decode cX7_statement 8 = .ok (.if_icmp .eq 23, 3) := by decide +kernel
theorem dX7_statement_11 : decode cX7_statement 11 = .ok (.iload_n 1, 1) := by decide +kernel
theorem dX7_statement_12 : decode cX7_statement 12 = .ok (.bipush 104, 2) := by decide +kernel
theorem dX7_statement_14 : decode cX7_statement 14 = .ok (.if_icmp .eq 17, 3) := by decide +kernel
theorem dX7_statement_17 : decode cX7_statement 17 = .ok (.iload_n 1, 1) := by decide +kernel
theorem dX7_statement_18 : decode cX7_statement 18 = .ok (.bipush 116, 2) := by decide +kernel
theorem dX7_statement_20 : decode cX7_statement 20 = .ok (.if_icmp .eq 11, 3) := by decide +kernel
theorem dX7_statement_23 : decode cX7_statement 23 = .ok (.iload_n 1, 1) := by decide +kernel
theorem dX7_statement_24 : decode cX7_statement 24 = .ok (.bipush 107, 2) := by decide +kernel
theorem dX7_statement_26 : decode cX7_statement 26 = .ok (.if_icmp .eq 5, 3) := by decide +kernel
theorem dX7_statement_29 : decode cX7_statement 29 = .ok (.iconst 0, 1) := by decide +kernel
theorem dX7_statement_30 : decode cX7_statement 30 = .ok (.ireturn, 1) := by decide +kernel
theorem dX7_statement_31 : decode cX7_statement 31 = .ok (.aload_n 0, 1) := by decide +kernel
theorem dX7_statement_32 : decode cX7_statement 32 = .ok (.getfield 56, 3) := by decide +kernel
theorem dX7_statement_35 : decode cX7_statement 35 = .ok (.aload_n 0, 1) := by decide +kernel
theorem dX7_statement_36 : decode cX7_statement 36 = .ok (.getfield 128, 3) := by decide +kernel
theorem dX7_statement_39 : decode cX7_statement 39 = .ok (.iload_n 1, 1) := by decide +kernel
theorem dX7_statement_40 : decode cX7_statement 40 = .ok (.iastore, 1) := by decide +kernel
theorem dX7_statement_41 : decode cX7_statement 41 = .ok (.aload_n 0, 1) := by decide +kernel
theorem dX7_statement_42 : decode cX7_statement 42 = .ok (.getfield 59, 3) := by decide +kernel
theorem dX7_statement_45 : decode cX7_statement 45 = .ok (.aload_n 0, 1) := by decide +kernel
theorem dX7_statement_46 : decode cX7_statement 46 = .ok (.getfield 128, 3) := by decide +kernel
theorem dX7_statement_49 : decode cX7_statement 49 = .ok (.aload_n 0, 1) := by decide +kernel
theorem dX7_statement_50 : decode cX7_statement 50 = .ok (.getfield 107, 3) := by decide +kernel
theorem dX7_statement_53 : decode cX7_statement 53 = .ok (.iastore, 1) := by decide +kernel
theorem dX7_statement_54 : decode cX7_statement 54 = .ok (.aload_n 0, 1) := by decide +kernel
theorem dX7_statement_55 : decode cX7_statement 55 = .ok (.dup, 1) := by decide +kernel
theorem dX7_statement_56 : decode cX7_statement 56 = .ok (.getfield 107, 3) := by decide +kernel
theorem dX7_statement_59 : decode cX7_statement 59 = .ok (.iconst 1, 1) := by decide +kernel
theorem dX7_statement_60 : decode cX7_statement 60 = .ok (.iadd, 1) := by decide +kernel
theorem dX7_statement_61 : decode cX7_statement 61 = .ok (.putfield 107, 3) := by decide +kernel
theorem dX7_statement_64 : decode cX7_statement 64 = .ok (.aload_n 0, 1) := by decide +kernel
theorem dX7_statement_65 : decode cX7_statement 65 = .ok (.iload_n 1, 1) := by decide +kernel
theorem dX7_statement_66 : decode cX7_statement 66 = .ok (.iconst 4, 1) := by decide +kernel
theorem dX7_statement_67 : decode cX7_statement 67 = .ok (.aload_n 0, 1) := by decide +kernel
theorem dX7_statement_68 : decode cX7_statement 68 = .ok (.getfield 128, 3) := by decide +kernel
theorem dX7_statement_71 : decode cX7_statement 71 = .ok (.imul, 1) := by decide +kernel
theorem dX7_statement_72 : decode cX7_statement 72 = .ok (.invokevirtual 131, 3) := by decide +kernel
theorem dX7_statement_75 : decode cX7_statement 75 = .ok (.ifCond .eq 12, 3) := by decide +kernel
theorem dX7_statement_78 : decode cX7_statement 78 = .ok (.aload_n 0, 1) := by decide +kernel
theorem dX7_statement_79 : decode cX7_statement 79 = .ok (.invokevirtual 110, 3) := by decide +kernel
theorem dX7_statement_82 : decode cX7_statement 82 = .ok (.bipush 59, 2) := by decide +kernel
theorem dX7_statement_84 : decode cX7_statement 84 = .ok (.if_icmp .eq 5, 3) := by decide +kernel
theorem dX7_statement_87 : decode cX7_statement 87 = .ok (.iconst 0, 1) := by decide +kernel
theorem dX7_statement_88 : decode cX7_statement 88 = .ok (.ireturn, 1) := by decide +kernel
theorem dX7_statement_89 : decode cX7_statement 89 = .ok (.aload_n 0, 1) := by decide +kernel
theorem dX7_statement_90 : decode cX7_statement 90 = .ok (.dup, 1) := by decide +kernel
theorem dX7_statement_91 : decode cX7_statement 91 = .ok (.getfield 107, 3) := by decide +kernel
theorem dX7_statement_94 : decode cX7_statement 94 = .ok (.iconst 1, 1) := by decide +kernel
theorem dX7_statement_95 : decode cX7_statement 95 = .ok (.iadd, 1) := by decide +kernel
theorem dX7_statement_96 : decode cX7_statement 96 = .ok (.putfield 107, 3) := by decide +kernel
theorem dX7_statement_99 : decode cX7_statement 99 = .ok (.iconst 1, 1) := by decide +kernel
theorem dX7_statement_100 : decode cX7_statement 100 = .ok (.ireturn, 1) := by decide +kernel
theorem dX7_comesLine_0 : decode cX7_comesLine 0 = .ok (.aload_n 0, 1) := by decide +kernel
theorem dX7_comesLine_1 : decode cX7_comesLine 1 = .ok (.getfield 62, 3) := by decide +kernel
theorem dX7_comesLine_4 : decode cX7_comesLine 4 = .ok (.iload_n 1, 1) := by decide +kernel
theorem dX7_comesLine_5 : decode cX7_comesLine 5 = .ok (.iaload, 1) := by decide +kernel
theorem dX7_comesLine_6 : decode cX7_comesLine 6 = .ok (.iconst 4, 1) := by decide +kernel
theorem dX7_comesLine_7 : decode cX7_comesLine 7 = .ok (.if_icmp .ge 35, 3) := by decide +kernel
theorem dX7_comesLine_10 : decode cX7_comesLine 10 = .ok (.aload_n 0, 1) := by decide +kernel
theorem dX7_comesLine_11 : decode cX7_comesLine 11 = .ok (.getfield 62, 3) := by decide +kernel
theorem dX7_comesLine_14 : decode cX7_comesLine 14 = .ok (.iload_n 1, 1) := by decide +kernel
theorem dX7_comesLine_15 : decode cX7_comesLine 15 = .ok (.iconst 1, 1) := by decide +kernel
theorem dX7_comesLine_16 : decode cX7_comesLine 16 = .ok (.iadd, 1) := by decide +kernel
theorem dX7_comesLine_17 : decode cX7_comesLine 17 = .ok (.iaload, 1) := by decide +kernel
theorem dX7_comesLine_18 : decode cX7_comesLine 18 = .ok (.iconst 5, 1) := by decide +kernel
theorem dX7_comesLine_19 : decode cX7_comesLine 19 = .ok (.if_icmp .gt 23, 3) := by decide +kernel
theorem dX7_comesLine_22 : decode cX7_comesLine 22 = .ok (.aload_n 0, 1) := by decide +kernel
theorem dX7_comesLine_23 : decode cX7_comesLine 23 = .ok (.getfield 62, 3) := by decide +kernel
theorem dX7_comesLine_26 : decode cX7_comesLine 26 = .ok (.iload_n 1, 1) := by decide +kernel
theorem dX7_comesLine_27 : decode cX7_comesLine 27 = .ok (.iconst 3, 1) := by decide +kernel
theorem dX7_comesLine_28 : decode cX7_comesLine 28 = .ok (.iadd, 1) := by decide +kernel
theorem dX7_comesLine_29 : decode cX7_comesLine 29 = .ok (.iaload, 1) := by decide +kernel
theorem dX7_comesLine_30 : decode cX7_comesLine 30 = .ok (.ifCond .eq 12, 3) := by decide +kernel
theorem dX7_comesLine_33 : decode cX7_comesLine 33 = .ok (.aload_n 0, 1) := by decide +kernel
theorem dX7_comesLine_34 : decode cX7_comesLine 34 = .ok (.getfield 86, 3) := by decide +kernel
theorem dX7_comesLine_37 : decode cX7_comesLine 37 = .ok (.bipush 8, 2) := by decide +kernel
theorem dX7_comesLine_39 : decode cX7_comesLine 39 = .ok (.if_icmp .ne 5, 3) := by decide +kernel
theorem dX7_comesLine_42 : decode cX7_comesLine 42 = .ok (.iconst 0, 1) := by decide +kernel
theorem dX7_comesLine_43 : decode cX7_comesLine 43 = .ok (.ireturn, 1) := by decide +kernel
theorem dX7_comesLine_44 : decode cX7_comesLine 44 = .ok (.aload_n 0, 1) := by decide +kernel
theorem dX7_comesLine_45 : decode cX7_comesLine 45 = .ok (.getfield 13, 3) := by decide +kernel
theorem dX7_comesLine_48 : decode cX7_comesLine 48 = .ok (.aload_n 0, 1) := by decide +kernel
theorem dX7_comesLine_49 : decode cX7_comesLine 49 = .ok (.getfield 86, 3) := by decide +kernel
theorem dX7_comesLine_52 : decode cX7_comesLine 52 = .ok (.aload_n 0, 1) := by decide +kernel
theorem dX7_comesLine_53 : decode cX7_comesLine 53 = .ok (.getfield 62, 3) := by decide +kernel
theorem dX7_comesLine_56 : decode cX7_comesLine 56 = .ok (.iload_n 1, 1) := by decide +kernel
theorem dX7_comesLine_57 : decode cX7_comesLine 57 = .ok (.iaload, 1) := by decide +kernel
theorem dX7_comesLine_58 : decode cX7_comesLine 58 = .ok (.iastore, 1) := by decide +kernel
theorem dX7_comesLine_59 : decode cX7_comesLine 59 = .ok (.aload_n 0, 1) := by decide +kernel
theorem dX7_comesLine_60 : decode cX7_comesLine 60 = .ok (.getfield 16, 3) := by decide +kernel
theorem dX7_comesLine_63 : decode cX7_comesLine 63 = .ok (.aload_n 0, 1) := by decide +kernel
theorem dX7_comesLine_64 : decode cX7_comesLine 64 = .ok (.getfield 86, 3) := by decide +kernel
theorem dX7_comesLine_67 : decode cX7_comesLine 67 = .ok (.aload_n 0, 1) := by decide +kernel
theorem dX7_comesLine_68 : decode cX7_comesLine 68 = .ok (.getfield 62, 3) := by decide +kernel
theorem dX7_comesLine_71 : decode cX7_comesLine 71 = .ok (.iload_n 1, 1) := by decide +kernel
theorem dX7_comesLine_72 : decode cX7_comesLine 72 = .ok (.iconst 1, 1) := by decide +kernel
theorem dX7_comesLine_73 : decode cX7_comesLine 73 = .ok (.iadd, 1) := by decide +kernel
theorem dX7_comesLine_74 : decode cX7_comesLine 74 = .ok (.iaload, 1) := by decide +kernel
theorem dX7_comesLine_75 : decode cX7_comesLine 75 = .ok (.iastore, 1) := by decide +kernel
theorem dX7_comesLine_76 : decode cX7_comesLine 76 = .ok (.aload_n 0, 1) := by decide +kernel
theorem dX7_comesLine_77 : decode cX7_comesLine 77 = .ok (.getfield 19, 3) := by decide +kernel
theorem dX7_comesLine_80 : decode cX7_comesLine 80 = .ok (.aload_n 0, 1) := by decide +kernel
theorem dX7_comesLine_81 : decode cX7_comesLine 81 = .ok (.getfield 86, 3) := by decide +kernel
theorem dX7_comesLine_84 : decode cX7_comesLine 84 = .ok (.aload_n 0, 1) := by decide +kernel
theorem dX7_comesLine_85 : decode cX7_comesLine 85 = .ok (.getfield 62, 3) := by decide +kernel
theorem dX7_comesLine_88 : decode cX7_comesLine 88 = .ok (.iload_n 1, 1) := by decide +kernel
theorem dX7_comesLine_89 : decode cX7_comesLine 89 = .ok (.iconst 2, 1) := by decide +kernel
theorem dX7_comesLine_90 : decode cX7_comesLine 90 = .ok (.iadd, 1) := by decide +kernel
theorem dX7_comesLine_91 : decode cX7_comesLine 91 = .ok (.iaload, 1) := by decide +kernel
theorem dX7_comesLine_92 : decode cX7_comesLine 92 = .ok (.iastore, 1) := by decide +kernel
theorem dX7_comesLine_93 : decode cX7_comesLine 93 = .ok (.aload_n 0, 1) := by decide +kernel
theorem dX7_comesLine_94 : decode cX7_comesLine 94 = .ok (.getfield 22, 3) := by decide +kernel
theorem dX7_comesLine_97 : decode cX7_comesLine 97 = .ok (.aload_n 0, 1) := by decide +kernel
theorem dX7_comesLine_98 : decode cX7_comesLine 98 = .ok (.getfield 86, 3) := by decide +kernel
theorem dX7_comesLine_101 : decode cX7_comesLine 101 = .ok (.aload_n 0, 1) := by decide +kernel
theorem dX7_comesLine_102 : decode cX7_comesLine 102 = .ok (.getfield 62, 3) := by decide +kernel
theorem dX7_comesLine_105 : decode cX7_comesLine 105 = .ok (.iload_n 1, 1) := by decide +kernel
theorem dX7_comesLine_106 : decode cX7_comesLine 106 = .ok (.iconst 3, 1) := by decide +kernel
theorem dX7_comesLine_107 : decode cX7_comesLine 107 = .ok (.iadd, 1) := by decide +kernel
theorem dX7_comesLine_108 : decode cX7_comesLine 108 = .ok (.iaload, 1) := by decide +kernel
theorem dX7_comesLine_109 : decode cX7_comesLine 109 = .ok (.iastore, 1) := by decide +kernel
theorem dX7_comesLine_110 : decode cX7_comesLine 110 = .ok (.aload_n 0, 1) := by decide +kernel
theorem dX7_comesLine_111 : decode cX7_comesLine 111 = .ok (.dup, 1) := by decide +kernel
theorem dX7_comesLine_112 : decode cX7_comesLine 112 = .ok (.getfield 86, 3) := by decide +kernel
theorem dX7_comesLine_115 : decode cX7_comesLine 115 = .ok (.iconst 1, 1) := by decide +kernel
theorem dX7_comesLine_116 : decode cX7_comesLine 116 = .ok (.iadd, 1) := by decide +kernel
theorem dX7_comesLine_117 : decode cX7_comesLine 117 = .ok (.putfield 86, 3) := by decide +kernel
theorem dX7_comesLine_120 : decode cX7_comesLine 120 = .ok (.iconst 1, 1) := by decide +kernel
theorem dX7_comesLine_121 : decode cX7_comesLine 121 = .ok (.ireturn, 1) := by decide +kernel
theorem dX7_comesLooker_0 : decode cX7_comesLooker 0 = .ok (.aload_n 0, 1) := by decide +kernel
theorem dX7_comesLooker_1 : decode cX7_comesLooker 1 = .ok (.getfield 62, 3) := by decide +kernel
theorem dX7_comesLooker_4 : decode cX7_comesLooker 4 = .ok (.iload_n 1, 1) := by decide +kernel
theorem dX7_comesLooker_5 : decode cX7_comesLooker 5 = .ok (.iaload, 1) := by decide +kernel
theorem dX7_comesLooker_6 : decode cX7_comesLooker 6 = .ok (.iconst 2, 1) := by decide +kernel
theorem dX7_comesLooker_7 : decode cX7_comesLooker 7 = .ok (.if_icmp .gt 44, 3) := by decide +kernel
theorem dX7_comesLooker_10 : decode cX7_comesLooker 10 = .ok (.aload_n 0, 1) := by decide +kernel
theorem dX7_comesLooker_11 : decode cX7_comesLooker 11 = .ok (.getfield 62, 3) := by decide +kernel
theorem dX7_comesLooker_14 : decode cX7_comesLooker 14 = .ok (.iload_n 1, 1) := by decide +kernel
theorem dX7_comesLooker_15 : decode cX7_comesLooker 15 = .ok (.iconst 1, 1) := by decide +kernel
theorem dX7_comesLooker_16 : decode cX7_comesLooker 16 = .ok (.iadd, 1) := by decide +kernel
theorem dX7_comesLooker_17 : decode cX7_comesLooker 17 = .ok (.iaload, 1) := by decide +kernel
theorem dX7_comesLooker_18 : decode cX7_comesLooker 18 = .ok (.iconst 1, 1) := by decide +kernel
theorem dX7_comesLooker_19 : decode cX7_comesLooker 19 = .ok (.iconst 4, 1) := by decide +kernel
theorem dX7_comesLooker_20 : decode cX7_comesLooker 20 = .ok (.invokestatic 114, 3) := by decide +kernel
theorem dX7_comesLooker_23 : decode cX7_comesLooker 23 = .ok (.ifCond .eq 28, 3) := by decide +kernel
theorem dX7_comesLooker_26 : decode cX7_comesLooker 26 = .ok (.aload_n 0, 1) := by decide +kernel
theorem dX7_comesLooker_27 : decode cX7_comesLooker 27 = .ok (.getfield 62, 3) := by decide +kernel
theorem dX7_comesLooker_30 : decode cX7_comesLooker 30 = .ok (.iload_n 1, 1) := by decide +kernel
theorem dX7_comesLooker_31 : decode cX7_comesLooker 31 = .ok (.iconst 2, 1) := by decide +kernel
theorem dX7_comesLooker_32 : decode cX7_comesLooker 32 = .ok (.iadd, 1) := by decide +kernel
theorem dX7_comesLooker_33 : decode cX7_comesLooker 33 = .ok (.iaload, 1) := by decide +kernel
theorem dX7_comesLooker_34 : decode cX7_comesLooker 34 = .ok (.iconst 1, 1) := by decide +kernel
theorem dX7_comesLooker_35 : decode cX7_comesLooker 35 = .ok (.bipush 30, 2) := by decide +kernel
theorem dX7_comesLooker_37 : decode cX7_comesLooker 37 = .ok (.invokestatic 114, 3) := by decide +kernel
theorem dX7_comesLooker_40 : decode cX7_comesLooker 40 = .ok (.ifCond .eq 11, 3) := by decide +kernel
theorem dX7_comesLooker_43 : decode cX7_comesLooker 43 = .ok (.aload_n 0, 1) := by decide +kernel
theorem dX7_comesLooker_44 : decode cX7_comesLooker 44 = .ok (.getfield 89, 3) := by decide +kernel
theorem dX7_comesLooker_47 : decode cX7_comesLooker 47 = .ok (.iconst 4, 1) := by decide +kernel
theorem dX7_comesLooker_48 : decode cX7_comesLooker 48 = .ok (.if_icmp .ne 5, 3) := by decide +kernel
theorem dX7_comesLooker_51 : decode cX7_comesLooker 51 = .ok (.iconst 0, 1) := by decide +kernel
theorem dX7_comesLooker_52 : decode cX7_comesLooker 52 = .ok (.ireturn, 1) := by decide +kernel
theorem dX7_comesLooker_53 : decode cX7_comesLooker 53 = .ok (.aload_n 0, 1) := by decide +kernel
theorem dX7_comesLooker_54 : decode cX7_comesLooker 54 = .ok (.getfield 25, 3) := by decide +kernel
theorem dX7_comesLooker_57 : decode cX7_comesLooker 57 = .ok (.aload_n 0, 1) := by decide +kernel
theorem dX7_comesLooker_58 : decode cX7_comesLooker 58 = .ok (.getfield 89, 3) := by decide +kernel
theorem dX7_comesLooker_61 : decode cX7_comesLooker 61 = .ok (.aload_n 0, 1) := by decide +kernel
theorem dX7_comesLooker_62 : decode cX7_comesLooker 62 = .ok (.getfield 62, 3) := by decide +kernel
theorem dX7_comesLooker_65 : decode cX7_comesLooker 65 = .ok (.iload_n 1, 1) := by decide +kernel
theorem dX7_comesLooker_66 : decode cX7_comesLooker 66 = .ok (.iaload, 1) := by decide +kernel
theorem dX7_comesLooker_67 : decode cX7_comesLooker 67 = .ok (.iastore, 1) := by decide +kernel
theorem dX7_comesLooker_68 : decode cX7_comesLooker 68 = .ok (.aload_n 0, 1) := by decide +kernel
theorem dX7_comesLooker_69 : decode cX7_comesLooker 69 = .ok (.getfield 28, 3) := by decide +kernel
theorem dX7_comesLooker_72 : decode cX7_comesLooker 72 = .ok (.aload_n 0, 1) := by decide +kernel
theorem dX7_comesLooker_73 : decode cX7_comesLooker 73 = .ok (.getfield 89, 3) := by decide +kernel
theorem dX7_comesLooker_76 : decode cX7_comesLooker 76 = .ok (.aload_n 0, 1) := by decide +kernel
theorem dX7_comesLooker_77 : decode cX7_comesLooker 77 = .ok (.getfield 62, 3) := by decide +kernel
theorem dX7_comesLooker_80 : decode cX7_comesLooker 80 = .ok (.iload_n 1, 1) := by decide +kernel
theorem dX7_comesLooker_81 : decode cX7_comesLooker 81 = .ok (.iconst 1, 1) := by decide +kernel
theorem dX7_comesLooker_82 : decode cX7_comesLooker 82 = .ok (.iadd, 1) := by decide +kernel
theorem dX7_comesLooker_83 : decode cX7_comesLooker 83 = .ok (.iaload, 1) := by decide +kernel
theorem dX7_comesLooker_84 : decode cX7_comesLooker 84 = .ok (.iastore, 1) := by decide +kernel
theorem dX7_comesLooker_85 : decode cX7_comesLooker 85 = .ok (.aload_n 0, 1) := by decide +kernel
theorem dX7_comesLooker_86 : decode cX7_comesLooker 86 = .ok (.getfield 31, 3) := by decide +kernel
theorem dX7_comesLooker_89 : decode cX7_comesLooker 89 = .ok (.aload_n 0, 1) := by decide +kernel
theorem dX7_comesLooker_90 : decode cX7_comesLooker 90 = .ok (.getfield 89, 3) := by decide +kernel
theorem dX7_comesLooker_93 : decode cX7_comesLooker 93 = .ok (.aload_n 0, 1) := by decide +kernel
theorem dX7_comesLooker_94 : decode cX7_comesLooker 94 = .ok (.getfield 62, 3) := by decide +kernel
theorem dX7_comesLooker_97 : decode cX7_comesLooker 97 = .ok (.iload_n 1, 1) := by decide +kernel
theorem dX7_comesLooker_98 : decode cX7_comesLooker 98 = .ok (.iconst 2, 1) := by decide +kernel
theorem dX7_comesLooker_99 : decode cX7_comesLooker 99 = .ok (.iadd, 1) := by decide +kernel
theorem dX7_comesLooker_100 : decode cX7_comesLooker 100 = .ok (.iaload, 1) := by decide +kernel
theorem dX7_comesLooker_101 : decode cX7_comesLooker 101 = .ok (.iastore, 1) := by decide +kernel
theorem dX7_comesLooker_102 : decode cX7_comesLooker 102 = .ok (.aload_n 0, 1) := by decide +kernel
theorem dX7_comesLooker_103 : decode cX7_comesLooker 103 = .ok (.aload_n 0, 1) := by decide +kernel
theorem dX7_comesLooker_104 : decode cX7_comesLooker 104 = .ok (.getfield 89, 3) := by decide +kernel
theorem dX7_comesLooker_107 : decode cX7_comesLooker 107 = .ok (.invokevirtual 135, 3) := by decide +kernel
theorem dX7_comesLooker_110 : decode cX7_comesLooker 110 = .ok (.aload_n 0, 1) := by decide +kernel
theorem dX7_comesLooker_111 : decode cX7_comesLooker 111 = .ok (.dup, 1) := by decide +kernel
theorem dX7_comesLooker_112 : decode cX7_comesLooker 112 = .ok (.getfield 89, 3) := by decide +kernel
theorem dX7_comesLooker_115 : decode cX7_comesLooker 115 = .ok (.iconst 1, 1) := by decide +kernel
theorem dX7_comesLooker_116 : decode cX7_comesLooker 116 = .ok (.iadd, 1) := by decide +kernel
theorem dX7_comesLooker_117 : decode cX7_comesLooker 117 = .ok (.putfield 89, 3) := by decide +kernel
theorem dX7_comesLooker_120 : decode cX7_comesLooker 120 = .ok (.iconst 1, 1) := by decide +kernel
theorem dX7_comesLooker_121 : decode cX7_comesLooker 121 = .ok (.ireturn, 1) := by decide +kernel
theorem dX7_isFresh_0 : decode cX7_isFresh 0 = .ok (.aload_n 0, 1) := by decide +kernel
theorem dX7_isFresh_1 : decode cX7_isFresh 1 = .ok (.getfield 34, 3) := by decide +kernel
theorem dX7_isFresh_4 : decode cX7_isFresh 4 = .ok (.iload_n 1, 1) := by decide +kernel
theorem dX7_isFresh_5 : decode cX7_isFresh 5 = .ok (.iconst 0, 1) := by decide +kernel
theorem dX7_isFresh_6 : decode cX7_isFresh 6 = .ok (.iastore, 1) := by decide +kernel
theorem dX7_isFresh_7 : decode cX7_isFresh 7 = .ok (.aload_n 0, 1) := by decide +kernel
theorem dX7_isFresh_8 : decode cX7_isFresh 8 = .ok (.getfield 37, 3) := by decide +kernel
theorem dX7_isFresh_11 : decode cX7_isFresh 11 = .ok (.iload_n 1, 1) := by decide +kernel
theorem dX7_isFresh_12 : decode cX7_isFresh 12 = .ok (.iconst 0, 1) := by decide +kernel
theorem dX7_isFresh_13 : decode cX7_isFresh 13 = .ok (.iastore, 1) := by decide +kernel
theorem dX7_isFresh_14 : decode cX7_isFresh 14 = .ok (.aload_n 0, 1) := by decide +kernel
theorem dX7_isFresh_15 : decode cX7_isFresh 15 = .ok (.getfield 40, 3) := by decide +kernel
theorem dX7_isFresh_18 : decode cX7_isFresh 18 = .ok (.iload_n 1, 1) := by decide +kernel
theorem dX7_isFresh_19 : decode cX7_isFresh 19 = .ok (.iconst 0, 1) := by decide +kernel
theorem dX7_isFresh_20 : decode cX7_isFresh 20 = .ok (.iastore, 1) := by decide +kernel
theorem dX7_isFresh_21 : decode cX7_isFresh 21 = .ok (.aload_n 0, 1) := by decide +kernel
theorem dX7_isFresh_22 : decode cX7_isFresh 22 = .ok (.getfield 43, 3) := by decide +kernel
theorem dX7_isFresh_25 : decode cX7_isFresh 25 = .ok (.iload_n 1, 1) := by decide +kernel
theorem dX7_isFresh_26 : decode cX7_isFresh 26 = .ok (.iconst 0, 1) := by decide +kernel
theorem dX7_isFresh_27 : decode cX7_isFresh 27 = .ok (.iastore, 1) := by decide +kernel
theorem dX7_isFresh_28 : decode cX7_isFresh 28 = .ok (.aload_n 0, 1) := by decide +kernel
theorem dX7_isFresh_29 : decode cX7_isFresh 29 = .ok (.getfield 46, 3) := by decide +kernel
theorem dX7_isFresh_32 : decode cX7_isFresh 32 = .ok (.iload_n 1, 1) := by decide +kernel
theorem dX7_isFresh_33 : decode cX7_isFresh 33 = .ok (.iconst 0, 1) := by decide +kernel
theorem dX7_isFresh_34 : decode cX7_isFresh 34 = .ok (.iastore, 1) := by decide +kernel
theorem dX7_isFresh_35 : decode cX7_isFresh 35 = .ok (.return_, 1) := by decide +kernel
theorem dX7_comes_0 : decode cX7_comes 0 = .ok (.iconst 4, 1) := by decide +kernel
theorem dX7_comes_1 : decode cX7_comes 1 = .ok (.iload_n 1, 1) := by decide +kernel
theorem dX7_comes_2 : decode cX7_comes 2 = .ok (.imul, 1) := by decide +kernel
theorem dX7_comes_3 : decode cX7_comes 3 = .ok (.istore_n 2, 1) := by decide +kernel
theorem dX7_comes_4 : decode cX7_comes 4 = .ok (.aload_n 0, 1) := by decide +kernel
theorem dX7_comes_5 : decode cX7_comes 5 = .ok (.getfield 56, 3) := by decide +kernel
theorem dX7_comes_8 : decode cX7_comes 8 = .ok (.iload_n 1, 1) := by decide +kernel
theorem dX7_comes_9 : decode cX7_comes 9 = .ok (.iaload, 1) := by decide +kernel
theorem dX7_comes_10 : decode cX7_comes 10 = .ok (.lookupswitch 110 #[(104, 40), (108, 34), (116, 98)], 34) := by decide +kernel
theorem dX7_comes_44 : decode cX7_comes 44 = .ok (.aload_n 0, 1) := by decide +kernel
theorem dX7_comes_45 : decode cX7_comes 45 = .ok (.iload_n 2, 1) := by decide +kernel
theorem dX7_comes_46 : decode cX7_comes 46 = .ok (.invokevirtual 139, 3) := by decide +kernel
theorem dX7_comes_49 : decode cX7_comes 49 = .ok (.ireturn, 1) := by decide +kernel
theorem dX7_comes_50 : decode cX7_comes 50 = .ok (.aload_n 0, 1) := by decide +kernel
theorem dX7_comes_51 : decode cX7_comes 51 = .ok (.aload_n 0, 1) := by decide +kernel
theorem dX7_comes_52 : decode cX7_comes 52 = .ok (.getfield 62, 3) := by decide +kernel
theorem dX7_comes_55 : decode cX7_comes 55 = .ok (.iload_n 2, 1) := by decide +kernel
theorem dX7_comes_56 : decode cX7_comes 56 = .ok (.iaload, 1) := by decide +kernel
theorem dX7_comes_57 : decode cX7_comes 57 = .ok (.putfield 142, 3) := by decide +kernel
theorem dX7_comes_60 : decode cX7_comes 60 = .ok (.aload_n 0, 1) := by decide +kernel
theorem dX7_comes_61 : decode cX7_comes 61 = .ok (.aload_n 0, 1) := by decide +kernel
theorem dX7_comes_62 : decode cX7_comes 62 = .ok (.getfield 62, 3) := by decide +kernel
theorem dX7_comes_65 : decode cX7_comes 65 = .ok (.iload_n 2, 1) := by decide +kernel
theorem dX7_comes_66 : decode cX7_comes 66 = .ok (.iconst 1, 1) := by decide +kernel
theorem dX7_comes_67 : decode cX7_comes 67 = .ok (.iadd, 1) := by decide +kernel
theorem dX7_comes_68 : decode cX7_comes 68 = .ok (.iaload, 1) := by decide +kernel
theorem dX7_comes_69 : decode cX7_comes 69 = .ok (.putfield 145, 3) := by decide +kernel
theorem dX7_comes_72 : decode cX7_comes 72 = .ok (.aload_n 0, 1) := by decide +kernel
theorem dX7_comes_73 : decode cX7_comes 73 = .ok (.aload_n 0, 1) := by decide +kernel
theorem dX7_comes_74 : decode cX7_comes 74 = .ok (.getfield 62, 3) := by decide +kernel
theorem dX7_comes_77 : decode cX7_comes 77 = .ok (.iload_n 2, 1) := by decide +kernel
theorem dX7_comes_78 : decode cX7_comes 78 = .ok (.iconst 2, 1) := by decide +kernel
theorem dX7_comes_79 : decode cX7_comes 79 = .ok (.iadd, 1) := by decide +kernel
theorem dX7_comes_80 : decode cX7_comes 80 = .ok (.iaload, 1) := by decide +kernel
theorem dX7_comes_81 : decode cX7_comes 81 = .ok (.putfield 49, 3) := by decide +kernel
theorem dX7_comes_84 : decode cX7_comes 84 = .ok (.aload_n 0, 1) := by decide +kernel
theorem dX7_comes_85 : decode cX7_comes 85 = .ok (.getfield 142, 3) := by decide +kernel
theorem dX7_comes_88 : decode cX7_comes 88 = .ok (.bipush 6, 2) := by decide +kernel
theorem dX7_comes_90 : decode cX7_comes 90 = .ok (.if_icmp .ge 16, 3) := by decide +kernel
theorem dX7_comes_93 : decode cX7_comes 93 = .ok (.aload_n 0, 1) := by decide +kernel
theorem dX7_comes_94 : decode cX7_comes 94 = .ok (.getfield 49, 3) := by decide +kernel
theorem dX7_comes_97 : decode cX7_comes 97 = .ok (.bipush 9, 2) := by decide +kernel
theorem dX7_comes_99 : decode cX7_comes 99 = .ok (.if_icmp .le 7, 3) := by decide +kernel
theorem dX7_comes_102 : decode cX7_comes 102 = .ok (.iconst 1, 1) := by decide +kernel
theorem dX7_comes_103 : decode cX7_comes 103 = .ok (.goto 4, 3) := by decide +kernel
theorem dX7_comes_106 : decode cX7_comes 106 = .ok (.iconst 0, 1) := by decide +kernel
theorem dX7_comes_107 : decode cX7_comes 107 = .ok (.ireturn, 1) := by decide +kernel
theorem dX7_comes_108 : decode cX7_comes 108 = .ok (.aload_n 0, 1) := by decide +kernel
theorem dX7_comes_109 : decode cX7_comes 109 = .ok (.aload_n 0, 1) := by decide +kernel
theorem dX7_comes_110 : decode cX7_comes 110 = .ok (.getfield 62, 3) := by decide +kernel
theorem dX7_comes_113 : decode cX7_comes 113 = .ok (.iload_n 2, 1) := by decide +kernel
theorem dX7_comes_114 : decode cX7_comes 114 = .ok (.iaload, 1) := by decide +kernel
theorem dX7_comes_115 : decode cX7_comes 115 = .ok (.putfield 148, 3) := by decide +kernel
theorem dX7_comes_118 : decode cX7_comes 118 = .ok (.iconst 1, 1) := by decide +kernel
theorem dX7_comes_119 : decode cX7_comes 119 = .ok (.ireturn, 1) := by decide +kernel
theorem dX7_comes_120 : decode cX7_comes 120 = .ok (.aload_n 0, 1) := by decide +kernel
theorem dX7_comes_121 : decode cX7_comes 121 = .ok (.iload_n 2, 1) := by decide +kernel
theorem dX7_comes_122 : decode cX7_comes 122 = .ok (.invokevirtual 151, 3) := by decide +kernel
theorem dX7_comes_125 : decode cX7_comes 125 = .ok (.ireturn, 1) := by decide +kernel
theorem dX7_train_0 : decode cX7_train 0 = .ok (.aload_n 0, 1) := by decide +kernel
theorem dX7_train_1 : decode cX7_train 1 = .ok (.iconst 0, 1) := by decide +kernel
theorem dX7_train_2 : decode cX7_train 2 = .ok (.putfield 107, 3) := by decide +kernel
theorem dX7_train_5 : decode cX7_train 5 = .ok (.aload_n 0, 1) := by decide +kernel
theorem dX7_train_6 : decode cX7_train 6 = .ok (.iconst 0, 1) := by decide +kernel
theorem dX7_train_7 : decode cX7_train 7 = .ok (.putfield 128, 3) := by decide +kernel
theorem dX7_train_10 : decode cX7_train 10 = .ok (.iconst 1, 1) := by decide +kernel
theorem dX7_train_11 : decode cX7_train 11 = .ok (.istore_n 1, 1) := by decide +kernel
theorem dX7_train_12 : decode cX7_train 12 = .ok (.iload_n 1, 1) := by decide +kernel
theorem dX7_train_13 : decode cX7_train 13 = .ok (.ifCond .eq 47, 3) := by decide +kernel
theorem dX7_train_16 : decode cX7_train 16 = .ok (.aload_n 0, 1) := by decide +kernel
theorem dX7_train_17 : decode cX7_train 17 = .ok (.getfield 107, 3) := by decide +kernel
theorem dX7_train_20 : decode cX7_train 20 = .ok (.aload_n 0, 1) := by decide +kernel
theorem dX7_train_21 : decode cX7_train 21 = .ok (.getfield 100, 3) := by decide +kernel
theorem dX7_train_24 : decode cX7_train 24 = .ok (.if_icmp .lt 10, 3) := by decide +kernel
theorem dX7_train_27 : decode cX7_train 27 = .ok (.aload_n 0, 1) := by decide +kernel
theorem dX7_train_28 : decode cX7_train 28 = .ok (.getfield 128, 3) := by decide +kernel
theorem dX7_train_31 : decode cX7_train 31 = .ok (.ifCond .ne 29, 3) := by decide +kernel
theorem dX7_train_34 : decode cX7_train 34 = .ok (.aload_n 0, 1) := by decide +kernel
theorem dX7_train_35 : decode cX7_train 35 = .ok (.invokevirtual 154, 3) := by decide +kernel
theorem dX7_train_38 : decode cX7_train 38 = .ok (.istore_n 1, 1) := by decide +kernel
theorem dX7_train_39 : decode cX7_train 39 = .ok (.aload_n 0, 1) := by decide +kernel
theorem dX7_train_40 : decode cX7_train 40 = .ok (.dup, 1) := by decide +kernel
theorem dX7_train_41 : decode cX7_train 41 = .ok (.getfield 128, 3) := by decide +kernel
theorem dX7_train_44 : decode cX7_train 44 = .ok (.iload_n 1, 1) := by decide +kernel
theorem dX7_train_45 : decode cX7_train 45 = .ok (.ifCond .eq 7, 3) := by decide +kernel
theorem dX7_train_48 : decode cX7_train 48 = .ok (.iconst 1, 1) := by decide +kernel
theorem dX7_train_49 : decode cX7_train 49 = .ok (.goto 4, 3) := by decide +kernel
theorem dX7_train_52 : decode cX7_train 52 = .ok (.iconst 0, 1) := by decide +kernel
theorem dX7_train_53 : decode cX7_train 53 = .ok (.iadd, 1) := by decide +kernel
theorem dX7_train_54 : decode cX7_train 54 = .ok (.putfield 128, 3) := by decide +kernel
theorem dX7_train_57 : decode cX7_train 57 = .ok (.goto (-45), 3) := by decide +kernel
theorem dX7_train_60 : decode cX7_train 60 = .ok (.aload_n 0, 1) := by decide +kernel
theorem dX7_train_61 : decode cX7_train 61 = .ok (.iconst 0, 1) := by decide +kernel
theorem dX7_train_62 : decode cX7_train 62 = .ok (.putfield 100, 3) := by decide +kernel
theorem dX7_train_65 : decode cX7_train 65 = .ok (.iload_n 1, 1) := by decide +kernel
theorem dX7_train_66 : decode cX7_train 66 = .ok (.ifCond .ne 12, 3) := by decide +kernel
theorem dX7_train_69 : decode cX7_train 69 = .ok (.sipush (-1000), 3) := by decide +kernel
theorem dX7_train_72 : decode cX7_train 72 = .ok (.aload_n 0, 1) := by decide +kernel
theorem dX7_train_73 : decode cX7_train 73 = .ok (.getfield 107, 3) := by decide +kernel
theorem dX7_train_76 : decode cX7_train 76 = .ok (.isub, 1) := by decide +kernel
theorem dX7_train_77 : decode cX7_train 77 = .ok (.ireturn, 1) := by decide +kernel
theorem dX7_train_78 : decode cX7_train 78 = .ok (.aload_n 0, 1) := by decide +kernel
theorem dX7_train_79 : decode cX7_train 79 = .ok (.iconst 1, 1) := by decide +kernel
theorem dX7_train_80 : decode cX7_train 80 = .ok (.iconst 1, 1) := by decide +kernel
theorem dX7_train_81 : decode cX7_train 81 = .ok (.invokevirtual 157, 3) := by decide +kernel
theorem dX7_train_84 : decode cX7_train 84 = .ok (.iconst 0, 1) := by decide +kernel
theorem dX7_train_85 : decode cX7_train 85 = .ok (.istore_n 2, 1) := by decide +kernel
theorem dX7_train_86 : decode cX7_train 86 = .ok (.iload_n 2, 1) := by decide +kernel
theorem dX7_train_87 : decode cX7_train 87 = .ok (.aload_n 0, 1) := by decide +kernel
theorem dX7_train_88 : decode cX7_train 88 = .ok (.getfield 128, 3) := by decide +kernel
theorem dX7_train_91 : decode cX7_train 91 = .ok (.if_icmp .ge 37, 3) := by decide +kernel
theorem dX7_train_94 : decode cX7_train 94 = .ok (.aload_n 0, 1) := by decide +kernel
theorem dX7_train_95 : decode cX7_train 95 = .ok (.iload_n 2, 1) := by decide +kernel
theorem dX7_train_96 : decode cX7_train 96 = .ok (.invokevirtual 161, 3) := by decide +kernel
theorem dX7_train_99 : decode cX7_train 99 = .ok (.ifCond .eq 6, 3) := by decide +kernel
theorem dX7_train_102 : decode cX7_train 102 = .ok (.goto 20, 3) := by decide +kernel
theorem dX7_train_105 : decode cX7_train 105 = .ok (.aload_n 0, 1) := by decide +kernel
theorem dX7_train_106 : decode cX7_train 106 = .ok (.iconst 1, 1) := by decide +kernel
theorem dX7_train_107 : decode cX7_train 107 = .ok (.iconst 0, 1) := by decide +kernel
theorem dX7_train_108 : decode cX7_train 108 = .ok (.invokevirtual 157, 3) := by decide +kernel
theorem dX7_train_111 : decode cX7_train 111 = .ok (.sipush (-2000), 3) := by decide +kernel
theorem dX7_train_114 : decode cX7_train 114 = .ok (.aload_n 0, 1) := by decide +kernel
theorem dX7_train_115 : decode cX7_train 115 = .ok (.getfield 59, 3) := by decide +kernel
theorem dX7_train_118 : decode cX7_train 118 = .ok (.iload_n 2, 1) := by decide +kernel
theorem dX7_train_119 : decode cX7_train 119 = .ok (.iaload, 1) := by decide +kernel
theorem dX7_train_120 : decode cX7_train 120 = .ok (.isub, 1) := by decide +kernel
theorem dX7_train_121 : decode cX7_train 121 = .ok (.ireturn, 1) := by decide +kernel
theorem dX7_train_122 : decode cX7_train 122 = .ok (.iinc 2 1, 3) := by decide +kernel
theorem dX7_train_125 : decode cX7_train 125 = .ok (.goto (-39), 3) := by decide +kernel
theorem dX7_train_128 : decode cX7_train 128 = .ok (.aload_n 0, 1) := by decide +kernel
theorem dX7_train_129 : decode cX7_train 129 = .ok (.getfield 128, 3) := by decide +kernel
theorem dX7_train_132 : decode cX7_train 132 = .ok (.ireturn, 1) := by decide +kernel
theorem dX7_passes_0 : decode cX7_passes 0 = .ok (.iconst 0, 1) := by decide +kernel
theorem dX7_passes_1 : decode cX7_passes 1 = .ok (.istore_n 2, 1) := by decide +kernel
theorem dX7_passes_2 : decode cX7_passes 2 = .ok (.iload_n 2, 1) := by decide +kernel
theorem dX7_passes_3 : decode cX7_passes 3 = .ok (.aload_n 1, 1) := by decide +kernel
theorem dX7_passes_4 : decode cX7_passes 4 = .ok (.arraylength, 1) := by decide +kernel
theorem dX7_passes_5 : decode cX7_passes 5 = .ok (.if_icmp .ge 53, 3) := by decide +kernel
theorem dX7_passes_8 : decode cX7_passes 8 = .ok (.aload_n 0, 1) := by decide +kernel
theorem dX7_passes_9 : decode cX7_passes 9 = .ok (.getfield 164, 3) := by decide +kernel
theorem dX7_passes_12 : decode cX7_passes 12 = .ok (.ifCond .eq 18, 3) := by decide +kernel
theorem dX7_passes_15 : decode cX7_passes 15 = .ok (.aload_n 0, 1) := by decide +kernel
theorem dX7_passes_16 : decode cX7_passes 16 = .ok (.getfield 65, 3) := by decide +kernel
theorem dX7_passes_19 : decode cX7_passes 19 = .ok (.aload_n 0, 1) := by decide +kernel
theorem dX7_passes_20 : decode cX7_passes 20 = .ok (.getfield 168, 3) := by decide +kernel
theorem dX7_passes_23 : decode cX7_passes 23 = .ok (.aload_n 1, 1) := by decide +kernel
theorem dX7_passes_24 : decode cX7_passes 24 = .ok (.iload_n 2, 1) := by decide +kernel
theorem dX7_passes_25 : decode cX7_passes 25 = .ok (.iaload, 1) := by decide +kernel
theorem dX7_passes_26 : decode cX7_passes 26 = .ok (.iastore, 1) := by decide +kernel
theorem dX7_passes_27 : decode cX7_passes 27 = .ok (.goto 15, 3) := by decide +kernel
theorem dX7_passes_30 : decode cX7_passes 30 = .ok (.aload_n 1, 1) := by decide +kernel
theorem dX7_passes_31 : decode cX7_passes 31 = .ok (.iload_n 2, 1) := by decide +kernel
theorem dX7_passes_32 : decode cX7_passes 32 = .ok (.aload_n 0, 1) := by decide +kernel
theorem dX7_passes_33 : decode cX7_passes 33 = .ok (.getfield 65, 3) := by decide +kernel
theorem dX7_passes_36 : decode cX7_passes 36 = .ok (.aload_n 0, 1) := by decide +kernel
theorem dX7_passes_37 : decode cX7_passes 37 = .ok (.getfield 168, 3) := by decide +kernel
theorem dX7_passes_40 : decode cX7_passes 40 = .ok (.iaload, 1) := by decide +kernel
theorem dX7_passes_41 : decode cX7_passes 41 = .ok (.iastore, 1) := by decide +kernel
theorem dX7_passes_42 : decode cX7_passes 42 = .ok (.aload_n 0, 1) := by decide +kernel
theorem dX7_passes_43 : decode cX7_passes 43 = .ok (.dup, 1) := by decide +kernel
theorem dX7_passes_44 : decode cX7_passes 44 = .ok (.getfield 168, 3) := by decide +kernel
theorem dX7_passes_47 : decode cX7_passes 47 = .ok (.iconst 1, 1) := by decide +kernel
theorem dX7_passes_48 : decode cX7_passes 48 = .ok (.iadd, 1) := by decide +kernel
theorem dX7_passes_49 : decode cX7_passes 49 = .ok (.putfield 168, 3) := by decide +kernel
theorem dX7_passes_52 : decode cX7_passes 52 = .ok (.iinc 2 1, 3) := by decide +kernel
theorem dX7_passes_55 : decode cX7_passes 55 = .ok (.goto (-53), 3) := by decide +kernel
theorem dX7_passes_58 : decode cX7_passes 58 = .ok (.return_, 1) := by decide +kernel
theorem dX7_passOne_0 : decode cX7_passOne 0 = .ok (.aload_n 0, 1) := by decide +kernel
theorem dX7_passOne_1 : decode cX7_passOne 1 = .ok (.getfield 164, 3) := by decide +kernel
theorem dX7_passOne_4 : decode cX7_passOne 4 = .ok (.ifCond .eq 7, 3) := by decide +kernel
theorem dX7_passOne_7 : decode cX7_passOne 7 = .ok (.iload_n 1, 1) := by decide +kernel
theorem dX7_passOne_8 : decode cX7_passOne 8 = .ok (.goto 12, 3) := by decide +kernel
theorem dX7_passOne_11 : decode cX7_passOne 11 = .ok (.aload_n 0, 1) := by decide +kernel
theorem dX7_passOne_12 : decode cX7_passOne 12 = .ok (.getfield 65, 3) := by decide +kernel
theorem dX7_passOne_15 : decode cX7_passOne 15 = .ok (.aload_n 0, 1) := by decide +kernel
theorem dX7_passOne_16 : decode cX7_passOne 16 = .ok (.getfield 168, 3) := by decide +kernel
theorem dX7_passOne_19 : decode cX7_passOne 19 = .ok (.iaload, 1) := by decide +kernel
theorem dX7_passOne_20 : decode cX7_passOne 20 = .ok (.istore_n 2, 1) := by decide +kernel
theorem dX7_passOne_21 : decode cX7_passOne 21 = .ok (.aload_n 0, 1) := by decide +kernel
theorem dX7_passOne_22 : decode cX7_passOne 22 = .ok (.getfield 164, 3) := by decide +kernel
theorem dX7_passOne_25 : decode cX7_passOne 25 = .ok (.ifCond .eq 13, 3) := by decide +kernel
theorem dX7_passOne_28 : decode cX7_passOne 28 = .ok (.aload_n 0, 1) := by decide +kernel
theorem dX7_passOne_29 : decode cX7_passOne 29 = .ok (.getfield 65, 3) := by decide +kernel
theorem dX7_passOne_32 : decode cX7_passOne 32 = .ok (.aload_n 0, 1) := by decide +kernel
theorem dX7_passOne_33 : decode cX7_passOne 33 = .ok (.getfield 168, 3) := by decide +kernel
theorem dX7_passOne_36 : decode cX7_passOne 36 = .ok (.iload_n 1, 1) := by decide +kernel
theorem dX7_passOne_37 : decode cX7_passOne 37 = .ok (.iastore, 1) := by decide +kernel
theorem dX7_passOne_38 : decode cX7_passOne 38 = .ok (.aload_n 0, 1) := by decide +kernel
theorem dX7_passOne_39 : decode cX7_passOne 39 = .ok (.dup, 1) := by decide +kernel
theorem dX7_passOne_40 : decode cX7_passOne 40 = .ok (.getfield 168, 3) := by decide +kernel
theorem dX7_passOne_43 : decode cX7_passOne 43 = .ok (.iconst 1, 1) := by decide +kernel
theorem dX7_passOne_44 : decode cX7_passOne 44 = .ok (.iadd, 1) := by decide +kernel
theorem dX7_passOne_45 : decode cX7_passOne 45 = .ok (.putfield 168, 3) := by decide +kernel
theorem dX7_passOne_48 : decode cX7_passOne 48 = .ok (.iload_n 2, 1) := by decide +kernel
theorem dX7_passOne_49 : decode cX7_passOne 49 = .ok (.ireturn, 1) := by decide +kernel
theorem dX7_passesAll_0 : decode cX7_passesAll 0 = .ok (.aload_n 0, 1) := by decide +kernel
theorem dX7_passesAll_1 : decode cX7_passesAll 1 = .ok (.bipush 80, 2) := by decide +kernel
theorem dX7_passesAll_3 : decode cX7_passesAll 3 = .ok (.iload_n 1, 1) := by decide +kernel
theorem dX7_passesAll_4 : decode cX7_passesAll 4 = .ok (.imul, 1) := by decide +kernel
theorem dX7_passesAll_5 : decode cX7_passesAll 5 = .ok (.putfield 168, 3) := by decide +kernel
theorem dX7_passesAll_8 : decode cX7_passesAll 8 = .ok (.aload_n 0, 1) := by decide +kernel
theorem dX7_passesAll_9 : decode cX7_passesAll 9 = .ok (.iload_n 2, 1) := by decide +kernel
theorem dX7_passesAll_10 : decode cX7_passesAll 10 = .ok (.putfield 164, 3) := by decide +kernel
theorem dX7_passesAll_13 : decode cX7_passesAll 13 = .ok (.aload_n 0, 1) := by decide +kernel
theorem dX7_passesAll_14 : decode cX7_passesAll 14 = .ok (.aload_n 0, 1) := by decide +kernel
theorem dX7_passesAll_15 : decode cX7_passesAll 15 = .ok (.getfield 13, 3) := by decide +kernel
theorem dX7_passesAll_18 : decode cX7_passesAll 18 = .ok (.invokevirtual 171, 3) := by decide +kernel
theorem dX7_passesAll_21 : decode cX7_passesAll 21 = .ok (.aload_n 0, 1) := by decide +kernel
theorem dX7_passesAll_22 : decode cX7_passesAll 22 = .ok (.aload_n 0, 1) := by decide +kernel
theorem dX7_passesAll_23 : decode cX7_passesAll 23 = .ok (.getfield 16, 3) := by decide +kernel
theorem dX7_passesAll_26 : decode cX7_passesAll 26 = .ok (.invokevirtual 171, 3) := by decide +kernel
theorem dX7_passesAll_29 : decode cX7_passesAll 29 = .ok (.aload_n 0, 1) := by decide +kernel
theorem dX7_passesAll_30 : decode cX7_passesAll 30 = .ok (.aload_n 0, 1) := by decide +kernel
theorem dX7_passesAll_31 : decode cX7_passesAll 31 = .ok (.getfield 19, 3) := by decide +kernel
theorem dX7_passesAll_34 : decode cX7_passesAll 34 = .ok (.invokevirtual 171, 3) := by decide +kernel
theorem dX7_passesAll_37 : decode cX7_passesAll 37 = .ok (.aload_n 0, 1) := by decide +kernel
theorem dX7_passesAll_38 : decode cX7_passesAll 38 = .ok (.aload_n 0, 1) := by decide +kernel
theorem dX7_passesAll_39 : decode cX7_passesAll 39 = .ok (.getfield 22, 3) := by decide +kernel
theorem dX7_passesAll_42 : decode cX7_passesAll 42 = .ok (.invokevirtual 171, 3) := by decide +kernel
theorem dX7_passesAll_45 : decode cX7_passesAll 45 = .ok (.aload_n 0, 1) := by decide +kernel
theorem dX7_passesAll_46 : decode cX7_passesAll 46 = .ok (.aload_n 0, 1) := by decide +kernel
theorem dX7_passesAll_47 : decode cX7_passesAll 47 = .ok (.getfield 25, 3) := by decide +kernel
theorem dX7_passesAll_50 : decode cX7_passesAll 50 = .ok (.invokevirtual 171, 3) := by decide +kernel
theorem dX7_passesAll_53 : decode cX7_passesAll 53 = .ok (.aload_n 0, 1) := by decide +kernel
theorem dX7_passesAll_54 : decode cX7_passesAll 54 = .ok (.aload_n 0, 1) := by decide +kernel
theorem dX7_passesAll_55 : decode cX7_passesAll 55 = .ok (.getfield 28, 3) := by decide +kernel
theorem dX7_passesAll_58 : decode cX7_passesAll 58 = .ok (.invokevirtual 171, 3) := by decide +kernel
theorem dX7_passesAll_61 : decode cX7_passesAll 61 = .ok (.aload_n 0, 1) := by decide +kernel
theorem dX7_passesAll_62 : decode cX7_passesAll 62 = .ok (.aload_n 0, 1) := by decide +kernel
theorem dX7_passesAll_63 : decode cX7_passesAll 63 = .ok (.getfield 31, 3) := by decide +kernel
theorem dX7_passesAll_66 : decode cX7_passesAll 66 = .ok (.invokevirtual 171, 3) := by decide +kernel
theorem dX7_passesAll_69 : decode cX7_passesAll 69 = .ok (.aload_n 0, 1) := by decide +kernel
theorem dX7_passesAll_70 : decode cX7_passesAll 70 = .ok (.aload_n 0, 1) := by decide +kernel
theorem dX7_passesAll_71 : decode cX7_passesAll 71 = .ok (.getfield 34, 3) := by decide +kernel
theorem dX7_passesAll_74 : decode cX7_passesAll 74 = .ok (.invokevirtual 171, 3) := by decide +kernel
theorem dX7_passesAll_77 : decode cX7_passesAll 77 = .ok (.aload_n 0, 1) := by decide +kernel
theorem dX7_passesAll_78 : decode cX7_passesAll 78 = .ok (.aload_n 0, 1) := by decide +kernel
theorem dX7_passesAll_79 : decode cX7_passesAll 79 = .ok (.getfield 37, 3) := by decide +kernel
theorem dX7_passesAll_82 : decode cX7_passesAll 82 = .ok (.invokevirtual 171, 3) := by decide +kernel
theorem dX7_passesAll_85 : decode cX7_passesAll 85 = .ok (.aload_n 0, 1) := by decide +kernel
theorem dX7_passesAll_86 : decode cX7_passesAll 86 = .ok (.aload_n 0, 1) := by decide +kernel
theorem dX7_passesAll_87 : decode cX7_passesAll 87 = .ok (.getfield 40, 3) := by decide +kernel
theorem dX7_passesAll_90 : decode cX7_passesAll 90 = .ok (.invokevirtual 171, 3) := by decide +kernel
theorem dX7_passesAll_93 : decode cX7_passesAll 93 = .ok (.aload_n 0, 1) := by decide +kernel
theorem dX7_passesAll_94 : decode cX7_passesAll 94 = .ok (.aload_n 0, 1) := by decide +kernel
theorem dX7_passesAll_95 : decode cX7_passesAll 95 = .ok (.getfield 43, 3) := by decide +kernel
theorem dX7_passesAll_98 : decode cX7_passesAll 98 = .ok (.invokevirtual 171, 3) := by decide +kernel
theorem dX7_passesAll_101 : decode cX7_passesAll 101 = .ok (.aload_n 0, 1) := by decide +kernel
theorem dX7_passesAll_102 : decode cX7_passesAll 102 = .ok (.aload_n 0, 1) := by decide +kernel
theorem dX7_passesAll_103 : decode cX7_passesAll 103 = .ok (.getfield 46, 3) := by decide +kernel
theorem dX7_passesAll_106 : decode cX7_passesAll 106 = .ok (.invokevirtual 171, 3) := by decide +kernel
theorem dX7_passesAll_109 : decode cX7_passesAll 109 = .ok (.aload_n 0, 1) := by decide +kernel
theorem dX7_passesAll_110 : decode cX7_passesAll 110 = .ok (.aload_n 0, 1) := by decide +kernel
theorem dX7_passesAll_111 : decode cX7_passesAll 111 = .ok (.aload_n 0, 1) := by decide +kernel
theorem dX7_passesAll_112 : decode cX7_passesAll 112 = .ok (.getfield 86, 3) := by decide +kernel
theorem dX7_passesAll_115 : decode cX7_passesAll 115 = .ok (.invokevirtual 175, 3) := by decide +kernel
theorem dX7_passesAll_118 : decode cX7_passesAll 118 = .ok (.putfield 86, 3) := by decide +kernel
theorem dX7_passesAll_121 : decode cX7_passesAll 121 = .ok (.aload_n 0, 1) := by decide +kernel
theorem dX7_passesAll_122 : decode cX7_passesAll 122 = .ok (.aload_n 0, 1) := by decide +kernel
theorem dX7_passesAll_123 : decode cX7_passesAll 123 = .ok (.aload_n 0, 1) := by decide +kernel
theorem dX7_passesAll_124 : decode cX7_passesAll 124 = .ok (.getfield 89, 3) := by decide +kernel
theorem dX7_passesAll_127 : decode cX7_passesAll 127 = .ok (.invokevirtual 175, 3) := by decide +kernel
theorem dX7_passesAll_130 : decode cX7_passesAll 130 = .ok (.putfield 89, 3) := by decide +kernel
theorem dX7_passesAll_133 : decode cX7_passesAll 133 = .ok (.aload_n 0, 1) := by decide +kernel
theorem dX7_passesAll_134 : decode cX7_passesAll 134 = .ok (.aload_n 0, 1) := by decide +kernel
theorem dX7_passesAll_135 : decode cX7_passesAll 135 = .ok (.aload_n 0, 1) := by decide +kernel
theorem dX7_passesAll_136 : decode cX7_passesAll 136 = .ok (.getfield 142, 3) := by decide +kernel
theorem dX7_passesAll_139 : decode cX7_passesAll 139 = .ok (.invokevirtual 175, 3) := by decide +kernel
theorem dX7_passesAll_142 : decode cX7_passesAll 142 = .ok (.putfield 142, 3) := by decide +kernel
theorem dX7_passesAll_145 : decode cX7_passesAll 145 = .ok (.aload_n 0, 1) := by decide +kernel
theorem dX7_passesAll_146 : decode cX7_passesAll 146 = .ok (.aload_n 0, 1) := by decide +kernel
theorem dX7_passesAll_147 : decode cX7_passesAll 147 = .ok (.aload_n 0, 1) := by decide +kernel
theorem dX7_passesAll_148 : decode cX7_passesAll 148 = .ok (.getfield 145, 3) := by decide +kernel
theorem dX7_passesAll_151 : decode cX7_passesAll 151 = .ok (.invokevirtual 175, 3) := by decide +kernel
theorem dX7_passesAll_154 : decode cX7_passesAll 154 = .ok (.putfield 145, 3) := by decide +kernel
theorem dX7_passesAll_157 : decode cX7_passesAll 157 = .ok (.aload_n 0, 1) := by decide +kernel
theorem dX7_passesAll_158 : decode cX7_passesAll 158 = .ok (.aload_n 0, 1) := by decide +kernel
theorem dX7_passesAll_159 : decode cX7_passesAll 159 = .ok (.aload_n 0, 1) := by decide +kernel
theorem dX7_passesAll_160 : decode cX7_passesAll 160 = .ok (.getfield 49, 3) := by decide +kernel
theorem dX7_passesAll_163 : decode cX7_passesAll 163 = .ok (.invokevirtual 175, 3) := by decide +kernel
theorem dX7_passesAll_166 : decode cX7_passesAll 166 = .ok (.putfield 49, 3) := by decide +kernel
theorem dX7_passesAll_169 : decode cX7_passesAll 169 = .ok (.aload_n 0, 1) := by decide +kernel
theorem dX7_passesAll_170 : decode cX7_passesAll 170 = .ok (.aload_n 0, 1) := by decide +kernel
theorem dX7_passesAll_171 : decode cX7_passesAll 171 = .ok (.aload_n 0, 1) := by decide +kernel
theorem dX7_passesAll_172 : decode cX7_passesAll 172 = .ok (.getfield 148, 3) := by decide +kernel
theorem dX7_passesAll_175 : decode cX7_passesAll 175 = .ok (.invokevirtual 175, 3) := by decide +kernel
theorem dX7_passesAll_178 : decode cX7_passesAll 178 = .ok (.putfield 148, 3) := by decide +kernel
theorem dX7_passesAll_181 : decode cX7_passesAll 181 = .ok (.return_, 1) := by decide +kernel
theorem dX7_image_0 : decode cX7_image 0 = .ok (.aload_n 0, 1) := by decide +kernel
theorem dX7_image_1 : decode cX7_image 1 = .ok (.iconst 1, 1) := by decide +kernel
theorem dX7_image_2 : decode cX7_image 2 = .ok (.putfield 178, 3) := by decide +kernel
theorem dX7_image_5 : decode cX7_image 5 = .ok (.aload_n 0, 1) := by decide +kernel
theorem dX7_image_6 : decode cX7_image 6 = .ok (.iconst 0, 1) := by decide +kernel
theorem dX7_image_7 : decode cX7_image 7 = .ok (.iconst 1, 1) := by decide +kernel
theorem dX7_image_8 : decode cX7_image 8 = .ok (.invokevirtual 157, 3) := by decide +kernel
theorem dX7_image_11 : decode cX7_image 11 = .ok (.aload_n 0, 1) := by decide +kernel
theorem dX7_image_12 : decode cX7_image 12 = .ok (.getfield 86, 3) := by decide +kernel
theorem dX7_image_15 : decode cX7_image 15 = .ok (.ireturn, 1) := by decide +kernel
theorem dX7_restore_0 : decode cX7_restore 0 = .ok (.aload_n 0, 1) := by decide +kernel
theorem dX7_restore_1 : decode cX7_restore 1 = .ok (.getfield 178, 3) := by decide +kernel
theorem dX7_restore_4 : decode cX7_restore 4 = .ok (.ifCond .ne 10, 3) := by decide +kernel
theorem dX7_restore_7 : decode cX7_restore 7 = .ok (.aload_n 0, 1) := by decide +kernel
theorem dX7_restore_8 : decode cX7_restore 8 = .ok (.bipush (-3), 2) := by decide +kernel
theorem dX7_restore_10 : decode cX7_restore 10 = .ok (.invokevirtual 103, 3) := by decide +kernel
theorem dX7_restore_13 : decode cX7_restore 13 = .ok (.ireturn, 1) := by decide +kernel
theorem dX7_restore_14 : decode cX7_restore 14 = .ok (.aload_n 0, 1) := by decide +kernel
theorem dX7_restore_15 : decode cX7_restore 15 = .ok (.iconst 0, 1) := by decide +kernel
theorem dX7_restore_16 : decode cX7_restore 16 = .ok (.iconst 0, 1) := by decide +kernel
theorem dX7_restore_17 : decode cX7_restore 17 = .ok (.invokevirtual 157, 3) := by decide +kernel
theorem dX7_restore_20 : decode cX7_restore 20 = .ok (.aload_n 0, 1) := by decide +kernel
theorem dX7_restore_21 : decode cX7_restore 21 = .ok (.getfield 86, 3) := by decide +kernel
theorem dX7_restore_24 : decode cX7_restore 24 = .ok (.ireturn, 1) := by decide +kernel
theorem dX7_ahead_0 : decode cX7_ahead 0 = .ok (.iconst 0, 1) := by decide +kernel
theorem dX7_ahead_1 : decode cX7_ahead 1 = .ok (.istore_n 2, 1) := by decide +kernel
theorem dX7_ahead_2 : decode cX7_ahead 2 = .ok (.iconst 0, 1) := by decide +kernel
theorem dX7_ahead_3 : decode cX7_ahead 3 = .ok (.istore_n 3, 1) := by decide +kernel
theorem dX7_ahead_4 : decode cX7_ahead 4 = .ok (.iload_n 3, 1) := by decide +kernel
theorem dX7_ahead_5 : decode cX7_ahead 5 = .ok (.iload_n 1, 1) := by decide +kernel
theorem dX7_ahead_6 : decode cX7_ahead 6 = .ok (.if_icmp .ge 32, 3) := by decide +kernel
theorem dX7_ahead_9 : decode cX7_ahead 9 = .ok (.iload_n 2, 1) := by decide +kernel
theorem dX7_ahead_10 : decode cX7_ahead 10 = .ok (.aload_n 0, 1) := by decide +kernel
theorem dX7_ahead_11 : decode cX7_ahead 11 = .ok (.getfield 13, 3) := by decide +kernel
theorem dX7_ahead_14 : decode cX7_ahead 14 = .ok (.iload_n 3, 1) := by decide +kernel
theorem dX7_ahead_15 : decode cX7_ahead 15 = .ok (.iaload, 1) := by decide +kernel
theorem dX7_ahead_16 : decode cX7_ahead 16 = .ok (.aload_n 0, 1) := by decide +kernel
theorem dX7_ahead_17 : decode cX7_ahead 17 = .ok (.getfield 13, 3) := by decide +kernel
theorem dX7_ahead_20 : decode cX7_ahead 20 = .ok (.iload_n 1, 1) := by decide +kernel
theorem dX7_ahead_21 : decode cX7_ahead 21 = .ok (.iaload, 1) := by decide +kernel
theorem dX7_ahead_22 : decode cX7_ahead 22 = .ok (.if_icmp .ne 7, 3) := by decide +kernel
theorem dX7_ahead_25 : decode cX7_ahead 25 = .ok (.iconst 1, 1) := by decide +kernel
theorem dX7_ahead_26 : decode cX7_ahead 26 = .ok (.goto 4, 3) := by decide +kernel
theorem dX7_ahead_29 : decode cX7_ahead 29 = .ok (.iconst 0, 1) := by decide +kernel
theorem dX7_ahead_30 : decode cX7_ahead 30 = .ok (.iadd, 1) := by decide +kernel
theorem dX7_ahead_31 : decode cX7_ahead 31 = .ok (.istore_n 2, 1) := by decide +kernel
theorem dX7_ahead_32 : decode cX7_ahead 32 = .ok (.iinc 3 1, 3) := by decide +kernel
theorem dX7_ahead_35 : decode cX7_ahead 35 = .ok (.goto (-31), 3) := by decide +kernel
theorem dX7_ahead_38 : decode cX7_ahead 38 = .ok (.iload_n 2, 1) := by decide +kernel
theorem dX7_ahead_39 : decode cX7_ahead 39 = .ok (.ireturn, 1) := by decide +kernel
theorem dX7_justAhead_0 : decode cX7_justAhead 0 = .ok (.bipush (-9), 2) := by decide +kernel
theorem dX7_justAhead_2 : decode cX7_justAhead 2 = .ok (.istore_n 2, 1) := by decide +kernel
theorem dX7_justAhead_3 : decode cX7_justAhead 3 = .ok (.iconst 0, 1) := by decide +kernel
theorem dX7_justAhead_4 : decode cX7_justAhead 4 = .ok (.istore_n 3, 1) := by decide +kernel
theorem dX7_justAhead_5 : decode cX7_justAhead 5 = .ok (.iload_n 3, 1) := by decide +kernel
theorem dX7_justAhead_6 : decode cX7_justAhead 6 = .ok (.iload_n 1, 1) := by decide +kernel
theorem dX7_justAhead_7 : decode cX7_justAhead 7 = .ok (.if_icmp .ge 30, 3) := by decide +kernel
theorem dX7_justAhead_10 : decode cX7_justAhead 10 = .ok (.aload_n 0, 1) := by decide +kernel
theorem dX7_justAhead_11 : decode cX7_justAhead 11 = .ok (.getfield 13, 3) := by decide +kernel
theorem dX7_justAhead_14 : decode cX7_justAhead 14 = .ok (.iload_n 3, 1) := by decide +kernel
theorem dX7_justAhead_15 : decode cX7_justAhead 15 = .ok (.iaload, 1) := by decide +kernel
theorem dX7_justAhead_16 : decode cX7_justAhead 16 = .ok (.aload_n 0, 1) := by decide +kernel
theorem dX7_justAhead_17 : decode cX7_justAhead 17 = .ok (.getfield 13, 3) := by decide +kernel
theorem dX7_justAhead_20 : decode cX7_justAhead 20 = .ok (.iload_n 1, 1) := by decide +kernel
theorem dX7_justAhead_21 : decode cX7_justAhead 21 = .ok (.iaload, 1) := by decide +kernel
theorem dX7_justAhead_22 : decode cX7_justAhead 22 = .ok (.if_icmp .ne 7, 3) := by decide +kernel
theorem dX7_justAhead_25 : decode cX7_justAhead 25 = .ok (.iload_n 3, 1) := by decide +kernel
theorem dX7_justAhead_26 : decode cX7_justAhead 26 = .ok (.goto 4, 3) := by decide +kernel
theorem dX7_justAhead_29 : decode cX7_justAhead 29 = .ok (.iload_n 2, 1) := by decide +kernel
theorem dX7_justAhead_30 : decode cX7_justAhead 30 = .ok (.istore_n 2, 1) := by decide +kernel
theorem dX7_justAhead_31 : decode cX7_justAhead 31 = .ok (.iinc 3 1, 3) := by decide +kernel
theorem dX7_justAhead_34 : decode cX7_justAhead 34 = .ok (.goto (-29), 3) := by decide +kernel
theorem dX7_justAhead_37 : decode cX7_justAhead 37 = .ok (.iload_n 2, 1) := by decide +kernel
theorem dX7_justAhead_38 : decode cX7_justAhead 38 = .ok (.ireturn, 1) := by decide +kernel
theorem dX7_worthOf_0 : decode cX7_worthOf 0 = .ok (.aload_n 0, 1) := by decide +kernel
theorem dX7_worthOf_1 : decode cX7_worthOf 1 = .ok (.getfield 19, 3) := by decide +kernel
theorem dX7_worthOf_4 : decode cX7_worthOf 4 = .ok (.iload_n 1, 1) := by decide +kernel
theorem dX7_worthOf_5 : decode cX7_worthOf 5 = .ok (.iaload, 1) := by decide +kernel
theorem dX7_worthOf_6 : decode cX7_worthOf 6 = .ok (.istore_n 2, 1) := by decide +kernel
theorem dX7_worthOf_7 : decode cX7_worthOf 7 = .ok (.aload_n 0, 1) := by decide +kernel
theorem dX7_worthOf_8 : decode cX7_worthOf 8 = .ok (.getfield 16, 3) := by decide +kernel
theorem dX7_worthOf_11 : decode cX7_worthOf 11 = .ok (.iload_n 1, 1) := by decide +kernel
theorem dX7_worthOf_12 : decode cX7_worthOf 12 = .ok (.iaload, 1) := by decide +kernel
theorem dX7_worthOf_13 : decode cX7_worthOf 13 = .ok (.tableswitch 81 1 5 #[35, 81, 39, 69, 73], 35) := by decide +kernel
theorem dX7_worthOf_48 : decode cX7_worthOf 48 = .ok (.iload_n 2, 1) := by decide +kernel
theorem dX7_worthOf_49 : decode cX7_worthOf 49 = .ok (.iconst 2, 1) := by decide +kernel
theorem dX7_worthOf_50 : decode cX7_worthOf 50 = .ok (.idiv, 1) := by decide +kernel
theorem dX7_worthOf_51 : decode cX7_worthOf 51 = .ok (.ireturn, 1) := by decide +kernel
theorem dX7_worthOf_52 : decode cX7_worthOf 52 = .ok (.aload_n 0, 1) := by decide +kernel
theorem dX7_worthOf_53 : decode cX7_worthOf 53 = .ok (.iload_n 1, 1) := by decide +kernel
theorem dX7_worthOf_54 : decode cX7_worthOf 54 = .ok (.invokevirtual 181, 3) := by decide +kernel
theorem dX7_worthOf_57 : decode cX7_worthOf 57 = .ok (.istore_n 3, 1) := by decide +kernel
theorem dX7_worthOf_58 : decode cX7_worthOf 58 = .ok (.iload_n 2, 1) := by decide +kernel
theorem dX7_worthOf_59 : decode cX7_worthOf 59 = .ok (.iconst 2, 1) := by decide +kernel
theorem dX7_worthOf_60 : decode cX7_worthOf 60 = .ok (.idiv, 1) := by decide +kernel
theorem dX7_worthOf_61 : decode cX7_worthOf 61 = .ok (.iload_n 3, 1) := by decide +kernel
theorem dX7_worthOf_62 : decode cX7_worthOf 62 = .ok (.ifCond .lt 17, 3) := by decide +kernel
theorem dX7_worthOf_65 : decode cX7_worthOf 65 = .ok (.aload_n 0, 1) := by decide +kernel
theorem dX7_worthOf_66 : decode cX7_worthOf 66 = .ok (.getfield 16, 3) := by decide +kernel
theorem dX7_worthOf_69 : decode cX7_worthOf 69 = .ok (.iload_n 3, 1) := by decide +kernel
theorem dX7_worthOf_70 : decode cX7_worthOf 70 = .ok (.iaload, 1) := by decide +kernel
theorem dX7_worthOf_71 : decode cX7_worthOf 71 = .ok (.iconst 3, 1) := by decide +kernel
theorem dX7_worthOf_72 : decode cX7_worthOf 72 = .ok (.if_icmp .eq 7, 3) := by decide +kernel
theorem dX7_worthOf_75 : decode cX7_worthOf 75 = .ok (.iconst 2, 1) := by decide +kernel
theorem dX7_worthOf_76 : decode cX7_worthOf 76 = .ok (.goto 4, 3) := by decide +kernel
theorem dX7_worthOf_79 : decode cX7_worthOf 79 = .ok (.iconst 0, 1) := by decide +kernel
theorem dX7_worthOf_80 : decode cX7_worthOf 80 = .ok (.iadd, 1) := by decide +kernel
theorem dX7_worthOf_81 : decode cX7_worthOf 81 = .ok (.ireturn, 1) := by decide +kernel
theorem dX7_worthOf_82 : decode cX7_worthOf 82 = .ok (.iload_n 2, 1) := by decide +kernel
theorem dX7_worthOf_83 : decode cX7_worthOf 83 = .ok (.iconst 5, 1) := by decide +kernel
theorem dX7_worthOf_84 : decode cX7_worthOf 84 = .ok (.iadd, 1) := by decide +kernel
theorem dX7_worthOf_85 : decode cX7_worthOf 85 = .ok (.ireturn, 1) := by decide +kernel
theorem dX7_worthOf_86 : decode cX7_worthOf 86 = .ok (.iload_n 2, 1) := by decide +kernel
theorem dX7_worthOf_87 : decode cX7_worthOf 87 = .ok (.aload_n 0, 1) := by decide +kernel
theorem dX7_worthOf_88 : decode cX7_worthOf 88 = .ok (.iload_n 1, 1) := by decide +kernel
theorem dX7_worthOf_89 : decode cX7_worthOf 89 = .ok (.invokevirtual 184, 3) := by decide +kernel
theorem dX7_worthOf_92 : decode cX7_worthOf 92 = .ok (.iadd, 1) := by decide +kernel
theorem dX7_worthOf_93 : decode cX7_worthOf 93 = .ok (.ireturn, 1) := by decide +kernel
theorem dX7_worthOf_94 : decode cX7_worthOf 94 = .ok (.iload_n 2, 1) := by decide +kernel
theorem dX7_worthOf_95 : decode cX7_worthOf 95 = .ok (.ireturn, 1) := by decide +kernel
theorem dX7_worthOfAll_0 : decode cX7_worthOfAll 0 = .ok (.iconst 0, 1) := by decide +kernel
theorem dX7_worthOfAll_1 : decode cX7_worthOfAll 1 = .ok (.istore_n 2, 1) := by decide +kernel
theorem dX7_worthOfAll_2 : decode cX7_worthOfAll 2 = .ok (.iconst 0, 1) := by decide +kernel
theorem dX7_worthOfAll_3 : decode cX7_worthOfAll 3 = .ok (.istore_n 3, 1) := by decide +kernel
theorem dX7_worthOfAll_4 : decode cX7_worthOfAll 4 = .ok (.iload_n 3, 1) := by decide +kernel
theorem dX7_worthOfAll_5 : decode cX7_worthOfAll 5 = .ok (.aload_n 0, 1) := by decide +kernel
theorem dX7_worthOfAll_6 : decode cX7_worthOfAll 6 = .ok (.getfield 86, 3) := by decide +kernel
theorem dX7_worthOfAll_9 : decode cX7_worthOfAll 9 = .ok (.if_icmp .ge 30, 3) := by decide +kernel
theorem dX7_worthOfAll_12 : decode cX7_worthOfAll 12 = .ok (.iload_n 2, 1) := by decide +kernel
theorem dX7_worthOfAll_13 : decode cX7_worthOfAll 13 = .ok (.iload_n 1, 1) := by decide +kernel
theorem dX7_worthOfAll_14 : decode cX7_worthOfAll 14 = .ok (.iload_n 3, 1) := by decide +kernel
theorem dX7_worthOfAll_15 : decode cX7_worthOfAll 15 = .ok (.ishr, 1) := by decide +kernel
theorem dX7_worthOfAll_16 : decode cX7_worthOfAll 16 = .ok (.iconst 1, 1) := by decide +kernel
theorem dX7_worthOfAll_17 : decode cX7_worthOfAll 17 = .ok (.iand, 1) := by decide +kernel
theorem dX7_worthOfAll_18 : decode cX7_worthOfAll 18 = .ok (.iconst 1, 1) := by decide +kernel
theorem dX7_worthOfAll_19 : decode cX7_worthOfAll 19 = .ok (.if_icmp .ne 11, 3) := by decide +kernel
theorem dX7_worthOfAll_22 : decode cX7_worthOfAll 22 = .ok (.aload_n 0, 1) := by decide +kernel
theorem dX7_worthOfAll_23 : decode cX7_worthOfAll 23 = .ok (.iload_n 3, 1) := by decide +kernel
theorem dX7_worthOfAll_24 : decode cX7_worthOfAll 24 = .ok (.invokevirtual 187, 3) := by decide +kernel
theorem dX7_worthOfAll_27 : decode cX7_worthOfAll 27 = .ok (.goto 4, 3) := by decide +kernel
theorem dX7_worthOfAll_30 : decode cX7_worthOfAll 30 = .ok (.iconst 0, 1) := by decide +kernel
theorem dX7_worthOfAll_31 : decode cX7_worthOfAll 31 = .ok (.iadd, 1) := by decide +kernel
theorem dX7_worthOfAll_32 : decode cX7_worthOfAll 32 = .ok (.istore_n 2, 1) := by decide +kernel
theorem dX7_worthOfAll_33 : decode cX7_worthOfAll 33 = .ok (.iinc 3 1, 3) := by decide +kernel
theorem dX7_worthOfAll_36 : decode cX7_worthOfAll 36 = .ok (.goto (-32), 3) := by decide +kernel
theorem dX7_worthOfAll_39 : decode cX7_worthOfAll 39 = .ok (.iload_n 2, 1) := by decide +kernel
theorem dX7_worthOfAll_40 : decode cX7_worthOfAll 40 = .ok (.ireturn, 1) := by decide +kernel
theorem dX7_takesOf_0 : decode cX7_takesOf 0 = .ok (.aload_n 0, 1) := by decide +kernel
theorem dX7_takesOf_1 : decode cX7_takesOf 1 = .ok (.getfield 22, 3) := by decide +kernel
theorem dX7_takesOf_4 : decode cX7_takesOf 4 = .ok (.iload_n 1, 1) := by decide +kernel
theorem dX7_takesOf_5 : decode cX7_takesOf 5 = .ok (.iaload, 1) := by decide +kernel
theorem dX7_takesOf_6 : decode cX7_takesOf 6 = .ok (.aload_n 0, 1) := by decide +kernel
theorem dX7_takesOf_7 : decode cX7_takesOf 7 = .ok (.getfield 28, 3) := by decide +kernel
theorem dX7_takesOf_10 : decode cX7_takesOf 10 = .ok (.iload_n 2, 1) := by decide +kernel
theorem dX7_takesOf_11 : decode cX7_takesOf 11 = .ok (.iaload, 1) := by decide +kernel
theorem dX7_takesOf_12 : decode cX7_takesOf 12 = .ok (.imul, 1) := by decide +kernel
theorem dX7_takesOf_13 : decode cX7_takesOf 13 = .ok (.istore_n 3, 1) := by decide +kernel
theorem dX7_takesOf_14 : decode cX7_takesOf 14 = .ok (.aload_n 0, 1) := by decide +kernel
theorem dX7_takesOf_15 : decode cX7_takesOf 15 = .ok (.getfield 16, 3) := by decide +kernel
theorem dX7_takesOf_18 : decode cX7_takesOf 18 = .ok (.iload_n 1, 1) := by decide +kernel
theorem dX7_takesOf_19 : decode cX7_takesOf 19 = .ok (.iaload, 1) := by decide +kernel
theorem dX7_takesOf_20 : decode cX7_takesOf 20 = .ok (.tableswitch 65 1 4 #[32, 45, 32, 54], 32) := by decide +kernel
theorem dX7_takesOf_52 : decode cX7_takesOf 52 = .ok (.iload_n 3, 1) := by decide +kernel
theorem dX7_takesOf_53 : decode cX7_takesOf 53 = .ok (.iconst 1, 1) := by decide +kernel
theorem dX7_takesOf_54 : decode cX7_takesOf 54 = .ok (.if_icmp .le 9, 3) := by decide +kernel
theorem dX7_takesOf_57 : decode cX7_takesOf 57 = .ok (.iload_n 3, 1) := by decide +kernel
theorem dX7_takesOf_58 : decode cX7_takesOf 58 = .ok (.iconst 2, 1) := by decide +kernel
theorem dX7_takesOf_59 : decode cX7_takesOf 59 = .ok (.idiv, 1) := by decide +kernel
theorem dX7_takesOf_60 : decode cX7_takesOf 60 = .ok (.goto 4, 3) := by decide +kernel
theorem dX7_takesOf_63 : decode cX7_takesOf 63 = .ok (.iconst 1, 1) := by decide +kernel
theorem dX7_takesOf_64 : decode cX7_takesOf 64 = .ok (.ireturn, 1) := by decide +kernel
theorem dX7_takesOf_65 : decode cX7_takesOf 65 = .ok (.iload_n 3, 1) := by decide +kernel
theorem dX7_takesOf_66 : decode cX7_takesOf 66 = .ok (.aload_n 0, 1) := by decide +kernel
theorem dX7_takesOf_67 : decode cX7_takesOf 67 = .ok (.getfield 19, 3) := by decide +kernel
theorem dX7_takesOf_70 : decode cX7_takesOf 70 = .ok (.iload_n 1, 1) := by decide +kernel
theorem dX7_takesOf_71 : decode cX7_takesOf 71 = .ok (.iaload, 1) := by decide +kernel
theorem dX7_takesOf_72 : decode cX7_takesOf 72 = .ok (.iadd, 1) := by decide +kernel
theorem dX7_takesOf_73 : decode cX7_takesOf 73 = .ok (.ireturn, 1) := by decide +kernel
theorem dX7_takesOf_74 : decode cX7_takesOf 74 = .ok (.iload_n 3, 1) := by decide +kernel
theorem dX7_takesOf_75 : decode cX7_takesOf 75 = .ok (.aload_n 0, 1) := by decide +kernel
theorem dX7_takesOf_76 : decode cX7_takesOf 76 = .ok (.getfield 19, 3) := by decide +kernel
theorem dX7_takesOf_79 : decode cX7_takesOf 79 = .ok (.iload_n 1, 1) := by decide +kernel
theorem dX7_takesOf_80 : decode cX7_takesOf 80 = .ok (.iaload, 1) := by decide +kernel
theorem dX7_takesOf_81 : decode cX7_takesOf 81 = .ok (.iadd, 1) := by decide +kernel
theorem dX7_takesOf_82 : decode cX7_takesOf 82 = .ok (.iconst 3, 1) := by decide +kernel
theorem dX7_takesOf_83 : decode cX7_takesOf 83 = .ok (.iadd, 1) := by decide +kernel
theorem dX7_takesOf_84 : decode cX7_takesOf 84 = .ok (.ireturn, 1) := by decide +kernel
theorem dX7_takesOf_85 : decode cX7_takesOf 85 = .ok (.iload_n 3, 1) := by decide +kernel
theorem dX7_takesOf_86 : decode cX7_takesOf 86 = .ok (.ireturn, 1) := by decide +kernel
theorem dX7_turnsFor_0 : decode cX7_turnsFor 0 = .ok (.aload_n 0, 1) := by decide +kernel
theorem dX7_turnsFor_1 : decode cX7_turnsFor 1 = .ok (.getfield 49, 3) := by decide +kernel
theorem dX7_turnsFor_4 : decode cX7_turnsFor 4 = .ok (.istore_n 2, 1) := by decide +kernel
theorem dX7_turnsFor_5 : decode cX7_turnsFor 5 = .ok (.aload_n 0, 1) := by decide +kernel
theorem dX7_turnsFor_6 : decode cX7_turnsFor 6 = .ok (.getfield 142, 3) := by decide +kernel
theorem dX7_turnsFor_9 : decode cX7_turnsFor 9 = .ok (.tableswitch 82 1 4 #[31, 43, 59, 68], 31) := by decide +kernel
theorem dX7_turnsFor_40 : decode cX7_turnsFor 40 = .ok (.iload_n 2, 1) := by decide +kernel
theorem dX7_turnsFor_41 : decode cX7_turnsFor 41 = .ok (.iconst 3, 1) := by decide +kernel
theorem dX7_turnsFor_42 : decode cX7_turnsFor 42 = .ok (.aload_n 0, 1) := by decide +kernel
theorem dX7_turnsFor_43 : decode cX7_turnsFor 43 = .ok (.getfield 145, 3) := by decide +kernel
theorem dX7_turnsFor_46 : decode cX7_turnsFor 46 = .ok (.imul, 1) := by decide +kernel
theorem dX7_turnsFor_47 : decode cX7_turnsFor 47 = .ok (.iadd, 1) := by decide +kernel
theorem dX7_turnsFor_48 : decode cX7_turnsFor 48 = .ok (.istore_n 2, 1) := by decide +kernel
theorem dX7_turnsFor_49 : decode cX7_turnsFor 49 = .ok (.goto 42, 3) := by decide +kernel
theorem dX7_turnsFor_52 : decode cX7_turnsFor 52 = .ok (.iload_n 2, 1) := by decide +kernel
theorem dX7_turnsFor_53 : decode cX7_turnsFor 53 = .ok (.iconst 3, 1) := by decide +kernel
theorem dX7_turnsFor_54 : decode cX7_turnsFor 54 = .ok (.aload_n 0, 1) := by decide +kernel
theorem dX7_turnsFor_55 : decode cX7_turnsFor 55 = .ok (.getfield 145, 3) := by decide +kernel
theorem dX7_turnsFor_58 : decode cX7_turnsFor 58 = .ok (.imul, 1) := by decide +kernel
theorem dX7_turnsFor_59 : decode cX7_turnsFor 59 = .ok (.iconst 5, 1) := by decide +kernel
theorem dX7_turnsFor_60 : decode cX7_turnsFor 60 = .ok (.iload_n 1, 1) := by decide +kernel
theorem dX7_turnsFor_61 : decode cX7_turnsFor 61 = .ok (.imul, 1) := by decide +kernel
theorem dX7_turnsFor_62 : decode cX7_turnsFor 62 = .ok (.iadd, 1) := by decide +kernel
theorem dX7_turnsFor_63 : decode cX7_turnsFor 63 = .ok (.iadd, 1) := by decide +kernel
theorem dX7_turnsFor_64 : decode cX7_turnsFor 64 = .ok (.istore_n 2, 1) := by decide +kernel
theorem dX7_turnsFor_65 : decode cX7_turnsFor 65 = .ok (.goto 26, 3) := by decide +kernel
theorem dX7_turnsFor_68 : decode cX7_turnsFor 68 = .ok (.iload_n 2, 1) := by decide +kernel
theorem dX7_turnsFor_69 : decode cX7_turnsFor 69 = .ok (.iconst 4, 1) := by decide +kernel
theorem dX7_turnsFor_70 : decode cX7_turnsFor 70 = .ok (.iload_n 1, 1) := by decide +kernel
theorem dX7_turnsFor_71 : decode cX7_turnsFor 71 = .ok (.imul, 1) := by decide +kernel
theorem dX7_turnsFor_72 : decode cX7_turnsFor 72 = .ok (.isub, 1) := by decide +kernel
theorem dX7_turnsFor_73 : decode cX7_turnsFor 73 = .ok (.istore_n 2, 1) := by decide +kernel
theorem dX7_turnsFor_74 : decode cX7_turnsFor 74 = .ok (.goto 17, 3) := by decide +kernel
theorem dX7_turnsFor_77 : decode cX7_turnsFor 77 = .ok (.iload_n 2, 1) := by decide +kernel
theorem dX7_turnsFor_78 : decode cX7_turnsFor 78 = .ok (.iconst 4, 1) := by decide +kernel
theorem dX7_turnsFor_79 : decode cX7_turnsFor 79 = .ok (.iload_n 1, 1) := by decide +kernel
theorem dX7_turnsFor_80 : decode cX7_turnsFor 80 = .ok (.imul, 1) := by decide +kernel
theorem dX7_turnsFor_81 : decode cX7_turnsFor 81 = .ok (.aload_n 0, 1) := by decide +kernel
theorem dX7_turnsFor_82 : decode cX7_turnsFor 82 = .ok (.getfield 145, 3) := by decide +kernel
theorem dX7_turnsFor_85 : decode cX7_turnsFor 85 = .ok (.iadd, 1) := by decide +kernel
theorem dX7_turnsFor_86 : decode cX7_turnsFor 86 = .ok (.isub, 1) := by decide +kernel
theorem dX7_turnsFor_87 : decode cX7_turnsFor 87 = .ok (.istore_n 2, 1) := by decide +kernel
theorem dX7_turnsFor_88 : decode cX7_turnsFor 88 = .ok (.goto 3, 3) := by decide +kernel
theorem dX7_turnsFor_91 : decode cX7_turnsFor 91 = .ok (.iload_n 2, 1) := by decide +kernel
theorem dX7_turnsFor_92 : decode cX7_turnsFor 92 = .ok (.ifCond .ge 7, 3) := by decide +kernel
theorem dX7_turnsFor_95 : decode cX7_turnsFor 95 = .ok (.iconst 0, 1) := by decide +kernel
theorem dX7_turnsFor_96 : decode cX7_turnsFor 96 = .ok (.goto 4, 3) := by decide +kernel
theorem dX7_turnsFor_99 : decode cX7_turnsFor 99 = .ok (.iload_n 2, 1) := by decide +kernel
theorem dX7_turnsFor_100 : decode cX7_turnsFor 100 = .ok (.ireturn, 1) := by decide +kernel
theorem dX7_isShown_0 : decode cX7_isShown 0 = .ok (.iload_n 1, 1) := by decide +kernel
theorem dX7_isShown_1 : decode cX7_isShown 1 = .ok (.aload_n 0, 1) := by decide +kernel
theorem dX7_isShown_2 : decode cX7_isShown 2 = .ok (.getfield 148, 3) := by decide +kernel
theorem dX7_isShown_5 : decode cX7_isShown 5 = .ok (.iadd, 1) := by decide +kernel
theorem dX7_isShown_6 : decode cX7_isShown 6 = .ok (.iload_n 2, 1) := by decide +kernel
theorem dX7_isShown_7 : decode cX7_isShown 7 = .ok (.isub, 1) := by decide +kernel
theorem dX7_isShown_8 : decode cX7_isShown 8 = .ok (.istore_n 3, 1) := by decide +kernel
theorem dX7_isShown_9 : decode cX7_isShown 9 = .ok (.aload_n 0, 1) := by decide +kernel
theorem dX7_isShown_10 : decode cX7_isShown 10 = .ok (.getfield 142, 3) := by decide +kernel
theorem dX7_isShown_13 : decode cX7_isShown 13 = .ok (.iconst 4, 1) := by decide +kernel
theorem dX7_isShown_14 : decode cX7_isShown 14 = .ok (.if_icmp .ne 13, 3) := by decide +kernel
theorem dX7_isShown_17 : decode cX7_isShown 17 = .ok (.iload_n 3, 1) := by decide +kernel
theorem dX7_isShown_18 : decode cX7_isShown 18 = .ok (.ifCond .ne 7, 3) := by decide +kernel
theorem dX7_isShown_21 : decode cX7_isShown 21 = .ok (.iconst 1, 1) := by decide +kernel
theorem dX7_isShown_22 : decode cX7_isShown 22 = .ok (.goto 4, 3) := by decide +kernel
theorem dX7_isShown_25 : decode cX7_isShown 25 = .ok (.iconst 0, 1) := by decide +kernel
theorem dX7_isShown_26 : decode cX7_isShown 26 = .ok (.ireturn, 1) := by decide +kernel
theorem dX7_isShown_27 : decode cX7_isShown 27 = .ok (.iload_n 3, 1) := by decide +kernel
theorem dX7_isShown_28 : decode cX7_isShown 28 = .ok (.iconst (-1), 1) := by decide +kernel
theorem dX7_isShown_29 : decode cX7_isShown 29 = .ok (.if_icmp .lt 30, 3) := by decide +kernel
theorem dX7_isShown_32 : decode cX7_isShown 32 = .ok (.iload_n 3, 1) := by decide +kernel
theorem dX7_isShown_33 : decode cX7_isShown 33 = .ok (.iconst 1, 1) := by decide +kernel
theorem dX7_isShown_34 : decode cX7_isShown 34 = .ok (.if_icmp .gt 25, 3) := by decide +kernel
theorem dX7_isShown_37 : decode cX7_isShown 37 = .ok (.aload_n 0, 1) := by decide +kernel
theorem dX7_isShown_38 : decode cX7_isShown 38 = .ok (.getfield 142, 3) := by decide +kernel
theorem dX7_isShown_41 : decode cX7_isShown 41 = .ok (.iconst 5, 1) := by decide +kernel
theorem dX7_isShown_42 : decode cX7_isShown 42 = .ok (.if_icmp .ne 13, 3) := by decide +kernel
theorem dX7_isShown_45 : decode cX7_isShown 45 = .ok (.iload_n 1, 1) := by decide +kernel
theorem dX7_isShown_46 : decode cX7_isShown 46 = .ok (.aload_n 0, 1) := by decide +kernel
theorem dX7_isShown_47 : decode cX7_isShown 47 = .ok (.getfield 145, 3) := by decide +kernel
theorem dX7_isShown_50 : decode cX7_isShown 50 = .ok (.iconst 4, 1) := by decide +kernel
theorem dX7_isShown_51 : decode cX7_isShown 51 = .ok (.irem, 1) := by decide +kernel
theorem dX7_isShown_52 : decode cX7_isShown 52 = .ok (.if_icmp .lt 7, 3) := by decide +kernel
theorem dX7_isShown_55 : decode cX7_isShown 55 = .ok (.iconst 1, 1) := by decide +kernel
theorem dX7_isShown_56 : decode cX7_isShown 56 = .ok (.goto 4, 3) := by decide +kernel
theorem dX7_isShown_59 : decode cX7_isShown 59 = .ok (.iconst 0, 1) := by decide +kernel
theorem dX7_isShown_60 : decode cX7_isShown 60 = .ok (.ireturn, 1) := by decide +kernel
theorem dX7_line_0 : decode cX7_line 0 = .ok (.aload_n 0, 1) := by decide +kernel
theorem dX7_line_1 : decode cX7_line 1 = .ok (.iload_n 1, 1) := by decide +kernel
theorem dX7_line_2 : decode cX7_line 2 = .ok (.invokevirtual 190, 3) := by decide +kernel
theorem dX7_line_5 : decode cX7_line 5 = .ok (.ifCond .ne 9, 3) := by decide +kernel
theorem dX7_line_8 : decode cX7_line 8 = .ok (.aload_n 0, 1) := by decide +kernel
theorem dX7_line_9 : decode cX7_line 9 = .ok (.iconst (-1), 1) := by decide +kernel
theorem dX7_line_10 : decode cX7_line 10 = .ok (.invokevirtual 103, 3) := by decide +kernel
theorem dX7_line_13 : decode cX7_line 13 = .ok (.ireturn, 1) := by decide +kernel
theorem dX7_line_14 : decode cX7_line 14 = .ok (.iload_n 2, 1) := by decide +kernel
theorem dX7_line_15 : decode cX7_line 15 = .ok (.tableswitch 77 0 5 #[37, 44, 51, 58, 65, 71], 37) := by decide +kernel
theorem dX7_line_52 : decode cX7_line 52 = .ok (.aload_n 0, 1) := by decide +kernel
theorem dX7_line_53 : decode cX7_line 53 = .ok (.getfield 13, 3) := by decide +kernel
theorem dX7_line_56 : decode cX7_line 56 = .ok (.iload_n 1, 1) := by decide +kernel
theorem dX7_line_57 : decode cX7_line 57 = .ok (.iaload, 1) := by decide +kernel
theorem dX7_line_58 : decode cX7_line 58 = .ok (.ireturn, 1) := by decide +kernel
theorem dX7_line_59 : decode cX7_line 59 = .ok (.aload_n 0, 1) := by decide +kernel
theorem dX7_line_60 : decode cX7_line 60 = .ok (.getfield 16, 3) := by decide +kernel
theorem dX7_line_63 : decode cX7_line 63 = .ok (.iload_n 1, 1) := by decide +kernel
theorem dX7_line_64 : decode cX7_line 64 = .ok (.iaload, 1) := by decide +kernel
theorem dX7_line_65 : decode cX7_line 65 = .ok (.ireturn, 1) := by decide +kernel
theorem dX7_line_66 : decode cX7_line 66 = .ok (.aload_n 0, 1) := by decide +kernel
theorem dX7_line_67 : decode cX7_line 67 = .ok (.getfield 19, 3) := by decide +kernel
theorem dX7_line_70 : decode cX7_line 70 = .ok (.iload_n 1, 1) := by decide +kernel
theorem dX7_line_71 : decode cX7_line 71 = .ok (.iaload, 1) := by decide +kernel
theorem dX7_line_72 : decode cX7_line 72 = .ok (.ireturn, 1) := by decide +kernel
theorem dX7_line_73 : decode cX7_line 73 = .ok (.aload_n 0, 1) := by decide +kernel
theorem dX7_line_74 : decode cX7_line 74 = .ok (.getfield 22, 3) := by decide +kernel
theorem dX7_line_77 : decode cX7_line 77 = .ok (.iload_n 1, 1) := by decide +kernel
theorem dX7_line_78 : decode cX7_line 78 = .ok (.iaload, 1) := by decide +kernel
theorem dX7_line_79 : decode cX7_line 79 = .ok (.ireturn, 1) := by decide +kernel
theorem dX7_line_80 : decode cX7_line 80 = .ok (.aload_n 0, 1) := by decide +kernel
theorem dX7_line_81 : decode cX7_line 81 = .ok (.iload_n 1, 1) := by decide +kernel
theorem dX7_line_82 : decode cX7_line 82 = .ok (.invokevirtual 187, 3) := by decide +kernel
theorem dX7_line_85 : decode cX7_line 85 = .ok (.ireturn, 1) := by decide +kernel
theorem dX7_line_86 : decode cX7_line 86 = .ok (.aload_n 0, 1) := by decide +kernel
theorem dX7_line_87 : decode cX7_line 87 = .ok (.iload_n 1, 1) := by decide +kernel
theorem dX7_line_88 : decode cX7_line 88 = .ok (.invokevirtual 184, 3) := by decide +kernel
theorem dX7_line_91 : decode cX7_line 91 = .ok (.ireturn, 1) := by decide +kernel
theorem dX7_line_92 : decode cX7_line 92 = .ok (.aload_n 0, 1) := by decide +kernel
theorem dX7_line_93 : decode cX7_line 93 = .ok (.bipush (-2), 2) := by decide +kernel
theorem dX7_line_95 : decode cX7_line 95 = .ok (.invokevirtual 103, 3) := by decide +kernel
theorem dX7_line_98 : decode cX7_line 98 = .ok (.ireturn, 1) := by decide +kernel
theorem dX7_holder_0 : decode cX7_holder 0 = .ok (.iload_n 1, 1) := by decide +kernel
theorem dX7_holder_1 : decode cX7_holder 1 = .ok (.tableswitch 53 0 3 #[31, 36, 41, 46], 31) := by decide +kernel
theorem dX7_holder_32 : decode cX7_holder 32 = .ok (.aload_n 0, 1) := by decide +kernel
theorem dX7_holder_33 : decode cX7_holder 33 = .ok (.getfield 142, 3) := by decide +kernel
theorem dX7_holder_36 : decode cX7_holder 36 = .ok (.ireturn, 1) := by decide +kernel
theorem dX7_holder_37 : decode cX7_holder 37 = .ok (.aload_n 0, 1) := by decide +kernel
theorem dX7_holder_38 : decode cX7_holder 38 = .ok (.getfield 145, 3) := by decide +kernel
theorem dX7_holder_41 : decode cX7_holder 41 = .ok (.ireturn, 1) := by decide +kernel
theorem dX7_holder_42 : decode cX7_holder 42 = .ok (.aload_n 0, 1) := by decide +kernel
theorem dX7_holder_43 : decode cX7_holder 43 = .ok (.getfield 49, 3) := by decide +kernel
theorem dX7_holder_46 : decode cX7_holder 46 = .ok (.ireturn, 1) := by decide +kernel
theorem dX7_holder_47 : decode cX7_holder 47 = .ok (.iconst 1, 1) := by decide +kernel
theorem dX7_holder_48 : decode cX7_holder 48 = .ok (.aload_n 0, 1) := by decide +kernel
theorem dX7_holder_49 : decode cX7_holder 49 = .ok (.getfield 148, 3) := by decide +kernel
theorem dX7_holder_52 : decode cX7_holder 52 = .ok (.iadd, 1) := by decide +kernel
theorem dX7_holder_53 : decode cX7_holder 53 = .ok (.ireturn, 1) := by decide +kernel
theorem dX7_holder_54 : decode cX7_holder 54 = .ok (.aload_n 0, 1) := by decide +kernel
theorem dX7_holder_55 : decode cX7_holder 55 = .ok (.bipush (-2), 2) := by decide +kernel
theorem dX7_holder_57 : decode cX7_holder 57 = .ok (.invokevirtual 103, 3) := by decide +kernel
theorem dX7_holder_60 : decode cX7_holder 60 = .ok (.ireturn, 1) := by decide +kernel
theorem dX7_looker_0 : decode cX7_looker 0 = .ok (.aload_n 0, 1) := by decide +kernel
theorem dX7_looker_1 : decode cX7_looker 1 = .ok (.iload_n 1, 1) := by decide +kernel
theorem dX7_looker_2 : decode cX7_looker 2 = .ok (.invokevirtual 92, 3) := by decide +kernel
theorem dX7_looker_5 : decode cX7_looker 5 = .ok (.ifCond .ne 9, 3) := by decide +kernel
theorem dX7_looker_8 : decode cX7_looker 8 = .ok (.aload_n 0, 1) := by decide +kernel
theorem dX7_looker_9 : decode cX7_looker 9 = .ok (.iconst (-1), 1) := by decide +kernel
theorem dX7_looker_10 : decode cX7_looker 10 = .ok (.invokevirtual 103, 3) := by decide +kernel
theorem dX7_looker_13 : decode cX7_looker 13 = .ok (.ireturn, 1) := by decide +kernel
theorem dX7_looker_14 : decode cX7_looker 14 = .ok (.iload_n 2, 1) := by decide +kernel
theorem dX7_looker_15 : decode cX7_looker 15 = .ok (.tableswitch 131 0 9 #[53, 60, 67, 74, 81, 88, 95, 102, 109, 120], 53) := by decide +kernel
theorem dX7_looker_68 : decode cX7_looker 68 = .ok (.aload_n 0, 1) := by decide +kernel
theorem dX7_looker_69 : decode cX7_looker 69 = .ok (.getfield 25, 3) := by decide +kernel
theorem dX7_looker_72 : decode cX7_looker 72 = .ok (.iload_n 1, 1) := by decide +kernel
theorem dX7_looker_73 : decode cX7_looker 73 = .ok (.iaload, 1) := by decide +kernel
theorem dX7_looker_74 : decode cX7_looker 74 = .ok (.ireturn, 1) := by decide +kernel
theorem dX7_looker_75 : decode cX7_looker 75 = .ok (.aload_n 0, 1) := by decide +kernel
theorem dX7_looker_76 : decode cX7_looker 76 = .ok (.getfield 28, 3) := by decide +kernel
theorem dX7_looker_79 : decode cX7_looker 79 = .ok (.iload_n 1, 1) := by decide +kernel
theorem dX7_looker_80 : decode cX7_looker 80 = .ok (.iaload, 1) := by decide +kernel
theorem dX7_looker_81 : decode cX7_looker 81 = .ok (.ireturn, 1) := by decide +kernel
theorem dX7_looker_82 : decode cX7_looker 82 = .ok (.aload_n 0, 1) := by decide +kernel
theorem dX7_looker_83 : decode cX7_looker 83 = .ok (.getfield 31, 3) := by decide +kernel
theorem dX7_looker_86 : decode cX7_looker 86 = .ok (.iload_n 1, 1) := by decide +kernel
theorem dX7_looker_87 : decode cX7_looker 87 = .ok (.iaload, 1) := by decide +kernel
theorem dX7_looker_88 : decode cX7_looker 88 = .ok (.ireturn, 1) := by decide +kernel
theorem dX7_looker_89 : decode cX7_looker 89 = .ok (.aload_n 0, 1) := by decide +kernel
theorem dX7_looker_90 : decode cX7_looker 90 = .ok (.getfield 34, 3) := by decide +kernel
theorem dX7_looker_93 : decode cX7_looker 93 = .ok (.iload_n 1, 1) := by decide +kernel
theorem dX7_looker_94 : decode cX7_looker 94 = .ok (.iaload, 1) := by decide +kernel
theorem dX7_looker_95 : decode cX7_looker 95 = .ok (.ireturn, 1) := by decide +kernel
theorem dX7_looker_96 : decode cX7_looker 96 = .ok (.aload_n 0, 1) := by decide +kernel
theorem dX7_looker_97 : decode cX7_looker 97 = .ok (.getfield 37, 3) := by decide +kernel
theorem dX7_looker_100 : decode cX7_looker 100 = .ok (.iload_n 1, 1) := by decide +kernel
theorem dX7_looker_101 : decode cX7_looker 101 = .ok (.iaload, 1) := by decide +kernel
theorem dX7_looker_102 : decode cX7_looker 102 = .ok (.ireturn, 1) := by decide +kernel
theorem dX7_looker_103 : decode cX7_looker 103 = .ok (.aload_n 0, 1) := by decide +kernel
theorem dX7_looker_104 : decode cX7_looker 104 = .ok (.getfield 40, 3) := by decide +kernel
theorem dX7_looker_107 : decode cX7_looker 107 = .ok (.iload_n 1, 1) := by decide +kernel
theorem dX7_looker_108 : decode cX7_looker 108 = .ok (.iaload, 1) := by decide +kernel
theorem dX7_looker_109 : decode cX7_looker 109 = .ok (.ireturn, 1) := by decide +kernel
theorem dX7_looker_110 : decode cX7_looker 110 = .ok (.aload_n 0, 1) := by decide +kernel
theorem dX7_looker_111 : decode cX7_looker 111 = .ok (.getfield 43, 3) := by decide +kernel
theorem dX7_looker_114 : decode cX7_looker 114 = .ok (.iload_n 1, 1) := by decide +kernel
theorem dX7_looker_115 : decode cX7_looker 115 = .ok (.iaload, 1) := by decide +kernel
theorem dX7_looker_116 : decode cX7_looker 116 = .ok (.ireturn, 1) := by decide +kernel
theorem dX7_looker_117 : decode cX7_looker 117 = .ok (.aload_n 0, 1) := by decide +kernel
theorem dX7_looker_118 : decode cX7_looker 118 = .ok (.getfield 46, 3) := by decide +kernel
theorem dX7_looker_121 : decode cX7_looker 121 = .ok (.iload_n 1, 1) := by decide +kernel
theorem dX7_looker_122 : decode cX7_looker 122 = .ok (.iaload, 1) := by decide +kernel
theorem dX7_looker_123 : decode cX7_looker 123 = .ok (.ireturn, 1) := by decide +kernel
theorem dX7_looker_124 : decode cX7_looker 124 = .ok (.aload_n 0, 1) := by decide +kernel
theorem dX7_looker_125 : decode cX7_looker 125 = .ok (.aload_n 0, 1) := by decide +kernel
theorem dX7_looker_126 : decode cX7_looker 126 = .ok (.getfield 40, 3) := by decide +kernel
theorem dX7_looker_129 : decode cX7_looker 129 = .ok (.iload_n 1, 1) := by decide +kernel
theorem dX7_looker_130 : decode cX7_looker 130 = .ok (.iaload, 1) := by decide +kernel
theorem dX7_looker_131 : decode cX7_looker 131 = .ok (.invokevirtual 193, 3) := by decide +kernel
theorem dX7_looker_134 : decode cX7_looker 134 = .ok (.ireturn, 1) := by decide +kernel
theorem dX7_looker_135 : decode cX7_looker 135 = .ok (.aload_n 0, 1) := by decide +kernel
theorem dX7_looker_136 : decode cX7_looker 136 = .ok (.aload_n 0, 1) := by decide +kernel
theorem dX7_looker_137 : decode cX7_looker 137 = .ok (.getfield 43, 3) := by decide +kernel
theorem dX7_looker_140 : decode cX7_looker 140 = .ok (.iload_n 1, 1) := by decide +kernel
theorem dX7_looker_141 : decode cX7_looker 141 = .ok (.iaload, 1) := by decide +kernel
theorem dX7_looker_142 : decode cX7_looker 142 = .ok (.invokevirtual 196, 3) := by decide +kernel
theorem dX7_looker_145 : decode cX7_looker 145 = .ok (.ireturn, 1) := by decide +kernel
theorem dX7_looker_146 : decode cX7_looker 146 = .ok (.aload_n 0, 1) := by decide +kernel
theorem dX7_looker_147 : decode cX7_looker 147 = .ok (.bipush (-2), 2) := by decide +kernel
theorem dX7_looker_149 : decode cX7_looker 149 = .ok (.invokevirtual 103, 3) := by decide +kernel
theorem dX7_looker_152 : decode cX7_looker 152 = .ok (.ireturn, 1) := by decide +kernel
theorem dX7_takes_0 : decode cX7_takes 0 = .ok (.aload_n 0, 1) := by decide +kernel
theorem dX7_takes_1 : decode cX7_takes 1 = .ok (.iload_n 1, 1) := by decide +kernel
theorem dX7_takes_2 : decode cX7_takes 2 = .ok (.invokevirtual 190, 3) := by decide +kernel
theorem dX7_takes_5 : decode cX7_takes 5 = .ok (.ifCond .eq 20, 3) := by decide +kernel
theorem dX7_takes_8 : decode cX7_takes 8 = .ok (.aload_n 0, 1) := by decide +kernel
theorem dX7_takes_9 : decode cX7_takes 9 = .ok (.iload_n 2, 1) := by decide +kernel
theorem dX7_takes_10 : decode cX7_takes 10 = .ok (.invokevirtual 92, 3) := by decide +kernel
theorem dX7_takes_13 : decode cX7_takes 13 = .ok (.ifCond .eq 12, 3) := by decide +kernel
theorem dX7_takes_16 : decode cX7_takes 16 = .ok (.aload_n 0, 1) := by decide +kernel
theorem dX7_takes_17 : decode cX7_takes 17 = .ok (.iload_n 1, 1) := by decide +kernel
theorem dX7_takes_18 : decode cX7_takes 18 = .ok (.iload_n 2, 1) := by decide +kernel
theorem dX7_takes_19 : decode cX7_takes 19 = .ok (.invokevirtual 199, 3) := by decide +kernel
theorem dX7_takes_22 : decode cX7_takes 22 = .ok (.goto 8, 3) := by decide +kernel
theorem dX7_takes_25 : decode cX7_takes 25 = .ok (.aload_n 0, 1) := by decide +kernel
theorem dX7_takes_26 : decode cX7_takes 26 = .ok (.iconst (-1), 1) := by decide +kernel
theorem dX7_takes_27 : decode cX7_takes 27 = .ok (.invokevirtual 103, 3) := by decide +kernel
theorem dX7_takes_30 : decode cX7_takes 30 = .ok (.ireturn, 1) := by decide +kernel
theorem dX7_shows_0 : decode cX7_shows 0 = .ok (.iload_n 1, 1) := by decide +kernel
theorem dX7_shows_1 : decode cX7_shows 1 = .ok (.iconst 0, 1) := by decide +kernel
theorem dX7_shows_2 : decode cX7_shows 2 = .ok (.iconst 2, 1) := by decide +kernel
theorem dX7_shows_3 : decode cX7_shows 3 = .ok (.invokestatic 96, 3) := by decide +kernel
theorem dX7_shows_6 : decode cX7_shows 6 = .ok (.istore_n 2, 1) := by decide +kernel
theorem dX7_shows_7 : decode cX7_shows 7 = .ok (.iload_n 2, 1) := by decide +kernel
theorem dX7_shows_8 : decode cX7_shows 8 = .ok (.ifCond .eq 9, 3) := by decide +kernel
theorem dX7_shows_11 : decode cX7_shows 11 = .ok (.aload_n 0, 1) := by decide +kernel
theorem dX7_shows_12 : decode cX7_shows 12 = .ok (.iload_n 2, 1) := by decide +kernel
theorem dX7_shows_13 : decode cX7_shows 13 = .ok (.invokevirtual 103, 3) := by decide +kernel
theorem dX7_shows_16 : decode cX7_shows 16 = .ok (.ireturn, 1) := by decide +kernel
theorem dX7_shows_17 : decode cX7_shows 17 = .ok (.iconst 0, 1) := by decide +kernel
theorem dX7_shows_18 : decode cX7_shows 18 = .ok (.istore_n 3, 1) := by decide +kernel
theorem dX7_shows_19 : decode cX7_shows 19 = .ok (.iconst 0, 1) := by decide +kernel
theorem dX7_shows_20 : decode cX7_shows 20 = .ok (.istore 4, 2) := by decide +kernel
theorem dX7_shows_22 : decode cX7_shows 22 = .ok (.iload 4, 2) := by decide +kernel
theorem dX7_shows_24 : decode cX7_shows 24 = .ok (.iconst 4, 1) := by decide +kernel
theorem dX7_shows_25 : decode cX7_shows 25 = .ok (.if_icmp .ge 30, 3) := by decide +kernel
theorem dX7_shows_28 : decode cX7_shows 28 = .ok (.iload_n 3, 1) := by decide +kernel
theorem dX7_shows_29 : decode cX7_shows 29 = .ok (.aload_n 0, 1) := by decide +kernel
theorem dX7_shows_30 : decode cX7_shows 30 = .ok (.iload 4, 2) := by decide +kernel
theorem dX7_shows_32 : decode cX7_shows 32 = .ok (.iload_n 1, 1) := by decide +kernel
theorem dX7_shows_33 : decode cX7_shows 33 = .ok (.invokevirtual 203, 3) := by decide +kernel
theorem dX7_shows_36 : decode cX7_shows 36 = .ok (.ifCond .eq 10, 3) := by decide +kernel
theorem dX7_shows_39 : decode cX7_shows 39 = .ok (.iconst 1, 1) := by decide +kernel
theorem dX7_shows_40 : decode cX7_shows 40 = .ok (.iload 4, 2) := by decide +kernel
theorem dX7_shows_42 : decode cX7_shows 42 = .ok (.ishl, 1) := by decide +kernel
theorem dX7_shows_43 : decode cX7_shows 43 = .ok (.goto 4, 3) := by decide +kernel
theorem dX7_shows_46 : decode cX7_shows 46 = .ok (.iconst 0, 1) := by decide +kernel
theorem dX7_shows_47 : decode cX7_shows 47 = .ok (.ior, 1) := by decide +kernel
theorem dX7_shows_48 : decode cX7_shows 48 = .ok (.istore_n 3, 1) := by decide +kernel
theorem dX7_shows_49 : decode cX7_shows 49 = .ok (.iinc 4 1, 3) := by decide +kernel
theorem dX7_shows_52 : decode cX7_shows 52 = .ok (.goto (-30), 3) := by decide +kernel
theorem dX7_shows_55 : decode cX7_shows 55 = .ok (.iload_n 3, 1) := by decide +kernel
theorem dX7_shows_56 : decode cX7_shows 56 = .ok (.ireturn, 1) := by decide +kernel
theorem dX7_tilt_0 : decode cX7_tilt 0 = .ok (.iload_n 1, 1) := by decide +kernel
theorem dX7_tilt_1 : decode cX7_tilt 1 = .ok (.iconst (-1), 1) := by decide +kernel
theorem dX7_tilt_2 : decode cX7_tilt 2 = .ok (.iconst 1, 1) := by decide +kernel
theorem dX7_tilt_3 : decode cX7_tilt 3 = .ok (.invokestatic 96, 3) := by decide +kernel
theorem dX7_tilt_6 : decode cX7_tilt 6 = .ok (.istore_n 2, 1) := by decide +kernel
theorem dX7_tilt_7 : decode cX7_tilt 7 = .ok (.iload_n 2, 1) := by decide +kernel
theorem dX7_tilt_8 : decode cX7_tilt 8 = .ok (.ifCond .eq 9, 3) := by decide +kernel
theorem dX7_tilt_11 : decode cX7_tilt 11 = .ok (.aload_n 0, 1) := by decide +kernel
theorem dX7_tilt_12 : decode cX7_tilt 12 = .ok (.iload_n 2, 1) := by decide +kernel
theorem dX7_tilt_13 : decode cX7_tilt 13 = .ok (.invokevirtual 103, 3) := by decide +kernel
theorem dX7_tilt_16 : decode cX7_tilt 16 = .ok (.ireturn, 1) := by decide +kernel
theorem dX7_tilt_17 : decode cX7_tilt 17 = .ok (.aload_n 0, 1) := by decide +kernel
theorem dX7_tilt_18 : decode cX7_tilt 18 = .ok (.getfield 148, 3) := by decide +kernel
theorem dX7_tilt_21 : decode cX7_tilt 21 = .ok (.istore_n 3, 1) := by decide +kernel
theorem dX7_tilt_22 : decode cX7_tilt 22 = .ok (.aload_n 0, 1) := by decide +kernel
theorem dX7_tilt_23 : decode cX7_tilt 23 = .ok (.iload_n 1, 1) := by decide +kernel
theorem dX7_tilt_24 : decode cX7_tilt 24 = .ok (.putfield 148, 3) := by decide +kernel
theorem dX7_tilt_27 : decode cX7_tilt 27 = .ok (.iconst 1, 1) := by decide +kernel
theorem dX7_tilt_28 : decode cX7_tilt 28 = .ok (.iload_n 3, 1) := by decide +kernel
theorem dX7_tilt_29 : decode cX7_tilt 29 = .ok (.iadd, 1) := by decide +kernel
theorem dX7_tilt_30 : decode cX7_tilt 30 = .ok (.ireturn, 1) := by decide +kernel
theorem dX7_base_0 : decode cX7_base 0 = .ok (.iload_n 1, 1) := by decide +kernel
theorem dX7_base_1 : decode cX7_base 1 = .ok (.bipush 10, 2) := by decide +kernel
theorem dX7_base_3 : decode cX7_base 3 = .ok (.bipush 99, 2) := by decide +kernel
theorem dX7_base_5 : decode cX7_base 5 = .ok (.invokestatic 96, 3) := by decide +kernel
theorem dX7_base_8 : decode cX7_base 8 = .ok (.istore_n 2, 1) := by decide +kernel
theorem dX7_base_9 : decode cX7_base 9 = .ok (.iload_n 2, 1) := by decide +kernel
theorem dX7_base_10 : decode cX7_base 10 = .ok (.ifCond .eq 9, 3) := by decide +kernel
theorem dX7_base_13 : decode cX7_base 13 = .ok (.aload_n 0, 1) := by decide +kernel
theorem dX7_base_14 : decode cX7_base 14 = .ok (.iload_n 2, 1) := by decide +kernel
theorem dX7_base_15 : decode cX7_base 15 = .ok (.invokevirtual 103, 3) := by decide +kernel
theorem dX7_base_18 : decode cX7_base 18 = .ok (.ireturn, 1) := by decide +kernel
theorem dX7_base_19 : decode cX7_base 19 = .ok (.aload_n 0, 1) := by decide +kernel
theorem dX7_base_20 : decode cX7_base 20 = .ok (.getfield 49, 3) := by decide +kernel
theorem dX7_base_23 : decode cX7_base 23 = .ok (.istore_n 3, 1) := by decide +kernel
theorem dX7_base_24 : decode cX7_base 24 = .ok (.aload_n 0, 1) := by decide +kernel
theorem dX7_base_25 : decode cX7_base 25 = .ok (.iload_n 1, 1) := by decide +kernel
theorem dX7_base_26 : decode cX7_base 26 = .ok (.putfield 49, 3) := by decide +kernel
theorem dX7_base_29 : decode cX7_base 29 = .ok (.iload_n 3, 1) := by decide +kernel
theorem dX7_base_30 : decode cX7_base 30 = .ok (.ireturn, 1) := by decide +kernel
theorem dX7_sit_0 : decode cX7_sit 0 = .ok (.aload_n 0, 1) := by decide +kernel
theorem dX7_sit_1 : decode cX7_sit 1 = .ok (.iload_n 1, 1) := by decide +kernel
theorem dX7_sit_2 : decode cX7_sit 2 = .ok (.invokevirtual 92, 3) := by decide +kernel
theorem dX7_sit_5 : decode cX7_sit 5 = .ok (.ifCond .ne 7, 3) := by decide +kernel
theorem dX7_sit_8 : decode cX7_sit 8 = .ok (.iconst (-1), 1) := by decide +kernel
theorem dX7_sit_9 : decode cX7_sit 9 = .ok (.goto 9, 3) := by decide +kernel
theorem dX7_sit_12 : decode cX7_sit 12 = .ok (.iload_n 2, 1) := by decide +kernel
theorem dX7_sit_13 : decode cX7_sit 13 = .ok (.iconst 0, 1) := by decide +kernel
theorem dX7_sit_14 : decode cX7_sit 14 = .ok (.iconst 2, 1) := by decide +kernel
theorem dX7_sit_15 : decode cX7_sit 15 = .ok (.invokestatic 96, 3) := by decide +kernel
theorem dX7_sit_18 : decode cX7_sit 18 = .ok (.istore_n 3, 1) := by decide +kernel
theorem dX7_sit_19 : decode cX7_sit 19 = .ok (.iload_n 3, 1) := by decide +kernel
theorem dX7_sit_20 : decode cX7_sit 20 = .ok (.ifCond .eq 9, 3) := by decide +kernel
theorem dX7_sit_23 : decode cX7_sit 23 = .ok (.aload_n 0, 1) := by decide +kernel
theorem dX7_sit_24 : decode cX7_sit 24 = .ok (.iload_n 3, 1) := by decide +kernel
theorem dX7_sit_25 : decode cX7_sit 25 = .ok (.invokevirtual 103, 3) := by decide +kernel
theorem dX7_sit_28 : decode cX7_sit 28 = .ok (.ireturn, 1) := by decide +kernel
theorem dX7_sit_29 : decode cX7_sit 29 = .ok (.aload_n 0, 1) := by decide +kernel
theorem dX7_sit_30 : decode cX7_sit 30 = .ok (.getfield 25, 3) := by decide +kernel
theorem dX7_sit_33 : decode cX7_sit 33 = .ok (.iload_n 1, 1) := by decide +kernel
theorem dX7_sit_34 : decode cX7_sit 34 = .ok (.iaload, 1) := by decide +kernel
theorem dX7_sit_35 : decode cX7_sit 35 = .ok (.istore 4, 2) := by decide +kernel
theorem dX7_sit_37 : decode cX7_sit 37 = .ok (.aload_n 0, 1) := by decide +kernel
theorem dX7_sit_38 : decode cX7_sit 38 = .ok (.getfield 25, 3) := by decide +kernel
theorem dX7_sit_41 : decode cX7_sit 41 = .ok (.iload_n 1, 1) := by decide +kernel
theorem dX7_sit_42 : decode cX7_sit 42 = .ok (.iload_n 2, 1) := by decide +kernel
theorem dX7_sit_43 : decode cX7_sit 43 = .ok (.iastore, 1) := by decide +kernel
theorem dX7_sit_44 : decode cX7_sit 44 = .ok (.iload 4, 2) := by decide +kernel
theorem dX7_sit_46 : decode cX7_sit 46 = .ok (.ireturn, 1) := by decide +kernel
theorem dX7_minds_0 : decode cX7_minds 0 = .ok (.aload_n 0, 1) := by decide +kernel
theorem dX7_minds_1 : decode cX7_minds 1 = .ok (.iload_n 1, 1) := by decide +kernel
theorem dX7_minds_2 : decode cX7_minds 2 = .ok (.putfield 206, 3) := by decide +kernel
theorem dX7_minds_5 : decode cX7_minds 5 = .ok (.aload_n 0, 1) := by decide +kernel
theorem dX7_minds_6 : decode cX7_minds 6 = .ok (.aload_n 0, 1) := by decide +kernel
theorem dX7_minds_7 : decode cX7_minds 7 = .ok (.getfield 34, 3) := by decide +kernel
theorem dX7_minds_10 : decode cX7_minds 10 = .ok (.iload_n 1, 1) := by decide +kernel
theorem dX7_minds_11 : decode cX7_minds 11 = .ok (.iaload, 1) := by decide +kernel
theorem dX7_minds_12 : decode cX7_minds 12 = .ok (.putfield 209, 3) := by decide +kernel
theorem dX7_minds_15 : decode cX7_minds 15 = .ok (.aload_n 0, 1) := by decide +kernel
theorem dX7_minds_16 : decode cX7_minds 16 = .ok (.aload_n 0, 1) := by decide +kernel
theorem dX7_minds_17 : decode cX7_minds 17 = .ok (.getfield 37, 3) := by decide +kernel
theorem dX7_minds_20 : decode cX7_minds 20 = .ok (.iload_n 1, 1) := by decide +kernel
theorem dX7_minds_21 : decode cX7_minds 21 = .ok (.iaload, 1) := by decide +kernel
theorem dX7_minds_22 : decode cX7_minds 22 = .ok (.putfield 212, 3) := by decide +kernel
theorem dX7_minds_25 : decode cX7_minds 25 = .ok (.aload_n 0, 1) := by decide +kernel
theorem dX7_minds_26 : decode cX7_minds 26 = .ok (.aload_n 0, 1) := by decide +kernel
theorem dX7_minds_27 : decode cX7_minds 27 = .ok (.getfield 40, 3) := by decide +kernel
theorem dX7_minds_30 : decode cX7_minds 30 = .ok (.iload_n 1, 1) := by decide +kernel
theorem dX7_minds_31 : decode cX7_minds 31 = .ok (.iaload, 1) := by decide +kernel
theorem dX7_minds_32 : decode cX7_minds 32 = .ok (.putfield 215, 3) := by decide +kernel
theorem dX7_minds_35 : decode cX7_minds 35 = .ok (.aload_n 0, 1) := by decide +kernel
theorem dX7_minds_36 : decode cX7_minds 36 = .ok (.aload_n 0, 1) := by decide +kernel
theorem dX7_minds_37 : decode cX7_minds 37 = .ok (.getfield 43, 3) := by decide +kernel
theorem dX7_minds_40 : decode cX7_minds 40 = .ok (.iload_n 1, 1) := by decide +kernel
theorem dX7_minds_41 : decode cX7_minds 41 = .ok (.iaload, 1) := by decide +kernel
theorem dX7_minds_42 : decode cX7_minds 42 = .ok (.putfield 218, 3) := by decide +kernel
theorem dX7_minds_45 : decode cX7_minds 45 = .ok (.aload_n 0, 1) := by decide +kernel
theorem dX7_minds_46 : decode cX7_minds 46 = .ok (.aload_n 0, 1) := by decide +kernel
theorem dX7_minds_47 : decode cX7_minds 47 = .ok (.getfield 46, 3) := by decide +kernel
theorem dX7_minds_50 : decode cX7_minds 50 = .ok (.iload_n 1, 1) := by decide +kernel
theorem dX7_minds_51 : decode cX7_minds 51 = .ok (.iaload, 1) := by decide +kernel
theorem dX7_minds_52 : decode cX7_minds 52 = .ok (.putfield 221, 3) := by decide +kernel
theorem dX7_minds_55 : decode cX7_minds 55 = .ok (.return_, 1) := by decide +kernel
theorem dX7_isMinded_0 : decode cX7_isMinded 0 = .ok (.aload_n 0, 1) := by decide +kernel
theorem dX7_isMinded_1 : decode cX7_isMinded 1 = .ok (.getfield 34, 3) := by decide +kernel
theorem dX7_isMinded_4 : decode cX7_isMinded 4 = .ok (.aload_n 0, 1) := by decide +kernel
theorem dX7_isMinded_5 : decode cX7_isMinded 5 = .ok (.getfield 206, 3) := by decide +kernel
theorem dX7_isMinded_8 : decode cX7_isMinded 8 = .ok (.aload_n 0, 1) := by decide +kernel
theorem dX7_isMinded_9 : decode cX7_isMinded 9 = .ok (.getfield 209, 3) := by decide +kernel
theorem dX7_isMinded_12 : decode cX7_isMinded 12 = .ok (.iastore, 1) := by decide +kernel
theorem dX7_isMinded_13 : decode cX7_isMinded 13 = .ok (.aload_n 0, 1) := by decide +kernel
theorem dX7_isMinded_14 : decode cX7_isMinded 14 = .ok (.getfield 37, 3) := by decide +kernel
theorem dX7_isMinded_17 : decode cX7_isMinded 17 = .ok (.aload_n 0, 1) := by decide +kernel
theorem dX7_isMinded_18 : decode cX7_isMinded 18 = .ok (.getfield 206, 3) := by decide +kernel
theorem dX7_isMinded_21 : decode cX7_isMinded 21 = .ok (.aload_n 0, 1) := by decide +kernel
theorem dX7_isMinded_22 : decode cX7_isMinded 22 = .ok (.getfield 212, 3) := by decide +kernel
theorem dX7_isMinded_25 : decode cX7_isMinded 25 = .ok (.iastore, 1) := by decide +kernel
theorem dX7_isMinded_26 : decode cX7_isMinded 26 = .ok (.aload_n 0, 1) := by decide +kernel
theorem dX7_isMinded_27 : decode cX7_isMinded 27 = .ok (.getfield 40, 3) := by decide +kernel
theorem dX7_isMinded_30 : decode cX7_isMinded 30 = .ok (.aload_n 0, 1) := by decide +kernel
theorem dX7_isMinded_31 : decode cX7_isMinded 31 = .ok (.getfield 206, 3) := by decide +kernel
theorem dX7_isMinded_34 : decode cX7_isMinded 34 = .ok (.aload_n 0, 1) := by decide +kernel
theorem dX7_isMinded_35 : decode cX7_isMinded 35 = .ok (.getfield 215, 3) := by decide +kernel
theorem dX7_isMinded_38 : decode cX7_isMinded 38 = .ok (.iastore, 1) := by decide +kernel
theorem dX7_isMinded_39 : decode cX7_isMinded 39 = .ok (.aload_n 0, 1) := by decide +kernel
theorem dX7_isMinded_40 : decode cX7_isMinded 40 = .ok (.getfield 43, 3) := by decide +kernel
theorem dX7_isMinded_43 : decode cX7_isMinded 43 = .ok (.aload_n 0, 1) := by decide +kernel
theorem dX7_isMinded_44 : decode cX7_isMinded 44 = .ok (.getfield 206, 3) := by decide +kernel
theorem dX7_isMinded_47 : decode cX7_isMinded 47 = .ok (.aload_n 0, 1) := by decide +kernel
theorem dX7_isMinded_48 : decode cX7_isMinded 48 = .ok (.getfield 218, 3) := by decide +kernel
theorem dX7_isMinded_51 : decode cX7_isMinded 51 = .ok (.iastore, 1) := by decide +kernel
theorem dX7_isMinded_52 : decode cX7_isMinded 52 = .ok (.aload_n 0, 1) := by decide +kernel
theorem dX7_isMinded_53 : decode cX7_isMinded 53 = .ok (.getfield 46, 3) := by decide +kernel
theorem dX7_isMinded_56 : decode cX7_isMinded 56 = .ok (.aload_n 0, 1) := by decide +kernel
theorem dX7_isMinded_57 : decode cX7_isMinded 57 = .ok (.getfield 206, 3) := by decide +kernel
theorem dX7_isMinded_60 : decode cX7_isMinded 60 = .ok (.aload_n 0, 1) := by decide +kernel
theorem dX7_isMinded_61 : decode cX7_isMinded 61 = .ok (.getfield 221, 3) := by decide +kernel
theorem dX7_isMinded_64 : decode cX7_isMinded 64 = .ok (.iastore, 1) := by decide +kernel
theorem dX7_isMinded_65 : decode cX7_isMinded 65 = .ok (.return_, 1) := by decide +kernel
theorem dX7_firstIn_0 : decode cX7_firstIn 0 = .ok (.aload_n 0, 1) := by decide +kernel
theorem dX7_firstIn_1 : decode cX7_firstIn 1 = .ok (.getfield 221, 3) := by decide +kernel
theorem dX7_firstIn_4 : decode cX7_firstIn 4 = .ok (.iconst 1, 1) := by decide +kernel
theorem dX7_firstIn_5 : decode cX7_firstIn 5 = .ok (.if_icmp .eq 20, 3) := by decide +kernel
theorem dX7_firstIn_8 : decode cX7_firstIn 8 = .ok (.aload_n 0, 1) := by decide +kernel
theorem dX7_firstIn_9 : decode cX7_firstIn 9 = .ok (.iload_n 1, 1) := by decide +kernel
theorem dX7_firstIn_10 : decode cX7_firstIn 10 = .ok (.aload_n 0, 1) := by decide +kernel
theorem dX7_firstIn_11 : decode cX7_firstIn 11 = .ok (.getfield 25, 3) := by decide +kernel
theorem dX7_firstIn_14 : decode cX7_firstIn 14 = .ok (.aload_n 0, 1) := by decide +kernel
theorem dX7_firstIn_15 : decode cX7_firstIn 15 = .ok (.getfield 206, 3) := by decide +kernel
theorem dX7_firstIn_18 : decode cX7_firstIn 18 = .ok (.iaload, 1) := by decide +kernel
theorem dX7_firstIn_19 : decode cX7_firstIn 19 = .ok (.invokevirtual 203, 3) := by decide +kernel
theorem dX7_firstIn_22 : decode cX7_firstIn 22 = .ok (.ifCond .ne 6, 3) := by decide +kernel
theorem dX7_firstIn_25 : decode cX7_firstIn 25 = .ok (.bipush (-9), 2) := by decide +kernel
theorem dX7_firstIn_27 : decode cX7_firstIn 27 = .ok (.ireturn, 1) := by decide +kernel
theorem dX7_firstIn_28 : decode cX7_firstIn 28 = .ok (.iconst 0, 1) := by decide +kernel
theorem dX7_firstIn_29 : decode cX7_firstIn 29 = .ok (.istore_n 2, 1) := by decide +kernel
theorem dX7_firstIn_30 : decode cX7_firstIn 30 = .ok (.iload_n 2, 1) := by decide +kernel
theorem dX7_firstIn_31 : decode cX7_firstIn 31 = .ok (.aload_n 0, 1) := by decide +kernel
theorem dX7_firstIn_32 : decode cX7_firstIn 32 = .ok (.getfield 86, 3) := by decide +kernel
theorem dX7_firstIn_35 : decode cX7_firstIn 35 = .ok (.if_icmp .ge 32, 3) := by decide +kernel
theorem dX7_firstIn_38 : decode cX7_firstIn 38 = .ok (.aload_n 0, 1) := by decide +kernel
theorem dX7_firstIn_39 : decode cX7_firstIn 39 = .ok (.getfield 13, 3) := by decide +kernel
theorem dX7_firstIn_42 : decode cX7_firstIn 42 = .ok (.iload_n 2, 1) := by decide +kernel
theorem dX7_firstIn_43 : decode cX7_firstIn 43 = .ok (.iaload, 1) := by decide +kernel
theorem dX7_firstIn_44 : decode cX7_firstIn 44 = .ok (.iload_n 1, 1) := by decide +kernel
theorem dX7_firstIn_45 : decode cX7_firstIn 45 = .ok (.if_icmp .ne 16, 3) := by decide +kernel
theorem dX7_firstIn_48 : decode cX7_firstIn 48 = .ok (.aload_n 0, 1) := by decide +kernel
theorem dX7_firstIn_49 : decode cX7_firstIn 49 = .ok (.getfield 218, 3) := by decide +kernel
theorem dX7_firstIn_52 : decode cX7_firstIn 52 = .ok (.iload_n 2, 1) := by decide +kernel
theorem dX7_firstIn_53 : decode cX7_firstIn 53 = .ok (.ishr, 1) := by decide +kernel
theorem dX7_firstIn_54 : decode cX7_firstIn 54 = .ok (.iconst 1, 1) := by decide +kernel
theorem dX7_firstIn_55 : decode cX7_firstIn 55 = .ok (.iand, 1) := by decide +kernel
theorem dX7_firstIn_56 : decode cX7_firstIn 56 = .ok (.ifCond .ne 5, 3) := by decide +kernel
theorem dX7_firstIn_59 : decode cX7_firstIn 59 = .ok (.iload_n 2, 1) := by decide +kernel
theorem dX7_firstIn_60 : decode cX7_firstIn 60 = .ok (.ireturn, 1) := by decide +kernel
theorem dX7_firstIn_61 : decode cX7_firstIn 61 = .ok (.iinc 2 1, 3) := by decide +kernel
theorem dX7_firstIn_64 : decode cX7_firstIn 64 = .ok (.goto (-34), 3) := by decide +kernel
theorem dX7_firstIn_67 : decode cX7_firstIn 67 = .ok (.bipush (-9), 2) := by decide +kernel
theorem dX7_firstIn_69 : decode cX7_firstIn 69 = .ok (.ireturn, 1) := by decide +kernel
theorem dX7_reads_0 : decode cX7_reads 0 = .ok (.aload_n 0, 1) := by decide +kernel
theorem dX7_reads_1 : decode cX7_reads 1 = .ok (.iload_n 1, 1) := by decide +kernel
theorem dX7_reads_2 : decode cX7_reads 2 = .ok (.aload_n 0, 1) := by decide +kernel
theorem dX7_reads_3 : decode cX7_reads 3 = .ok (.getfield 206, 3) := by decide +kernel
theorem dX7_reads_6 : decode cX7_reads 6 = .ok (.invokevirtual 199, 3) := by decide +kernel
theorem dX7_reads_9 : decode cX7_reads 9 = .ok (.istore_n 2, 1) := by decide +kernel
theorem dX7_reads_10 : decode cX7_reads 10 = .ok (.aload_n 0, 1) := by decide +kernel
theorem dX7_reads_11 : decode cX7_reads 11 = .ok (.dup, 1) := by decide +kernel
theorem dX7_reads_12 : decode cX7_reads 12 = .ok (.getfield 209, 3) := by decide +kernel
theorem dX7_reads_15 : decode cX7_reads 15 = .ok (.iload_n 2, 1) := by decide +kernel
theorem dX7_reads_16 : decode cX7_reads 16 = .ok (.iadd, 1) := by decide +kernel
theorem dX7_reads_17 : decode cX7_reads 17 = .ok (.putfield 209, 3) := by decide +kernel
theorem dX7_reads_20 : decode cX7_reads 20 = .ok (.aload_n 0, 1) := by decide +kernel
theorem dX7_reads_21 : decode cX7_reads 21 = .ok (.dup, 1) := by decide +kernel
theorem dX7_reads_22 : decode cX7_reads 22 = .ok (.getfield 212, 3) := by decide +kernel
theorem dX7_reads_25 : decode cX7_reads 25 = .ok (.iload_n 2, 1) := by decide +kernel
theorem dX7_reads_26 : decode cX7_reads 26 = .ok (.iadd, 1) := by decide +kernel
theorem dX7_reads_27 : decode cX7_reads 27 = .ok (.putfield 212, 3) := by decide +kernel
theorem dX7_reads_30 : decode cX7_reads 30 = .ok (.aload_n 0, 1) := by decide +kernel
theorem dX7_reads_31 : decode cX7_reads 31 = .ok (.getfield 212, 3) := by decide +kernel
theorem dX7_reads_34 : decode cX7_reads 34 = .ok (.aload_n 0, 1) := by decide +kernel
theorem dX7_reads_35 : decode cX7_reads 35 = .ok (.getfield 31, 3) := by decide +kernel
theorem dX7_reads_38 : decode cX7_reads 38 = .ok (.aload_n 0, 1) := by decide +kernel
theorem dX7_reads_39 : decode cX7_reads 39 = .ok (.getfield 206, 3) := by decide +kernel
theorem dX7_reads_42 : decode cX7_reads 42 = .ok (.iaload, 1) := by decide +kernel
theorem dX7_reads_43 : decode cX7_reads 43 = .ok (.if_icmp .le 18, 3) := by decide +kernel
theorem dX7_reads_46 : decode cX7_reads 46 = .ok (.aload_n 0, 1) := by decide +kernel
theorem dX7_reads_47 : decode cX7_reads 47 = .ok (.dup, 1) := by decide +kernel
theorem dX7_reads_48 : decode cX7_reads 48 = .ok (.getfield 215, 3) := by decide +kernel
theorem dX7_reads_51 : decode cX7_reads 51 = .ok (.iconst 1, 1) := by decide +kernel
theorem dX7_reads_52 : decode cX7_reads 52 = .ok (.iadd, 1) := by decide +kernel
theorem dX7_reads_53 : decode cX7_reads 53 = .ok (.putfield 215, 3) := by decide +kernel
theorem dX7_reads_56 : decode cX7_reads 56 = .ok (.aload_n 0, 1) := by decide +kernel
theorem dX7_reads_57 : decode cX7_reads 57 = .ok (.iconst 0, 1) := by decide +kernel
theorem dX7_reads_58 : decode cX7_reads 58 = .ok (.putfield 212, 3) := by decide +kernel
theorem dX7_reads_61 : decode cX7_reads 61 = .ok (.aload_n 0, 1) := by decide +kernel
theorem dX7_reads_62 : decode cX7_reads 62 = .ok (.getfield 209, 3) := by decide +kernel
theorem dX7_reads_65 : decode cX7_reads 65 = .ok (.aload_n 0, 1) := by decide +kernel
theorem dX7_reads_66 : decode cX7_reads 66 = .ok (.aload_n 0, 1) := by decide +kernel
theorem dX7_reads_67 : decode cX7_reads 67 = .ok (.getfield 215, 3) := by decide +kernel
theorem dX7_reads_70 : decode cX7_reads 70 = .ok (.invokevirtual 193, 3) := by decide +kernel
theorem dX7_reads_73 : decode cX7_reads 73 = .ok (.aload_n 0, 1) := by decide +kernel
theorem dX7_reads_74 : decode cX7_reads 74 = .ok (.getfield 224, 3) := by decide +kernel
theorem dX7_reads_77 : decode cX7_reads 77 = .ok (.isub, 1) := by decide +kernel
theorem dX7_reads_78 : decode cX7_reads 78 = .ok (.if_icmp .gt 29, 3) := by decide +kernel
theorem dX7_reads_81 : decode cX7_reads 81 = .ok (.aload_n 0, 1) := by decide +kernel
theorem dX7_reads_82 : decode cX7_reads 82 = .ok (.getfield 209, 3) := by decide +kernel
theorem dX7_reads_85 : decode cX7_reads 85 = .ok (.aload_n 0, 1) := by decide +kernel
theorem dX7_reads_86 : decode cX7_reads 86 = .ok (.getfield 68, 3) := by decide +kernel
theorem dX7_reads_89 : decode cX7_reads 89 = .ok (.if_icmp .gt 18, 3) := by decide +kernel
theorem dX7_reads_92 : decode cX7_reads 92 = .ok (.aload_n 0, 1) := by decide +kernel
theorem dX7_reads_93 : decode cX7_reads 93 = .ok (.dup, 1) := by decide +kernel
theorem dX7_reads_94 : decode cX7_reads 94 = .ok (.getfield 218, 3) := by decide +kernel
theorem dX7_reads_97 : decode cX7_reads 97 = .ok (.iconst 1, 1) := by decide +kernel
theorem dX7_reads_98 : decode cX7_reads 98 = .ok (.iload_n 1, 1) := by decide +kernel
theorem dX7_reads_99 : decode cX7_reads 99 = .ok (.ishl, 1) := by decide +kernel
theorem dX7_reads_100 : decode cX7_reads 100 = .ok (.ior, 1) := by decide +kernel
theorem dX7_reads_101 : decode cX7_reads 101 = .ok (.putfield 218, 3) := by decide +kernel
theorem dX7_reads_104 : decode cX7_reads 104 = .ok (.goto 8, 3) := by decide +kernel
theorem dX7_reads_107 : decode cX7_reads 107 = .ok (.aload_n 0, 1) := by decide +kernel
theorem dX7_reads_108 : decode cX7_reads 108 = .ok (.iconst 1, 1) := by decide +kernel
theorem dX7_reads_109 : decode cX7_reads 109 = .ok (.putfield 221, 3) := by decide +kernel
theorem dX7_reads_112 : decode cX7_reads 112 = .ok (.return_, 1) := by decide +kernel
theorem dX7_looksAway_0 : decode cX7_looksAway 0 = .ok (.aload_n 0, 1) := by decide +kernel
theorem dX7_looksAway_1 : decode cX7_looksAway 1 = .ok (.iconst 0, 1) := by decide +kernel
theorem dX7_looksAway_2 : decode cX7_looksAway 2 = .ok (.putfield 212, 3) := by decide +kernel
theorem dX7_looksAway_5 : decode cX7_looksAway 5 = .ok (.aload_n 0, 1) := by decide +kernel
theorem dX7_looksAway_6 : decode cX7_looksAway 6 = .ok (.dup, 1) := by decide +kernel
theorem dX7_looksAway_7 : decode cX7_looksAway 7 = .ok (.getfield 209, 3) := by decide +kernel
theorem dX7_looksAway_10 : decode cX7_looksAway 10 = .ok (.iload_n 1, 1) := by decide +kernel
theorem dX7_looksAway_11 : decode cX7_looksAway 11 = .ok (.iadd, 1) := by decide +kernel
theorem dX7_looksAway_12 : decode cX7_looksAway 12 = .ok (.putfield 209, 3) := by decide +kernel
theorem dX7_looksAway_15 : decode cX7_looksAway 15 = .ok (.aload_n 0, 1) := by decide +kernel
theorem dX7_looksAway_16 : decode cX7_looksAway 16 = .ok (.getfield 209, 3) := by decide +kernel
theorem dX7_looksAway_19 : decode cX7_looksAway 19 = .ok (.aload_n 0, 1) := by decide +kernel
theorem dX7_looksAway_20 : decode cX7_looksAway 20 = .ok (.aload_n 0, 1) := by decide +kernel
theorem dX7_looksAway_21 : decode cX7_looksAway 21 = .ok (.getfield 215, 3) := by decide +kernel
theorem dX7_looksAway_24 : decode cX7_looksAway 24 = .ok (.invokevirtual 193, 3) := by decide +kernel
theorem dX7_looksAway_27 : decode cX7_looksAway 27 = .ok (.if_icmp .le 8, 3) := by decide +kernel
theorem dX7_looksAway_30 : decode cX7_looksAway 30 = .ok (.aload_n 0, 1) := by decide +kernel
theorem dX7_looksAway_31 : decode cX7_looksAway 31 = .ok (.iconst 1, 1) := by decide +kernel
theorem dX7_looksAway_32 : decode cX7_looksAway 32 = .ok (.putfield 221, 3) := by decide +kernel
theorem dX7_looksAway_35 : decode cX7_looksAway 35 = .ok (.return_, 1) := by decide +kernel
theorem dX7_read_0 : decode cX7_read 0 = .ok (.aload_n 0, 1) := by decide +kernel
theorem dX7_read_1 : decode cX7_read 1 = .ok (.iload_n 1, 1) := by decide +kernel
theorem dX7_read_2 : decode cX7_read 2 = .ok (.invokevirtual 92, 3) := by decide +kernel
theorem dX7_read_5 : decode cX7_read 5 = .ok (.ifCond .eq 12, 3) := by decide +kernel
theorem dX7_read_8 : decode cX7_read 8 = .ok (.iload_n 2, 1) := by decide +kernel
theorem dX7_read_9 : decode cX7_read 9 = .ok (.iconst 0, 1) := by decide +kernel
theorem dX7_read_10 : decode cX7_read 10 = .ok (.iconst 3, 1) := by decide +kernel
theorem dX7_read_11 : decode cX7_read 11 = .ok (.invokestatic 114, 3) := by decide +kernel
theorem dX7_read_14 : decode cX7_read 14 = .ok (.ifCond .ne 9, 3) := by decide +kernel
theorem dX7_read_17 : decode cX7_read 17 = .ok (.aload_n 0, 1) := by decide +kernel
theorem dX7_read_18 : decode cX7_read 18 = .ok (.iconst (-1), 1) := by decide +kernel
theorem dX7_read_19 : decode cX7_read 19 = .ok (.invokevirtual 103, 3) := by decide +kernel
theorem dX7_read_22 : decode cX7_read 22 = .ok (.ireturn, 1) := by decide +kernel
theorem dX7_read_23 : decode cX7_read 23 = .ok (.aload_n 0, 1) := by decide +kernel
theorem dX7_read_24 : decode cX7_read 24 = .ok (.iload_n 1, 1) := by decide +kernel
theorem dX7_read_25 : decode cX7_read 25 = .ok (.invokevirtual 227, 3) := by decide +kernel
theorem dX7_read_28 : decode cX7_read 28 = .ok (.aload_n 0, 1) := by decide +kernel
theorem dX7_read_29 : decode cX7_read 29 = .ok (.iload_n 2, 1) := by decide +kernel
theorem dX7_read_30 : decode cX7_read 30 = .ok (.invokevirtual 230, 3) := by decide +kernel
theorem dX7_read_33 : decode cX7_read 33 = .ok (.istore_n 3, 1) := by decide +kernel
theorem dX7_read_34 : decode cX7_read 34 = .ok (.iload_n 3, 1) := by decide +kernel
theorem dX7_read_35 : decode cX7_read 35 = .ok (.ifCond .ge 10, 3) := by decide +kernel
theorem dX7_read_38 : decode cX7_read 38 = .ok (.aload_n 0, 1) := by decide +kernel
theorem dX7_read_39 : decode cX7_read 39 = .ok (.bipush (-3), 2) := by decide +kernel
theorem dX7_read_41 : decode cX7_read 41 = .ok (.invokevirtual 103, 3) := by decide +kernel
theorem dX7_read_44 : decode cX7_read 44 = .ok (.ireturn, 1) := by decide +kernel
theorem dX7_read_45 : decode cX7_read 45 = .ok (.aload_n 0, 1) := by decide +kernel
theorem dX7_read_46 : decode cX7_read 46 = .ok (.iload_n 3, 1) := by decide +kernel
theorem dX7_read_47 : decode cX7_read 47 = .ok (.invokevirtual 233, 3) := by decide +kernel
theorem dX7_read_50 : decode cX7_read 50 = .ok (.aload_n 0, 1) := by decide +kernel
theorem dX7_read_51 : decode cX7_read 51 = .ok (.invokevirtual 236, 3) := by decide +kernel
theorem dX7_read_54 : decode cX7_read 54 = .ok (.aload_n 0, 1) := by decide +kernel
theorem dX7_read_55 : decode cX7_read 55 = .ok (.getfield 221, 3) := by decide +kernel
theorem dX7_read_58 : decode cX7_read 58 = .ok (.iconst 1, 1) := by decide +kernel
theorem dX7_read_59 : decode cX7_read 59 = .ok (.if_icmp .ne 8, 3) := by decide +kernel
theorem dX7_read_62 : decode cX7_read 62 = .ok (.bipush (-9), 2) := by decide +kernel
theorem dX7_read_64 : decode cX7_read 64 = .ok (.goto 4, 3) := by decide +kernel
theorem dX7_read_67 : decode cX7_read 67 = .ok (.iload_n 3, 1) := by decide +kernel
theorem dX7_read_68 : decode cX7_read 68 = .ok (.ireturn, 1) := by decide +kernel
theorem dX7_away_0 : decode cX7_away 0 = .ok (.aload_n 0, 1) := by decide +kernel
theorem dX7_away_1 : decode cX7_away 1 = .ok (.iload_n 1, 1) := by decide +kernel
theorem dX7_away_2 : decode cX7_away 2 = .ok (.invokevirtual 92, 3) := by decide +kernel
theorem dX7_away_5 : decode cX7_away 5 = .ok (.ifCond .ne 7, 3) := by decide +kernel
theorem dX7_away_8 : decode cX7_away 8 = .ok (.iconst (-1), 1) := by decide +kernel
theorem dX7_away_9 : decode cX7_away 9 = .ok (.goto 10, 3) := by decide +kernel
theorem dX7_away_12 : decode cX7_away 12 = .ok (.iload_n 2, 1) := by decide +kernel
theorem dX7_away_13 : decode cX7_away 13 = .ok (.iconst 1, 1) := by decide +kernel
theorem dX7_away_14 : decode cX7_away 14 = .ok (.bipush 60, 2) := by decide +kernel
theorem dX7_away_16 : decode cX7_away 16 = .ok (.invokestatic 96, 3) := by decide +kernel
theorem dX7_away_19 : decode cX7_away 19 = .ok (.istore_n 3, 1) := by decide +kernel
theorem dX7_away_20 : decode cX7_away 20 = .ok (.iload_n 3, 1) := by decide +kernel
theorem dX7_away_21 : decode cX7_away 21 = .ok (.ifCond .ne 16, 3) := by decide +kernel
theorem dX7_away_24 : decode cX7_away 24 = .ok (.aload_n 0, 1) := by decide +kernel
theorem dX7_away_25 : decode cX7_away 25 = .ok (.getfield 46, 3) := by decide +kernel
theorem dX7_away_28 : decode cX7_away 28 = .ok (.iload_n 1, 1) := by decide +kernel
theorem dX7_away_29 : decode cX7_away 29 = .ok (.iaload, 1) := by decide +kernel
theorem dX7_away_30 : decode cX7_away 30 = .ok (.iconst 1, 1) := by decide +kernel
theorem dX7_away_31 : decode cX7_away 31 = .ok (.if_icmp .ne 6, 3) := by decide +kernel
theorem dX7_away_34 : decode cX7_away 34 = .ok (.bipush (-3), 2) := by decide +kernel
theorem dX7_away_36 : decode cX7_away 36 = .ok (.istore_n 3, 1) := by decide +kernel
theorem dX7_away_37 : decode cX7_away 37 = .ok (.iload_n 3, 1) := by decide +kernel
theorem dX7_away_38 : decode cX7_away 38 = .ok (.ifCond .eq 9, 3) := by decide +kernel
theorem dX7_away_41 : decode cX7_away 41 = .ok (.aload_n 0, 1) := by decide +kernel
theorem dX7_away_42 : decode cX7_away 42 = .ok (.iload_n 3, 1) := by decide +kernel
theorem dX7_away_43 : decode cX7_away 43 = .ok (.invokevirtual 103, 3) := by decide +kernel
theorem dX7_away_46 : decode cX7_away 46 = .ok (.ireturn, 1) := by decide +kernel
theorem dX7_away_47 : decode cX7_away 47 = .ok (.aload_n 0, 1) := by decide +kernel
theorem dX7_away_48 : decode cX7_away 48 = .ok (.iload_n 1, 1) := by decide +kernel
theorem dX7_away_49 : decode cX7_away 49 = .ok (.invokevirtual 227, 3) := by decide +kernel
theorem dX7_away_52 : decode cX7_away 52 = .ok (.aload_n 0, 1) := by decide +kernel
theorem dX7_away_53 : decode cX7_away 53 = .ok (.iload_n 2, 1) := by decide +kernel
theorem dX7_away_54 : decode cX7_away 54 = .ok (.invokevirtual 239, 3) := by decide +kernel
theorem dX7_away_57 : decode cX7_away 57 = .ok (.aload_n 0, 1) := by decide +kernel
theorem dX7_away_58 : decode cX7_away 58 = .ok (.invokevirtual 236, 3) := by decide +kernel
theorem dX7_away_61 : decode cX7_away 61 = .ok (.aload_n 0, 1) := by decide +kernel
theorem dX7_away_62 : decode cX7_away 62 = .ok (.getfield 209, 3) := by decide +kernel
theorem dX7_away_65 : decode cX7_away 65 = .ok (.ireturn, 1) := by decide +kernel
theorem dX7_bits_0 : decode cX7_bits 0 = .ok (.iconst 0, 1) := by decide +kernel
theorem dX7_bits_1 : decode cX7_bits 1 = .ok (.istore_n 1, 1) := by decide +kernel
theorem dX7_bits_2 : decode cX7_bits 2 = .ok (.iconst 0, 1) := by decide +kernel
theorem dX7_bits_3 : decode cX7_bits 3 = .ok (.istore_n 2, 1) := by decide +kernel
theorem dX7_bits_4 : decode cX7_bits 4 = .ok (.iload_n 2, 1) := by decide +kernel
theorem dX7_bits_5 : decode cX7_bits 5 = .ok (.bipush 31, 2) := by decide +kernel
theorem dX7_bits_7 : decode cX7_bits 7 = .ok (.if_icmp .ge 17, 3) := by decide +kernel
theorem dX7_bits_10 : decode cX7_bits 10 = .ok (.iload_n 1, 1) := by decide +kernel
theorem dX7_bits_11 : decode cX7_bits 11 = .ok (.iload_n 0, 1) := by decide +kernel
theorem dX7_bits_12 : decode cX7_bits 12 = .ok (.iload_n 2, 1) := by decide +kernel
theorem dX7_bits_13 : decode cX7_bits 13 = .ok (.ishr, 1) := by decide +kernel
theorem dX7_bits_14 : decode cX7_bits 14 = .ok (.iconst 1, 1) := by decide +kernel
theorem dX7_bits_15 : decode cX7_bits 15 = .ok (.iand, 1) := by decide +kernel
theorem dX7_bits_16 : decode cX7_bits 16 = .ok (.iadd, 1) := by decide +kernel
theorem dX7_bits_17 : decode cX7_bits 17 = .ok (.istore_n 1, 1) := by decide +kernel
theorem dX7_bits_18 : decode cX7_bits 18 = .ok (.iinc 2 1, 3) := by decide +kernel
theorem dX7_bits_21 : decode cX7_bits 21 = .ok (.goto (-17), 3) := by decide +kernel
theorem dX7_bits_24 : decode cX7_bits 24 = .ok (.iload_n 1, 1) := by decide +kernel
theorem dX7_bits_25 : decode cX7_bits 25 = .ok (.ireturn, 1) := by decide +kernel
theorem dX7_page_0 : decode cX7_page 0 = .ok (.iconst 0, 1) := by decide +kernel
theorem dX7_page_1 : decode cX7_page 1 = .ok (.istore_n 1, 1) := by decide +kernel
theorem dX7_page_2 : decode cX7_page 2 = .ok (.iconst 0, 1) := by decide +kernel
theorem dX7_page_3 : decode cX7_page 3 = .ok (.istore_n 2, 1) := by decide +kernel
theorem dX7_page_4 : decode cX7_page 4 = .ok (.iload_n 2, 1) := by decide +kernel
theorem dX7_page_5 : decode cX7_page 5 = .ok (.aload_n 0, 1) := by decide +kernel
theorem dX7_page_6 : decode cX7_page 6 = .ok (.getfield 89, 3) := by decide +kernel
theorem dX7_page_9 : decode cX7_page 9 = .ok (.if_icmp .ge 26, 3) := by decide +kernel
theorem dX7_page_12 : decode cX7_page 12 = .ok (.iload_n 1, 1) := by decide +kernel
theorem dX7_page_13 : decode cX7_page 13 = .ok (.aload_n 0, 1) := by decide +kernel
theorem dX7_page_14 : decode cX7_page 14 = .ok (.getfield 43, 3) := by decide +kernel
theorem dX7_page_17 : decode cX7_page 17 = .ok (.iload_n 2, 1) := by decide +kernel
theorem dX7_page_18 : decode cX7_page 18 = .ok (.iaload, 1) := by decide +kernel
theorem dX7_page_19 : decode cX7_page 19 = .ok (.invokestatic 242, 3) := by decide +kernel
theorem dX7_page_22 : decode cX7_page 22 = .ok (.iadd, 1) := by decide +kernel
theorem dX7_page_23 : decode cX7_page 23 = .ok (.istore_n 1, 1) := by decide +kernel
theorem dX7_page_24 : decode cX7_page 24 = .ok (.aload_n 0, 1) := by decide +kernel
theorem dX7_page_25 : decode cX7_page 25 = .ok (.iload_n 2, 1) := by decide +kernel
theorem dX7_page_26 : decode cX7_page 26 = .ok (.invokevirtual 135, 3) := by decide +kernel
theorem dX7_page_29 : decode cX7_page 29 = .ok (.iinc 2 1, 3) := by decide +kernel
theorem dX7_page_32 : decode cX7_page 32 = .ok (.goto (-28), 3) := by decide +kernel
theorem dX7_page_35 : decode cX7_page 35 = .ok (.iload_n 1, 1) := by decide +kernel
theorem dX7_page_36 : decode cX7_page 36 = .ok (.ireturn, 1) := by decide +kernel
theorem dX7_piles_0 : decode cX7_piles 0 = .ok (.aload_n 0, 1) := by decide +kernel
theorem dX7_piles_1 : decode cX7_piles 1 = .ok (.getfield 71, 3) := by decide +kernel
theorem dX7_piles_4 : decode cX7_piles 4 = .ok (.bipush 6, 2) := by decide +kernel
theorem dX7_piles_6 : decode cX7_piles 6 = .ok (.iload_n 1, 1) := by decide +kernel
theorem dX7_piles_7 : decode cX7_piles 7 = .ok (.imul, 1) := by decide +kernel
theorem dX7_piles_8 : decode cX7_piles 8 = .ok (.aload_n 0, 1) := by decide +kernel
theorem dX7_piles_9 : decode cX7_piles 9 = .ok (.getfield 209, 3) := by decide +kernel
theorem dX7_piles_12 : decode cX7_piles 12 = .ok (.iastore, 1) := by decide +kernel
theorem dX7_piles_13 : decode cX7_piles 13 = .ok (.aload_n 0, 1) := by decide +kernel
theorem dX7_piles_14 : decode cX7_piles 14 = .ok (.getfield 71, 3) := by decide +kernel
theorem dX7_piles_17 : decode cX7_piles 17 = .ok (.bipush 6, 2) := by decide +kernel
theorem dX7_piles_19 : decode cX7_piles 19 = .ok (.iload_n 1, 1) := by decide +kernel
theorem dX7_piles_20 : decode cX7_piles 20 = .ok (.imul, 1) := by decide +kernel
theorem dX7_piles_21 : decode cX7_piles 21 = .ok (.iconst 1, 1) := by decide +kernel
theorem dX7_piles_22 : decode cX7_piles 22 = .ok (.iadd, 1) := by decide +kernel
theorem dX7_piles_23 : decode cX7_piles 23 = .ok (.aload_n 0, 1) := by decide +kernel
theorem dX7_piles_24 : decode cX7_piles 24 = .ok (.getfield 212, 3) := by decide +kernel
theorem dX7_piles_27 : decode cX7_piles 27 = .ok (.iastore, 1) := by decide +kernel
theorem dX7_piles_28 : decode cX7_piles 28 = .ok (.aload_n 0, 1) := by decide +kernel
theorem dX7_piles_29 : decode cX7_piles 29 = .ok (.getfield 71, 3) := by decide +kernel
theorem dX7_piles_32 : decode cX7_piles 32 = .ok (.bipush 6, 2) := by decide +kernel
theorem dX7_piles_34 : decode cX7_piles 34 = .ok (.iload_n 1, 1) := by decide +kernel
theorem dX7_piles_35 : decode cX7_piles 35 = .ok (.imul, 1) := by decide +kernel
theorem dX7_piles_36 : decode cX7_piles 36 = .ok (.iconst 2, 1) := by decide +kernel
theorem dX7_piles_37 : decode cX7_piles 37 = .ok (.iadd, 1) := by decide +kernel
theorem dX7_piles_38 : decode cX7_piles 38 = .ok (.aload_n 0, 1) := by decide +kernel
theorem dX7_piles_39 : decode cX7_piles 39 = .ok (.getfield 215, 3) := by decide +kernel
theorem dX7_piles_42 : decode cX7_piles 42 = .ok (.iastore, 1) := by decide +kernel
theorem dX7_piles_43 : decode cX7_piles 43 = .ok (.aload_n 0, 1) := by decide +kernel
theorem dX7_piles_44 : decode cX7_piles 44 = .ok (.getfield 71, 3) := by decide +kernel
theorem dX7_piles_47 : decode cX7_piles 47 = .ok (.bipush 6, 2) := by decide +kernel
theorem dX7_piles_49 : decode cX7_piles 49 = .ok (.iload_n 1, 1) := by decide +kernel
theorem dX7_piles_50 : decode cX7_piles 50 = .ok (.imul, 1) := by decide +kernel
theorem dX7_piles_51 : decode cX7_piles 51 = .ok (.iconst 3, 1) := by decide +kernel
theorem dX7_piles_52 : decode cX7_piles 52 = .ok (.iadd, 1) := by decide +kernel
theorem dX7_piles_53 : decode cX7_piles 53 = .ok (.aload_n 0, 1) := by decide +kernel
theorem dX7_piles_54 : decode cX7_piles 54 = .ok (.getfield 218, 3) := by decide +kernel
theorem dX7_piles_57 : decode cX7_piles 57 = .ok (.iastore, 1) := by decide +kernel
theorem dX7_piles_58 : decode cX7_piles 58 = .ok (.aload_n 0, 1) := by decide +kernel
theorem dX7_piles_59 : decode cX7_piles 59 = .ok (.getfield 71, 3) := by decide +kernel
theorem dX7_piles_62 : decode cX7_piles 62 = .ok (.bipush 6, 2) := by decide +kernel
theorem dX7_piles_64 : decode cX7_piles 64 = .ok (.iload_n 1, 1) := by decide +kernel
theorem dX7_piles_65 : decode cX7_piles 65 = .ok (.imul, 1) := by decide +kernel
theorem dX7_piles_66 : decode cX7_piles 66 = .ok (.iconst 4, 1) := by decide +kernel
theorem dX7_piles_67 : decode cX7_piles 67 = .ok (.iadd, 1) := by decide +kernel
theorem dX7_piles_68 : decode cX7_piles 68 = .ok (.aload_n 0, 1) := by decide +kernel
theorem dX7_piles_69 : decode cX7_piles 69 = .ok (.getfield 221, 3) := by decide +kernel
theorem dX7_piles_72 : decode cX7_piles 72 = .ok (.iastore, 1) := by decide +kernel
theorem dX7_piles_73 : decode cX7_piles 73 = .ok (.aload_n 0, 1) := by decide +kernel
theorem dX7_piles_74 : decode cX7_piles 74 = .ok (.getfield 71, 3) := by decide +kernel
theorem dX7_piles_77 : decode cX7_piles 77 = .ok (.bipush 6, 2) := by decide +kernel
theorem dX7_piles_79 : decode cX7_piles 79 = .ok (.iload_n 1, 1) := by decide +kernel
theorem dX7_piles_80 : decode cX7_piles 80 = .ok (.imul, 1) := by decide +kernel
theorem dX7_piles_81 : decode cX7_piles 81 = .ok (.iconst 5, 1) := by decide +kernel
theorem dX7_piles_82 : decode cX7_piles 82 = .ok (.iadd, 1) := by decide +kernel
theorem dX7_piles_83 : decode cX7_piles 83 = .ok (.iconst 0, 1) := by decide +kernel
theorem dX7_piles_84 : decode cX7_piles 84 = .ok (.iastore, 1) := by decide +kernel
theorem dX7_piles_85 : decode cX7_piles 85 = .ok (.aload_n 0, 1) := by decide +kernel
theorem dX7_piles_86 : decode cX7_piles 86 = .ok (.aload_n 0, 1) := by decide +kernel
theorem dX7_piles_87 : decode cX7_piles 87 = .ok (.getfield 218, 3) := by decide +kernel
theorem dX7_piles_90 : decode cX7_piles 90 = .ok (.invokevirtual 196, 3) := by decide +kernel
theorem dX7_piles_93 : decode cX7_piles 93 = .ok (.istore_n 2, 1) := by decide +kernel
theorem dX7_piles_94 : decode cX7_piles 94 = .ok (.aload_n 0, 1) := by decide +kernel
theorem dX7_piles_95 : decode cX7_piles 95 = .ok (.getfield 245, 3) := by decide +kernel
theorem dX7_piles_98 : decode cX7_piles 98 = .ok (.ifCond .lt 28, 3) := by decide +kernel
theorem dX7_piles_101 : decode cX7_piles 101 = .ok (.iload_n 2, 1) := by decide +kernel
theorem dX7_piles_102 : decode cX7_piles 102 = .ok (.aload_n 0, 1) := by decide +kernel
theorem dX7_piles_103 : decode cX7_piles 103 = .ok (.getfield 248, 3) := by decide +kernel
theorem dX7_piles_106 : decode cX7_piles 106 = .ok (.if_icmp .lt 19, 3) := by decide +kernel
theorem dX7_piles_109 : decode cX7_piles 109 = .ok (.iload_n 2, 1) := by decide +kernel
theorem dX7_piles_110 : decode cX7_piles 110 = .ok (.aload_n 0, 1) := by decide +kernel
theorem dX7_piles_111 : decode cX7_piles 111 = .ok (.getfield 248, 3) := by decide +kernel
theorem dX7_piles_114 : decode cX7_piles 114 = .ok (.if_icmp .ne 12, 3) := by decide +kernel
theorem dX7_piles_117 : decode cX7_piles 117 = .ok (.iload_n 1, 1) := by decide +kernel
theorem dX7_piles_118 : decode cX7_piles 118 = .ok (.aload_n 0, 1) := by decide +kernel
theorem dX7_piles_119 : decode cX7_piles 119 = .ok (.getfield 245, 3) := by decide +kernel
theorem dX7_piles_122 : decode cX7_piles 122 = .ok (.if_icmp .lt 4, 3) := by decide +kernel
theorem dX7_piles_125 : decode cX7_piles 125 = .ok (.return_, 1) := by decide +kernel
theorem dX7_piles_126 : decode cX7_piles 126 = .ok (.aload_n 0, 1) := by decide +kernel
theorem dX7_piles_127 : decode cX7_piles 127 = .ok (.iload_n 2, 1) := by decide +kernel
theorem dX7_piles_128 : decode cX7_piles 128 = .ok (.putfield 248, 3) := by decide +kernel
theorem dX7_piles_131 : decode cX7_piles 131 = .ok (.aload_n 0, 1) := by decide +kernel
theorem dX7_piles_132 : decode cX7_piles 132 = .ok (.iload_n 1, 1) := by decide +kernel
theorem dX7_piles_133 : decode cX7_piles 133 = .ok (.putfield 245, 3) := by decide +kernel
theorem dX7_piles_136 : decode cX7_piles 136 = .ok (.aload_n 0, 1) := by decide +kernel
theorem dX7_piles_137 : decode cX7_piles 137 = .ok (.aload_n 0, 1) := by decide +kernel
theorem dX7_piles_138 : decode cX7_piles 138 = .ok (.getfield 218, 3) := by decide +kernel
theorem dX7_piles_141 : decode cX7_piles 141 = .ok (.putfield 251, 3) := by decide +kernel
theorem dX7_piles_144 : decode cX7_piles 144 = .ok (.iconst 0, 1) := by decide +kernel
theorem dX7_piles_145 : decode cX7_piles 145 = .ok (.istore_n 3, 1) := by decide +kernel
theorem dX7_piles_146 : decode cX7_piles 146 = .ok (.iload_n 3, 1) := by decide +kernel
theorem dX7_piles_147 : decode cX7_piles 147 = .ok (.iload_n 1, 1) := by decide +kernel
theorem dX7_piles_148 : decode cX7_piles 148 = .ok (.if_icmp .ge 21, 3) := by decide +kernel
theorem dX7_piles_151 : decode cX7_piles 151 = .ok (.aload_n 0, 1) := by decide +kernel
theorem dX7_piles_152 : decode cX7_piles 152 = .ok (.getfield 77, 3) := by decide +kernel
theorem dX7_piles_155 : decode cX7_piles 155 = .ok (.iload_n 3, 1) := by decide +kernel
theorem dX7_piles_156 : decode cX7_piles 156 = .ok (.aload_n 0, 1) := by decide +kernel
theorem dX7_piles_157 : decode cX7_piles 157 = .ok (.getfield 74, 3) := by decide +kernel
theorem dX7_piles_160 : decode cX7_piles 160 = .ok (.iload_n 3, 1) := by decide +kernel
theorem dX7_piles_161 : decode cX7_piles 161 = .ok (.iaload, 1) := by decide +kernel
theorem dX7_piles_162 : decode cX7_piles 162 = .ok (.iastore, 1) := by decide +kernel
theorem dX7_piles_163 : decode cX7_piles 163 = .ok (.iinc 3 1, 3) := by decide +kernel
theorem dX7_piles_166 : decode cX7_piles 166 = .ok (.goto (-20), 3) := by decide +kernel
theorem dX7_piles_169 : decode cX7_piles 169 = .ok (.return_, 1) := by decide +kernel
theorem dX7_unpiles_0 : decode cX7_unpiles 0 = .ok (.aload_n 0, 1) := by decide +kernel
theorem dX7_unpiles_1 : decode cX7_unpiles 1 = .ok (.aload_n 0, 1) := by decide +kernel
theorem dX7_unpiles_2 : decode cX7_unpiles 2 = .ok (.getfield 71, 3) := by decide +kernel
theorem dX7_unpiles_5 : decode cX7_unpiles 5 = .ok (.bipush 6, 2) := by decide +kernel
theorem dX7_unpiles_7 : decode cX7_unpiles 7 = .ok (.iload_n 1, 1) := by decide +kernel
theorem dX7_unpiles_8 : decode cX7_unpiles 8 = .ok (.imul, 1) := by decide +kernel
theorem dX7_unpiles_9 : decode cX7_unpiles 9 = .ok (.iaload, 1) := by decide +kernel
theorem dX7_unpiles_10 : decode cX7_unpiles 10 = .ok (.putfield 209, 3) := by decide +kernel
theorem dX7_unpiles_13 : decode cX7_unpiles 13 = .ok (.aload_n 0, 1) := by decide +kernel
theorem dX7_unpiles_14 : decode cX7_unpiles 14 = .ok (.aload_n 0, 1) := by decide +kernel
theorem dX7_unpiles_15 : decode cX7_unpiles 15 = .ok (.getfield 71, 3) := by decide +kernel
theorem dX7_unpiles_18 : decode cX7_unpiles 18 = .ok (.bipush 6, 2) := by decide +kernel
theorem dX7_unpiles_20 : decode cX7_unpiles 20 = .ok (.iload_n 1, 1) := by decide +kernel
theorem dX7_unpiles_21 : decode cX7_unpiles 21 = .ok (.imul, 1) := by decide +kernel
theorem dX7_unpiles_22 : decode cX7_unpiles 22 = .ok (.iconst 1, 1) := by decide +kernel
theorem dX7_unpiles_23 : decode cX7_unpiles 23 = .ok (.iadd, 1) := by decide +kernel
theorem dX7_unpiles_24 : decode cX7_unpiles 24 = .ok (.iaload, 1) := by decide +kernel
theorem dX7_unpiles_25 : decode cX7_unpiles 25 = .ok (.putfield 212, 3) := by decide +kernel
theorem dX7_unpiles_28 : decode cX7_unpiles 28 = .ok (.aload_n 0, 1) := by decide +kernel
theorem dX7_unpiles_29 : decode cX7_unpiles 29 = .ok (.aload_n 0, 1) := by decide +kernel
theorem dX7_unpiles_30 : decode cX7_unpiles 30 = .ok (.getfield 71, 3) := by decide +kernel
theorem dX7_unpiles_33 : decode cX7_unpiles 33 = .ok (.bipush 6, 2) := by decide +kernel
theorem dX7_unpiles_35 : decode cX7_unpiles 35 = .ok (.iload_n 1, 1) := by decide +kernel
theorem dX7_unpiles_36 : decode cX7_unpiles 36 = .ok (.imul, 1) := by decide +kernel
theorem dX7_unpiles_37 : decode cX7_unpiles 37 = .ok (.iconst 2, 1) := by decide +kernel
theorem dX7_unpiles_38 : decode cX7_unpiles 38 = .ok (.iadd, 1) := by decide +kernel
theorem dX7_unpiles_39 : decode cX7_unpiles 39 = .ok (.iaload, 1) := by decide +kernel
theorem dX7_unpiles_40 : decode cX7_unpiles 40 = .ok (.putfield 215, 3) := by decide +kernel
theorem dX7_unpiles_43 : decode cX7_unpiles 43 = .ok (.aload_n 0, 1) := by decide +kernel
theorem dX7_unpiles_44 : decode cX7_unpiles 44 = .ok (.aload_n 0, 1) := by decide +kernel
theorem dX7_unpiles_45 : decode cX7_unpiles 45 = .ok (.getfield 71, 3) := by decide +kernel
theorem dX7_unpiles_48 : decode cX7_unpiles 48 = .ok (.bipush 6, 2) := by decide +kernel
theorem dX7_unpiles_50 : decode cX7_unpiles 50 = .ok (.iload_n 1, 1) := by decide +kernel
theorem dX7_unpiles_51 : decode cX7_unpiles 51 = .ok (.imul, 1) := by decide +kernel
theorem dX7_unpiles_52 : decode cX7_unpiles 52 = .ok (.iconst 3, 1) := by decide +kernel
theorem dX7_unpiles_53 : decode cX7_unpiles 53 = .ok (.iadd, 1) := by decide +kernel
theorem dX7_unpiles_54 : decode cX7_unpiles 54 = .ok (.iaload, 1) := by decide +kernel
theorem dX7_unpiles_55 : decode cX7_unpiles 55 = .ok (.putfield 218, 3) := by decide +kernel
theorem dX7_unpiles_58 : decode cX7_unpiles 58 = .ok (.aload_n 0, 1) := by decide +kernel
theorem dX7_unpiles_59 : decode cX7_unpiles 59 = .ok (.aload_n 0, 1) := by decide +kernel
theorem dX7_unpiles_60 : decode cX7_unpiles 60 = .ok (.getfield 71, 3) := by decide +kernel
theorem dX7_unpiles_63 : decode cX7_unpiles 63 = .ok (.bipush 6, 2) := by decide +kernel
theorem dX7_unpiles_65 : decode cX7_unpiles 65 = .ok (.iload_n 1, 1) := by decide +kernel
theorem dX7_unpiles_66 : decode cX7_unpiles 66 = .ok (.imul, 1) := by decide +kernel
theorem dX7_unpiles_67 : decode cX7_unpiles 67 = .ok (.iconst 4, 1) := by decide +kernel
theorem dX7_unpiles_68 : decode cX7_unpiles 68 = .ok (.iadd, 1) := by decide +kernel
theorem dX7_unpiles_69 : decode cX7_unpiles 69 = .ok (.iaload, 1) := by decide +kernel
theorem dX7_unpiles_70 : decode cX7_unpiles 70 = .ok (.putfield 221, 3) := by decide +kernel
theorem dX7_unpiles_73 : decode cX7_unpiles 73 = .ok (.return_, 1) := by decide +kernel
theorem dX7_findMost_0 : decode cX7_findMost 0 = .ok (.aload_n 0, 1) := by decide +kernel
theorem dX7_findMost_1 : decode cX7_findMost 1 = .ok (.bipush (-9), 2) := by decide +kernel
theorem dX7_findMost_3 : decode cX7_findMost 3 = .ok (.putfield 245, 3) := by decide +kernel
theorem dX7_findMost_6 : decode cX7_findMost 6 = .ok (.iconst 0, 1) := by decide +kernel
theorem dX7_findMost_7 : decode cX7_findMost 7 = .ok (.istore_n 1, 1) := by decide +kernel
theorem dX7_findMost_8 : decode cX7_findMost 8 = .ok (.aload_n 0, 1) := by decide +kernel
theorem dX7_findMost_9 : decode cX7_findMost 9 = .ok (.iconst 0, 1) := by decide +kernel
theorem dX7_findMost_10 : decode cX7_findMost 10 = .ok (.invokevirtual 254, 3) := by decide +kernel
theorem dX7_findMost_13 : decode cX7_findMost 13 = .ok (.iload_n 1, 1) := by decide +kernel
theorem dX7_findMost_14 : decode cX7_findMost 14 = .ok (.ifCond .lt 93, 3) := by decide +kernel
theorem dX7_findMost_17 : decode cX7_findMost 17 = .ok (.aload_n 0, 1) := by decide +kernel
theorem dX7_findMost_18 : decode cX7_findMost 18 = .ok (.getfield 71, 3) := by decide +kernel
theorem dX7_findMost_21 : decode cX7_findMost 21 = .ok (.bipush 6, 2) := by decide +kernel
theorem dX7_findMost_23 : decode cX7_findMost 23 = .ok (.iload_n 1, 1) := by decide +kernel
theorem dX7_findMost_24 : decode cX7_findMost 24 = .ok (.imul, 1) := by decide +kernel
theorem dX7_findMost_25 : decode cX7_findMost 25 = .ok (.iconst 5, 1) := by decide +kernel
theorem dX7_findMost_26 : decode cX7_findMost 26 = .ok (.iadd, 1) := by decide +kernel
theorem dX7_findMost_27 : decode cX7_findMost 27 = .ok (.iaload, 1) := by decide +kernel
theorem dX7_findMost_28 : decode cX7_findMost 28 = .ok (.istore_n 2, 1) := by decide +kernel
theorem dX7_findMost_29 : decode cX7_findMost 29 = .ok (.iload_n 2, 1) := by decide +kernel
theorem dX7_findMost_30 : decode cX7_findMost 30 = .ok (.iconst 4, 1) := by decide +kernel
theorem dX7_findMost_31 : decode cX7_findMost 31 = .ok (.if_icmp .ne 9, 3) := by decide +kernel
theorem dX7_findMost_34 : decode cX7_findMost 34 = .ok (.iinc 1 (-1), 3) := by decide +kernel
theorem dX7_findMost_37 : decode cX7_findMost 37 = .ok (.goto (-24), 3) := by decide +kernel
theorem dX7_findMost_40 : decode cX7_findMost 40 = .ok (.aload_n 0, 1) := by decide +kernel
theorem dX7_findMost_41 : decode cX7_findMost 41 = .ok (.getfield 71, 3) := by decide +kernel
theorem dX7_findMost_44 : decode cX7_findMost 44 = .ok (.bipush 6, 2) := by decide +kernel
theorem dX7_findMost_46 : decode cX7_findMost 46 = .ok (.iload_n 1, 1) := by decide +kernel
theorem dX7_findMost_47 : decode cX7_findMost 47 = .ok (.imul, 1) := by decide +kernel
theorem dX7_findMost_48 : decode cX7_findMost 48 = .ok (.iconst 5, 1) := by decide +kernel
theorem dX7_findMost_49 : decode cX7_findMost 49 = .ok (.iadd, 1) := by decide +kernel
theorem dX7_findMost_50 : decode cX7_findMost 50 = .ok (.dup2, 1) := by decide +kernel
theorem dX7_findMost_51 : decode cX7_findMost 51 = .ok (.iaload, 1) := by decide +kernel
theorem dX7_findMost_52 : decode cX7_findMost 52 = .ok (.iconst 1, 1) := by decide +kernel
theorem dX7_findMost_53 : decode cX7_findMost 53 = .ok (.iadd, 1) := by decide +kernel
theorem dX7_findMost_54 : decode cX7_findMost 54 = .ok (.iastore, 1) := by decide +kernel
theorem dX7_findMost_55 : decode cX7_findMost 55 = .ok (.aload_n 0, 1) := by decide +kernel
theorem dX7_findMost_56 : decode cX7_findMost 56 = .ok (.iload_n 1, 1) := by decide +kernel
theorem dX7_findMost_57 : decode cX7_findMost 57 = .ok (.invokevirtual 257, 3) := by decide +kernel
theorem dX7_findMost_60 : decode cX7_findMost 60 = .ok (.aload_n 0, 1) := by decide +kernel
theorem dX7_findMost_61 : decode cX7_findMost 61 = .ok (.iload_n 2, 1) := by decide +kernel
theorem dX7_findMost_62 : decode cX7_findMost 62 = .ok (.invokevirtual 230, 3) := by decide +kernel
theorem dX7_findMost_65 : decode cX7_findMost 65 = .ok (.istore_n 3, 1) := by decide +kernel
theorem dX7_findMost_66 : decode cX7_findMost 66 = .ok (.iload_n 3, 1) := by decide +kernel
theorem dX7_findMost_67 : decode cX7_findMost 67 = .ok (.ifCond .ge 6, 3) := by decide +kernel
theorem dX7_findMost_70 : decode cX7_findMost 70 = .ok (.goto (-57), 3) := by decide +kernel
theorem dX7_findMost_73 : decode cX7_findMost 73 = .ok (.aload_n 0, 1) := by decide +kernel
theorem dX7_findMost_74 : decode cX7_findMost 74 = .ok (.iload_n 3, 1) := by decide +kernel
theorem dX7_findMost_75 : decode cX7_findMost 75 = .ok (.invokevirtual 233, 3) := by decide +kernel
theorem dX7_findMost_78 : decode cX7_findMost 78 = .ok (.aload_n 0, 1) := by decide +kernel
theorem dX7_findMost_79 : decode cX7_findMost 79 = .ok (.getfield 221, 3) := by decide +kernel
theorem dX7_findMost_82 : decode cX7_findMost 82 = .ok (.iconst 1, 1) := by decide +kernel
theorem dX7_findMost_83 : decode cX7_findMost 83 = .ok (.if_icmp .ne 6, 3) := by decide +kernel
theorem dX7_findMost_86 : decode cX7_findMost 86 = .ok (.goto (-73), 3) := by decide +kernel
theorem dX7_findMost_89 : decode cX7_findMost 89 = .ok (.aload_n 0, 1) := by decide +kernel
theorem dX7_findMost_90 : decode cX7_findMost 90 = .ok (.getfield 74, 3) := by decide +kernel
theorem dX7_findMost_93 : decode cX7_findMost 93 = .ok (.iload_n 1, 1) := by decide +kernel
theorem dX7_findMost_94 : decode cX7_findMost 94 = .ok (.iload_n 2, 1) := by decide +kernel
theorem dX7_findMost_95 : decode cX7_findMost 95 = .ok (.iastore, 1) := by decide +kernel
theorem dX7_findMost_96 : decode cX7_findMost 96 = .ok (.iinc 1 1, 3) := by decide +kernel
theorem dX7_findMost_99 : decode cX7_findMost 99 = .ok (.aload_n 0, 1) := by decide +kernel
theorem dX7_findMost_100 : decode cX7_findMost 100 = .ok (.iload_n 1, 1) := by decide +kernel
theorem dX7_findMost_101 : decode cX7_findMost 101 = .ok (.invokevirtual 254, 3) := by decide +kernel
theorem dX7_findMost_104 : decode cX7_findMost 104 = .ok (.goto (-91), 3) := by decide +kernel
theorem dX7_findMost_107 : decode cX7_findMost 107 = .ok (.aload_n 0, 1) := by decide +kernel
theorem dX7_findMost_108 : decode cX7_findMost 108 = .ok (.iconst 0, 1) := by decide +kernel
theorem dX7_findMost_109 : decode cX7_findMost 109 = .ok (.invokevirtual 257, 3) := by decide +kernel
theorem dX7_findMost_112 : decode cX7_findMost 112 = .ok (.aload_n 0, 1) := by decide +kernel
theorem dX7_findMost_113 : decode cX7_findMost 113 = .ok (.getfield 248, 3) := by decide +kernel
theorem dX7_findMost_116 : decode cX7_findMost 116 = .ok (.ireturn, 1) := by decide +kernel
theorem dX7_mostOf_0 : decode cX7_mostOf 0 = .ok (.aload_n 0, 1) := by decide +kernel
theorem dX7_mostOf_1 : decode cX7_mostOf 1 = .ok (.iload_n 1, 1) := by decide +kernel
theorem dX7_mostOf_2 : decode cX7_mostOf 2 = .ok (.invokevirtual 227, 3) := by decide +kernel
theorem dX7_mostOf_5 : decode cX7_mostOf 5 = .ok (.aload_n 0, 1) := by decide +kernel
theorem dX7_mostOf_6 : decode cX7_mostOf 6 = .ok (.invokevirtual 260, 3) := by decide +kernel
theorem dX7_mostOf_9 : decode cX7_mostOf 9 = .ok (.ireturn, 1) := by decide +kernel
theorem dX7_most_0 : decode cX7_most 0 = .ok (.aload_n 0, 1) := by decide +kernel
theorem dX7_most_1 : decode cX7_most 1 = .ok (.iload_n 1, 1) := by decide +kernel
theorem dX7_most_2 : decode cX7_most 2 = .ok (.invokevirtual 92, 3) := by decide +kernel
theorem dX7_most_5 : decode cX7_most 5 = .ok (.ifCond .eq 11, 3) := by decide +kernel
theorem dX7_most_8 : decode cX7_most 8 = .ok (.aload_n 0, 1) := by decide +kernel
theorem dX7_most_9 : decode cX7_most 9 = .ok (.iload_n 1, 1) := by decide +kernel
theorem dX7_most_10 : decode cX7_most 10 = .ok (.invokevirtual 263, 3) := by decide +kernel
theorem dX7_most_13 : decode cX7_most 13 = .ok (.goto 8, 3) := by decide +kernel
theorem dX7_most_16 : decode cX7_most 16 = .ok (.aload_n 0, 1) := by decide +kernel
theorem dX7_most_17 : decode cX7_most 17 = .ok (.iconst (-1), 1) := by decide +kernel
theorem dX7_most_18 : decode cX7_most 18 = .ok (.invokevirtual 103, 3) := by decide +kernel
theorem dX7_most_21 : decode cX7_most 21 = .ok (.ireturn, 1) := by decide +kernel
theorem dX7_plan_0 : decode cX7_plan 0 = .ok (.aload_n 0, 1) := by decide +kernel
theorem dX7_plan_1 : decode cX7_plan 1 = .ok (.iload_n 1, 1) := by decide +kernel
theorem dX7_plan_2 : decode cX7_plan 2 = .ok (.invokevirtual 92, 3) := by decide +kernel
theorem dX7_plan_5 : decode cX7_plan 5 = .ok (.ifCond .ne 7, 3) := by decide +kernel
theorem dX7_plan_8 : decode cX7_plan 8 = .ok (.iconst (-1), 1) := by decide +kernel
theorem dX7_plan_9 : decode cX7_plan 9 = .ok (.goto 13, 3) := by decide +kernel
theorem dX7_plan_12 : decode cX7_plan 12 = .ok (.iload_n 2, 1) := by decide +kernel
theorem dX7_plan_13 : decode cX7_plan 13 = .ok (.ifCond .ge 8, 3) := by decide +kernel
theorem dX7_plan_16 : decode cX7_plan 16 = .ok (.bipush (-4), 2) := by decide +kernel
theorem dX7_plan_18 : decode cX7_plan 18 = .ok (.goto 4, 3) := by decide +kernel
theorem dX7_plan_21 : decode cX7_plan 21 = .ok (.iconst 0, 1) := by decide +kernel
theorem dX7_plan_22 : decode cX7_plan 22 = .ok (.istore_n 3, 1) := by decide +kernel
theorem dX7_plan_23 : decode cX7_plan 23 = .ok (.iload_n 3, 1) := by decide +kernel
theorem dX7_plan_24 : decode cX7_plan 24 = .ok (.ifCond .eq 9, 3) := by decide +kernel
theorem dX7_plan_27 : decode cX7_plan 27 = .ok (.aload_n 0, 1) := by decide +kernel
theorem dX7_plan_28 : decode cX7_plan 28 = .ok (.iload_n 3, 1) := by decide +kernel
theorem dX7_plan_29 : decode cX7_plan 29 = .ok (.invokevirtual 103, 3) := by decide +kernel
theorem dX7_plan_32 : decode cX7_plan 32 = .ok (.ireturn, 1) := by decide +kernel
theorem dX7_plan_33 : decode cX7_plan 33 = .ok (.aload_n 0, 1) := by decide +kernel
theorem dX7_plan_34 : decode cX7_plan 34 = .ok (.iload_n 1, 1) := by decide +kernel
theorem dX7_plan_35 : decode cX7_plan 35 = .ok (.invokevirtual 263, 3) := by decide +kernel
theorem dX7_plan_38 : decode cX7_plan 38 = .ok (.pop, 1) := by decide +kernel
theorem dX7_plan_39 : decode cX7_plan 39 = .ok (.iload_n 2, 1) := by decide +kernel
theorem dX7_plan_40 : decode cX7_plan 40 = .ok (.aload_n 0, 1) := by decide +kernel
theorem dX7_plan_41 : decode cX7_plan 41 = .ok (.getfield 245, 3) := by decide +kernel
theorem dX7_plan_44 : decode cX7_plan 44 = .ok (.if_icmp .ge 12, 3) := by decide +kernel
theorem dX7_plan_47 : decode cX7_plan 47 = .ok (.aload_n 0, 1) := by decide +kernel
theorem dX7_plan_48 : decode cX7_plan 48 = .ok (.getfield 77, 3) := by decide +kernel
theorem dX7_plan_51 : decode cX7_plan 51 = .ok (.iload_n 2, 1) := by decide +kernel
theorem dX7_plan_52 : decode cX7_plan 52 = .ok (.iaload, 1) := by decide +kernel
theorem dX7_plan_53 : decode cX7_plan 53 = .ok (.goto 5, 3) := by decide +kernel
theorem dX7_plan_56 : decode cX7_plan 56 = .ok (.bipush (-9), 2) := by decide +kernel
theorem dX7_plan_58 : decode cX7_plan 58 = .ok (.ireturn, 1) := by decide +kernel
theorem dX7_by_0 : decode cX7_by 0 = .ok (.aload_n 0, 1) := by decide +kernel
theorem dX7_by_1 : decode cX7_by 1 = .ok (.iload_n 1, 1) := by decide +kernel
theorem dX7_by_2 : decode cX7_by 2 = .ok (.invokevirtual 92, 3) := by decide +kernel
theorem dX7_by_5 : decode cX7_by 5 = .ok (.ifCond .ne 7, 3) := by decide +kernel
theorem dX7_by_8 : decode cX7_by 8 = .ok (.iconst (-1), 1) := by decide +kernel
theorem dX7_by_9 : decode cX7_by 9 = .ok (.goto 11, 3) := by decide +kernel
theorem dX7_by_12 : decode cX7_by 12 = .ok (.iload_n 2, 1) := by decide +kernel
theorem dX7_by_13 : decode cX7_by 13 = .ok (.iconst 0, 1) := by decide +kernel
theorem dX7_by_14 : decode cX7_by 14 = .ok (.sipush 999, 3) := by decide +kernel
theorem dX7_by_17 : decode cX7_by 17 = .ok (.invokestatic 96, 3) := by decide +kernel
theorem dX7_by_20 : decode cX7_by 20 = .ok (.istore_n 3, 1) := by decide +kernel
theorem dX7_by_21 : decode cX7_by 21 = .ok (.iload_n 3, 1) := by decide +kernel
theorem dX7_by_22 : decode cX7_by 22 = .ok (.ifCond .eq 9, 3) := by decide +kernel
theorem dX7_by_25 : decode cX7_by 25 = .ok (.aload_n 0, 1) := by decide +kernel
theorem dX7_by_26 : decode cX7_by 26 = .ok (.iload_n 3, 1) := by decide +kernel
theorem dX7_by_27 : decode cX7_by 27 = .ok (.invokevirtual 103, 3) := by decide +kernel
theorem dX7_by_30 : decode cX7_by 30 = .ok (.ireturn, 1) := by decide +kernel
theorem dX7_by_31 : decode cX7_by 31 = .ok (.aload_n 0, 1) := by decide +kernel
theorem dX7_by_32 : decode cX7_by 32 = .ok (.iload_n 2, 1) := by decide +kernel
theorem dX7_by_33 : decode cX7_by 33 = .ok (.putfield 68, 3) := by decide +kernel
theorem dX7_by_36 : decode cX7_by 36 = .ok (.aload_n 0, 1) := by decide +kernel
theorem dX7_by_37 : decode cX7_by 37 = .ok (.iload_n 1, 1) := by decide +kernel
theorem dX7_by_38 : decode cX7_by 38 = .ok (.invokevirtual 263, 3) := by decide +kernel
theorem dX7_by_41 : decode cX7_by 41 = .ok (.istore 4, 2) := by decide +kernel
theorem dX7_by_43 : decode cX7_by 43 = .ok (.aload_n 0, 1) := by decide +kernel
theorem dX7_by_44 : decode cX7_by 44 = .ok (.sipush 999, 3) := by decide +kernel
theorem dX7_by_47 : decode cX7_by 47 = .ok (.putfield 68, 3) := by decide +kernel
theorem dX7_by_50 : decode cX7_by 50 = .ok (.iload 4, 2) := by decide +kernel
theorem dX7_by_52 : decode cX7_by 52 = .ok (.ireturn, 1) := by decide +kernel
theorem dX7_rest_0 : decode cX7_rest 0 = .ok (.aload_n 0, 1) := by decide +kernel
theorem dX7_rest_1 : decode cX7_rest 1 = .ok (.iload_n 1, 1) := by decide +kernel
theorem dX7_rest_2 : decode cX7_rest 2 = .ok (.invokevirtual 92, 3) := by decide +kernel
theorem dX7_rest_5 : decode cX7_rest 5 = .ok (.ifCond .ne 9, 3) := by decide +kernel
theorem dX7_rest_8 : decode cX7_rest 8 = .ok (.aload_n 0, 1) := by decide +kernel
theorem dX7_rest_9 : decode cX7_rest 9 = .ok (.iconst (-1), 1) := by decide +kernel
theorem dX7_rest_10 : decode cX7_rest 10 = .ok (.invokevirtual 103, 3) := by decide +kernel
theorem dX7_rest_13 : decode cX7_rest 13 = .ok (.ireturn, 1) := by decide +kernel
theorem dX7_rest_14 : decode cX7_rest 14 = .ok (.iload_n 2, 1) := by decide +kernel
theorem dX7_rest_15 : decode cX7_rest 15 = .ok (.iconst 0, 1) := by decide +kernel
theorem dX7_rest_16 : decode cX7_rest 16 = .ok (.iconst 1, 1) := by decide +kernel
theorem dX7_rest_17 : decode cX7_rest 17 = .ok (.invokestatic 114, 3) := by decide +kernel
theorem dX7_rest_20 : decode cX7_rest 20 = .ok (.ifCond .ne 10, 3) := by decide +kernel
theorem dX7_rest_23 : decode cX7_rest 23 = .ok (.aload_n 0, 1) := by decide +kernel
theorem dX7_rest_24 : decode cX7_rest 24 = .ok (.bipush (-2), 2) := by decide +kernel
theorem dX7_rest_26 : decode cX7_rest 26 = .ok (.invokevirtual 103, 3) := by decide +kernel
theorem dX7_rest_29 : decode cX7_rest 29 = .ok (.ireturn, 1) := by decide +kernel
theorem dX7_rest_30 : decode cX7_rest 30 = .ok (.iconst 0, 1) := by decide +kernel
theorem dX7_rest_31 : decode cX7_rest 31 = .ok (.istore_n 3, 1) := by decide +kernel
theorem dX7_rest_32 : decode cX7_rest 32 = .ok (.aload_n 0, 1) := by decide +kernel
theorem dX7_rest_33 : decode cX7_rest 33 = .ok (.iload_n 1, 1) := by decide +kernel
theorem dX7_rest_34 : decode cX7_rest 34 = .ok (.invokevirtual 263, 3) := by decide +kernel
theorem dX7_rest_37 : decode cX7_rest 37 = .ok (.istore 4, 2) := by decide +kernel
theorem dX7_rest_39 : decode cX7_rest 39 = .ok (.iconst 1, 1) := by decide +kernel
theorem dX7_rest_40 : decode cX7_rest 40 = .ok (.istore 5, 2) := by decide +kernel
theorem dX7_rest_42 : decode cX7_rest 42 = .ok (.iload 5, 2) := by decide +kernel
theorem dX7_rest_44 : decode cX7_rest 44 = .ok (.bipush 10, 2) := by decide +kernel
theorem dX7_rest_46 : decode cX7_rest 46 = .ok (.if_icmp .ge 52, 3) := by decide +kernel
theorem dX7_rest_49 : decode cX7_rest 49 = .ok (.aload_n 0, 1) := by decide +kernel
theorem dX7_rest_50 : decode cX7_rest 50 = .ok (.getfield 46, 3) := by decide +kernel
theorem dX7_rest_53 : decode cX7_rest 53 = .ok (.iload_n 1, 1) := by decide +kernel
theorem dX7_rest_54 : decode cX7_rest 54 = .ok (.iaload, 1) := by decide +kernel
theorem dX7_rest_55 : decode cX7_rest 55 = .ok (.ifCond .ne 43, 3) := by decide +kernel
theorem dX7_rest_58 : decode cX7_rest 58 = .ok (.aload_n 0, 1) := by decide +kernel
theorem dX7_rest_59 : decode cX7_rest 59 = .ok (.iload_n 1, 1) := by decide +kernel
theorem dX7_rest_60 : decode cX7_rest 60 = .ok (.invokevirtual 227, 3) := by decide +kernel
theorem dX7_rest_63 : decode cX7_rest 63 = .ok (.aload_n 0, 1) := by decide +kernel
theorem dX7_rest_64 : decode cX7_rest 64 = .ok (.iload 5, 2) := by decide +kernel
theorem dX7_rest_66 : decode cX7_rest 66 = .ok (.invokevirtual 239, 3) := by decide +kernel
theorem dX7_rest_69 : decode cX7_rest 69 = .ok (.aload_n 0, 1) := by decide +kernel
theorem dX7_rest_70 : decode cX7_rest 70 = .ok (.invokevirtual 260, 3) := by decide +kernel
theorem dX7_rest_73 : decode cX7_rest 73 = .ok (.istore 6, 2) := by decide +kernel
theorem dX7_rest_75 : decode cX7_rest 75 = .ok (.iload 6, 2) := by decide +kernel
theorem dX7_rest_77 : decode cX7_rest 77 = .ok (.iload 4, 2) := by decide +kernel
theorem dX7_rest_79 : decode cX7_rest 79 = .ok (.if_icmp .gt 6, 3) := by decide +kernel
theorem dX7_rest_82 : decode cX7_rest 82 = .ok (.goto 10, 3) := by decide +kernel
theorem dX7_rest_85 : decode cX7_rest 85 = .ok (.iload 5, 2) := by decide +kernel
theorem dX7_rest_87 : decode cX7_rest 87 = .ok (.istore_n 3, 1) := by decide +kernel
theorem dX7_rest_88 : decode cX7_rest 88 = .ok (.iload 6, 2) := by decide +kernel
theorem dX7_rest_90 : decode cX7_rest 90 = .ok (.istore 4, 2) := by decide +kernel
theorem dX7_rest_92 : decode cX7_rest 92 = .ok (.iinc 5 1, 3) := by decide +kernel
theorem dX7_rest_95 : decode cX7_rest 95 = .ok (.goto (-53), 3) := by decide +kernel
theorem dX7_rest_98 : decode cX7_rest 98 = .ok (.iload_n 2, 1) := by decide +kernel
theorem dX7_rest_99 : decode cX7_rest 99 = .ok (.ifCond .ne 7, 3) := by decide +kernel
theorem dX7_rest_102 : decode cX7_rest 102 = .ok (.iload_n 3, 1) := by decide +kernel
theorem dX7_rest_103 : decode cX7_rest 103 = .ok (.goto 5, 3) := by decide +kernel
theorem dX7_rest_106 : decode cX7_rest 106 = .ok (.iload 4, 2) := by decide +kernel
theorem dX7_rest_108 : decode cX7_rest 108 = .ok (.ireturn, 1) := by decide +kernel
theorem dX7_first_0 : decode cX7_first 0 = .ok (.aload_n 0, 1) := by decide +kernel
theorem dX7_first_1 : decode cX7_first 1 = .ok (.iload_n 1, 1) := by decide +kernel
theorem dX7_first_2 : decode cX7_first 2 = .ok (.invokevirtual 92, 3) := by decide +kernel
theorem dX7_first_5 : decode cX7_first 5 = .ok (.ifCond .ne 9, 3) := by decide +kernel
theorem dX7_first_8 : decode cX7_first 8 = .ok (.aload_n 0, 1) := by decide +kernel
theorem dX7_first_9 : decode cX7_first 9 = .ok (.iconst (-1), 1) := by decide +kernel
theorem dX7_first_10 : decode cX7_first 10 = .ok (.invokevirtual 103, 3) := by decide +kernel
theorem dX7_first_13 : decode cX7_first 13 = .ok (.ireturn, 1) := by decide +kernel
theorem dX7_first_14 : decode cX7_first 14 = .ok (.bipush (-9), 2) := by decide +kernel
theorem dX7_first_16 : decode cX7_first 16 = .ok (.istore_n 2, 1) := by decide +kernel
theorem dX7_first_17 : decode cX7_first 17 = .ok (.bipush (-9), 2) := by decide +kernel
theorem dX7_first_19 : decode cX7_first 19 = .ok (.istore_n 3, 1) := by decide +kernel
theorem dX7_first_20 : decode cX7_first 20 = .ok (.iconst 0, 1) := by decide +kernel
theorem dX7_first_21 : decode cX7_first 21 = .ok (.istore 4, 2) := by decide +kernel
theorem dX7_first_23 : decode cX7_first 23 = .ok (.iload 4, 2) := by decide +kernel
theorem dX7_first_25 : decode cX7_first 25 = .ok (.iconst 4, 1) := by decide +kernel
theorem dX7_first_26 : decode cX7_first 26 = .ok (.if_icmp .ge 57, 3) := by decide +kernel
theorem dX7_first_29 : decode cX7_first 29 = .ok (.aload_n 0, 1) := by decide +kernel
theorem dX7_first_30 : decode cX7_first 30 = .ok (.iload_n 1, 1) := by decide +kernel
theorem dX7_first_31 : decode cX7_first 31 = .ok (.invokevirtual 227, 3) := by decide +kernel
theorem dX7_first_34 : decode cX7_first 34 = .ok (.aload_n 0, 1) := by decide +kernel
theorem dX7_first_35 : decode cX7_first 35 = .ok (.iload 4, 2) := by decide +kernel
theorem dX7_first_37 : decode cX7_first 37 = .ok (.invokevirtual 230, 3) := by decide +kernel
theorem dX7_first_40 : decode cX7_first 40 = .ok (.istore 5, 2) := by decide +kernel
theorem dX7_first_42 : decode cX7_first 42 = .ok (.iload 5, 2) := by decide +kernel
theorem dX7_first_44 : decode cX7_first 44 = .ok (.ifCond .ge 6, 3) := by decide +kernel
theorem dX7_first_47 : decode cX7_first 47 = .ok (.goto 30, 3) := by decide +kernel
theorem dX7_first_50 : decode cX7_first 50 = .ok (.aload_n 0, 1) := by decide +kernel
theorem dX7_first_51 : decode cX7_first 51 = .ok (.iload 5, 2) := by decide +kernel
theorem dX7_first_53 : decode cX7_first 53 = .ok (.invokevirtual 233, 3) := by decide +kernel
theorem dX7_first_56 : decode cX7_first 56 = .ok (.aload_n 0, 1) := by decide +kernel
theorem dX7_first_57 : decode cX7_first 57 = .ok (.invokevirtual 260, 3) := by decide +kernel
theorem dX7_first_60 : decode cX7_first 60 = .ok (.istore 6, 2) := by decide +kernel
theorem dX7_first_62 : decode cX7_first 62 = .ok (.iload 6, 2) := by decide +kernel
theorem dX7_first_64 : decode cX7_first 64 = .ok (.iload_n 3, 1) := by decide +kernel
theorem dX7_first_65 : decode cX7_first 65 = .ok (.if_icmp .gt 6, 3) := by decide +kernel
theorem dX7_first_68 : decode cX7_first 68 = .ok (.goto 9, 3) := by decide +kernel
theorem dX7_first_71 : decode cX7_first 71 = .ok (.iload 4, 2) := by decide +kernel
theorem dX7_first_73 : decode cX7_first 73 = .ok (.istore_n 2, 1) := by decide +kernel
theorem dX7_first_74 : decode cX7_first 74 = .ok (.iload 6, 2) := by decide +kernel
theorem dX7_first_76 : decode cX7_first 76 = .ok (.istore_n 3, 1) := by decide +kernel
theorem dX7_first_77 : decode cX7_first 77 = .ok (.iinc 4 1, 3) := by decide +kernel
theorem dX7_first_80 : decode cX7_first 80 = .ok (.goto (-57), 3) := by decide +kernel
theorem dX7_first_83 : decode cX7_first 83 = .ok (.iload_n 2, 1) := by decide +kernel
theorem dX7_first_84 : decode cX7_first 84 = .ok (.ireturn, 1) := by decide +kernel
theorem dX7_mostOfAll_0 : decode cX7_mostOfAll 0 = .ok (.iconst 0, 1) := by decide +kernel
theorem dX7_mostOfAll_1 : decode cX7_mostOfAll 1 = .ok (.istore_n 1, 1) := by decide +kernel
theorem dX7_mostOfAll_2 : decode cX7_mostOfAll 2 = .ok (.iconst 0, 1) := by decide +kernel
theorem dX7_mostOfAll_3 : decode cX7_mostOfAll 3 = .ok (.istore_n 2, 1) := by decide +kernel
theorem dX7_mostOfAll_4 : decode cX7_mostOfAll 4 = .ok (.iload_n 2, 1) := by decide +kernel
theorem dX7_mostOfAll_5 : decode cX7_mostOfAll 5 = .ok (.aload_n 0, 1) := by decide +kernel
theorem dX7_mostOfAll_6 : decode cX7_mostOfAll 6 = .ok (.getfield 89, 3) := by decide +kernel
theorem dX7_mostOfAll_9 : decode cX7_mostOfAll 9 = .ok (.if_icmp .ge 17, 3) := by decide +kernel
theorem dX7_mostOfAll_12 : decode cX7_mostOfAll 12 = .ok (.iload_n 1, 1) := by decide +kernel
theorem dX7_mostOfAll_13 : decode cX7_mostOfAll 13 = .ok (.aload_n 0, 1) := by decide +kernel
theorem dX7_mostOfAll_14 : decode cX7_mostOfAll 14 = .ok (.iload_n 2, 1) := by decide +kernel
theorem dX7_mostOfAll_15 : decode cX7_mostOfAll 15 = .ok (.invokevirtual 263, 3) := by decide +kernel
theorem dX7_mostOfAll_18 : decode cX7_mostOfAll 18 = .ok (.iadd, 1) := by decide +kernel
theorem dX7_mostOfAll_19 : decode cX7_mostOfAll 19 = .ok (.istore_n 1, 1) := by decide +kernel
theorem dX7_mostOfAll_20 : decode cX7_mostOfAll 20 = .ok (.iinc 2 1, 3) := by decide +kernel
theorem dX7_mostOfAll_23 : decode cX7_mostOfAll 23 = .ok (.goto (-19), 3) := by decide +kernel
theorem dX7_mostOfAll_26 : decode cX7_mostOfAll 26 = .ok (.iload_n 1, 1) := by decide +kernel
theorem dX7_mostOfAll_27 : decode cX7_mostOfAll 27 = .ok (.ireturn, 1) := by decide +kernel
theorem dX7_hold_0 : decode cX7_hold 0 = .ok (.aload_n 0, 1) := by decide +kernel
theorem dX7_hold_1 : decode cX7_hold 1 = .ok (.getfield 148, 3) := by decide +kernel
theorem dX7_hold_4 : decode cX7_hold 4 = .ok (.istore_n 1, 1) := by decide +kernel
theorem dX7_hold_5 : decode cX7_hold 5 = .ok (.iconst 0, 1) := by decide +kernel
theorem dX7_hold_6 : decode cX7_hold 6 = .ok (.istore_n 2, 1) := by decide +kernel
theorem dX7_hold_7 : decode cX7_hold 7 = .ok (.bipush (-9), 2) := by decide +kernel
theorem dX7_hold_9 : decode cX7_hold 9 = .ok (.istore_n 3, 1) := by decide +kernel
theorem dX7_hold_10 : decode cX7_hold 10 = .ok (.iconst 0, 1) := by decide +kernel
theorem dX7_hold_11 : decode cX7_hold 11 = .ok (.istore 4, 2) := by decide +kernel
theorem dX7_hold_13 : decode cX7_hold 13 = .ok (.iload 4, 2) := by decide +kernel
theorem dX7_hold_15 : decode cX7_hold 15 = .ok (.iconst 3, 1) := by decide +kernel
theorem dX7_hold_16 : decode cX7_hold 16 = .ok (.if_icmp .ge 42, 3) := by decide +kernel
theorem dX7_hold_19 : decode cX7_hold 19 = .ok (.aload_n 0, 1) := by decide +kernel
theorem dX7_hold_20 : decode cX7_hold 20 = .ok (.iload 4, 2) := by decide +kernel
theorem dX7_hold_22 : decode cX7_hold 22 = .ok (.iconst 1, 1) := by decide +kernel
theorem dX7_hold_23 : decode cX7_hold 23 = .ok (.isub, 1) := by decide +kernel
theorem dX7_hold_24 : decode cX7_hold 24 = .ok (.putfield 148, 3) := by decide +kernel
theorem dX7_hold_27 : decode cX7_hold 27 = .ok (.aload_n 0, 1) := by decide +kernel
theorem dX7_hold_28 : decode cX7_hold 28 = .ok (.invokevirtual 266, 3) := by decide +kernel
theorem dX7_hold_31 : decode cX7_hold 31 = .ok (.istore 5, 2) := by decide +kernel
theorem dX7_hold_33 : decode cX7_hold 33 = .ok (.iload_n 3, 1) := by decide +kernel
theorem dX7_hold_34 : decode cX7_hold 34 = .ok (.ifCond .lt 12, 3) := by decide +kernel
theorem dX7_hold_37 : decode cX7_hold 37 = .ok (.iload 5, 2) := by decide +kernel
theorem dX7_hold_39 : decode cX7_hold 39 = .ok (.iload_n 3, 1) := by decide +kernel
theorem dX7_hold_40 : decode cX7_hold 40 = .ok (.if_icmp .lt 6, 3) := by decide +kernel
theorem dX7_hold_43 : decode cX7_hold 43 = .ok (.goto 9, 3) := by decide +kernel
theorem dX7_hold_46 : decode cX7_hold 46 = .ok (.iload 4, 2) := by decide +kernel
theorem dX7_hold_48 : decode cX7_hold 48 = .ok (.istore_n 2, 1) := by decide +kernel
theorem dX7_hold_49 : decode cX7_hold 49 = .ok (.iload 5, 2) := by decide +kernel
theorem dX7_hold_51 : decode cX7_hold 51 = .ok (.istore_n 3, 1) := by decide +kernel
theorem dX7_hold_52 : decode cX7_hold 52 = .ok (.iinc 4 1, 3) := by decide +kernel
theorem dX7_hold_55 : decode cX7_hold 55 = .ok (.goto (-42), 3) := by decide +kernel
theorem dX7_hold_58 : decode cX7_hold 58 = .ok (.aload_n 0, 1) := by decide +kernel
theorem dX7_hold_59 : decode cX7_hold 59 = .ok (.iload_n 1, 1) := by decide +kernel
theorem dX7_hold_60 : decode cX7_hold 60 = .ok (.putfield 148, 3) := by decide +kernel
theorem dX7_hold_63 : decode cX7_hold 63 = .ok (.iload_n 2, 1) := by decide +kernel
theorem dX7_hold_64 : decode cX7_hold 64 = .ok (.ireturn, 1) := by decide +kernel
theorem dX7_bend_0 : decode cX7_bend 0 = .ok (.aload_n 0, 1) := by decide +kernel
theorem dX7_bend_1 : decode cX7_bend 1 = .ok (.getfield 142, 3) := by decide +kernel
theorem dX7_bend_4 : decode cX7_bend 4 = .ok (.istore_n 1, 1) := by decide +kernel
theorem dX7_bend_5 : decode cX7_bend 5 = .ok (.iconst 0, 1) := by decide +kernel
theorem dX7_bend_6 : decode cX7_bend 6 = .ok (.istore_n 2, 1) := by decide +kernel
theorem dX7_bend_7 : decode cX7_bend 7 = .ok (.bipush (-9), 2) := by decide +kernel
theorem dX7_bend_9 : decode cX7_bend 9 = .ok (.istore_n 3, 1) := by decide +kernel
theorem dX7_bend_10 : decode cX7_bend 10 = .ok (.iconst 0, 1) := by decide +kernel
theorem dX7_bend_11 : decode cX7_bend 11 = .ok (.istore 4, 2) := by decide +kernel
theorem dX7_bend_13 : decode cX7_bend 13 = .ok (.iload 4, 2) := by decide +kernel
theorem dX7_bend_15 : decode cX7_bend 15 = .ok (.bipush 6, 2) := by decide +kernel
theorem dX7_bend_17 : decode cX7_bend 17 = .ok (.if_icmp .ge 40, 3) := by decide +kernel
theorem dX7_bend_20 : decode cX7_bend 20 = .ok (.aload_n 0, 1) := by decide +kernel
theorem dX7_bend_21 : decode cX7_bend 21 = .ok (.iload 4, 2) := by decide +kernel
theorem dX7_bend_23 : decode cX7_bend 23 = .ok (.putfield 142, 3) := by decide +kernel
theorem dX7_bend_26 : decode cX7_bend 26 = .ok (.aload_n 0, 1) := by decide +kernel
theorem dX7_bend_27 : decode cX7_bend 27 = .ok (.invokevirtual 266, 3) := by decide +kernel
theorem dX7_bend_30 : decode cX7_bend 30 = .ok (.istore 5, 2) := by decide +kernel
theorem dX7_bend_32 : decode cX7_bend 32 = .ok (.iload_n 3, 1) := by decide +kernel
theorem dX7_bend_33 : decode cX7_bend 33 = .ok (.ifCond .lt 12, 3) := by decide +kernel
theorem dX7_bend_36 : decode cX7_bend 36 = .ok (.iload 5, 2) := by decide +kernel
theorem dX7_bend_38 : decode cX7_bend 38 = .ok (.iload_n 3, 1) := by decide +kernel
theorem dX7_bend_39 : decode cX7_bend 39 = .ok (.if_icmp .lt 6, 3) := by decide +kernel
theorem dX7_bend_42 : decode cX7_bend 42 = .ok (.goto 9, 3) := by decide +kernel
theorem dX7_bend_45 : decode cX7_bend 45 = .ok (.iload 4, 2) := by decide +kernel
theorem dX7_bend_47 : decode cX7_bend 47 = .ok (.istore_n 2, 1) := by decide +kernel
theorem dX7_bend_48 : decode cX7_bend 48 = .ok (.iload 5, 2) := by decide +kernel
theorem dX7_bend_50 : decode cX7_bend 50 = .ok (.istore_n 3, 1) := by decide +kernel
theorem dX7_bend_51 : decode cX7_bend 51 = .ok (.iinc 4 1, 3) := by decide +kernel
theorem dX7_bend_54 : decode cX7_bend 54 = .ok (.goto (-41), 3) := by decide +kernel
theorem dX7_bend_57 : decode cX7_bend 57 = .ok (.aload_n 0, 1) := by decide +kernel
theorem dX7_bend_58 : decode cX7_bend 58 = .ok (.iload_n 1, 1) := by decide +kernel
theorem dX7_bend_59 : decode cX7_bend 59 = .ok (.putfield 142, 3) := by decide +kernel
theorem dX7_bend_62 : decode cX7_bend 62 = .ok (.iload_n 2, 1) := by decide +kernel
theorem dX7_bend_63 : decode cX7_bend 63 = .ok (.ireturn, 1) := by decide +kernel
theorem dX7_isNobodyAbove_0 : decode cX7_isNobodyAbove 0 = .ok (.iconst 0, 1) := by decide +kernel
theorem dX7_isNobodyAbove_1 : decode cX7_isNobodyAbove 1 = .ok (.istore_n 2, 1) := by decide +kernel
theorem dX7_isNobodyAbove_2 : decode cX7_isNobodyAbove 2 = .ok (.iload_n 2, 1) := by decide +kernel
theorem dX7_isNobodyAbove_3 : decode cX7_isNobodyAbove 3 = .ok (.aload_n 0, 1) := by decide +kernel
theorem dX7_isNobodyAbove_4 : decode cX7_isNobodyAbove 4 = .ok (.getfield 89, 3) := by decide +kernel
theorem dX7_isNobodyAbove_7 : decode cX7_isNobodyAbove 7 = .ok (.if_icmp .ge 20, 3) := by decide +kernel
theorem dX7_isNobodyAbove_10 : decode cX7_isNobodyAbove 10 = .ok (.aload_n 0, 1) := by decide +kernel
theorem dX7_isNobodyAbove_11 : decode cX7_isNobodyAbove 11 = .ok (.iload_n 2, 1) := by decide +kernel
theorem dX7_isNobodyAbove_12 : decode cX7_isNobodyAbove 12 = .ok (.invokevirtual 263, 3) := by decide +kernel
theorem dX7_isNobodyAbove_15 : decode cX7_isNobodyAbove 15 = .ok (.iload_n 1, 1) := by decide +kernel
theorem dX7_isNobodyAbove_16 : decode cX7_isNobodyAbove 16 = .ok (.if_icmp .le 5, 3) := by decide +kernel
theorem dX7_isNobodyAbove_19 : decode cX7_isNobodyAbove 19 = .ok (.iconst 0, 1) := by decide +kernel
theorem dX7_isNobodyAbove_20 : decode cX7_isNobodyAbove 20 = .ok (.ireturn, 1) := by decide +kernel
theorem dX7_isNobodyAbove_21 : decode cX7_isNobodyAbove 21 = .ok (.iinc 2 1, 3) := by decide +kernel
theorem dX7_isNobodyAbove_24 : decode cX7_isNobodyAbove 24 = .ok (.goto (-22), 3) := by decide +kernel
theorem dX7_isNobodyAbove_27 : decode cX7_isNobodyAbove 27 = .ok (.iconst 1, 1) := by decide +kernel
theorem dX7_isNobodyAbove_28 : decode cX7_isNobodyAbove 28 = .ok (.ireturn, 1) := by decide +kernel
theorem dX7_early_0 : decode cX7_early 0 = .ok (.iload_n 1, 1) := by decide +kernel
theorem dX7_early_1 : decode cX7_early 1 = .ok (.iconst 0, 1) := by decide +kernel
theorem dX7_early_2 : decode cX7_early 2 = .ok (.sipush 999, 3) := by decide +kernel
theorem dX7_early_5 : decode cX7_early 5 = .ok (.invokestatic 96, 3) := by decide +kernel
theorem dX7_early_8 : decode cX7_early 8 = .ok (.istore_n 2, 1) := by decide +kernel
theorem dX7_early_9 : decode cX7_early 9 = .ok (.iload_n 2, 1) := by decide +kernel
theorem dX7_early_10 : decode cX7_early 10 = .ok (.ifCond .eq 9, 3) := by decide +kernel
theorem dX7_early_13 : decode cX7_early 13 = .ok (.aload_n 0, 1) := by decide +kernel
theorem dX7_early_14 : decode cX7_early 14 = .ok (.iload_n 2, 1) := by decide +kernel
theorem dX7_early_15 : decode cX7_early 15 = .ok (.invokevirtual 103, 3) := by decide +kernel
theorem dX7_early_18 : decode cX7_early 18 = .ok (.ireturn, 1) := by decide +kernel
theorem dX7_early_19 : decode cX7_early 19 = .ok (.aload_n 0, 1) := by decide +kernel
theorem dX7_early_20 : decode cX7_early 20 = .ok (.getfield 49, 3) := by decide +kernel
theorem dX7_early_23 : decode cX7_early 23 = .ok (.istore_n 3, 1) := by decide +kernel
theorem dX7_early_24 : decode cX7_early 24 = .ok (.aload_n 0, 1) := by decide +kernel
theorem dX7_early_25 : decode cX7_early 25 = .ok (.bipush 99, 2) := by decide +kernel
theorem dX7_early_27 : decode cX7_early 27 = .ok (.putfield 49, 3) := by decide +kernel
theorem dX7_early_30 : decode cX7_early 30 = .ok (.aload_n 0, 1) := by decide +kernel
theorem dX7_early_31 : decode cX7_early 31 = .ok (.getfield 49, 3) := by decide +kernel
theorem dX7_early_34 : decode cX7_early 34 = .ok (.bipush 9, 2) := by decide +kernel
theorem dX7_early_36 : decode cX7_early 36 = .ok (.if_icmp .le 24, 3) := by decide +kernel
theorem dX7_early_39 : decode cX7_early 39 = .ok (.aload_n 0, 1) := by decide +kernel
theorem dX7_early_40 : decode cX7_early 40 = .ok (.iload_n 1, 1) := by decide +kernel
theorem dX7_early_41 : decode cX7_early 41 = .ok (.invokevirtual 269, 3) := by decide +kernel
theorem dX7_early_44 : decode cX7_early 44 = .ok (.ifCond .ne 16, 3) := by decide +kernel
theorem dX7_early_47 : decode cX7_early 47 = .ok (.aload_n 0, 1) := by decide +kernel
theorem dX7_early_48 : decode cX7_early 48 = .ok (.dup, 1) := by decide +kernel
theorem dX7_early_49 : decode cX7_early 49 = .ok (.getfield 49, 3) := by decide +kernel
theorem dX7_early_52 : decode cX7_early 52 = .ok (.iconst 1, 1) := by decide +kernel
theorem dX7_early_53 : decode cX7_early 53 = .ok (.isub, 1) := by decide +kernel
theorem dX7_early_54 : decode cX7_early 54 = .ok (.putfield 49, 3) := by decide +kernel
theorem dX7_early_57 : decode cX7_early 57 = .ok (.goto (-27), 3) := by decide +kernel
theorem dX7_early_60 : decode cX7_early 60 = .ok (.aload_n 0, 1) := by decide +kernel
theorem dX7_early_61 : decode cX7_early 61 = .ok (.getfield 49, 3) := by decide +kernel
theorem dX7_early_64 : decode cX7_early 64 = .ok (.bipush 9, 2) := by decide +kernel
theorem dX7_early_66 : decode cX7_early 66 = .ok (.if_icmp .le 10, 3) := by decide +kernel
theorem dX7_early_69 : decode cX7_early 69 = .ok (.aload_n 0, 1) := by decide +kernel
theorem dX7_early_70 : decode cX7_early 70 = .ok (.getfield 49, 3) := by decide +kernel
theorem dX7_early_73 : decode cX7_early 73 = .ok (.goto 5, 3) := by decide +kernel
theorem dX7_early_76 : decode cX7_early 76 = .ok (.bipush (-9), 2) := by decide +kernel
theorem dX7_early_78 : decode cX7_early 78 = .ok (.istore 4, 2) := by decide +kernel
theorem dX7_early_80 : decode cX7_early 80 = .ok (.aload_n 0, 1) := by decide +kernel
theorem dX7_early_81 : decode cX7_early 81 = .ok (.iload_n 3, 1) := by decide +kernel
theorem dX7_early_82 : decode cX7_early 82 = .ok (.putfield 49, 3) := by decide +kernel
theorem dX7_early_85 : decode cX7_early 85 = .ok (.iload 4, 2) := by decide +kernel
theorem dX7_early_87 : decode cX7_early 87 = .ok (.ireturn, 1) := by decide +kernel
theorem dX7_seat_0 : decode cX7_seat 0 = .ok (.aload_n 0, 1) := by decide +kernel
theorem dX7_seat_1 : decode cX7_seat 1 = .ok (.iload_n 1, 1) := by decide +kernel
theorem dX7_seat_2 : decode cX7_seat 2 = .ok (.invokevirtual 92, 3) := by decide +kernel
theorem dX7_seat_5 : decode cX7_seat 5 = .ok (.ifCond .ne 9, 3) := by decide +kernel
theorem dX7_seat_8 : decode cX7_seat 8 = .ok (.aload_n 0, 1) := by decide +kernel
theorem dX7_seat_9 : decode cX7_seat 9 = .ok (.iconst (-1), 1) := by decide +kernel
theorem dX7_seat_10 : decode cX7_seat 10 = .ok (.invokevirtual 103, 3) := by decide +kernel
theorem dX7_seat_13 : decode cX7_seat 13 = .ok (.ireturn, 1) := by decide +kernel
theorem dX7_seat_14 : decode cX7_seat 14 = .ok (.aload_n 0, 1) := by decide +kernel
theorem dX7_seat_15 : decode cX7_seat 15 = .ok (.getfield 25, 3) := by decide +kernel
theorem dX7_seat_18 : decode cX7_seat 18 = .ok (.iload_n 1, 1) := by decide +kernel
theorem dX7_seat_19 : decode cX7_seat 19 = .ok (.iaload, 1) := by decide +kernel
theorem dX7_seat_20 : decode cX7_seat 20 = .ok (.istore_n 2, 1) := by decide +kernel
theorem dX7_seat_21 : decode cX7_seat 21 = .ok (.iconst 0, 1) := by decide +kernel
theorem dX7_seat_22 : decode cX7_seat 22 = .ok (.istore_n 3, 1) := by decide +kernel
theorem dX7_seat_23 : decode cX7_seat 23 = .ok (.bipush (-9), 2) := by decide +kernel
theorem dX7_seat_25 : decode cX7_seat 25 = .ok (.istore 4, 2) := by decide +kernel
theorem dX7_seat_27 : decode cX7_seat 27 = .ok (.iconst 0, 1) := by decide +kernel
theorem dX7_seat_28 : decode cX7_seat 28 = .ok (.istore 5, 2) := by decide +kernel
theorem dX7_seat_30 : decode cX7_seat 30 = .ok (.iload 5, 2) := by decide +kernel
theorem dX7_seat_32 : decode cX7_seat 32 = .ok (.iconst 3, 1) := by decide +kernel
theorem dX7_seat_33 : decode cX7_seat 33 = .ok (.if_icmp .ge 41, 3) := by decide +kernel
theorem dX7_seat_36 : decode cX7_seat 36 = .ok (.aload_n 0, 1) := by decide +kernel
theorem dX7_seat_37 : decode cX7_seat 37 = .ok (.getfield 25, 3) := by decide +kernel
theorem dX7_seat_40 : decode cX7_seat 40 = .ok (.iload_n 1, 1) := by decide +kernel
theorem dX7_seat_41 : decode cX7_seat 41 = .ok (.iload 5, 2) := by decide +kernel
theorem dX7_seat_43 : decode cX7_seat 43 = .ok (.iastore, 1) := by decide +kernel
theorem dX7_seat_44 : decode cX7_seat 44 = .ok (.aload_n 0, 1) := by decide +kernel
theorem dX7_seat_45 : decode cX7_seat 45 = .ok (.iload_n 1, 1) := by decide +kernel
theorem dX7_seat_46 : decode cX7_seat 46 = .ok (.invokevirtual 263, 3) := by decide +kernel
theorem dX7_seat_49 : decode cX7_seat 49 = .ok (.istore 6, 2) := by decide +kernel
theorem dX7_seat_51 : decode cX7_seat 51 = .ok (.iload 6, 2) := by decide +kernel
theorem dX7_seat_53 : decode cX7_seat 53 = .ok (.iload 4, 2) := by decide +kernel
theorem dX7_seat_55 : decode cX7_seat 55 = .ok (.if_icmp .gt 6, 3) := by decide +kernel
theorem dX7_seat_58 : decode cX7_seat 58 = .ok (.goto 10, 3) := by decide +kernel
theorem dX7_seat_61 : decode cX7_seat 61 = .ok (.iload 5, 2) := by decide +kernel
theorem dX7_seat_63 : decode cX7_seat 63 = .ok (.istore_n 3, 1) := by decide +kernel
theorem dX7_seat_64 : decode cX7_seat 64 = .ok (.iload 6, 2) := by decide +kernel
theorem dX7_seat_66 : decode cX7_seat 66 = .ok (.istore 4, 2) := by decide +kernel
theorem dX7_seat_68 : decode cX7_seat 68 = .ok (.iinc 5 1, 3) := by decide +kernel
theorem dX7_seat_71 : decode cX7_seat 71 = .ok (.goto (-41), 3) := by decide +kernel
theorem dX7_seat_74 : decode cX7_seat 74 = .ok (.aload_n 0, 1) := by decide +kernel
theorem dX7_seat_75 : decode cX7_seat 75 = .ok (.getfield 25, 3) := by decide +kernel
theorem dX7_seat_78 : decode cX7_seat 78 = .ok (.iload_n 1, 1) := by decide +kernel
theorem dX7_seat_79 : decode cX7_seat 79 = .ok (.iload_n 2, 1) := by decide +kernel
theorem dX7_seat_80 : decode cX7_seat 80 = .ok (.iastore, 1) := by decide +kernel
theorem dX7_seat_81 : decode cX7_seat 81 = .ok (.iload_n 3, 1) := by decide +kernel
theorem dX7_seat_82 : decode cX7_seat 82 = .ok (.ireturn, 1) := by decide +kernel
theorem dX7_more_0 : decode cX7_more 0 = .ok (.aload_n 0, 1) := by decide +kernel
theorem dX7_more_1 : decode cX7_more 1 = .ok (.iload_n 1, 1) := by decide +kernel
theorem dX7_more_2 : decode cX7_more 2 = .ok (.iload_n 2, 1) := by decide +kernel
theorem dX7_more_3 : decode cX7_more 3 = .ok (.invokevirtual 272, 3) := by decide +kernel
theorem dX7_more_6 : decode cX7_more 6 = .ok (.ifCond .eq 17, 3) := by decide +kernel
theorem dX7_more_9 : decode cX7_more 9 = .ok (.aload_n 0, 1) := by decide +kernel
theorem dX7_more_10 : decode cX7_more 10 = .ok (.iload_n 1, 1) := by decide +kernel
theorem dX7_more_11 : decode cX7_more 11 = .ok (.invokevirtual 263, 3) := by decide +kernel
theorem dX7_more_14 : decode cX7_more 14 = .ok (.aload_n 0, 1) := by decide +kernel
theorem dX7_more_15 : decode cX7_more 15 = .ok (.iload_n 2, 1) := by decide +kernel
theorem dX7_more_16 : decode cX7_more 16 = .ok (.invokevirtual 263, 3) := by decide +kernel
theorem dX7_more_19 : decode cX7_more 19 = .ok (.isub, 1) := by decide +kernel
theorem dX7_more_20 : decode cX7_more 20 = .ok (.goto 8, 3) := by decide +kernel
theorem dX7_more_23 : decode cX7_more 23 = .ok (.aload_n 0, 1) := by decide +kernel
theorem dX7_more_24 : decode cX7_more 24 = .ok (.iconst (-1), 1) := by decide +kernel
theorem dX7_more_25 : decode cX7_more 25 = .ok (.invokevirtual 275, 3) := by decide +kernel
theorem dX7_more_28 : decode cX7_more 28 = .ok (.ireturn, 1) := by decide +kernel
theorem dX7_both_0 : decode cX7_both 0 = .ok (.aload_n 0, 1) := by decide +kernel
theorem dX7_both_1 : decode cX7_both 1 = .ok (.iload_n 1, 1) := by decide +kernel
theorem dX7_both_2 : decode cX7_both 2 = .ok (.iload_n 2, 1) := by decide +kernel
theorem dX7_both_3 : decode cX7_both 3 = .ok (.invokevirtual 272, 3) := by decide +kernel
theorem dX7_both_6 : decode cX7_both 6 = .ok (.ifCond .ne 9, 3) := by decide +kernel
theorem dX7_both_9 : decode cX7_both 9 = .ok (.aload_n 0, 1) := by decide +kernel
theorem dX7_both_10 : decode cX7_both 10 = .ok (.iconst (-1), 1) := by decide +kernel
theorem dX7_both_11 : decode cX7_both 11 = .ok (.invokevirtual 103, 3) := by decide +kernel
theorem dX7_both_14 : decode cX7_both 14 = .ok (.ireturn, 1) := by decide +kernel
theorem dX7_both_15 : decode cX7_both 15 = .ok (.aload_n 0, 1) := by decide +kernel
theorem dX7_both_16 : decode cX7_both 16 = .ok (.iload_n 1, 1) := by decide +kernel
theorem dX7_both_17 : decode cX7_both 17 = .ok (.invokevirtual 263, 3) := by decide +kernel
theorem dX7_both_20 : decode cX7_both 20 = .ok (.pop, 1) := by decide +kernel
theorem dX7_both_21 : decode cX7_both 21 = .ok (.aload_n 0, 1) := by decide +kernel
theorem dX7_both_22 : decode cX7_both 22 = .ok (.getfield 251, 3) := by decide +kernel
theorem dX7_both_25 : decode cX7_both 25 = .ok (.istore_n 3, 1) := by decide +kernel
theorem dX7_both_26 : decode cX7_both 26 = .ok (.aload_n 0, 1) := by decide +kernel
theorem dX7_both_27 : decode cX7_both 27 = .ok (.iload_n 2, 1) := by decide +kernel
theorem dX7_both_28 : decode cX7_both 28 = .ok (.invokevirtual 263, 3) := by decide +kernel
theorem dX7_both_31 : decode cX7_both 31 = .ok (.pop, 1) := by decide +kernel
theorem dX7_both_32 : decode cX7_both 32 = .ok (.aload_n 0, 1) := by decide +kernel
theorem dX7_both_33 : decode cX7_both 33 = .ok (.iload_n 3, 1) := by decide +kernel
theorem dX7_both_34 : decode cX7_both 34 = .ok (.aload_n 0, 1) := by decide +kernel
theorem dX7_both_35 : decode cX7_both 35 = .ok (.getfield 251, 3) := by decide +kernel
theorem dX7_both_38 : decode cX7_both 38 = .ok (.ior, 1) := by decide +kernel
theorem dX7_both_39 : decode cX7_both 39 = .ok (.invokevirtual 196, 3) := by decide +kernel
theorem dX7_both_42 : decode cX7_both 42 = .ok (.ireturn, 1) := by decide +kernel
theorem dX7_divisor_0 : decode cX7_divisor 0 = .ok (.lload_n 0, 1) := by decide +kernel
theorem dX7_divisor_1 : decode cX7_divisor 1 = .ok (.lstore 4, 2) := by decide +kernel
theorem dX7_divisor_3 : decode cX7_divisor 3 = .ok (.lload_n 2, 1) := by decide +kernel
theorem dX7_divisor_4 : decode cX7_divisor 4 = .ok (.lstore 6, 2) := by decide +kernel
theorem dX7_divisor_6 : decode cX7_divisor 6 = .ok (.lload 6, 2) := by decide +kernel
theorem dX7_divisor_8 : decode cX7_divisor 8 = .ok (.lconst 0, 1) := by decide +kernel
theorem dX7_divisor_9 : decode cX7_divisor 9 = .ok (.lcmp, 1) := by decide +kernel
theorem dX7_divisor_10 : decode cX7_divisor 10 = .ok (.ifCond .eq 21, 3) := by decide +kernel
theorem dX7_divisor_13 : decode cX7_divisor 13 = .ok (.lload 4, 2) := by decide +kernel
theorem dX7_divisor_15 : decode cX7_divisor 15 = .ok (.lload 6, 2) := by decide +kernel
theorem dX7_divisor_17 : decode cX7_divisor 17 = .ok (.lrem, 1) := by decide +kernel
theorem dX7_divisor_18 : decode cX7_divisor 18 = .ok (.lstore 8, 2) := by decide +kernel
theorem dX7_divisor_20 : decode cX7_divisor 20 = .ok (.lload 6, 2) := by decide +kernel
theorem dX7_divisor_22 : decode cX7_divisor 22 = .ok (.lstore 4, 2) := by decide +kernel
theorem dX7_divisor_24 : decode cX7_divisor 24 = .ok (.lload 8, 2) := by decide +kernel
theorem dX7_divisor_26 : decode cX7_divisor 26 = .ok (.lstore 6, 2) := by decide +kernel
theorem dX7_divisor_28 : decode cX7_divisor 28 = .ok (.goto (-22), 3) := by decide +kernel
theorem dX7_divisor_31 : decode cX7_divisor 31 = .ok (.lload 4, 2) := by decide +kernel
theorem dX7_divisor_33 : decode cX7_divisor 33 = .ok (.lreturn, 1) := by decide +kernel
theorem dX7_areColumns_0 : decode cX7_areColumns 0 = .ok (.iconst 0, 1) := by decide +kernel
theorem dX7_areColumns_1 : decode cX7_areColumns 1 = .ok (.istore_n 1, 1) := by decide +kernel
theorem dX7_areColumns_2 : decode cX7_areColumns 2 = .ok (.iload_n 1, 1) := by decide +kernel
theorem dX7_areColumns_3 : decode cX7_areColumns 3 = .ok (.aload_n 0, 1) := by decide +kernel
theorem dX7_areColumns_4 : decode cX7_areColumns 4 = .ok (.getfield 278, 3) := by decide +kernel
theorem dX7_areColumns_7 : decode cX7_areColumns 7 = .ok (.if_icmp .ge 21, 3) := by decide +kernel
theorem dX7_areColumns_10 : decode cX7_areColumns 10 = .ok (.aload_n 0, 1) := by decide +kernel
theorem dX7_areColumns_11 : decode cX7_areColumns 11 = .ok (.getfield 80, 3) := by decide +kernel
theorem dX7_areColumns_14 : decode cX7_areColumns 14 = .ok (.iload_n 1, 1) := by decide +kernel
theorem dX7_areColumns_15 : decode cX7_areColumns 15 = .ok (.iaload, 1) := by decide +kernel
theorem dX7_areColumns_16 : decode cX7_areColumns 16 = .ok (.iconst 4, 1) := by decide +kernel
theorem dX7_areColumns_17 : decode cX7_areColumns 17 = .ok (.if_icmp .lt 5, 3) := by decide +kernel
theorem dX7_areColumns_20 : decode cX7_areColumns 20 = .ok (.iconst 0, 1) := by decide +kernel
theorem dX7_areColumns_21 : decode cX7_areColumns 21 = .ok (.ireturn, 1) := by decide +kernel
theorem dX7_areColumns_22 : decode cX7_areColumns 22 = .ok (.iinc 1 1, 3) := by decide +kernel
theorem dX7_areColumns_25 : decode cX7_areColumns 25 = .ok (.goto (-23), 3) := by decide +kernel
theorem dX7_areColumns_28 : decode cX7_areColumns 28 = .ok (.iconst 1, 1) := by decide +kernel
theorem dX7_areColumns_29 : decode cX7_areColumns 29 = .ok (.ireturn, 1) := by decide +kernel
theorem dX7_worthIfSooner_0 : decode cX7_worthIfSooner 0 = .ok (.aload_n 0, 1) := by decide +kernel
theorem dX7_worthIfSooner_1 : decode cX7_worthIfSooner 1 = .ok (.iload_n 2, 1) := by decide +kernel
theorem dX7_worthIfSooner_2 : decode cX7_worthIfSooner 2 = .ok (.putfield 224, 3) := by decide +kernel
theorem dX7_worthIfSooner_5 : decode cX7_worthIfSooner 5 = .ok (.aload_n 0, 1) := by decide +kernel
theorem dX7_worthIfSooner_6 : decode cX7_worthIfSooner 6 = .ok (.iload_n 1, 1) := by decide +kernel
theorem dX7_worthIfSooner_7 : decode cX7_worthIfSooner 7 = .ok (.invokevirtual 227, 3) := by decide +kernel
theorem dX7_worthIfSooner_10 : decode cX7_worthIfSooner 10 = .ok (.iconst 0, 1) := by decide +kernel
theorem dX7_worthIfSooner_11 : decode cX7_worthIfSooner 11 = .ok (.istore_n 3, 1) := by decide +kernel
theorem dX7_worthIfSooner_12 : decode cX7_worthIfSooner 12 = .ok (.iload_n 3, 1) := by decide +kernel
theorem dX7_worthIfSooner_13 : decode cX7_worthIfSooner 13 = .ok (.aload_n 0, 1) := by decide +kernel
theorem dX7_worthIfSooner_14 : decode cX7_worthIfSooner 14 = .ok (.getfield 278, 3) := by decide +kernel
theorem dX7_worthIfSooner_17 : decode cX7_worthIfSooner 17 = .ok (.if_icmp .ge 32, 3) := by decide +kernel
theorem dX7_worthIfSooner_20 : decode cX7_worthIfSooner 20 = .ok (.aload_n 0, 1) := by decide +kernel
theorem dX7_worthIfSooner_21 : decode cX7_worthIfSooner 21 = .ok (.aload_n 0, 1) := by decide +kernel
theorem dX7_worthIfSooner_22 : decode cX7_worthIfSooner 22 = .ok (.getfield 80, 3) := by decide +kernel
theorem dX7_worthIfSooner_25 : decode cX7_worthIfSooner 25 = .ok (.iload_n 3, 1) := by decide +kernel
theorem dX7_worthIfSooner_26 : decode cX7_worthIfSooner 26 = .ok (.iaload, 1) := by decide +kernel
theorem dX7_worthIfSooner_27 : decode cX7_worthIfSooner 27 = .ok (.invokevirtual 230, 3) := by decide +kernel
theorem dX7_worthIfSooner_30 : decode cX7_worthIfSooner 30 = .ok (.istore 4, 2) := by decide +kernel
theorem dX7_worthIfSooner_32 : decode cX7_worthIfSooner 32 = .ok (.iload 4, 2) := by decide +kernel
theorem dX7_worthIfSooner_34 : decode cX7_worthIfSooner 34 = .ok (.ifCond .lt 9, 3) := by decide +kernel
theorem dX7_worthIfSooner_37 : decode cX7_worthIfSooner 37 = .ok (.aload_n 0, 1) := by decide +kernel
theorem dX7_worthIfSooner_38 : decode cX7_worthIfSooner 38 = .ok (.iload 4, 2) := by decide +kernel
theorem dX7_worthIfSooner_40 : decode cX7_worthIfSooner 40 = .ok (.invokevirtual 233, 3) := by decide +kernel
theorem dX7_worthIfSooner_43 : decode cX7_worthIfSooner 43 = .ok (.iinc 3 1, 3) := by decide +kernel
theorem dX7_worthIfSooner_46 : decode cX7_worthIfSooner 46 = .ok (.goto (-34), 3) := by decide +kernel
theorem dX7_worthIfSooner_49 : decode cX7_worthIfSooner 49 = .ok (.aload_n 0, 1) := by decide +kernel
theorem dX7_worthIfSooner_50 : decode cX7_worthIfSooner 50 = .ok (.iconst 0, 1) := by decide +kernel
theorem dX7_worthIfSooner_51 : decode cX7_worthIfSooner 51 = .ok (.putfield 224, 3) := by decide +kernel
theorem dX7_worthIfSooner_54 : decode cX7_worthIfSooner 54 = .ok (.aload_n 0, 1) := by decide +kernel
theorem dX7_worthIfSooner_55 : decode cX7_worthIfSooner 55 = .ok (.aload_n 0, 1) := by decide +kernel
theorem dX7_worthIfSooner_56 : decode cX7_worthIfSooner 56 = .ok (.getfield 218, 3) := by decide +kernel
theorem dX7_worthIfSooner_59 : decode cX7_worthIfSooner 59 = .ok (.invokevirtual 196, 3) := by decide +kernel
theorem dX7_worthIfSooner_62 : decode cX7_worthIfSooner 62 = .ok (.ireturn, 1) := by decide +kernel
theorem dX7_chance_0 : decode cX7_chance 0 = .ok (.aload_n 0, 1) := by decide +kernel
theorem dX7_chance_1 : decode cX7_chance 1 = .ok (.iload_n 1, 1) := by decide +kernel
theorem dX7_chance_2 : decode cX7_chance 2 = .ok (.invokevirtual 92, 3) := by decide +kernel
theorem dX7_chance_5 : decode cX7_chance 5 = .ok (.ifCond .ne 7, 3) := by decide +kernel
theorem dX7_chance_8 : decode cX7_chance 8 = .ok (.iconst (-1), 1) := by decide +kernel
theorem dX7_chance_9 : decode cX7_chance 9 = .ok (.goto 10, 3) := by decide +kernel
theorem dX7_chance_12 : decode cX7_chance 12 = .ok (.iload_n 2, 1) := by decide +kernel
theorem dX7_chance_13 : decode cX7_chance 13 = .ok (.iconst 0, 1) := by decide +kernel
theorem dX7_chance_14 : decode cX7_chance 14 = .ok (.bipush 20, 2) := by decide +kernel
theorem dX7_chance_16 : decode cX7_chance 16 = .ok (.invokestatic 96, 3) := by decide +kernel
theorem dX7_chance_19 : decode cX7_chance 19 = .ok (.istore 4, 2) := by decide +kernel
theorem dX7_chance_21 : decode cX7_chance 21 = .ok (.iload 4, 2) := by decide +kernel
theorem dX7_chance_23 : decode cX7_chance 23 = .ok (.ifCond .ne 32, 3) := by decide +kernel
theorem dX7_chance_26 : decode cX7_chance 26 = .ok (.iload_n 3, 1) := by decide +kernel
theorem dX7_chance_27 : decode cX7_chance 27 = .ok (.iconst 0, 1) := by decide +kernel
theorem dX7_chance_28 : decode cX7_chance 28 = .ok (.iconst 1, 1) := by decide +kernel
theorem dX7_chance_29 : decode cX7_chance 29 = .ok (.invokestatic 114, 3) := by decide +kernel
theorem dX7_chance_32 : decode cX7_chance 32 = .ok (.ifCond .ne 8, 3) := by decide +kernel
theorem dX7_chance_35 : decode cX7_chance 35 = .ok (.bipush (-2), 2) := by decide +kernel
theorem dX7_chance_37 : decode cX7_chance 37 = .ok (.goto 16, 3) := by decide +kernel
theorem dX7_chance_40 : decode cX7_chance 40 = .ok (.aload_n 0, 1) := by decide +kernel
theorem dX7_chance_41 : decode cX7_chance 41 = .ok (.invokevirtual 281, 3) := by decide +kernel
theorem dX7_chance_44 : decode cX7_chance 44 = .ok (.ifCond .ne 8, 3) := by decide +kernel
theorem dX7_chance_47 : decode cX7_chance 47 = .ok (.bipush (-3), 2) := by decide +kernel
theorem dX7_chance_49 : decode cX7_chance 49 = .ok (.goto 4, 3) := by decide +kernel
theorem dX7_chance_52 : decode cX7_chance 52 = .ok (.iconst 0, 1) := by decide +kernel
theorem dX7_chance_53 : decode cX7_chance 53 = .ok (.istore 4, 2) := by decide +kernel
theorem dX7_chance_55 : decode cX7_chance 55 = .ok (.iload 4, 2) := by decide +kernel
theorem dX7_chance_57 : decode cX7_chance 57 = .ok (.ifCond .eq 10, 3) := by decide +kernel
theorem dX7_chance_60 : decode cX7_chance 60 = .ok (.aload_n 0, 1) := by decide +kernel
theorem dX7_chance_61 : decode cX7_chance 61 = .ok (.iload 4, 2) := by decide +kernel
theorem dX7_chance_63 : decode cX7_chance 63 = .ok (.invokevirtual 284, 3) := by decide +kernel
theorem dX7_chance_66 : decode cX7_chance 66 = .ok (.lreturn, 1) := by decide +kernel
theorem dX7_chance_67 : decode cX7_chance 67 = .ok (.lconst 0, 1) := by decide +kernel
theorem dX7_chance_68 : decode cX7_chance 68 = .ok (.lstore 5, 2) := by decide +kernel
theorem dX7_chance_70 : decode cX7_chance 70 = .ok (.iload_n 2, 1) := by decide +kernel
theorem dX7_chance_71 : decode cX7_chance 71 = .ok (.i2l, 1) := by decide +kernel
theorem dX7_chance_72 : decode cX7_chance 72 = .ok (.lconst 1, 1) := by decide +kernel
theorem dX7_chance_73 : decode cX7_chance 73 = .ok (.ladd, 1) := by decide +kernel
theorem dX7_chance_74 : decode cX7_chance 74 = .ok (.lstore 7, 2) := by decide +kernel
theorem dX7_chance_76 : decode cX7_chance 76 = .ok (.iconst 0, 1) := by decide +kernel
theorem dX7_chance_77 : decode cX7_chance 77 = .ok (.istore 9, 2) := by decide +kernel
theorem dX7_chance_79 : decode cX7_chance 79 = .ok (.iload 9, 2) := by decide +kernel
theorem dX7_chance_81 : decode cX7_chance 81 = .ok (.iload_n 2, 1) := by decide +kernel
theorem dX7_chance_82 : decode cX7_chance 82 = .ok (.if_icmp .gt 22, 3) := by decide +kernel
theorem dX7_chance_85 : decode cX7_chance 85 = .ok (.lload 5, 2) := by decide +kernel
theorem dX7_chance_87 : decode cX7_chance 87 = .ok (.aload_n 0, 1) := by decide +kernel
theorem dX7_chance_88 : decode cX7_chance 88 = .ok (.iload_n 1, 1) := by decide +kernel
theorem dX7_chance_89 : decode cX7_chance 89 = .ok (.iload 9, 2) := by decide +kernel
theorem dX7_chance_91 : decode cX7_chance 91 = .ok (.invokevirtual 288, 3) := by decide +kernel
theorem dX7_chance_94 : decode cX7_chance 94 = .ok (.i2l, 1) := by decide +kernel
theorem dX7_chance_95 : decode cX7_chance 95 = .ok (.ladd, 1) := by decide +kernel
theorem dX7_chance_96 : decode cX7_chance 96 = .ok (.lstore 5, 2) := by decide +kernel
theorem dX7_chance_98 : decode cX7_chance 98 = .ok (.iinc 9 1, 3) := by decide +kernel
theorem dX7_chance_101 : decode cX7_chance 101 = .ok (.goto (-22), 3) := by decide +kernel
theorem dX7_chance_104 : decode cX7_chance 104 = .ok (.iload_n 3, 1) := by decide +kernel
theorem dX7_chance_105 : decode cX7_chance 105 = .ok (.ifCond .ne 8, 3) := by decide +kernel
theorem dX7_chance_108 : decode cX7_chance 108 = .ok (.lload 5, 2) := by decide +kernel
theorem dX7_chance_110 : decode cX7_chance 110 = .ok (.goto 5, 3) := by decide +kernel
theorem dX7_chance_113 : decode cX7_chance 113 = .ok (.lload 7, 2) := by decide +kernel
theorem dX7_chance_115 : decode cX7_chance 115 = .ok (.lload 5, 2) := by decide +kernel
theorem dX7_chance_117 : decode cX7_chance 117 = .ok (.lload 7, 2) := by decide +kernel
theorem dX7_chance_119 : decode cX7_chance 119 = .ok (.invokestatic 291, 3) := by decide +kernel
theorem dX7_chance_122 : decode cX7_chance 122 = .ok (.ldiv, 1) := by decide +kernel
theorem dX7_chance_123 : decode cX7_chance 123 = .ok (.lreturn, 1) := by decide +kernel
theorem dX7_missed_0 : decode cX7_missed 0 = .ok (.aload_n 0, 1) := by decide +kernel
theorem dX7_missed_1 : decode cX7_missed 1 = .ok (.iload_n 1, 1) := by decide +kernel
theorem dX7_missed_2 : decode cX7_missed 2 = .ok (.invokevirtual 92, 3) := by decide +kernel
theorem dX7_missed_5 : decode cX7_missed 5 = .ok (.ifCond .ne 9, 3) := by decide +kernel
theorem dX7_missed_8 : decode cX7_missed 8 = .ok (.aload_n 0, 1) := by decide +kernel
theorem dX7_missed_9 : decode cX7_missed 9 = .ok (.iconst (-1), 1) := by decide +kernel
theorem dX7_missed_10 : decode cX7_missed 10 = .ok (.invokevirtual 103, 3) := by decide +kernel
theorem dX7_missed_13 : decode cX7_missed 13 = .ok (.ireturn, 1) := by decide +kernel
theorem dX7_missed_14 : decode cX7_missed 14 = .ok (.iconst 0, 1) := by decide +kernel
theorem dX7_missed_15 : decode cX7_missed 15 = .ok (.istore_n 2, 1) := by decide +kernel
theorem dX7_missed_16 : decode cX7_missed 16 = .ok (.iconst 0, 1) := by decide +kernel
theorem dX7_missed_17 : decode cX7_missed 17 = .ok (.istore_n 3, 1) := by decide +kernel
theorem dX7_missed_18 : decode cX7_missed 18 = .ok (.iload_n 3, 1) := by decide +kernel
theorem dX7_missed_19 : decode cX7_missed 19 = .ok (.aload_n 0, 1) := by decide +kernel
theorem dX7_missed_20 : decode cX7_missed 20 = .ok (.getfield 86, 3) := by decide +kernel
theorem dX7_missed_23 : decode cX7_missed 23 = .ok (.if_icmp .ge 51, 3) := by decide +kernel
theorem dX7_missed_26 : decode cX7_missed 26 = .ok (.iload_n 2, 1) := by decide +kernel
theorem dX7_missed_27 : decode cX7_missed 27 = .ok (.aload_n 0, 1) := by decide +kernel
theorem dX7_missed_28 : decode cX7_missed 28 = .ok (.aload_n 0, 1) := by decide +kernel
theorem dX7_missed_29 : decode cX7_missed 29 = .ok (.getfield 13, 3) := by decide +kernel
theorem dX7_missed_32 : decode cX7_missed 32 = .ok (.iload_n 3, 1) := by decide +kernel
theorem dX7_missed_33 : decode cX7_missed 33 = .ok (.iaload, 1) := by decide +kernel
theorem dX7_missed_34 : decode cX7_missed 34 = .ok (.aload_n 0, 1) := by decide +kernel
theorem dX7_missed_35 : decode cX7_missed 35 = .ok (.getfield 25, 3) := by decide +kernel
theorem dX7_missed_38 : decode cX7_missed 38 = .ok (.iload_n 1, 1) := by decide +kernel
theorem dX7_missed_39 : decode cX7_missed 39 = .ok (.iaload, 1) := by decide +kernel
theorem dX7_missed_40 : decode cX7_missed 40 = .ok (.invokevirtual 203, 3) := by decide +kernel
theorem dX7_missed_43 : decode cX7_missed 43 = .ok (.ifCond .eq 22, 3) := by decide +kernel
theorem dX7_missed_46 : decode cX7_missed 46 = .ok (.aload_n 0, 1) := by decide +kernel
theorem dX7_missed_47 : decode cX7_missed 47 = .ok (.getfield 43, 3) := by decide +kernel
theorem dX7_missed_50 : decode cX7_missed 50 = .ok (.iload_n 1, 1) := by decide +kernel
theorem dX7_missed_51 : decode cX7_missed 51 = .ok (.iaload, 1) := by decide +kernel
theorem dX7_missed_52 : decode cX7_missed 52 = .ok (.iload_n 3, 1) := by decide +kernel
theorem dX7_missed_53 : decode cX7_missed 53 = .ok (.ishr, 1) := by decide +kernel
theorem dX7_missed_54 : decode cX7_missed 54 = .ok (.iconst 1, 1) := by decide +kernel
theorem dX7_missed_55 : decode cX7_missed 55 = .ok (.iand, 1) := by decide +kernel
theorem dX7_missed_56 : decode cX7_missed 56 = .ok (.ifCond .ne 9, 3) := by decide +kernel
theorem dX7_missed_59 : decode cX7_missed 59 = .ok (.iconst 1, 1) := by decide +kernel
theorem dX7_missed_60 : decode cX7_missed 60 = .ok (.iload_n 3, 1) := by decide +kernel
theorem dX7_missed_61 : decode cX7_missed 61 = .ok (.ishl, 1) := by decide +kernel
theorem dX7_missed_62 : decode cX7_missed 62 = .ok (.goto 4, 3) := by decide +kernel
theorem dX7_missed_65 : decode cX7_missed 65 = .ok (.iconst 0, 1) := by decide +kernel
theorem dX7_missed_66 : decode cX7_missed 66 = .ok (.ior, 1) := by decide +kernel
theorem dX7_missed_67 : decode cX7_missed 67 = .ok (.istore_n 2, 1) := by decide +kernel
theorem dX7_missed_68 : decode cX7_missed 68 = .ok (.iinc 3 1, 3) := by decide +kernel
theorem dX7_missed_71 : decode cX7_missed 71 = .ok (.goto (-53), 3) := by decide +kernel
theorem dX7_missed_74 : decode cX7_missed 74 = .ok (.iload_n 2, 1) := by decide +kernel
theorem dX7_missed_75 : decode cX7_missed 75 = .ok (.ireturn, 1) := by decide +kernel
theorem dX7_left_0 : decode cX7_left 0 = .ok (.aload_n 0, 1) := by decide +kernel
theorem dX7_left_1 : decode cX7_left 1 = .ok (.iload_n 1, 1) := by decide +kernel
theorem dX7_left_2 : decode cX7_left 2 = .ok (.invokevirtual 92, 3) := by decide +kernel
theorem dX7_left_5 : decode cX7_left 5 = .ok (.ifCond .eq 18, 3) := by decide +kernel
theorem dX7_left_8 : decode cX7_left 8 = .ok (.aload_n 0, 1) := by decide +kernel
theorem dX7_left_9 : decode cX7_left 9 = .ok (.aload_n 0, 1) := by decide +kernel
theorem dX7_left_10 : decode cX7_left 10 = .ok (.getfield 43, 3) := by decide +kernel
theorem dX7_left_13 : decode cX7_left 13 = .ok (.iload_n 1, 1) := by decide +kernel
theorem dX7_left_14 : decode cX7_left 14 = .ok (.iaload, 1) := by decide +kernel
theorem dX7_left_15 : decode cX7_left 15 = .ok (.iconst (-1), 1) := by decide +kernel
theorem dX7_left_16 : decode cX7_left 16 = .ok (.ixor, 1) := by decide +kernel
theorem dX7_left_17 : decode cX7_left 17 = .ok (.invokevirtual 196, 3) := by decide +kernel
theorem dX7_left_20 : decode cX7_left 20 = .ok (.goto 8, 3) := by decide +kernel
theorem dX7_left_23 : decode cX7_left 23 = .ok (.aload_n 0, 1) := by decide +kernel
theorem dX7_left_24 : decode cX7_left 24 = .ok (.iconst (-1), 1) := by decide +kernel
theorem dX7_left_25 : decode cX7_left 25 = .ok (.invokevirtual 103, 3) := by decide +kernel
theorem dX7_left_28 : decode cX7_left 28 = .ok (.ireturn, 1) := by decide +kernel
theorem dX7_inColumn_0 : decode cX7_inColumn 0 = .ok (.iconst 0, 1) := by decide +kernel
theorem dX7_inColumn_1 : decode cX7_inColumn 1 = .ok (.istore_n 2, 1) := by decide +kernel
theorem dX7_inColumn_2 : decode cX7_inColumn 2 = .ok (.iconst 0, 1) := by decide +kernel
theorem dX7_inColumn_3 : decode cX7_inColumn 3 = .ok (.istore_n 3, 1) := by decide +kernel
theorem dX7_inColumn_4 : decode cX7_inColumn 4 = .ok (.iload_n 3, 1) := by decide +kernel
theorem dX7_inColumn_5 : decode cX7_inColumn 5 = .ok (.aload_n 0, 1) := by decide +kernel
theorem dX7_inColumn_6 : decode cX7_inColumn 6 = .ok (.getfield 86, 3) := by decide +kernel
theorem dX7_inColumn_9 : decode cX7_inColumn 9 = .ok (.if_icmp .ge 29, 3) := by decide +kernel
theorem dX7_inColumn_12 : decode cX7_inColumn 12 = .ok (.iload_n 2, 1) := by decide +kernel
theorem dX7_inColumn_13 : decode cX7_inColumn 13 = .ok (.aload_n 0, 1) := by decide +kernel
theorem dX7_inColumn_14 : decode cX7_inColumn 14 = .ok (.getfield 13, 3) := by decide +kernel
theorem dX7_inColumn_17 : decode cX7_inColumn 17 = .ok (.iload_n 3, 1) := by decide +kernel
theorem dX7_inColumn_18 : decode cX7_inColumn 18 = .ok (.iaload, 1) := by decide +kernel
theorem dX7_inColumn_19 : decode cX7_inColumn 19 = .ok (.iload_n 1, 1) := by decide +kernel
theorem dX7_inColumn_20 : decode cX7_inColumn 20 = .ok (.if_icmp .ne 9, 3) := by decide +kernel
theorem dX7_inColumn_23 : decode cX7_inColumn 23 = .ok (.iconst 1, 1) := by decide +kernel
theorem dX7_inColumn_24 : decode cX7_inColumn 24 = .ok (.iload_n 3, 1) := by decide +kernel
theorem dX7_inColumn_25 : decode cX7_inColumn 25 = .ok (.ishl, 1) := by decide +kernel
theorem dX7_inColumn_26 : decode cX7_inColumn 26 = .ok (.goto 4, 3) := by decide +kernel
theorem dX7_inColumn_29 : decode cX7_inColumn 29 = .ok (.iconst 0, 1) := by decide +kernel
theorem dX7_inColumn_30 : decode cX7_inColumn 30 = .ok (.ior, 1) := by decide +kernel
theorem dX7_inColumn_31 : decode cX7_inColumn 31 = .ok (.istore_n 2, 1) := by decide +kernel
theorem dX7_inColumn_32 : decode cX7_inColumn 32 = .ok (.iinc 3 1, 3) := by decide +kernel
theorem dX7_inColumn_35 : decode cX7_inColumn 35 = .ok (.goto (-31), 3) := by decide +kernel
theorem dX7_inColumn_38 : decode cX7_inColumn 38 = .ok (.iload_n 2, 1) := by decide +kernel
theorem dX7_inColumn_39 : decode cX7_inColumn 39 = .ok (.ireturn, 1) := by decide +kernel
theorem dX7_kinds_0 : decode cX7_kinds 0 = .ok (.aload_n 0, 1) := by decide +kernel
theorem dX7_kinds_1 : decode cX7_kinds 1 = .ok (.iload_n 1, 1) := by decide +kernel
theorem dX7_kinds_2 : decode cX7_kinds 2 = .ok (.invokevirtual 190, 3) := by decide +kernel
theorem dX7_kinds_5 : decode cX7_kinds 5 = .ok (.ifCond .ne 7, 3) := by decide +kernel
theorem dX7_kinds_8 : decode cX7_kinds 8 = .ok (.iconst (-1), 1) := by decide +kernel
theorem dX7_kinds_9 : decode cX7_kinds 9 = .ok (.goto 11, 3) := by decide +kernel
theorem dX7_kinds_12 : decode cX7_kinds 12 = .ok (.iload_n 2, 1) := by decide +kernel
theorem dX7_kinds_13 : decode cX7_kinds 13 = .ok (.iconst 0, 1) := by decide +kernel
theorem dX7_kinds_14 : decode cX7_kinds 14 = .ok (.sipush 999, 3) := by decide +kernel
theorem dX7_kinds_17 : decode cX7_kinds 17 = .ok (.invokestatic 96, 3) := by decide +kernel
theorem dX7_kinds_20 : decode cX7_kinds 20 = .ok (.istore_n 3, 1) := by decide +kernel
theorem dX7_kinds_21 : decode cX7_kinds 21 = .ok (.iload_n 3, 1) := by decide +kernel
theorem dX7_kinds_22 : decode cX7_kinds 22 = .ok (.ifCond .eq 9, 3) := by decide +kernel
theorem dX7_kinds_25 : decode cX7_kinds 25 = .ok (.aload_n 0, 1) := by decide +kernel
theorem dX7_kinds_26 : decode cX7_kinds 26 = .ok (.iload_n 3, 1) := by decide +kernel
theorem dX7_kinds_27 : decode cX7_kinds 27 = .ok (.invokevirtual 103, 3) := by decide +kernel
theorem dX7_kinds_30 : decode cX7_kinds 30 = .ok (.ireturn, 1) := by decide +kernel
theorem dX7_kinds_31 : decode cX7_kinds 31 = .ok (.aload_n 0, 1) := by decide +kernel
theorem dX7_kinds_32 : decode cX7_kinds 32 = .ok (.getfield 16, 3) := by decide +kernel
theorem dX7_kinds_35 : decode cX7_kinds 35 = .ok (.iload_n 1, 1) := by decide +kernel
theorem dX7_kinds_36 : decode cX7_kinds 36 = .ok (.iaload, 1) := by decide +kernel
theorem dX7_kinds_37 : decode cX7_kinds 37 = .ok (.istore 4, 2) := by decide +kernel
theorem dX7_kinds_39 : decode cX7_kinds 39 = .ok (.iconst 0, 1) := by decide +kernel
theorem dX7_kinds_40 : decode cX7_kinds 40 = .ok (.istore 5, 2) := by decide +kernel
theorem dX7_kinds_42 : decode cX7_kinds 42 = .ok (.iconst 0, 1) := by decide +kernel
theorem dX7_kinds_43 : decode cX7_kinds 43 = .ok (.istore 6, 2) := by decide +kernel
theorem dX7_kinds_45 : decode cX7_kinds 45 = .ok (.iload 6, 2) := by decide +kernel
theorem dX7_kinds_47 : decode cX7_kinds 47 = .ok (.bipush 6, 2) := by decide +kernel
theorem dX7_kinds_49 : decode cX7_kinds 49 = .ok (.if_icmp .ge 48, 3) := by decide +kernel
theorem dX7_kinds_52 : decode cX7_kinds 52 = .ok (.aload_n 0, 1) := by decide +kernel
theorem dX7_kinds_53 : decode cX7_kinds 53 = .ok (.getfield 16, 3) := by decide +kernel
theorem dX7_kinds_56 : decode cX7_kinds 56 = .ok (.iload_n 1, 1) := by decide +kernel
theorem dX7_kinds_57 : decode cX7_kinds 57 = .ok (.iload 6, 2) := by decide +kernel
theorem dX7_kinds_59 : decode cX7_kinds 59 = .ok (.iastore, 1) := by decide +kernel
theorem dX7_kinds_60 : decode cX7_kinds 60 = .ok (.iload 5, 2) := by decide +kernel
theorem dX7_kinds_62 : decode cX7_kinds 62 = .ok (.aload_n 0, 1) := by decide +kernel
theorem dX7_kinds_63 : decode cX7_kinds 63 = .ok (.aload_n 0, 1) := by decide +kernel
theorem dX7_kinds_64 : decode cX7_kinds 64 = .ok (.aload_n 0, 1) := by decide +kernel
theorem dX7_kinds_65 : decode cX7_kinds 65 = .ok (.getfield 13, 3) := by decide +kernel
theorem dX7_kinds_68 : decode cX7_kinds 68 = .ok (.iload_n 1, 1) := by decide +kernel
theorem dX7_kinds_69 : decode cX7_kinds 69 = .ok (.iaload, 1) := by decide +kernel
theorem dX7_kinds_70 : decode cX7_kinds 70 = .ok (.invokevirtual 295, 3) := by decide +kernel
theorem dX7_kinds_73 : decode cX7_kinds 73 = .ok (.invokevirtual 196, 3) := by decide +kernel
theorem dX7_kinds_76 : decode cX7_kinds 76 = .ok (.iload_n 2, 1) := by decide +kernel
theorem dX7_kinds_77 : decode cX7_kinds 77 = .ok (.if_icmp .ne 10, 3) := by decide +kernel
theorem dX7_kinds_80 : decode cX7_kinds 80 = .ok (.iconst 1, 1) := by decide +kernel
theorem dX7_kinds_81 : decode cX7_kinds 81 = .ok (.iload 6, 2) := by decide +kernel
theorem dX7_kinds_83 : decode cX7_kinds 83 = .ok (.ishl, 1) := by decide +kernel
theorem dX7_kinds_84 : decode cX7_kinds 84 = .ok (.goto 4, 3) := by decide +kernel
theorem dX7_kinds_87 : decode cX7_kinds 87 = .ok (.iconst 0, 1) := by decide +kernel
theorem dX7_kinds_88 : decode cX7_kinds 88 = .ok (.ior, 1) := by decide +kernel
theorem dX7_kinds_89 : decode cX7_kinds 89 = .ok (.istore 5, 2) := by decide +kernel
theorem dX7_kinds_91 : decode cX7_kinds 91 = .ok (.iinc 6 1, 3) := by decide +kernel
theorem dX7_kinds_94 : decode cX7_kinds 94 = .ok (.goto (-49), 3) := by decide +kernel
theorem dX7_kinds_97 : decode cX7_kinds 97 = .ok (.aload_n 0, 1) := by decide +kernel
theorem dX7_kinds_98 : decode cX7_kinds 98 = .ok (.getfield 16, 3) := by decide +kernel
theorem dX7_kinds_101 : decode cX7_kinds 101 = .ok (.iload_n 1, 1) := by decide +kernel
theorem dX7_kinds_102 : decode cX7_kinds 102 = .ok (.iload 4, 2) := by decide +kernel
theorem dX7_kinds_104 : decode cX7_kinds 104 = .ok (.iastore, 1) := by decide +kernel
theorem dX7_kinds_105 : decode cX7_kinds 105 = .ok (.iload 5, 2) := by decide +kernel
theorem dX7_kinds_107 : decode cX7_kinds 107 = .ok (.ireturn, 1) := by decide +kernel
theorem dX7_row_0 : decode cX7_row 0 = .ok (.iload_n 1, 1) := by decide +kernel
theorem dX7_row_1 : decode cX7_row 1 = .ok (.iconst 0, 1) := by decide +kernel
theorem dX7_row_2 : decode cX7_row 2 = .ok (.bipush 9, 2) := by decide +kernel
theorem dX7_row_4 : decode cX7_row 4 = .ok (.invokestatic 96, 3) := by decide +kernel
theorem dX7_row_7 : decode cX7_row 7 = .ok (.istore_n 2, 1) := by decide +kernel
theorem dX7_row_8 : decode cX7_row 8 = .ok (.iload_n 2, 1) := by decide +kernel
theorem dX7_row_9 : decode cX7_row 9 = .ok (.ifCond .ne 15, 3) := by decide +kernel
theorem dX7_row_12 : decode cX7_row 12 = .ok (.aload_n 0, 1) := by decide +kernel
theorem dX7_row_13 : decode cX7_row 13 = .ok (.getfield 278, 3) := by decide +kernel
theorem dX7_row_16 : decode cX7_row 16 = .ok (.bipush 12, 2) := by decide +kernel
theorem dX7_row_18 : decode cX7_row 18 = .ok (.if_icmp .ne 6, 3) := by decide +kernel
theorem dX7_row_21 : decode cX7_row 21 = .ok (.bipush (-6), 2) := by decide +kernel
theorem dX7_row_23 : decode cX7_row 23 = .ok (.istore_n 2, 1) := by decide +kernel
theorem dX7_row_24 : decode cX7_row 24 = .ok (.iload_n 2, 1) := by decide +kernel
theorem dX7_row_25 : decode cX7_row 25 = .ok (.ifCond .eq 9, 3) := by decide +kernel
theorem dX7_row_28 : decode cX7_row 28 = .ok (.aload_n 0, 1) := by decide +kernel
theorem dX7_row_29 : decode cX7_row 29 = .ok (.iload_n 2, 1) := by decide +kernel
theorem dX7_row_30 : decode cX7_row 30 = .ok (.invokevirtual 103, 3) := by decide +kernel
theorem dX7_row_33 : decode cX7_row 33 = .ok (.ireturn, 1) := by decide +kernel
theorem dX7_row_34 : decode cX7_row 34 = .ok (.aload_n 0, 1) := by decide +kernel
theorem dX7_row_35 : decode cX7_row 35 = .ok (.getfield 80, 3) := by decide +kernel
theorem dX7_row_38 : decode cX7_row 38 = .ok (.aload_n 0, 1) := by decide +kernel
theorem dX7_row_39 : decode cX7_row 39 = .ok (.getfield 278, 3) := by decide +kernel
theorem dX7_row_42 : decode cX7_row 42 = .ok (.iload_n 1, 1) := by decide +kernel
theorem dX7_row_43 : decode cX7_row 43 = .ok (.iastore, 1) := by decide +kernel
theorem dX7_row_44 : decode cX7_row 44 = .ok (.aload_n 0, 1) := by decide +kernel
theorem dX7_row_45 : decode cX7_row 45 = .ok (.dup, 1) := by decide +kernel
theorem dX7_row_46 : decode cX7_row 46 = .ok (.getfield 278, 3) := by decide +kernel
theorem dX7_row_49 : decode cX7_row 49 = .ok (.iconst 1, 1) := by decide +kernel
theorem dX7_row_50 : decode cX7_row 50 = .ok (.iadd, 1) := by decide +kernel
theorem dX7_row_51 : decode cX7_row 51 = .ok (.putfield 278, 3) := by decide +kernel
theorem dX7_row_54 : decode cX7_row 54 = .ok (.aload_n 0, 1) := by decide +kernel
theorem dX7_row_55 : decode cX7_row 55 = .ok (.getfield 278, 3) := by decide +kernel
theorem dX7_row_58 : decode cX7_row 58 = .ok (.ireturn, 1) := by decide +kernel
theorem dX7_goesTold_0 : decode cX7_goesTold 0 = .ok (.aload_n 0, 1) := by decide +kernel
theorem dX7_goesTold_1 : decode cX7_goesTold 1 = .ok (.getfield 221, 3) := by decide +kernel
theorem dX7_goesTold_4 : decode cX7_goesTold 4 = .ok (.iconst 1, 1) := by decide +kernel
theorem dX7_goesTold_5 : decode cX7_goesTold 5 = .ok (.if_icmp .ne 5, 3) := by decide +kernel
theorem dX7_goesTold_8 : decode cX7_goesTold 8 = .ok (.iconst 0, 1) := by decide +kernel
theorem dX7_goesTold_9 : decode cX7_goesTold 9 = .ok (.ireturn, 1) := by decide +kernel
theorem dX7_goesTold_10 : decode cX7_goesTold 10 = .ok (.iload_n 1, 1) := by decide +kernel
theorem dX7_goesTold_11 : decode cX7_goesTold 11 = .ok (.bipush 9, 2) := by decide +kernel
theorem dX7_goesTold_13 : decode cX7_goesTold 13 = .ok (.if_icmp .ne 21, 3) := by decide +kernel
theorem dX7_goesTold_16 : decode cX7_goesTold 16 = .ok (.aload_n 0, 1) := by decide +kernel
theorem dX7_goesTold_17 : decode cX7_goesTold 17 = .ok (.iconst 1, 1) := by decide +kernel
theorem dX7_goesTold_18 : decode cX7_goesTold 18 = .ok (.invokevirtual 239, 3) := by decide +kernel
theorem dX7_goesTold_21 : decode cX7_goesTold 21 = .ok (.aload_n 0, 1) := by decide +kernel
theorem dX7_goesTold_22 : decode cX7_goesTold 22 = .ok (.getfield 221, 3) := by decide +kernel
theorem dX7_goesTold_25 : decode cX7_goesTold 25 = .ok (.ifCond .ne 7, 3) := by decide +kernel
theorem dX7_goesTold_28 : decode cX7_goesTold 28 = .ok (.iconst 1, 1) := by decide +kernel
theorem dX7_goesTold_29 : decode cX7_goesTold 29 = .ok (.goto 4, 3) := by decide +kernel
theorem dX7_goesTold_32 : decode cX7_goesTold 32 = .ok (.iconst 0, 1) := by decide +kernel
theorem dX7_goesTold_33 : decode cX7_goesTold 33 = .ok (.ireturn, 1) := by decide +kernel
theorem dX7_goesTold_34 : decode cX7_goesTold 34 = .ok (.iload_n 1, 1) := by decide +kernel
theorem dX7_goesTold_35 : decode cX7_goesTold 35 = .ok (.iconst 4, 1) := by decide +kernel
theorem dX7_goesTold_36 : decode cX7_goesTold 36 = .ok (.if_icmp .ge 11, 3) := by decide +kernel
theorem dX7_goesTold_39 : decode cX7_goesTold 39 = .ok (.aload_n 0, 1) := by decide +kernel
theorem dX7_goesTold_40 : decode cX7_goesTold 40 = .ok (.iload_n 1, 1) := by decide +kernel
theorem dX7_goesTold_41 : decode cX7_goesTold 41 = .ok (.invokevirtual 230, 3) := by decide +kernel
theorem dX7_goesTold_44 : decode cX7_goesTold 44 = .ok (.goto 5, 3) := by decide +kernel
theorem dX7_goesTold_47 : decode cX7_goesTold 47 = .ok (.bipush (-9), 2) := by decide +kernel
theorem dX7_goesTold_49 : decode cX7_goesTold 49 = .ok (.istore_n 2, 1) := by decide +kernel
theorem dX7_goesTold_50 : decode cX7_goesTold 50 = .ok (.iload_n 2, 1) := by decide +kernel
theorem dX7_goesTold_51 : decode cX7_goesTold 51 = .ok (.ifCond .ge 5, 3) := by decide +kernel
theorem dX7_goesTold_54 : decode cX7_goesTold 54 = .ok (.iconst 0, 1) := by decide +kernel
theorem dX7_goesTold_55 : decode cX7_goesTold 55 = .ok (.ireturn, 1) := by decide +kernel
theorem dX7_goesTold_56 : decode cX7_goesTold 56 = .ok (.aload_n 0, 1) := by decide +kernel
theorem dX7_goesTold_57 : decode cX7_goesTold 57 = .ok (.iload_n 2, 1) := by decide +kernel
theorem dX7_goesTold_58 : decode cX7_goesTold 58 = .ok (.invokevirtual 233, 3) := by decide +kernel
theorem dX7_goesTold_61 : decode cX7_goesTold 61 = .ok (.aload_n 0, 1) := by decide +kernel
theorem dX7_goesTold_62 : decode cX7_goesTold 62 = .ok (.getfield 221, 3) := by decide +kernel
theorem dX7_goesTold_65 : decode cX7_goesTold 65 = .ok (.ifCond .ne 7, 3) := by decide +kernel
theorem dX7_goesTold_68 : decode cX7_goesTold 68 = .ok (.iconst 1, 1) := by decide +kernel
theorem dX7_goesTold_69 : decode cX7_goesTold 69 = .ok (.goto 4, 3) := by decide +kernel
theorem dX7_goesTold_72 : decode cX7_goesTold 72 = .ok (.iconst 0, 1) := by decide +kernel
theorem dX7_goesTold_73 : decode cX7_goesTold 73 = .ok (.ireturn, 1) := by decide +kernel
theorem dX7_judge_0 : decode cX7_judge 0 = .ok (.aload_n 0, 1) := by decide +kernel
theorem dX7_judge_1 : decode cX7_judge 1 = .ok (.iload_n 1, 1) := by decide +kernel
theorem dX7_judge_2 : decode cX7_judge 2 = .ok (.invokevirtual 92, 3) := by decide +kernel
theorem dX7_judge_5 : decode cX7_judge 5 = .ok (.ifCond .ne 9, 3) := by decide +kernel
theorem dX7_judge_8 : decode cX7_judge 8 = .ok (.aload_n 0, 1) := by decide +kernel
theorem dX7_judge_9 : decode cX7_judge 9 = .ok (.iconst (-1), 1) := by decide +kernel
theorem dX7_judge_10 : decode cX7_judge 10 = .ok (.invokevirtual 103, 3) := by decide +kernel
theorem dX7_judge_13 : decode cX7_judge 13 = .ok (.ireturn, 1) := by decide +kernel
theorem dX7_judge_14 : decode cX7_judge 14 = .ok (.aload_n 0, 1) := by decide +kernel
theorem dX7_judge_15 : decode cX7_judge 15 = .ok (.getfield 278, 3) := by decide +kernel
theorem dX7_judge_18 : decode cX7_judge 18 = .ok (.istore_n 2, 1) := by decide +kernel
theorem dX7_judge_19 : decode cX7_judge 19 = .ok (.aload_n 0, 1) := by decide +kernel
theorem dX7_judge_20 : decode cX7_judge 20 = .ok (.iconst 0, 1) := by decide +kernel
theorem dX7_judge_21 : decode cX7_judge 21 = .ok (.putfield 278, 3) := by decide +kernel
theorem dX7_judge_24 : decode cX7_judge 24 = .ok (.aload_n 0, 1) := by decide +kernel
theorem dX7_judge_25 : decode cX7_judge 25 = .ok (.iload_n 1, 1) := by decide +kernel
theorem dX7_judge_26 : decode cX7_judge 26 = .ok (.invokevirtual 227, 3) := by decide +kernel
theorem dX7_judge_29 : decode cX7_judge 29 = .ok (.iconst 0, 1) := by decide +kernel
theorem dX7_judge_30 : decode cX7_judge 30 = .ok (.istore_n 3, 1) := by decide +kernel
theorem dX7_judge_31 : decode cX7_judge 31 = .ok (.iload_n 3, 1) := by decide +kernel
theorem dX7_judge_32 : decode cX7_judge 32 = .ok (.iload_n 2, 1) := by decide +kernel
theorem dX7_judge_33 : decode cX7_judge 33 = .ok (.if_icmp .ge 24, 3) := by decide +kernel
theorem dX7_judge_36 : decode cX7_judge 36 = .ok (.aload_n 0, 1) := by decide +kernel
theorem dX7_judge_37 : decode cX7_judge 37 = .ok (.aload_n 0, 1) := by decide +kernel
theorem dX7_judge_38 : decode cX7_judge 38 = .ok (.getfield 80, 3) := by decide +kernel
theorem dX7_judge_41 : decode cX7_judge 41 = .ok (.iload_n 3, 1) := by decide +kernel
theorem dX7_judge_42 : decode cX7_judge 42 = .ok (.iaload, 1) := by decide +kernel
theorem dX7_judge_43 : decode cX7_judge 43 = .ok (.invokevirtual 298, 3) := by decide +kernel
theorem dX7_judge_46 : decode cX7_judge 46 = .ok (.ifCond .ne 5, 3) := by decide +kernel
theorem dX7_judge_49 : decode cX7_judge 49 = .ok (.iload_n 3, 1) := by decide +kernel
theorem dX7_judge_50 : decode cX7_judge 50 = .ok (.ireturn, 1) := by decide +kernel
theorem dX7_judge_51 : decode cX7_judge 51 = .ok (.iinc 3 1, 3) := by decide +kernel
theorem dX7_judge_54 : decode cX7_judge 54 = .ok (.goto (-23), 3) := by decide +kernel
theorem dX7_judge_57 : decode cX7_judge 57 = .ok (.bipush (-9), 2) := by decide +kernel
theorem dX7_judge_59 : decode cX7_judge 59 = .ok (.ireturn, 1) := by decide +kernel
theorem dX7_seeds_0 : decode cX7_seeds 0 = .ok (.aload_n 0, 1) := by decide +kernel
theorem dX7_seeds_1 : decode cX7_seeds 1 = .ok (.iload_n 1, 1) := by decide +kernel
theorem dX7_seeds_2 : decode cX7_seeds 2 = .ok (.invokevirtual 92, 3) := by decide +kernel
theorem dX7_seeds_5 : decode cX7_seeds 5 = .ok (.ifCond .ne 7, 3) := by decide +kernel
theorem dX7_seeds_8 : decode cX7_seeds 8 = .ok (.iconst (-1), 1) := by decide +kernel
theorem dX7_seeds_9 : decode cX7_seeds 9 = .ok (.goto 10, 3) := by decide +kernel
theorem dX7_seeds_12 : decode cX7_seeds 12 = .ok (.iload_n 2, 1) := by decide +kernel
theorem dX7_seeds_13 : decode cX7_seeds 13 = .ok (.iconst 1, 1) := by decide +kernel
theorem dX7_seeds_14 : decode cX7_seeds 14 = .ok (.bipush 20, 2) := by decide +kernel
theorem dX7_seeds_16 : decode cX7_seeds 16 = .ok (.invokestatic 96, 3) := by decide +kernel
theorem dX7_seeds_19 : decode cX7_seeds 19 = .ok (.istore 5, 2) := by decide +kernel
theorem dX7_seeds_21 : decode cX7_seeds 21 = .ok (.iload 5, 2) := by decide +kernel
theorem dX7_seeds_23 : decode cX7_seeds 23 = .ok (.ifCond .ne 17, 3) := by decide +kernel
theorem dX7_seeds_26 : decode cX7_seeds 26 = .ok (.iload 4, 2) := by decide +kernel
theorem dX7_seeds_28 : decode cX7_seeds 28 = .ok (.iconst 0, 1) := by decide +kernel
theorem dX7_seeds_29 : decode cX7_seeds 29 = .ok (.iconst 1, 1) := by decide +kernel
theorem dX7_seeds_30 : decode cX7_seeds 30 = .ok (.invokestatic 114, 3) := by decide +kernel
theorem dX7_seeds_33 : decode cX7_seeds 33 = .ok (.ifCond .ne 7, 3) := by decide +kernel
theorem dX7_seeds_36 : decode cX7_seeds 36 = .ok (.bipush (-2), 2) := by decide +kernel
theorem dX7_seeds_38 : decode cX7_seeds 38 = .ok (.istore 5, 2) := by decide +kernel
theorem dX7_seeds_40 : decode cX7_seeds 40 = .ok (.iload 5, 2) := by decide +kernel
theorem dX7_seeds_42 : decode cX7_seeds 42 = .ok (.ifCond .eq 10, 3) := by decide +kernel
theorem dX7_seeds_45 : decode cX7_seeds 45 = .ok (.aload_n 0, 1) := by decide +kernel
theorem dX7_seeds_46 : decode cX7_seeds 46 = .ok (.iload 5, 2) := by decide +kernel
theorem dX7_seeds_48 : decode cX7_seeds 48 = .ok (.invokevirtual 103, 3) := by decide +kernel
theorem dX7_seeds_51 : decode cX7_seeds 51 = .ok (.ireturn, 1) := by decide +kernel
theorem dX7_seeds_52 : decode cX7_seeds 52 = .ok (.aload_n 0, 1) := by decide +kernel
theorem dX7_seeds_53 : decode cX7_seeds 53 = .ok (.iload_n 1, 1) := by decide +kernel
theorem dX7_seeds_54 : decode cX7_seeds 54 = .ok (.invokevirtual 227, 3) := by decide +kernel
theorem dX7_seeds_57 : decode cX7_seeds 57 = .ok (.iload_n 3, 1) := by decide +kernel
theorem dX7_seeds_58 : decode cX7_seeds 58 = .ok (.istore 6, 2) := by decide +kernel
theorem dX7_seeds_60 : decode cX7_seeds 60 = .ok (.iconst 0, 1) := by decide +kernel
theorem dX7_seeds_61 : decode cX7_seeds 61 = .ok (.istore 7, 2) := by decide +kernel
theorem dX7_seeds_63 : decode cX7_seeds 63 = .ok (.iload 7, 2) := by decide +kernel
theorem dX7_seeds_65 : decode cX7_seeds 65 = .ok (.iload_n 2, 1) := by decide +kernel
theorem dX7_seeds_66 : decode cX7_seeds 66 = .ok (.if_icmp .ge 75, 3) := by decide +kernel
theorem dX7_seeds_69 : decode cX7_seeds 69 = .ok (.aload_n 0, 1) := by decide +kernel
theorem dX7_seeds_70 : decode cX7_seeds 70 = .ok (.getfield 221, 3) := by decide +kernel
theorem dX7_seeds_73 : decode cX7_seeds 73 = .ok (.ifCond .ne 68, 3) := by decide +kernel
theorem dX7_seeds_76 : decode cX7_seeds 76 = .ok (.iload 6, 2) := by decide +kernel
theorem dX7_seeds_78 : decode cX7_seeds 78 = .ok (.ldc_w 301, 3) := by decide +kernel
theorem dX7_seeds_81 : decode cX7_seeds 81 = .ok (.imul, 1) := by decide +kernel
theorem dX7_seeds_82 : decode cX7_seeds 82 = .ok (.sipush 12345, 3) := by decide +kernel
theorem dX7_seeds_85 : decode cX7_seeds 85 = .ok (.iadd, 1) := by decide +kernel
theorem dX7_seeds_86 : decode cX7_seeds 86 = .ok (.istore 6, 2) := by decide +kernel
theorem dX7_seeds_88 : decode cX7_seeds 88 = .ok (.iload 6, 2) := by decide +kernel
theorem dX7_seeds_90 : decode cX7_seeds 90 = .ok (.ldc_w 302, 3) := by decide +kernel
theorem dX7_seeds_93 : decode cX7_seeds 93 = .ok (.iand, 1) := by decide +kernel
theorem dX7_seeds_94 : decode cX7_seeds 94 = .ok (.ldc_w 303, 3) := by decide +kernel
theorem dX7_seeds_97 : decode cX7_seeds 97 = .ok (.idiv, 1) := by decide +kernel
theorem dX7_seeds_98 : decode cX7_seeds 98 = .ok (.iconst 5, 1) := by decide +kernel
theorem dX7_seeds_99 : decode cX7_seeds 99 = .ok (.irem, 1) := by decide +kernel
theorem dX7_seeds_100 : decode cX7_seeds 100 = .ok (.istore 8, 2) := by decide +kernel
theorem dX7_seeds_102 : decode cX7_seeds 102 = .ok (.iload 8, 2) := by decide +kernel
theorem dX7_seeds_104 : decode cX7_seeds 104 = .ok (.iconst 4, 1) := by decide +kernel
theorem dX7_seeds_105 : decode cX7_seeds 105 = .ok (.if_icmp .ge 25, 3) := by decide +kernel
theorem dX7_seeds_108 : decode cX7_seeds 108 = .ok (.aload_n 0, 1) := by decide +kernel
theorem dX7_seeds_109 : decode cX7_seeds 109 = .ok (.iload 8, 2) := by decide +kernel
theorem dX7_seeds_111 : decode cX7_seeds 111 = .ok (.invokevirtual 230, 3) := by decide +kernel
theorem dX7_seeds_114 : decode cX7_seeds 114 = .ok (.istore 9, 2) := by decide +kernel
theorem dX7_seeds_116 : decode cX7_seeds 116 = .ok (.iload 9, 2) := by decide +kernel
theorem dX7_seeds_118 : decode cX7_seeds 118 = .ok (.ifCond .lt 9, 3) := by decide +kernel
theorem dX7_seeds_121 : decode cX7_seeds 121 = .ok (.aload_n 0, 1) := by decide +kernel
theorem dX7_seeds_122 : decode cX7_seeds 122 = .ok (.iload 9, 2) := by decide +kernel
theorem dX7_seeds_124 : decode cX7_seeds 124 = .ok (.invokevirtual 233, 3) := by decide +kernel
theorem dX7_seeds_127 : decode cX7_seeds 127 = .ok (.goto 8, 3) := by decide +kernel
theorem dX7_seeds_130 : decode cX7_seeds 130 = .ok (.aload_n 0, 1) := by decide +kernel
theorem dX7_seeds_131 : decode cX7_seeds 131 = .ok (.iconst 1, 1) := by decide +kernel
theorem dX7_seeds_132 : decode cX7_seeds 132 = .ok (.invokevirtual 239, 3) := by decide +kernel
theorem dX7_seeds_135 : decode cX7_seeds 135 = .ok (.iinc 7 1, 3) := by decide +kernel
theorem dX7_seeds_138 : decode cX7_seeds 138 = .ok (.goto (-75), 3) := by decide +kernel
theorem dX7_seeds_141 : decode cX7_seeds 141 = .ok (.iload 4, 2) := by decide +kernel
theorem dX7_seeds_143 : decode cX7_seeds 143 = .ok (.ifCond .ne 14, 3) := by decide +kernel
theorem dX7_seeds_146 : decode cX7_seeds 146 = .ok (.aload_n 0, 1) := by decide +kernel
theorem dX7_seeds_147 : decode cX7_seeds 147 = .ok (.aload_n 0, 1) := by decide +kernel
theorem dX7_seeds_148 : decode cX7_seeds 148 = .ok (.getfield 218, 3) := by decide +kernel
theorem dX7_seeds_151 : decode cX7_seeds 151 = .ok (.invokevirtual 196, 3) := by decide +kernel
theorem dX7_seeds_154 : decode cX7_seeds 154 = .ok (.goto 7, 3) := by decide +kernel
theorem dX7_seeds_157 : decode cX7_seeds 157 = .ok (.aload_n 0, 1) := by decide +kernel
theorem dX7_seeds_158 : decode cX7_seeds 158 = .ok (.getfield 215, 3) := by decide +kernel
theorem dX7_seeds_161 : decode cX7_seeds 161 = .ok (.ireturn, 1) := by decide +kernel
theorem dX7_cutMany_0 : decode cX7_cutMany 0 = .ok (.iconst 0, 1) := by decide +kernel
theorem dX7_cutMany_1 : decode cX7_cutMany 1 = .ok (.istore_n 1, 1) := by decide +kernel
theorem dX7_cutMany_2 : decode cX7_cutMany 2 = .ok (.iconst 0, 1) := by decide +kernel
theorem dX7_cutMany_3 : decode cX7_cutMany 3 = .ok (.istore_n 2, 1) := by decide +kernel
theorem dX7_cutMany_4 : decode cX7_cutMany 4 = .ok (.iload_n 2, 1) := by decide +kernel
theorem dX7_cutMany_5 : decode cX7_cutMany 5 = .ok (.aload_n 0, 1) := by decide +kernel
theorem dX7_cutMany_6 : decode cX7_cutMany 6 = .ok (.getfield 89, 3) := by decide +kernel
theorem dX7_cutMany_9 : decode cX7_cutMany 9 = .ok (.if_icmp .ge 18, 3) := by decide +kernel
theorem dX7_cutMany_12 : decode cX7_cutMany 12 = .ok (.iload_n 1, 1) := by decide +kernel
theorem dX7_cutMany_13 : decode cX7_cutMany 13 = .ok (.aload_n 0, 1) := by decide +kernel
theorem dX7_cutMany_14 : decode cX7_cutMany 14 = .ok (.getfield 46, 3) := by decide +kernel
theorem dX7_cutMany_17 : decode cX7_cutMany 17 = .ok (.iload_n 2, 1) := by decide +kernel
theorem dX7_cutMany_18 : decode cX7_cutMany 18 = .ok (.iaload, 1) := by decide +kernel
theorem dX7_cutMany_19 : decode cX7_cutMany 19 = .ok (.iadd, 1) := by decide +kernel
theorem dX7_cutMany_20 : decode cX7_cutMany 20 = .ok (.istore_n 1, 1) := by decide +kernel
theorem dX7_cutMany_21 : decode cX7_cutMany 21 = .ok (.iinc 2 1, 3) := by decide +kernel
theorem dX7_cutMany_24 : decode cX7_cutMany 24 = .ok (.goto (-20), 3) := by decide +kernel
theorem dX7_cutMany_27 : decode cX7_cutMany 27 = .ok (.iload_n 1, 1) := by decide +kernel
theorem dX7_cutMany_28 : decode cX7_cutMany 28 = .ok (.ireturn, 1) := by decide +kernel
theorem dX7_count_0 : decode cX7_count 0 = .ok (.iload_n 1, 1) := by decide +kernel
theorem dX7_count_1 : decode cX7_count 1 = .ok (.bipush 11, 2) := by decide +kernel
theorem dX7_count_3 : decode cX7_count 3 = .ok (.bipush 16, 2) := by decide +kernel
theorem dX7_count_5 : decode cX7_count 5 = .ok (.invokestatic 114, 3) := by decide +kernel
theorem dX7_count_8 : decode cX7_count 8 = .ok (.ifCond .eq 13, 3) := by decide +kernel
theorem dX7_count_11 : decode cX7_count 11 = .ok (.aload_n 0, 1) := by decide +kernel
theorem dX7_count_12 : decode cX7_count 12 = .ok (.getfield 7, 3) := by decide +kernel
theorem dX7_count_15 : decode cX7_count 15 = .ok (.iload_n 1, 1) := by decide +kernel
theorem dX7_count_16 : decode cX7_count 16 = .ok (.bipush 10, 2) := by decide +kernel
theorem dX7_count_18 : decode cX7_count 18 = .ok (.isub, 1) := by decide +kernel
theorem dX7_count_19 : decode cX7_count 19 = .ok (.iaload, 1) := by decide +kernel
theorem dX7_count_20 : decode cX7_count 20 = .ok (.ireturn, 1) := by decide +kernel
theorem dX7_count_21 : decode cX7_count 21 = .ok (.iload_n 1, 1) := by decide +kernel
theorem dX7_count_22 : decode cX7_count 22 = .ok (.tableswitch 96 0 9 #[54, 59, 64, 70, 75, 75, 75, 75, 86, 91], 54) := by decide +kernel
theorem dX7_count_76 : decode cX7_count 76 = .ok (.aload_n 0, 1) := by decide +kernel
theorem dX7_count_77 : decode cX7_count 77 = .ok (.getfield 86, 3) := by decide +kernel
theorem dX7_count_80 : decode cX7_count 80 = .ok (.ireturn, 1) := by decide +kernel
theorem dX7_count_81 : decode cX7_count 81 = .ok (.aload_n 0, 1) := by decide +kernel
theorem dX7_count_82 : decode cX7_count 82 = .ok (.getfield 89, 3) := by decide +kernel
theorem dX7_count_85 : decode cX7_count 85 = .ok (.ireturn, 1) := by decide +kernel
theorem dX7_count_86 : decode cX7_count 86 = .ok (.aload_n 0, 1) := by decide +kernel
theorem dX7_count_87 : decode cX7_count 87 = .ok (.iconst (-1), 1) := by decide +kernel
theorem dX7_count_88 : decode cX7_count 88 = .ok (.invokevirtual 196, 3) := by decide +kernel
theorem dX7_count_91 : decode cX7_count 91 = .ok (.ireturn, 1) := by decide +kernel
theorem dX7_count_92 : decode cX7_count 92 = .ok (.aload_n 0, 1) := by decide +kernel
theorem dX7_count_93 : decode cX7_count 93 = .ok (.invokevirtual 304, 3) := by decide +kernel
theorem dX7_count_96 : decode cX7_count 96 = .ok (.ireturn, 1) := by decide +kernel
theorem dX7_count_97 : decode cX7_count 97 = .ok (.aload_n 0, 1) := by decide +kernel
theorem dX7_count_98 : decode cX7_count 98 = .ok (.iload_n 1, 1) := by decide +kernel
theorem dX7_count_99 : decode cX7_count 99 = .ok (.iconst 4, 1) := by decide +kernel
theorem dX7_count_100 : decode cX7_count 100 = .ok (.isub, 1) := by decide +kernel
theorem dX7_count_101 : decode cX7_count 101 = .ok (.invokevirtual 295, 3) := by decide +kernel
theorem dX7_count_104 : decode cX7_count 104 = .ok (.invokestatic 242, 3) := by decide +kernel
theorem dX7_count_107 : decode cX7_count 107 = .ok (.ireturn, 1) := by decide +kernel
theorem dX7_count_108 : decode cX7_count 108 = .ok (.aload_n 0, 1) := by decide +kernel
theorem dX7_count_109 : decode cX7_count 109 = .ok (.getfield 100, 3) := by decide +kernel
theorem dX7_count_112 : decode cX7_count 112 = .ok (.ireturn, 1) := by decide +kernel
theorem dX7_count_113 : decode cX7_count 113 = .ok (.aload_n 0, 1) := by decide +kernel
theorem dX7_count_114 : decode cX7_count 114 = .ok (.getfield 278, 3) := by decide +kernel
theorem dX7_count_117 : decode cX7_count 117 = .ok (.ireturn, 1) := by decide +kernel
theorem dX7_count_118 : decode cX7_count 118 = .ok (.bipush (-9), 2) := by decide +kernel
theorem dX7_count_120 : decode cX7_count 120 = .ok (.ireturn, 1) := by decide +kernel
