theorem dX6_init_0 : decode cX6_init 0 = .ok (.aload_n 0, 1) := by decide +kernel
theorem dX6_init_1 : decode cX6_init 1 = .ok (.invokespecial 1, 3) := by decide +kernel
theorem dX6_init_4 : decode cX6_init 4 = .ok (.aload_n 0, 1) := by decide +kernel
theorem dX6_init_5 : decode cX6_init 5 = .ok (.new 7, 3) := by decide +kernel
theorem dX6_init_8 : decode cX6_init 8 = .ok (.dup, 1) := by decide +kernel
theorem dX6_init_9 : decode cX6_init 9 = .ok (.invokespecial 9, 3) := by decide +kernel
theorem dX6_init_12 : decode cX6_init 12 = .ok (.putfield 10, 3) := by decide +kernel
theorem dX6_init_15 : decode cX6_init 15 = .ok (.aload_n 0, 1) := by decide +kernel
theorem dX6_init_16 : decode cX6_init 16 = .ok (.new 7, 3) := by decide +kernel
theorem dX6_init_19 : decode cX6_init 19 = .ok (.dup, 1) := by decide +kernel
theorem dX6_init_20 : decode cX6_init 20 = .ok (.invokespecial 9, 3) := by decide +kernel
theorem dX6_init_23 : decode cX6_init 23 = .ok (.putfield 16, 3) := by decide +kernel
theorem dX6_init_26 : decode cX6_init 26 = .ok (.aload_n 0, 1) := by decide +kernel
theorem dX6_init_27 : decode cX6_init 27 = .ok (.new 19, 3) := by decide +kernel
theorem dX6_init_30 : decode cX6_init 30 = .ok (.dup, 1) := by decide +kernel
theorem dX6_init_31 : decode cX6_init 31 = .ok (.invokespecial 21, 3) := by decide +kernel
theorem dX6_init_34 : decode cX6_init 34 = .ok (.putfield 22, 3) := by decide +kernel
theorem dX6_init_37 : decode cX6_init 37 = .ok (.aload_n 0, 1) := by decide +kernel
theorem dX6_init_38 : decode cX6_init 38 = .ok (.new 26, 3) := by decide +kernel
theorem dX6_init_41 : decode cX6_init 41 = .ok (.dup, 1) := by decide +kernel
theorem dX6_init_42 : decode cX6_init 42 = .ok (.invokespecial 28, 3) := by decide +kernel
theorem dX6_init_45 : decode cX6_init 45 = .ok (.putfield 29, 3) := by decide +kernel
theorem dX6_init_48 : decode cX6_init 48 = .ok (.aload_n 0, 1) := by decide +kernel
theorem dX6_init_49 : decode cX6_init 49 = .ok (.new 33, 3) := by decide +kernel
theorem dX6_init_52 : decode cX6_init 52 = .ok (.dup, 1) := by decide +kernel
theorem dX6_init_53 : decode cX6_init 53 = .ok (.invokespecial 35, 3) := by decide +kernel
theorem dX6_init_56 : decode cX6_init 56 = .ok (.putfield 36, 3) := by decide +kernel
theorem dX6_init_59 : decode cX6_init 59 = .ok (.aload_n 0, 1) := by decide +kernel
theorem dX6_init_60 : decode cX6_init 60 = .ok (.new 40, 3) := by decide +kernel
theorem dX6_init_63 : decode cX6_init 63 = .ok (.dup, 1) := by decide +kernel
theorem dX6_init_64 : decode cX6_init 64 = .ok (.invokespecial 42, 3) := by decide +kernel
theorem dX6_init_67 : decode cX6_init 67 = .ok (.putfield 43, 3) := by decide +kernel
theorem dX6_init_70 : decode cX6_init 70 = .ok (.aload_n 0, 1) := by decide +kernel
theorem dX6_init_71 : decode cX6_init 71 = .ok (.bipush 12, 2) := by decide +kernel
theorem dX6_init_73 : decode cX6_init 73 = .ok (.newarray .int, 2) := by decide +kernel
theorem dX6_init_75 : decode cX6_init 75 = .ok (.putfield 47, 3) := by decide +kernel
theorem dX6_init_78 : decode cX6_init 78 = .ok (.aload_n 0, 1) := by decide +kernel
theorem dX6_init_79 : decode cX6_init 79 = .ok (.bipush 7, 2) := by decide +kernel
theorem dX6_init_81 : decode cX6_init 81 = .ok (.newarray .int, 2) := by decide +kernel
theorem dX6_init_83 : decode cX6_init 83 = .ok (.putfield 51, 3) := by decide +kernel
theorem dX6_init_86 : decode cX6_init 86 = .ok (.aload_n 0, 1) := by decide +kernel
theorem dX6_init_87 : decode cX6_init 87 = .ok (.iconst 0, 1) := by decide +kernel
theorem dX6_init_88 : decode cX6_init 88 = .ok (.putfield 54, 3) := by decide +kernel
theorem dX6_init_91 : decode cX6_init 91 = .ok (.aload_n 0, 1) := by decide +kernel
theorem dX6_init_92 : decode cX6_init 92 = .ok (.iconst 0, 1) := by decide +kernel
theorem dX6_init_93 : decode cX6_init 93 = .ok (.putfield 58, 3) := by decide +kernel
theorem dX6_init_96 : decode cX6_init 96 = .ok (.return_, 1) := by decide +kernel
theorem dX6_feed_0 : decode cX6_feed 0 = .ok (.iload_n 1, 1) := by decide +kernel
theorem dX6_feed_1 : decode cX6_feed 1 = .ok (.ifCond .ge 10, 3) := by decide +kernel
theorem dX6_feed_4 : decode cX6_feed 4 = .ok (.aload_n 0, 1) := by decide +kernel
theorem dX6_feed_5 : decode cX6_feed 5 = .ok (.bipush (-4), 2) := by decide +kernel
theorem dX6_feed_7 : decode cX6_feed 7 = .ok (.invokevirtual 62, 3) := by decide +kernel
theorem dX6_feed_10 : decode cX6_feed 10 = .ok (.ireturn, 1) := by decide +kernel
theorem dX6_feed_11 : decode cX6_feed 11 = .ok (.iload_n 1, 1) := by decide +kernel
theorem dX6_feed_12 : decode cX6_feed 12 = .ok (.sipush 255, 3) := by decide +kernel
theorem dX6_feed_15 : decode cX6_feed 15 = .ok (.if_icmp .gt 13, 3) := by decide +kernel
theorem dX6_feed_18 : decode cX6_feed 18 = .ok (.aload_n 0, 1) := by decide +kernel
theorem dX6_feed_19 : decode cX6_feed 19 = .ok (.getfield 22, 3) := by decide +kernel
theorem dX6_feed_22 : decode cX6_feed 22 = .ok (.invokevirtual 66, 3) := by decide +kernel
theorem dX6_feed_25 : decode cX6_feed 25 = .ok (.ifCond .eq 10, 3) := by decide +kernel
theorem dX6_feed_28 : decode cX6_feed 28 = .ok (.aload_n 0, 1) := by decide +kernel
theorem dX6_feed_29 : decode cX6_feed 29 = .ok (.bipush (-6), 2) := by decide +kernel
theorem dX6_feed_31 : decode cX6_feed 31 = .ok (.invokevirtual 62, 3) := by decide +kernel
theorem dX6_feed_34 : decode cX6_feed 34 = .ok (.ireturn, 1) := by decide +kernel
theorem dX6_feed_35 : decode cX6_feed 35 = .ok (.aload_n 0, 1) := by decide +kernel
theorem dX6_feed_36 : decode cX6_feed 36 = .ok (.getfield 22, 3) := by decide +kernel
theorem dX6_feed_39 : decode cX6_feed 39 = .ok (.iload_n 1, 1) := by decide +kernel
theorem dX6_feed_40 : decode cX6_feed 40 = .ok (.invokevirtual 70, 3) := by decide +kernel
theorem dX6_feed_43 : decode cX6_feed 43 = .ok (.aload_n 0, 1) := by decide +kernel
theorem dX6_feed_44 : decode cX6_feed 44 = .ok (.getfield 22, 3) := by decide +kernel
theorem dX6_feed_47 : decode cX6_feed 47 = .ok (.getfield 74, 3) := by decide +kernel
theorem dX6_feed_50 : decode cX6_feed 50 = .ok (.ireturn, 1) := by decide +kernel
theorem dX6_train_0 : decode cX6_train 0 = .ok (.aload_n 0, 1) := by decide +kernel
theorem dX6_train_1 : decode cX6_train 1 = .ok (.invokevirtual 77, 3) := by decide +kernel
theorem dX6_train_4 : decode cX6_train 4 = .ok (.istore_n 1, 1) := by decide +kernel
theorem dX6_train_5 : decode cX6_train 5 = .ok (.aload_n 0, 1) := by decide +kernel
theorem dX6_train_6 : decode cX6_train 6 = .ok (.getfield 22, 3) := by decide +kernel
theorem dX6_train_9 : decode cX6_train 9 = .ok (.iconst 0, 1) := by decide +kernel
theorem dX6_train_10 : decode cX6_train 10 = .ok (.putfield 74, 3) := by decide +kernel
theorem dX6_train_13 : decode cX6_train 13 = .ok (.iload_n 1, 1) := by decide +kernel
theorem dX6_train_14 : decode cX6_train 14 = .ok (.ireturn, 1) := by decide +kernel
theorem dX6_line_0 : decode cX6_line 0 = .ok (.aload_n 0, 1) := by decide +kernel
theorem dX6_line_1 : decode cX6_line 1 = .ok (.getfield 10, 3) := by decide +kernel
theorem dX6_line_4 : decode cX6_line 4 = .ok (.getfield 81, 3) := by decide +kernel
theorem dX6_line_7 : decode cX6_line 7 = .ok (.astore_n 3, 1) := by decide +kernel
theorem dX6_line_8 : decode cX6_line 8 = .ok (.aload_n 3, 1) := by decide +kernel
theorem dX6_line_9 : decode cX6_line 9 = .ok (.iload_n 1, 1) := by decide +kernel
theorem dX6_line_10 : decode cX6_line 10 = .ok (.invokevirtual 85, 3) := by decide +kernel
theorem dX6_line_13 : decode cX6_line 13 = .ok (.ifCond .ne 9, 3) := by decide +kernel
theorem dX6_line_16 : decode cX6_line 16 = .ok (.aload_n 0, 1) := by decide +kernel
theorem dX6_line_17 : decode cX6_line 17 = .ok (.iconst (-1), 1) := by decide +kernel
theorem dX6_line_18 : decode cX6_line 18 = .ok (.invokevirtual 62, 3) := by decide +kernel
theorem dX6_line_21 : decode cX6_line 21 = .ok (.ireturn, 1) := by decide +kernel
theorem dX6_line_22 : decode cX6_line 22 = .ok (.iload_n 2, 1) := by decide +kernel
theorem dX6_line_23 : decode cX6_line 23 = .ok (.tableswitch 73 0 5 #[37, 43, 49, 55, 61, 67], 37) := by decide +kernel
theorem dX6_line_60 : decode cX6_line 60 = .ok (.aload_n 3, 1) := by decide +kernel
theorem dX6_line_61 : decode cX6_line 61 = .ok (.iload_n 1, 1) := by decide +kernel
theorem dX6_line_62 : decode cX6_line 62 = .ok (.invokevirtual 91, 3) := by decide +kernel
theorem dX6_line_65 : decode cX6_line 65 = .ok (.ireturn, 1) := by decide +kernel
theorem dX6_line_66 : decode cX6_line 66 = .ok (.aload_n 3, 1) := by decide +kernel
theorem dX6_line_67 : decode cX6_line 67 = .ok (.iload_n 1, 1) := by decide +kernel
theorem dX6_line_68 : decode cX6_line 68 = .ok (.invokevirtual 94, 3) := by decide +kernel
theorem dX6_line_71 : decode cX6_line 71 = .ok (.ireturn, 1) := by decide +kernel
theorem dX6_line_72 : decode cX6_line 72 = .ok (.aload_n 3, 1) := by decide +kernel
theorem dX6_line_73 : decode cX6_line 73 = .ok (.iload_n 1, 1) := by decide +kernel
theorem dX6_line_74 : decode cX6_line 74 = .ok (.invokevirtual 97, 3) := by decide +kernel
theorem dX6_line_77 : decode cX6_line 77 = .ok (.ireturn, 1) := by decide +kernel
theorem dX6_line_78 : decode cX6_line 78 = .ok (.aload_n 3, 1) := by decide +kernel
theorem dX6_line_79 : decode cX6_line 79 = .ok (.iload_n 1, 1) := by decide +kernel
theorem dX6_line_80 : decode cX6_line 80 = .ok (.invokevirtual 100, 3) := by decide +kernel
theorem dX6_line_83 : decode cX6_line 83 = .ok (.ireturn, 1) := by decide +kernel
theorem dX6_line_84 : decode cX6_line 84 = .ok (.aload_n 3, 1) := by decide +kernel
theorem dX6_line_85 : decode cX6_line 85 = .ok (.iload_n 1, 1) := by decide +kernel
theorem dX6_line_86 : decode cX6_line 86 = .ok (.invokevirtual 103, 3) := by decide +kernel
theorem dX6_line_89 : decode cX6_line 89 = .ok (.ireturn, 1) := by decide +kernel
theorem dX6_line_90 : decode cX6_line 90 = .ok (.aload_n 3, 1) := by decide +kernel
theorem dX6_line_91 : decode cX6_line 91 = .ok (.iload_n 1, 1) := by decide +kernel
theorem dX6_line_92 : decode cX6_line 92 = .ok (.invokevirtual 106, 3) := by decide +kernel
theorem dX6_line_95 : decode cX6_line 95 = .ok (.ireturn, 1) := by decide +kernel
theorem dX6_line_96 : decode cX6_line 96 = .ok (.aload_n 0, 1) := by decide +kernel
theorem dX6_line_97 : decode cX6_line 97 = .ok (.bipush (-2), 2) := by decide +kernel
theorem dX6_line_99 : decode cX6_line 99 = .ok (.invokevirtual 62, 3) := by decide +kernel
theorem dX6_line_102 : decode cX6_line 102 = .ok (.ireturn, 1) := by decide +kernel
theorem dX6_holder_0 : decode cX6_holder 0 = .ok (.iload_n 1, 1) := by decide +kernel
theorem dX6_holder_1 : decode cX6_holder 1 = .ok (.tableswitch 77 0 3 #[31, 42, 53, 64], 31) := by decide +kernel
theorem dX6_holder_32 : decode cX6_holder 32 = .ok (.aload_n 0, 1) := by decide +kernel
theorem dX6_holder_33 : decode cX6_holder 33 = .ok (.getfield 10, 3) := by decide +kernel
theorem dX6_holder_36 : decode cX6_holder 36 = .ok (.getfield 109, 3) := by decide +kernel
theorem dX6_holder_39 : decode cX6_holder 39 = .ok (.getfield 112, 3) := by decide +kernel
theorem dX6_holder_42 : decode cX6_holder 42 = .ok (.ireturn, 1) := by decide +kernel
theorem dX6_holder_43 : decode cX6_holder 43 = .ok (.aload_n 0, 1) := by decide +kernel
theorem dX6_holder_44 : decode cX6_holder 44 = .ok (.getfield 10, 3) := by decide +kernel
theorem dX6_holder_47 : decode cX6_holder 47 = .ok (.getfield 109, 3) := by decide +kernel
theorem dX6_holder_50 : decode cX6_holder 50 = .ok (.getfield 115, 3) := by decide +kernel
theorem dX6_holder_53 : decode cX6_holder 53 = .ok (.ireturn, 1) := by decide +kernel
theorem dX6_holder_54 : decode cX6_holder 54 = .ok (.aload_n 0, 1) := by decide +kernel
theorem dX6_holder_55 : decode cX6_holder 55 = .ok (.getfield 10, 3) := by decide +kernel
theorem dX6_holder_58 : decode cX6_holder 58 = .ok (.getfield 109, 3) := by decide +kernel
theorem dX6_holder_61 : decode cX6_holder 61 = .ok (.getfield 118, 3) := by decide +kernel
theorem dX6_holder_64 : decode cX6_holder 64 = .ok (.ireturn, 1) := by decide +kernel
theorem dX6_holder_65 : decode cX6_holder 65 = .ok (.aload_n 0, 1) := by decide +kernel
theorem dX6_holder_66 : decode cX6_holder 66 = .ok (.getfield 10, 3) := by decide +kernel
theorem dX6_holder_69 : decode cX6_holder 69 = .ok (.getfield 109, 3) := by decide +kernel
theorem dX6_holder_72 : decode cX6_holder 72 = .ok (.getfield 121, 3) := by decide +kernel
theorem dX6_holder_75 : decode cX6_holder 75 = .ok (.iconst 1, 1) := by decide +kernel
theorem dX6_holder_76 : decode cX6_holder 76 = .ok (.iadd, 1) := by decide +kernel
theorem dX6_holder_77 : decode cX6_holder 77 = .ok (.ireturn, 1) := by decide +kernel
theorem dX6_holder_78 : decode cX6_holder 78 = .ok (.aload_n 0, 1) := by decide +kernel
theorem dX6_holder_79 : decode cX6_holder 79 = .ok (.bipush (-2), 2) := by decide +kernel
theorem dX6_holder_81 : decode cX6_holder 81 = .ok (.invokevirtual 62, 3) := by decide +kernel
theorem dX6_holder_84 : decode cX6_holder 84 = .ok (.ireturn, 1) := by decide +kernel
theorem dX6_looker_0 : decode cX6_looker 0 = .ok (.aload_n 0, 1) := by decide +kernel
theorem dX6_looker_1 : decode cX6_looker 1 = .ok (.getfield 10, 3) := by decide +kernel
theorem dX6_looker_4 : decode cX6_looker 4 = .ok (.iload_n 1, 1) := by decide +kernel
theorem dX6_looker_5 : decode cX6_looker 5 = .ok (.invokevirtual 124, 3) := by decide +kernel
theorem dX6_looker_8 : decode cX6_looker 8 = .ok (.astore_n 3, 1) := by decide +kernel
theorem dX6_looker_9 : decode cX6_looker 9 = .ok (.aload_n 3, 1) := by decide +kernel
theorem dX6_looker_10 : decode cX6_looker 10 = .ok (.ifnonnull 9, 3) := by decide +kernel
theorem dX6_looker_13 : decode cX6_looker 13 = .ok (.aload_n 0, 1) := by decide +kernel
theorem dX6_looker_14 : decode cX6_looker 14 = .ok (.iconst (-1), 1) := by decide +kernel
theorem dX6_looker_15 : decode cX6_looker 15 = .ok (.invokevirtual 62, 3) := by decide +kernel
theorem dX6_looker_18 : decode cX6_looker 18 = .ok (.ireturn, 1) := by decide +kernel
theorem dX6_looker_19 : decode cX6_looker 19 = .ok (.iload_n 2, 1) := by decide +kernel
theorem dX6_looker_20 : decode cX6_looker 20 = .ok (.tableswitch 134 0 9 #[56, 61, 66, 71, 76, 81, 86, 91, 104, 119], 56) := by decide +kernel
theorem dX6_looker_76 : decode cX6_looker 76 = .ok (.aload_n 3, 1) := by decide +kernel
theorem dX6_looker_77 : decode cX6_looker 77 = .ok (.getfield 128, 3) := by decide +kernel
theorem dX6_looker_80 : decode cX6_looker 80 = .ok (.ireturn, 1) := by decide +kernel
theorem dX6_looker_81 : decode cX6_looker 81 = .ok (.aload_n 3, 1) := by decide +kernel
theorem dX6_looker_82 : decode cX6_looker 82 = .ok (.getfield 131, 3) := by decide +kernel
theorem dX6_looker_85 : decode cX6_looker 85 = .ok (.ireturn, 1) := by decide +kernel
theorem dX6_looker_86 : decode cX6_looker 86 = .ok (.aload_n 3, 1) := by decide +kernel
theorem dX6_looker_87 : decode cX6_looker 87 = .ok (.getfield 134, 3) := by decide +kernel
theorem dX6_looker_90 : decode cX6_looker 90 = .ok (.ireturn, 1) := by decide +kernel
theorem dX6_looker_91 : decode cX6_looker 91 = .ok (.aload_n 3, 1) := by decide +kernel
theorem dX6_looker_92 : decode cX6_looker 92 = .ok (.getfield 137, 3) := by decide +kernel
theorem dX6_looker_95 : decode cX6_looker 95 = .ok (.ireturn, 1) := by decide +kernel
theorem dX6_looker_96 : decode cX6_looker 96 = .ok (.aload_n 3, 1) := by decide +kernel
theorem dX6_looker_97 : decode cX6_looker 97 = .ok (.getfield 140, 3) := by decide +kernel
theorem dX6_looker_100 : decode cX6_looker 100 = .ok (.ireturn, 1) := by decide +kernel
theorem dX6_looker_101 : decode cX6_looker 101 = .ok (.aload_n 3, 1) := by decide +kernel
theorem dX6_looker_102 : decode cX6_looker 102 = .ok (.getfield 143, 3) := by decide +kernel
theorem dX6_looker_105 : decode cX6_looker 105 = .ok (.ireturn, 1) := by decide +kernel
theorem dX6_looker_106 : decode cX6_looker 106 = .ok (.aload_n 3, 1) := by decide +kernel
theorem dX6_looker_107 : decode cX6_looker 107 = .ok (.getfield 146, 3) := by decide +kernel
theorem dX6_looker_110 : decode cX6_looker 110 = .ok (.ireturn, 1) := by decide +kernel
theorem dX6_looker_111 : decode cX6_looker 111 = .ok (.aload_n 3, 1) := by decide +kernel
theorem dX6_looker_112 : decode cX6_looker 112 = .ok (.getfield 149, 3) := by decide +kernel
theorem dX6_looker_115 : decode cX6_looker 115 = .ok (.ifCond .eq 7, 3) := by decide +kernel
theorem dX6_looker_118 : decode cX6_looker 118 = .ok (.iconst 1, 1) := by decide +kernel
theorem dX6_looker_119 : decode cX6_looker 119 = .ok (.goto 4, 3) := by decide +kernel
theorem dX6_looker_122 : decode cX6_looker 122 = .ok (.iconst 0, 1) := by decide +kernel
theorem dX6_looker_123 : decode cX6_looker 123 = .ok (.ireturn, 1) := by decide +kernel
theorem dX6_looker_124 : decode cX6_looker 124 = .ok (.aload_n 0, 1) := by decide +kernel
theorem dX6_looker_125 : decode cX6_looker 125 = .ok (.getfield 10, 3) := by decide +kernel
theorem dX6_looker_128 : decode cX6_looker 128 = .ok (.getfield 109, 3) := by decide +kernel
theorem dX6_looker_131 : decode cX6_looker 131 = .ok (.aload_n 3, 1) := by decide +kernel
theorem dX6_looker_132 : decode cX6_looker 132 = .ok (.getfield 143, 3) := by decide +kernel
theorem dX6_looker_135 : decode cX6_looker 135 = .ok (.invokevirtual 152, 3) := by decide +kernel
theorem dX6_looker_138 : decode cX6_looker 138 = .ok (.ireturn, 1) := by decide +kernel
theorem dX6_looker_139 : decode cX6_looker 139 = .ok (.aload_n 0, 1) := by decide +kernel
theorem dX6_looker_140 : decode cX6_looker 140 = .ok (.getfield 10, 3) := by decide +kernel
theorem dX6_looker_143 : decode cX6_looker 143 = .ok (.getfield 81, 3) := by decide +kernel
theorem dX6_looker_146 : decode cX6_looker 146 = .ok (.aload_n 3, 1) := by decide +kernel
theorem dX6_looker_147 : decode cX6_looker 147 = .ok (.getfield 146, 3) := by decide +kernel
theorem dX6_looker_150 : decode cX6_looker 150 = .ok (.invokevirtual 155, 3) := by decide +kernel
theorem dX6_looker_153 : decode cX6_looker 153 = .ok (.ireturn, 1) := by decide +kernel
theorem dX6_looker_154 : decode cX6_looker 154 = .ok (.aload_n 0, 1) := by decide +kernel
theorem dX6_looker_155 : decode cX6_looker 155 = .ok (.bipush (-2), 2) := by decide +kernel
theorem dX6_looker_157 : decode cX6_looker 157 = .ok (.invokevirtual 62, 3) := by decide +kernel
theorem dX6_looker_160 : decode cX6_looker 160 = .ok (.ireturn, 1) := by decide +kernel
theorem dX6_takes_0 : decode cX6_takes 0 = .ok (.aload_n 0, 1) := by decide +kernel
theorem dX6_takes_1 : decode cX6_takes 1 = .ok (.getfield 10, 3) := by decide +kernel
theorem dX6_takes_4 : decode cX6_takes 4 = .ok (.iload_n 2, 1) := by decide +kernel
theorem dX6_takes_5 : decode cX6_takes 5 = .ok (.invokevirtual 124, 3) := by decide +kernel
theorem dX6_takes_8 : decode cX6_takes 8 = .ok (.astore_n 3, 1) := by decide +kernel
theorem dX6_takes_9 : decode cX6_takes 9 = .ok (.aload_n 0, 1) := by decide +kernel
theorem dX6_takes_10 : decode cX6_takes 10 = .ok (.getfield 10, 3) := by decide +kernel
theorem dX6_takes_13 : decode cX6_takes 13 = .ok (.getfield 81, 3) := by decide +kernel
theorem dX6_takes_16 : decode cX6_takes 16 = .ok (.iload_n 1, 1) := by decide +kernel
theorem dX6_takes_17 : decode cX6_takes 17 = .ok (.invokevirtual 85, 3) := by decide +kernel
theorem dX6_takes_20 : decode cX6_takes 20 = .ok (.ifCond .eq 7, 3) := by decide +kernel
theorem dX6_takes_23 : decode cX6_takes 23 = .ok (.aload_n 3, 1) := by decide +kernel
theorem dX6_takes_24 : decode cX6_takes 24 = .ok (.ifnonnull 9, 3) := by decide +kernel
theorem dX6_takes_27 : decode cX6_takes 27 = .ok (.aload_n 0, 1) := by decide +kernel
theorem dX6_takes_28 : decode cX6_takes 28 = .ok (.iconst (-1), 1) := by decide +kernel
theorem dX6_takes_29 : decode cX6_takes 29 = .ok (.invokevirtual 62, 3) := by decide +kernel
theorem dX6_takes_32 : decode cX6_takes 32 = .ok (.ireturn, 1) := by decide +kernel
theorem dX6_takes_33 : decode cX6_takes 33 = .ok (.aload_n 0, 1) := by decide +kernel
theorem dX6_takes_34 : decode cX6_takes 34 = .ok (.getfield 10, 3) := by decide +kernel
theorem dX6_takes_37 : decode cX6_takes 37 = .ok (.getfield 81, 3) := by decide +kernel
theorem dX6_takes_40 : decode cX6_takes 40 = .ok (.iload_n 1, 1) := by decide +kernel
theorem dX6_takes_41 : decode cX6_takes 41 = .ok (.aload_n 3, 1) := by decide +kernel
theorem dX6_takes_42 : decode cX6_takes 42 = .ok (.getfield 131, 3) := by decide +kernel
theorem dX6_takes_45 : decode cX6_takes 45 = .ok (.invokevirtual 158, 3) := by decide +kernel
theorem dX6_takes_48 : decode cX6_takes 48 = .ok (.ireturn, 1) := by decide +kernel
theorem dX6_shows_0 : decode cX6_shows 0 = .ok (.iload_n 1, 1) := by decide +kernel
theorem dX6_shows_1 : decode cX6_shows 1 = .ok (.iconst 0, 1) := by decide +kernel
theorem dX6_shows_2 : decode cX6_shows 2 = .ok (.iconst 2, 1) := by decide +kernel
theorem dX6_shows_3 : decode cX6_shows 3 = .ok (.invokestatic 162, 3) := by decide +kernel
theorem dX6_shows_6 : decode cX6_shows 6 = .ok (.istore_n 2, 1) := by decide +kernel
theorem dX6_shows_7 : decode cX6_shows 7 = .ok (.iload_n 2, 1) := by decide +kernel
theorem dX6_shows_8 : decode cX6_shows 8 = .ok (.ifCond .eq 9, 3) := by decide +kernel
theorem dX6_shows_11 : decode cX6_shows 11 = .ok (.aload_n 0, 1) := by decide +kernel
theorem dX6_shows_12 : decode cX6_shows 12 = .ok (.iload_n 2, 1) := by decide +kernel
theorem dX6_shows_13 : decode cX6_shows 13 = .ok (.invokevirtual 62, 3) := by decide +kernel
theorem dX6_shows_16 : decode cX6_shows 16 = .ok (.ireturn, 1) := by decide +kernel
theorem dX6_shows_17 : decode cX6_shows 17 = .ok (.aload_n 0, 1) := by decide +kernel
theorem dX6_shows_18 : decode cX6_shows 18 = .ok (.getfield 10, 3) := by decide +kernel
theorem dX6_shows_21 : decode cX6_shows 21 = .ok (.getfield 109, 3) := by decide +kernel
theorem dX6_shows_24 : decode cX6_shows 24 = .ok (.iload_n 1, 1) := by decide +kernel
theorem dX6_shows_25 : decode cX6_shows 25 = .ok (.invokevirtual 166, 3) := by decide +kernel
theorem dX6_shows_28 : decode cX6_shows 28 = .ok (.ireturn, 1) := by decide +kernel
theorem dX6_tilt_0 : decode cX6_tilt 0 = .ok (.iload_n 1, 1) := by decide +kernel
theorem dX6_tilt_1 : decode cX6_tilt 1 = .ok (.iconst (-1), 1) := by decide +kernel
theorem dX6_tilt_2 : decode cX6_tilt 2 = .ok (.iconst 1, 1) := by decide +kernel
theorem dX6_tilt_3 : decode cX6_tilt 3 = .ok (.invokestatic 162, 3) := by decide +kernel
theorem dX6_tilt_6 : decode cX6_tilt 6 = .ok (.istore_n 2, 1) := by decide +kernel
theorem dX6_tilt_7 : decode cX6_tilt 7 = .ok (.iload_n 2, 1) := by decide +kernel
theorem dX6_tilt_8 : decode cX6_tilt 8 = .ok (.ifCond .eq 9, 3) := by decide +kernel
theorem dX6_tilt_11 : decode cX6_tilt 11 = .ok (.aload_n 0, 1) := by decide +kernel
theorem dX6_tilt_12 : decode cX6_tilt 12 = .ok (.iload_n 2, 1) := by decide +kernel
theorem dX6_tilt_13 : decode cX6_tilt 13 = .ok (.invokevirtual 62, 3) := by decide +kernel
theorem dX6_tilt_16 : decode cX6_tilt 16 = .ok (.ireturn, 1) := by decide +kernel
theorem dX6_tilt_17 : decode cX6_tilt 17 = .ok (.aload_n 0, 1) := by decide +kernel
theorem dX6_tilt_18 : decode cX6_tilt 18 = .ok (.getfield 10, 3) := by decide +kernel
theorem dX6_tilt_21 : decode cX6_tilt 21 = .ok (.getfield 109, 3) := by decide +kernel
theorem dX6_tilt_24 : decode cX6_tilt 24 = .ok (.getfield 121, 3) := by decide +kernel
theorem dX6_tilt_27 : decode cX6_tilt 27 = .ok (.istore_n 3, 1) := by decide +kernel
theorem dX6_tilt_28 : decode cX6_tilt 28 = .ok (.aload_n 0, 1) := by decide +kernel
theorem dX6_tilt_29 : decode cX6_tilt 29 = .ok (.getfield 10, 3) := by decide +kernel
theorem dX6_tilt_32 : decode cX6_tilt 32 = .ok (.getfield 109, 3) := by decide +kernel
theorem dX6_tilt_35 : decode cX6_tilt 35 = .ok (.iload_n 1, 1) := by decide +kernel
theorem dX6_tilt_36 : decode cX6_tilt 36 = .ok (.putfield 121, 3) := by decide +kernel
theorem dX6_tilt_39 : decode cX6_tilt 39 = .ok (.iload_n 3, 1) := by decide +kernel
theorem dX6_tilt_40 : decode cX6_tilt 40 = .ok (.iconst 1, 1) := by decide +kernel
theorem dX6_tilt_41 : decode cX6_tilt 41 = .ok (.iadd, 1) := by decide +kernel
theorem dX6_tilt_42 : decode cX6_tilt 42 = .ok (.ireturn, 1) := by decide +kernel
theorem dX6_base_0 : decode cX6_base 0 = .ok (.iload_n 1, 1) := by decide +kernel
theorem dX6_base_1 : decode cX6_base 1 = .ok (.bipush 10, 2) := by decide +kernel
theorem dX6_base_3 : decode cX6_base 3 = .ok (.bipush 99, 2) := by decide +kernel
theorem dX6_base_5 : decode cX6_base 5 = .ok (.invokestatic 162, 3) := by decide +kernel
theorem dX6_base_8 : decode cX6_base 8 = .ok (.istore_n 2, 1) := by decide +kernel
theorem dX6_base_9 : decode cX6_base 9 = .ok (.iload_n 2, 1) := by decide +kernel
theorem dX6_base_10 : decode cX6_base 10 = .ok (.ifCond .eq 9, 3) := by decide +kernel
theorem dX6_base_13 : decode cX6_base 13 = .ok (.aload_n 0, 1) := by decide +kernel
theorem dX6_base_14 : decode cX6_base 14 = .ok (.iload_n 2, 1) := by decide +kernel
theorem dX6_base_15 : decode cX6_base 15 = .ok (.invokevirtual 62, 3) := by decide +kernel
theorem dX6_base_18 : decode cX6_base 18 = .ok (.ireturn, 1) := by decide +kernel
theorem dX6_base_19 : decode cX6_base 19 = .ok (.aload_n 0, 1) := by decide +kernel
theorem dX6_base_20 : decode cX6_base 20 = .ok (.getfield 10, 3) := by decide +kernel
theorem dX6_base_23 : decode cX6_base 23 = .ok (.getfield 109, 3) := by decide +kernel
theorem dX6_base_26 : decode cX6_base 26 = .ok (.getfield 118, 3) := by decide +kernel
theorem dX6_base_29 : decode cX6_base 29 = .ok (.istore_n 3, 1) := by decide +kernel
theorem dX6_base_30 : decode cX6_base 30 = .ok (.aload_n 0, 1) := by decide +kernel
theorem dX6_base_31 : decode cX6_base 31 = .ok (.getfield 10, 3) := by decide +kernel
theorem dX6_base_34 : decode cX6_base 34 = .ok (.getfield 109, 3) := by decide +kernel
theorem dX6_base_37 : decode cX6_base 37 = .ok (.iload_n 1, 1) := by decide +kernel
theorem dX6_base_38 : decode cX6_base 38 = .ok (.putfield 118, 3) := by decide +kernel
theorem dX6_base_41 : decode cX6_base 41 = .ok (.iload_n 3, 1) := by decide +kernel
theorem dX6_base_42 : decode cX6_base 42 = .ok (.ireturn, 1) := by decide +kernel
theorem dX6_sit_0 : decode cX6_sit 0 = .ok (.aload_n 0, 1) := by decide +kernel
theorem dX6_sit_1 : decode cX6_sit 1 = .ok (.getfield 10, 3) := by decide +kernel
theorem dX6_sit_4 : decode cX6_sit 4 = .ok (.iload_n 1, 1) := by decide +kernel
theorem dX6_sit_5 : decode cX6_sit 5 = .ok (.invokevirtual 124, 3) := by decide +kernel
theorem dX6_sit_8 : decode cX6_sit 8 = .ok (.astore_n 3, 1) := by decide +kernel
theorem dX6_sit_9 : decode cX6_sit 9 = .ok (.aload_n 3, 1) := by decide +kernel
theorem dX6_sit_10 : decode cX6_sit 10 = .ok (.ifnonnull 9, 3) := by decide +kernel
theorem dX6_sit_13 : decode cX6_sit 13 = .ok (.aload_n 0, 1) := by decide +kernel
theorem dX6_sit_14 : decode cX6_sit 14 = .ok (.iconst (-1), 1) := by decide +kernel
theorem dX6_sit_15 : decode cX6_sit 15 = .ok (.invokevirtual 62, 3) := by decide +kernel
theorem dX6_sit_18 : decode cX6_sit 18 = .ok (.ireturn, 1) := by decide +kernel
theorem dX6_sit_19 : decode cX6_sit 19 = .ok (.iload_n 2, 1) := by decide +kernel
theorem dX6_sit_20 : decode cX6_sit 20 = .ok (.iconst 0, 1) := by decide +kernel
theorem dX6_sit_21 : decode cX6_sit 21 = .ok (.iconst 2, 1) := by decide +kernel
theorem dX6_sit_22 : decode cX6_sit 22 = .ok (.invokestatic 162, 3) := by decide +kernel
theorem dX6_sit_25 : decode cX6_sit 25 = .ok (.istore 4, 2) := by decide +kernel
theorem dX6_sit_27 : decode cX6_sit 27 = .ok (.iload 4, 2) := by decide +kernel
theorem dX6_sit_29 : decode cX6_sit 29 = .ok (.ifCond .eq 10, 3) := by decide +kernel
theorem dX6_sit_32 : decode cX6_sit 32 = .ok (.aload_n 0, 1) := by decide +kernel
theorem dX6_sit_33 : decode cX6_sit 33 = .ok (.iload 4, 2) := by decide +kernel
theorem dX6_sit_35 : decode cX6_sit 35 = .ok (.invokevirtual 62, 3) := by decide +kernel
theorem dX6_sit_38 : decode cX6_sit 38 = .ok (.ireturn, 1) := by decide +kernel
theorem dX6_sit_39 : decode cX6_sit 39 = .ok (.aload_n 3, 1) := by decide +kernel
theorem dX6_sit_40 : decode cX6_sit 40 = .ok (.getfield 128, 3) := by decide +kernel
theorem dX6_sit_43 : decode cX6_sit 43 = .ok (.istore 5, 2) := by decide +kernel
theorem dX6_sit_45 : decode cX6_sit 45 = .ok (.aload_n 3, 1) := by decide +kernel
theorem dX6_sit_46 : decode cX6_sit 46 = .ok (.iload_n 2, 1) := by decide +kernel
theorem dX6_sit_47 : decode cX6_sit 47 = .ok (.putfield 128, 3) := by decide +kernel
theorem dX6_sit_50 : decode cX6_sit 50 = .ok (.iload 5, 2) := by decide +kernel
theorem dX6_sit_52 : decode cX6_sit 52 = .ok (.ireturn, 1) := by decide +kernel
theorem dX6_read_0 : decode cX6_read 0 = .ok (.aload_n 0, 1) := by decide +kernel
theorem dX6_read_1 : decode cX6_read 1 = .ok (.getfield 10, 3) := by decide +kernel
theorem dX6_read_4 : decode cX6_read 4 = .ok (.iload_n 1, 1) := by decide +kernel
theorem dX6_read_5 : decode cX6_read 5 = .ok (.invokevirtual 124, 3) := by decide +kernel
theorem dX6_read_8 : decode cX6_read 8 = .ok (.astore_n 3, 1) := by decide +kernel
theorem dX6_read_9 : decode cX6_read 9 = .ok (.aload_n 3, 1) := by decide +kernel
theorem dX6_read_10 : decode cX6_read 10 = .ok (.ifnull 12, 3) := by decide +kernel
theorem dX6_read_13 : decode cX6_read 13 = .ok (.iload_n 2, 1) := by decide +kernel
theorem dX6_read_14 : decode cX6_read 14 = .ok (.ifCond .lt 8, 3) := by decide +kernel
theorem dX6_read_17 : decode cX6_read 17 = .ok (.iload_n 2, 1) := by decide +kernel
theorem dX6_read_18 : decode cX6_read 18 = .ok (.iconst 4, 1) := by decide +kernel
theorem dX6_read_19 : decode cX6_read 19 = .ok (.if_icmp .lt 9, 3) := by decide +kernel
theorem dX6_read_22 : decode cX6_read 22 = .ok (.aload_n 0, 1) := by decide +kernel
theorem dX6_read_23 : decode cX6_read 23 = .ok (.iconst (-1), 1) := by decide +kernel
theorem dX6_read_24 : decode cX6_read 24 = .ok (.invokevirtual 62, 3) := by decide +kernel
theorem dX6_read_27 : decode cX6_read 27 = .ok (.ireturn, 1) := by decide +kernel
theorem dX6_read_28 : decode cX6_read 28 = .ok (.aload_n 3, 1) := by decide +kernel
theorem dX6_read_29 : decode cX6_read 29 = .ok (.aload_n 0, 1) := by decide +kernel
theorem dX6_read_30 : decode cX6_read 30 = .ok (.getfield 10, 3) := by decide +kernel
theorem dX6_read_33 : decode cX6_read 33 = .ok (.getfield 81, 3) := by decide +kernel
theorem dX6_read_36 : decode cX6_read 36 = .ok (.aload_n 0, 1) := by decide +kernel
theorem dX6_read_37 : decode cX6_read 37 = .ok (.getfield 10, 3) := by decide +kernel
theorem dX6_read_40 : decode cX6_read 40 = .ok (.getfield 109, 3) := by decide +kernel
theorem dX6_read_43 : decode cX6_read 43 = .ok (.iload_n 2, 1) := by decide +kernel
theorem dX6_read_44 : decode cX6_read 44 = .ok (.invokevirtual 169, 3) := by decide +kernel
theorem dX6_read_47 : decode cX6_read 47 = .ok (.istore 4, 2) := by decide +kernel
theorem dX6_read_49 : decode cX6_read 49 = .ok (.iload 4, 2) := by decide +kernel
theorem dX6_read_51 : decode cX6_read 51 = .ok (.bipush (-3), 2) := by decide +kernel
theorem dX6_read_53 : decode cX6_read 53 = .ok (.if_icmp .ne 12, 3) := by decide +kernel
theorem dX6_read_56 : decode cX6_read 56 = .ok (.aload_n 0, 1) := by decide +kernel
theorem dX6_read_57 : decode cX6_read 57 = .ok (.bipush (-3), 2) := by decide +kernel
theorem dX6_read_59 : decode cX6_read 59 = .ok (.invokevirtual 62, 3) := by decide +kernel
theorem dX6_read_62 : decode cX6_read 62 = .ok (.goto 5, 3) := by decide +kernel
theorem dX6_read_65 : decode cX6_read 65 = .ok (.iload 4, 2) := by decide +kernel
theorem dX6_read_67 : decode cX6_read 67 = .ok (.ireturn, 1) := by decide +kernel
theorem dX6_away_0 : decode cX6_away 0 = .ok (.aload_n 0, 1) := by decide +kernel
theorem dX6_away_1 : decode cX6_away 1 = .ok (.getfield 10, 3) := by decide +kernel
theorem dX6_away_4 : decode cX6_away 4 = .ok (.iload_n 1, 1) := by decide +kernel
theorem dX6_away_5 : decode cX6_away 5 = .ok (.invokevirtual 124, 3) := by decide +kernel
theorem dX6_away_8 : decode cX6_away 8 = .ok (.astore_n 3, 1) := by decide +kernel
theorem dX6_away_9 : decode cX6_away 9 = .ok (.aload_n 3, 1) := by decide +kernel
theorem dX6_away_10 : decode cX6_away 10 = .ok (.ifnonnull 9, 3) := by decide +kernel
theorem dX6_away_13 : decode cX6_away 13 = .ok (.aload_n 0, 1) := by decide +kernel
theorem dX6_away_14 : decode cX6_away 14 = .ok (.iconst (-1), 1) := by decide +kernel
theorem dX6_away_15 : decode cX6_away 15 = .ok (.invokevirtual 62, 3) := by decide +kernel
theorem dX6_away_18 : decode cX6_away 18 = .ok (.ireturn, 1) := by decide +kernel
theorem dX6_away_19 : decode cX6_away 19 = .ok (.iload_n 2, 1) := by decide +kernel
theorem dX6_away_20 : decode cX6_away 20 = .ok (.iconst 1, 1) := by decide +kernel
theorem dX6_away_21 : decode cX6_away 21 = .ok (.bipush 60, 2) := by decide +kernel
theorem dX6_away_23 : decode cX6_away 23 = .ok (.invokestatic 162, 3) := by decide +kernel
theorem dX6_away_26 : decode cX6_away 26 = .ok (.istore 4, 2) := by decide +kernel
theorem dX6_away_28 : decode cX6_away 28 = .ok (.iload 4, 2) := by decide +kernel
theorem dX6_away_30 : decode cX6_away 30 = .ok (.ifCond .eq 10, 3) := by decide +kernel
theorem dX6_away_33 : decode cX6_away 33 = .ok (.aload_n 0, 1) := by decide +kernel
theorem dX6_away_34 : decode cX6_away 34 = .ok (.iload 4, 2) := by decide +kernel
theorem dX6_away_36 : decode cX6_away 36 = .ok (.invokevirtual 62, 3) := by decide +kernel
theorem dX6_away_39 : decode cX6_away 39 = .ok (.ireturn, 1) := by decide +kernel
theorem dX6_away_40 : decode cX6_away 40 = .ok (.aload_n 3, 1) := by decide +kernel
theorem dX6_away_41 : decode cX6_away 41 = .ok (.getfield 149, 3) := by decide +kernel
theorem dX6_away_44 : decode cX6_away 44 = .ok (.ifCond .eq 10, 3) := by decide +kernel
theorem dX6_away_47 : decode cX6_away 47 = .ok (.aload_n 0, 1) := by decide +kernel
theorem dX6_away_48 : decode cX6_away 48 = .ok (.bipush (-3), 2) := by decide +kernel
theorem dX6_away_50 : decode cX6_away 50 = .ok (.invokevirtual 62, 3) := by decide +kernel
theorem dX6_away_53 : decode cX6_away 53 = .ok (.ireturn, 1) := by decide +kernel
theorem dX6_away_54 : decode cX6_away 54 = .ok (.aload_n 3, 1) := by decide +kernel
theorem dX6_away_55 : decode cX6_away 55 = .ok (.aload_n 0, 1) := by decide +kernel
theorem dX6_away_56 : decode cX6_away 56 = .ok (.getfield 10, 3) := by decide +kernel
theorem dX6_away_59 : decode cX6_away 59 = .ok (.getfield 109, 3) := by decide +kernel
theorem dX6_away_62 : decode cX6_away 62 = .ok (.iload_n 2, 1) := by decide +kernel
theorem dX6_away_63 : decode cX6_away 63 = .ok (.invokevirtual 173, 3) := by decide +kernel
theorem dX6_away_66 : decode cX6_away 66 = .ok (.aload_n 3, 1) := by decide +kernel
theorem dX6_away_67 : decode cX6_away 67 = .ok (.getfield 137, 3) := by decide +kernel
theorem dX6_away_70 : decode cX6_away 70 = .ok (.ireturn, 1) := by decide +kernel
theorem dX6_page_0 : decode cX6_page 0 = .ok (.iconst 0, 1) := by decide +kernel
theorem dX6_page_1 : decode cX6_page 1 = .ok (.istore_n 1, 1) := by decide +kernel
theorem dX6_page_2 : decode cX6_page 2 = .ok (.iconst 0, 1) := by decide +kernel
theorem dX6_page_3 : decode cX6_page 3 = .ok (.istore_n 2, 1) := by decide +kernel
theorem dX6_page_4 : decode cX6_page 4 = .ok (.iload_n 2, 1) := by decide +kernel
theorem dX6_page_5 : decode cX6_page 5 = .ok (.aload_n 0, 1) := by decide +kernel
theorem dX6_page_6 : decode cX6_page 6 = .ok (.getfield 10, 3) := by decide +kernel
theorem dX6_page_9 : decode cX6_page 9 = .ok (.getfield 177, 3) := by decide +kernel
theorem dX6_page_12 : decode cX6_page 12 = .ok (.if_icmp .ge 36, 3) := by decide +kernel
theorem dX6_page_15 : decode cX6_page 15 = .ok (.aload_n 0, 1) := by decide +kernel
theorem dX6_page_16 : decode cX6_page 16 = .ok (.getfield 10, 3) := by decide +kernel
theorem dX6_page_19 : decode cX6_page 19 = .ok (.iload_n 2, 1) := by decide +kernel
theorem dX6_page_20 : decode cX6_page 20 = .ok (.invokevirtual 124, 3) := by decide +kernel
theorem dX6_page_23 : decode cX6_page 23 = .ok (.astore_n 3, 1) := by decide +kernel
theorem dX6_page_24 : decode cX6_page 24 = .ok (.aload_n 3, 1) := by decide +kernel
theorem dX6_page_25 : decode cX6_page 25 = .ok (.ifnull 17, 3) := by decide +kernel
theorem dX6_page_28 : decode cX6_page 28 = .ok (.iload_n 1, 1) := by decide +kernel
theorem dX6_page_29 : decode cX6_page 29 = .ok (.aload_n 3, 1) := by decide +kernel
theorem dX6_page_30 : decode cX6_page 30 = .ok (.getfield 146, 3) := by decide +kernel
theorem dX6_page_33 : decode cX6_page 33 = .ok (.invokestatic 180, 3) := by decide +kernel
theorem dX6_page_36 : decode cX6_page 36 = .ok (.iadd, 1) := by decide +kernel
theorem dX6_page_37 : decode cX6_page 37 = .ok (.istore_n 1, 1) := by decide +kernel
theorem dX6_page_38 : decode cX6_page 38 = .ok (.aload_n 3, 1) := by decide +kernel
theorem dX6_page_39 : decode cX6_page 39 = .ok (.invokevirtual 185, 3) := by decide +kernel
theorem dX6_page_42 : decode cX6_page 42 = .ok (.iinc 2 1, 3) := by decide +kernel
theorem dX6_page_45 : decode cX6_page 45 = .ok (.goto (-41), 3) := by decide +kernel
theorem dX6_page_48 : decode cX6_page 48 = .ok (.iload_n 1, 1) := by decide +kernel
theorem dX6_page_49 : decode cX6_page 49 = .ok (.ireturn, 1) := by decide +kernel
theorem dX6_most_0 : decode cX6_most 0 = .ok (.aload_n 0, 1) := by decide +kernel
theorem dX6_most_1 : decode cX6_most 1 = .ok (.getfield 10, 3) := by decide +kernel
theorem dX6_most_4 : decode cX6_most 4 = .ok (.iload_n 1, 1) := by decide +kernel
theorem dX6_most_5 : decode cX6_most 5 = .ok (.invokevirtual 124, 3) := by decide +kernel
theorem dX6_most_8 : decode cX6_most 8 = .ok (.astore_n 2, 1) := by decide +kernel
theorem dX6_most_9 : decode cX6_most 9 = .ok (.aload_n 2, 1) := by decide +kernel
theorem dX6_most_10 : decode cX6_most 10 = .ok (.ifnonnull 11, 3) := by decide +kernel
theorem dX6_most_13 : decode cX6_most 13 = .ok (.aload_n 0, 1) := by decide +kernel
theorem dX6_most_14 : decode cX6_most 14 = .ok (.iconst (-1), 1) := by decide +kernel
theorem dX6_most_15 : decode cX6_most 15 = .ok (.invokevirtual 62, 3) := by decide +kernel
theorem dX6_most_18 : decode cX6_most 18 = .ok (.goto 8, 3) := by decide +kernel
theorem dX6_most_21 : decode cX6_most 21 = .ok (.aload_n 0, 1) := by decide +kernel
theorem dX6_most_22 : decode cX6_most 22 = .ok (.aload_n 2, 1) := by decide +kernel
theorem dX6_most_23 : decode cX6_most 23 = .ok (.invokevirtual 188, 3) := by decide +kernel
theorem dX6_most_26 : decode cX6_most 26 = .ok (.ireturn, 1) := by decide +kernel
theorem dX6_plan_0 : decode cX6_plan 0 = .ok (.aload_n 0, 1) := by decide +kernel
theorem dX6_plan_1 : decode cX6_plan 1 = .ok (.getfield 10, 3) := by decide +kernel
theorem dX6_plan_4 : decode cX6_plan 4 = .ok (.iload_n 1, 1) := by decide +kernel
theorem dX6_plan_5 : decode cX6_plan 5 = .ok (.invokevirtual 124, 3) := by decide +kernel
theorem dX6_plan_8 : decode cX6_plan 8 = .ok (.astore_n 3, 1) := by decide +kernel
theorem dX6_plan_9 : decode cX6_plan 9 = .ok (.aload_n 3, 1) := by decide +kernel
theorem dX6_plan_10 : decode cX6_plan 10 = .ok (.ifnonnull 9, 3) := by decide +kernel
theorem dX6_plan_13 : decode cX6_plan 13 = .ok (.aload_n 0, 1) := by decide +kernel
theorem dX6_plan_14 : decode cX6_plan 14 = .ok (.iconst (-1), 1) := by decide +kernel
theorem dX6_plan_15 : decode cX6_plan 15 = .ok (.invokevirtual 62, 3) := by decide +kernel
theorem dX6_plan_18 : decode cX6_plan 18 = .ok (.ireturn, 1) := by decide +kernel
theorem dX6_plan_19 : decode cX6_plan 19 = .ok (.iload_n 2, 1) := by decide +kernel
theorem dX6_plan_20 : decode cX6_plan 20 = .ok (.ifCond .ge 10, 3) := by decide +kernel
theorem dX6_plan_23 : decode cX6_plan 23 = .ok (.aload_n 0, 1) := by decide +kernel
theorem dX6_plan_24 : decode cX6_plan 24 = .ok (.bipush (-4), 2) := by decide +kernel
theorem dX6_plan_26 : decode cX6_plan 26 = .ok (.invokevirtual 62, 3) := by decide +kernel
theorem dX6_plan_29 : decode cX6_plan 29 = .ok (.ireturn, 1) := by decide +kernel
theorem dX6_plan_30 : decode cX6_plan 30 = .ok (.aload_n 0, 1) := by decide +kernel
theorem dX6_plan_31 : decode cX6_plan 31 = .ok (.aload_n 3, 1) := by decide +kernel
theorem dX6_plan_32 : decode cX6_plan 32 = .ok (.invokevirtual 188, 3) := by decide +kernel
theorem dX6_plan_35 : decode cX6_plan 35 = .ok (.pop, 1) := by decide +kernel
theorem dX6_plan_36 : decode cX6_plan 36 = .ok (.aload_n 0, 1) := by decide +kernel
theorem dX6_plan_37 : decode cX6_plan 37 = .ok (.getfield 29, 3) := by decide +kernel
theorem dX6_plan_40 : decode cX6_plan 40 = .ok (.iload_n 2, 1) := by decide +kernel
theorem dX6_plan_41 : decode cX6_plan 41 = .ok (.invokevirtual 192, 3) := by decide +kernel
theorem dX6_plan_44 : decode cX6_plan 44 = .ok (.ireturn, 1) := by decide +kernel
theorem dX6_by_0 : decode cX6_by 0 = .ok (.aload_n 0, 1) := by decide +kernel
theorem dX6_by_1 : decode cX6_by 1 = .ok (.getfield 10, 3) := by decide +kernel
theorem dX6_by_4 : decode cX6_by 4 = .ok (.iload_n 1, 1) := by decide +kernel
theorem dX6_by_5 : decode cX6_by 5 = .ok (.invokevirtual 124, 3) := by decide +kernel
theorem dX6_by_8 : decode cX6_by 8 = .ok (.astore_n 3, 1) := by decide +kernel
theorem dX6_by_9 : decode cX6_by 9 = .ok (.aload_n 3, 1) := by decide +kernel
theorem dX6_by_10 : decode cX6_by 10 = .ok (.ifnonnull 9, 3) := by decide +kernel
theorem dX6_by_13 : decode cX6_by 13 = .ok (.aload_n 0, 1) := by decide +kernel
theorem dX6_by_14 : decode cX6_by 14 = .ok (.iconst (-1), 1) := by decide +kernel
theorem dX6_by_15 : decode cX6_by 15 = .ok (.invokevirtual 62, 3) := by decide +kernel
theorem dX6_by_18 : decode cX6_by 18 = .ok (.ireturn, 1) := by decide +kernel
theorem dX6_by_19 : decode cX6_by 19 = .ok (.iload_n 2, 1) := by decide +kernel
theorem dX6_by_20 : decode cX6_by 20 = .ok (.iconst 0, 1) := by decide +kernel
theorem dX6_by_21 : decode cX6_by 21 = .ok (.sipush 999, 3) := by decide +kernel
theorem dX6_by_24 : decode cX6_by 24 = .ok (.invokestatic 162, 3) := by decide +kernel
theorem dX6_by_27 : decode cX6_by 27 = .ok (.istore 4, 2) := by decide +kernel
theorem dX6_by_29 : decode cX6_by 29 = .ok (.iload 4, 2) := by decide +kernel
theorem dX6_by_31 : decode cX6_by 31 = .ok (.ifCond .eq 10, 3) := by decide +kernel
theorem dX6_by_34 : decode cX6_by 34 = .ok (.aload_n 0, 1) := by decide +kernel
theorem dX6_by_35 : decode cX6_by 35 = .ok (.iload 4, 2) := by decide +kernel
theorem dX6_by_37 : decode cX6_by 37 = .ok (.invokevirtual 62, 3) := by decide +kernel
theorem dX6_by_40 : decode cX6_by 40 = .ok (.ireturn, 1) := by decide +kernel
theorem dX6_by_41 : decode cX6_by 41 = .ok (.aload_n 0, 1) := by decide +kernel
theorem dX6_by_42 : decode cX6_by 42 = .ok (.getfield 29, 3) := by decide +kernel
theorem dX6_by_45 : decode cX6_by 45 = .ok (.aload_n 0, 1) := by decide +kernel
theorem dX6_by_46 : decode cX6_by 46 = .ok (.getfield 10, 3) := by decide +kernel
theorem dX6_by_49 : decode cX6_by 49 = .ok (.getfield 81, 3) := by decide +kernel
theorem dX6_by_52 : decode cX6_by 52 = .ok (.aload_n 0, 1) := by decide +kernel
theorem dX6_by_53 : decode cX6_by 53 = .ok (.getfield 10, 3) := by decide +kernel
theorem dX6_by_56 : decode cX6_by 56 = .ok (.getfield 109, 3) := by decide +kernel
theorem dX6_by_59 : decode cX6_by 59 = .ok (.aload_n 3, 1) := by decide +kernel
theorem dX6_by_60 : decode cX6_by 60 = .ok (.iload_n 2, 1) := by decide +kernel
theorem dX6_by_61 : decode cX6_by 61 = .ok (.invokevirtual 195, 3) := by decide +kernel
theorem dX6_by_64 : decode cX6_by 64 = .ok (.ireturn, 1) := by decide +kernel
theorem dX6_rest_0 : decode cX6_rest 0 = .ok (.aload_n 0, 1) := by decide +kernel
theorem dX6_rest_1 : decode cX6_rest 1 = .ok (.getfield 10, 3) := by decide +kernel
theorem dX6_rest_4 : decode cX6_rest 4 = .ok (.iload_n 1, 1) := by decide +kernel
theorem dX6_rest_5 : decode cX6_rest 5 = .ok (.invokevirtual 124, 3) := by decide +kernel
theorem dX6_rest_8 : decode cX6_rest 8 = .ok (.astore_n 3, 1) := by decide +kernel
theorem dX6_rest_9 : decode cX6_rest 9 = .ok (.aload_n 3, 1) := by decide +kernel
theorem dX6_rest_10 : decode cX6_rest 10 = .ok (.ifnonnull 9, 3) := by decide +kernel
theorem dX6_rest_13 : decode cX6_rest 13 = .ok (.aload_n 0, 1) := by decide +kernel
theorem dX6_rest_14 : decode cX6_rest 14 = .ok (.iconst (-1), 1) := by decide +kernel
theorem dX6_rest_15 : decode cX6_rest 15 = .ok (.invokevirtual 62, 3) := by decide +kernel
theorem dX6_rest_18 : decode cX6_rest 18 = .ok (.ireturn, 1) := by decide +kernel
theorem dX6_rest_19 : decode cX6_rest 19 = .ok (.iload_n 2, 1) := by decide +kernel
theorem dX6_rest_20 : decode cX6_rest 20 = .ok (.ifCond .eq 15, 3) := by decide +kernel
theorem dX6_rest_23 : decode cX6_rest 23 = .ok (.iload_n 2, 1) := by decide +kernel
theorem dX6_rest_24 : decode cX6_rest 24 = .ok (.iconst 1, 1) := by decide +kernel
theorem dX6_rest_25 : decode cX6_rest 25 = .ok (.if_icmp .eq 10, 3) := by decide +kernel
theorem dX6_rest_28 : decode cX6_rest 28 = .ok (.aload_n 0, 1) := by decide +kernel
theorem dX6_rest_29 : decode cX6_rest 29 = .ok (.bipush (-2), 2) := by decide +kernel
theorem dX6_rest_31 : decode cX6_rest 31 = .ok (.invokevirtual 62, 3) := by decide +kernel
theorem dX6_rest_34 : decode cX6_rest 34 = .ok (.ireturn, 1) := by decide +kernel
theorem dX6_rest_35 : decode cX6_rest 35 = .ok (.iconst 0, 1) := by decide +kernel
theorem dX6_rest_36 : decode cX6_rest 36 = .ok (.istore 4, 2) := by decide +kernel
theorem dX6_rest_38 : decode cX6_rest 38 = .ok (.aload_n 0, 1) := by decide +kernel
theorem dX6_rest_39 : decode cX6_rest 39 = .ok (.aload_n 3, 1) := by decide +kernel
theorem dX6_rest_40 : decode cX6_rest 40 = .ok (.invokevirtual 188, 3) := by decide +kernel
theorem dX6_rest_43 : decode cX6_rest 43 = .ok (.istore 5, 2) := by decide +kernel
theorem dX6_rest_45 : decode cX6_rest 45 = .ok (.iconst 1, 1) := by decide +kernel
theorem dX6_rest_46 : decode cX6_rest 46 = .ok (.istore 6, 2) := by decide +kernel
theorem dX6_rest_48 : decode cX6_rest 48 = .ok (.iload 6, 2) := by decide +kernel
theorem dX6_rest_50 : decode cX6_rest 50 = .ok (.bipush 9, 2) := by decide +kernel
theorem dX6_rest_52 : decode cX6_rest 52 = .ok (.if_icmp .gt 65, 3) := by decide +kernel
theorem dX6_rest_55 : decode cX6_rest 55 = .ok (.aload_n 3, 1) := by decide +kernel
theorem dX6_rest_56 : decode cX6_rest 56 = .ok (.getfield 149, 3) := by decide +kernel
theorem dX6_rest_59 : decode cX6_rest 59 = .ok (.ifCond .ne 58, 3) := by decide +kernel
theorem dX6_rest_62 : decode cX6_rest 62 = .ok (.aload_n 0, 1) := by decide +kernel
theorem dX6_rest_63 : decode cX6_rest 63 = .ok (.getfield 43, 3) := by decide +kernel
theorem dX6_rest_66 : decode cX6_rest 66 = .ok (.aload_n 3, 1) := by decide +kernel
theorem dX6_rest_67 : decode cX6_rest 67 = .ok (.invokevirtual 199, 3) := by decide +kernel
theorem dX6_rest_70 : decode cX6_rest 70 = .ok (.aload_n 0, 1) := by decide +kernel
theorem dX6_rest_71 : decode cX6_rest 71 = .ok (.getfield 43, 3) := by decide +kernel
theorem dX6_rest_74 : decode cX6_rest 74 = .ok (.aload_n 0, 1) := by decide +kernel
theorem dX6_rest_75 : decode cX6_rest 75 = .ok (.getfield 10, 3) := by decide +kernel
theorem dX6_rest_78 : decode cX6_rest 78 = .ok (.getfield 109, 3) := by decide +kernel
theorem dX6_rest_81 : decode cX6_rest 81 = .ok (.iload 6, 2) := by decide +kernel
theorem dX6_rest_83 : decode cX6_rest 83 = .ok (.invokevirtual 173, 3) := by decide +kernel
theorem dX6_rest_86 : decode cX6_rest 86 = .ok (.aload_n 0, 1) := by decide +kernel
theorem dX6_rest_87 : decode cX6_rest 87 = .ok (.aload_n 0, 1) := by decide +kernel
theorem dX6_rest_88 : decode cX6_rest 88 = .ok (.getfield 43, 3) := by decide +kernel
theorem dX6_rest_91 : decode cX6_rest 91 = .ok (.invokevirtual 188, 3) := by decide +kernel
theorem dX6_rest_94 : decode cX6_rest 94 = .ok (.istore 7, 2) := by decide +kernel
theorem dX6_rest_96 : decode cX6_rest 96 = .ok (.iload 7, 2) := by decide +kernel
theorem dX6_rest_98 : decode cX6_rest 98 = .ok (.iload 5, 2) := by decide +kernel
theorem dX6_rest_100 : decode cX6_rest 100 = .ok (.if_icmp .le 11, 3) := by decide +kernel
theorem dX6_rest_103 : decode cX6_rest 103 = .ok (.iload 7, 2) := by decide +kernel
theorem dX6_rest_105 : decode cX6_rest 105 = .ok (.istore 5, 2) := by decide +kernel
theorem dX6_rest_107 : decode cX6_rest 107 = .ok (.iload 6, 2) := by decide +kernel
theorem dX6_rest_109 : decode cX6_rest 109 = .ok (.istore 4, 2) := by decide +kernel
theorem dX6_rest_111 : decode cX6_rest 111 = .ok (.iinc 6 1, 3) := by decide +kernel
theorem dX6_rest_114 : decode cX6_rest 114 = .ok (.goto (-66), 3) := by decide +kernel
theorem dX6_rest_117 : decode cX6_rest 117 = .ok (.iload_n 2, 1) := by decide +kernel
theorem dX6_rest_118 : decode cX6_rest 118 = .ok (.ifCond .ne 8, 3) := by decide +kernel
theorem dX6_rest_121 : decode cX6_rest 121 = .ok (.iload 4, 2) := by decide +kernel
theorem dX6_rest_123 : decode cX6_rest 123 = .ok (.goto 5, 3) := by decide +kernel
theorem dX6_rest_126 : decode cX6_rest 126 = .ok (.iload 5, 2) := by decide +kernel
theorem dX6_rest_128 : decode cX6_rest 128 = .ok (.ireturn, 1) := by decide +kernel
theorem dX6_first_0 : decode cX6_first 0 = .ok (.aload_n 0, 1) := by decide +kernel
theorem dX6_first_1 : decode cX6_first 1 = .ok (.getfield 10, 3) := by decide +kernel
theorem dX6_first_4 : decode cX6_first 4 = .ok (.iload_n 1, 1) := by decide +kernel
theorem dX6_first_5 : decode cX6_first 5 = .ok (.invokevirtual 124, 3) := by decide +kernel
theorem dX6_first_8 : decode cX6_first 8 = .ok (.astore_n 2, 1) := by decide +kernel
theorem dX6_first_9 : decode cX6_first 9 = .ok (.aload_n 2, 1) := by decide +kernel
theorem dX6_first_10 : decode cX6_first 10 = .ok (.ifnonnull 9, 3) := by decide +kernel
theorem dX6_first_13 : decode cX6_first 13 = .ok (.aload_n 0, 1) := by decide +kernel
theorem dX6_first_14 : decode cX6_first 14 = .ok (.iconst (-1), 1) := by decide +kernel
theorem dX6_first_15 : decode cX6_first 15 = .ok (.invokevirtual 62, 3) := by decide +kernel
theorem dX6_first_18 : decode cX6_first 18 = .ok (.ireturn, 1) := by decide +kernel
theorem dX6_first_19 : decode cX6_first 19 = .ok (.bipush (-9), 2) := by decide +kernel
theorem dX6_first_21 : decode cX6_first 21 = .ok (.istore_n 3, 1) := by decide +kernel
theorem dX6_first_22 : decode cX6_first 22 = .ok (.iconst (-1), 1) := by decide +kernel
theorem dX6_first_23 : decode cX6_first 23 = .ok (.istore 4, 2) := by decide +kernel
theorem dX6_first_25 : decode cX6_first 25 = .ok (.iconst 0, 1) := by decide +kernel
theorem dX6_first_26 : decode cX6_first 26 = .ok (.istore 5, 2) := by decide +kernel
theorem dX6_first_28 : decode cX6_first 28 = .ok (.iload 5, 2) := by decide +kernel
theorem dX6_first_30 : decode cX6_first 30 = .ok (.iconst 4, 1) := by decide +kernel
theorem dX6_first_31 : decode cX6_first 31 = .ok (.if_icmp .ge 85, 3) := by decide +kernel
theorem dX6_first_34 : decode cX6_first 34 = .ok (.aload_n 0, 1) := by decide +kernel
theorem dX6_first_35 : decode cX6_first 35 = .ok (.getfield 43, 3) := by decide +kernel
theorem dX6_first_38 : decode cX6_first 38 = .ok (.aload_n 2, 1) := by decide +kernel
theorem dX6_first_39 : decode cX6_first 39 = .ok (.invokevirtual 199, 3) := by decide +kernel
theorem dX6_first_42 : decode cX6_first 42 = .ok (.aload_n 0, 1) := by decide +kernel
theorem dX6_first_43 : decode cX6_first 43 = .ok (.getfield 43, 3) := by decide +kernel
theorem dX6_first_46 : decode cX6_first 46 = .ok (.aload_n 0, 1) := by decide +kernel
theorem dX6_first_47 : decode cX6_first 47 = .ok (.getfield 10, 3) := by decide +kernel
theorem dX6_first_50 : decode cX6_first 50 = .ok (.getfield 81, 3) := by decide +kernel
theorem dX6_first_53 : decode cX6_first 53 = .ok (.aload_n 0, 1) := by decide +kernel
theorem dX6_first_54 : decode cX6_first 54 = .ok (.getfield 10, 3) := by decide +kernel
theorem dX6_first_57 : decode cX6_first 57 = .ok (.getfield 109, 3) := by decide +kernel
theorem dX6_first_60 : decode cX6_first 60 = .ok (.iload 5, 2) := by decide +kernel
theorem dX6_first_62 : decode cX6_first 62 = .ok (.invokevirtual 169, 3) := by decide +kernel
theorem dX6_first_65 : decode cX6_first 65 = .ok (.bipush (-3), 2) := by decide +kernel
theorem dX6_first_67 : decode cX6_first 67 = .ok (.if_icmp .eq 7, 3) := by decide +kernel
theorem dX6_first_70 : decode cX6_first 70 = .ok (.iconst 1, 1) := by decide +kernel
theorem dX6_first_71 : decode cX6_first 71 = .ok (.goto 4, 3) := by decide +kernel
theorem dX6_first_74 : decode cX6_first 74 = .ok (.iconst 0, 1) := by decide +kernel
theorem dX6_first_75 : decode cX6_first 75 = .ok (.istore 6, 2) := by decide +kernel
theorem dX6_first_77 : decode cX6_first 77 = .ok (.iload 6, 2) := by decide +kernel
theorem dX6_first_79 : decode cX6_first 79 = .ok (.ifCond .eq 14, 3) := by decide +kernel
theorem dX6_first_82 : decode cX6_first 82 = .ok (.aload_n 0, 1) := by decide +kernel
theorem dX6_first_83 : decode cX6_first 83 = .ok (.aload_n 0, 1) := by decide +kernel
theorem dX6_first_84 : decode cX6_first 84 = .ok (.getfield 43, 3) := by decide +kernel
theorem dX6_first_87 : decode cX6_first 87 = .ok (.invokevirtual 188, 3) := by decide +kernel
theorem dX6_first_90 : decode cX6_first 90 = .ok (.goto 4, 3) := by decide +kernel
theorem dX6_first_93 : decode cX6_first 93 = .ok (.iconst (-1), 1) := by decide +kernel
theorem dX6_first_94 : decode cX6_first 94 = .ok (.istore 7, 2) := by decide +kernel
theorem dX6_first_96 : decode cX6_first 96 = .ok (.iload 7, 2) := by decide +kernel
theorem dX6_first_98 : decode cX6_first 98 = .ok (.iload 4, 2) := by decide +kernel
theorem dX6_first_100 : decode cX6_first 100 = .ok (.if_icmp .le 10, 3) := by decide +kernel
theorem dX6_first_103 : decode cX6_first 103 = .ok (.iload 7, 2) := by decide +kernel
theorem dX6_first_105 : decode cX6_first 105 = .ok (.istore 4, 2) := by decide +kernel
theorem dX6_first_107 : decode cX6_first 107 = .ok (.iload 5, 2) := by decide +kernel
theorem dX6_first_109 : decode cX6_first 109 = .ok (.istore_n 3, 1) := by decide +kernel
theorem dX6_first_110 : decode cX6_first 110 = .ok (.iinc 5 1, 3) := by decide +kernel
theorem dX6_first_113 : decode cX6_first 113 = .ok (.goto (-85), 3) := by decide +kernel
theorem dX6_first_116 : decode cX6_first 116 = .ok (.iload_n 3, 1) := by decide +kernel
theorem dX6_first_117 : decode cX6_first 117 = .ok (.ireturn, 1) := by decide +kernel
theorem dX6_hold_0 : decode cX6_hold 0 = .ok (.iconst 0, 1) := by decide +kernel
theorem dX6_hold_1 : decode cX6_hold 1 = .ok (.istore_n 1, 1) := by decide +kernel
theorem dX6_hold_2 : decode cX6_hold 2 = .ok (.ldc 203, 2) := by decide +kernel
theorem dX6_hold_4 : decode cX6_hold 4 = .ok (.istore_n 2, 1) := by decide +kernel
theorem dX6_hold_5 : decode cX6_hold 5 = .ok (.aload_n 0, 1) := by decide +kernel
theorem dX6_hold_6 : decode cX6_hold 6 = .ok (.getfield 36, 3) := by decide +kernel
theorem dX6_hold_9 : decode cX6_hold 9 = .ok (.aload_n 0, 1) := by decide +kernel
theorem dX6_hold_10 : decode cX6_hold 10 = .ok (.getfield 10, 3) := by decide +kernel
theorem dX6_hold_13 : decode cX6_hold 13 = .ok (.getfield 109, 3) := by decide +kernel
theorem dX6_hold_16 : decode cX6_hold 16 = .ok (.invokevirtual 204, 3) := by decide +kernel
theorem dX6_hold_19 : decode cX6_hold 19 = .ok (.iconst (-1), 1) := by decide +kernel
theorem dX6_hold_20 : decode cX6_hold 20 = .ok (.istore_n 3, 1) := by decide +kernel
theorem dX6_hold_21 : decode cX6_hold 21 = .ok (.iload_n 3, 1) := by decide +kernel
theorem dX6_hold_22 : decode cX6_hold 22 = .ok (.iconst 1, 1) := by decide +kernel
theorem dX6_hold_23 : decode cX6_hold 23 = .ok (.if_icmp .gt 34, 3) := by decide +kernel
theorem dX6_hold_26 : decode cX6_hold 26 = .ok (.aload_n 0, 1) := by decide +kernel
theorem dX6_hold_27 : decode cX6_hold 27 = .ok (.getfield 36, 3) := by decide +kernel
theorem dX6_hold_30 : decode cX6_hold 30 = .ok (.iload_n 3, 1) := by decide +kernel
theorem dX6_hold_31 : decode cX6_hold 31 = .ok (.putfield 121, 3) := by decide +kernel
theorem dX6_hold_34 : decode cX6_hold 34 = .ok (.aload_n 0, 1) := by decide +kernel
theorem dX6_hold_35 : decode cX6_hold 35 = .ok (.invokevirtual 207, 3) := by decide +kernel
theorem dX6_hold_38 : decode cX6_hold 38 = .ok (.istore 4, 2) := by decide +kernel
theorem dX6_hold_40 : decode cX6_hold 40 = .ok (.iload 4, 2) := by decide +kernel
theorem dX6_hold_42 : decode cX6_hold 42 = .ok (.iload_n 2, 1) := by decide +kernel
theorem dX6_hold_43 : decode cX6_hold 43 = .ok (.if_icmp .ge 8, 3) := by decide +kernel
theorem dX6_hold_46 : decode cX6_hold 46 = .ok (.iload 4, 2) := by decide +kernel
theorem dX6_hold_48 : decode cX6_hold 48 = .ok (.istore_n 2, 1) := by decide +kernel
theorem dX6_hold_49 : decode cX6_hold 49 = .ok (.iload_n 3, 1) := by decide +kernel
theorem dX6_hold_50 : decode cX6_hold 50 = .ok (.istore_n 1, 1) := by decide +kernel
theorem dX6_hold_51 : decode cX6_hold 51 = .ok (.iinc 3 1, 3) := by decide +kernel
theorem dX6_hold_54 : decode cX6_hold 54 = .ok (.goto (-33), 3) := by decide +kernel
theorem dX6_hold_57 : decode cX6_hold 57 = .ok (.iload_n 1, 1) := by decide +kernel
theorem dX6_hold_58 : decode cX6_hold 58 = .ok (.iconst 1, 1) := by decide +kernel
theorem dX6_hold_59 : decode cX6_hold 59 = .ok (.iadd, 1) := by decide +kernel
theorem dX6_hold_60 : decode cX6_hold 60 = .ok (.ireturn, 1) := by decide +kernel
theorem dX6_bend_0 : decode cX6_bend 0 = .ok (.iconst 0, 1) := by decide +kernel
theorem dX6_bend_1 : decode cX6_bend 1 = .ok (.istore_n 1, 1) := by decide +kernel
theorem dX6_bend_2 : decode cX6_bend 2 = .ok (.ldc 203, 2) := by decide +kernel
theorem dX6_bend_4 : decode cX6_bend 4 = .ok (.istore_n 2, 1) := by decide +kernel
theorem dX6_bend_5 : decode cX6_bend 5 = .ok (.aload_n 0, 1) := by decide +kernel
theorem dX6_bend_6 : decode cX6_bend 6 = .ok (.getfield 36, 3) := by decide +kernel
theorem dX6_bend_9 : decode cX6_bend 9 = .ok (.aload_n 0, 1) := by decide +kernel
theorem dX6_bend_10 : decode cX6_bend 10 = .ok (.getfield 10, 3) := by decide +kernel
theorem dX6_bend_13 : decode cX6_bend 13 = .ok (.getfield 109, 3) := by decide +kernel
theorem dX6_bend_16 : decode cX6_bend 16 = .ok (.invokevirtual 204, 3) := by decide +kernel
theorem dX6_bend_19 : decode cX6_bend 19 = .ok (.iconst 0, 1) := by decide +kernel
theorem dX6_bend_20 : decode cX6_bend 20 = .ok (.istore_n 3, 1) := by decide +kernel
theorem dX6_bend_21 : decode cX6_bend 21 = .ok (.iload_n 3, 1) := by decide +kernel
theorem dX6_bend_22 : decode cX6_bend 22 = .ok (.bipush 6, 2) := by decide +kernel
theorem dX6_bend_24 : decode cX6_bend 24 = .ok (.if_icmp .ge 34, 3) := by decide +kernel
theorem dX6_bend_27 : decode cX6_bend 27 = .ok (.aload_n 0, 1) := by decide +kernel
theorem dX6_bend_28 : decode cX6_bend 28 = .ok (.getfield 36, 3) := by decide +kernel
theorem dX6_bend_31 : decode cX6_bend 31 = .ok (.iload_n 3, 1) := by decide +kernel
theorem dX6_bend_32 : decode cX6_bend 32 = .ok (.putfield 112, 3) := by decide +kernel
theorem dX6_bend_35 : decode cX6_bend 35 = .ok (.aload_n 0, 1) := by decide +kernel
theorem dX6_bend_36 : decode cX6_bend 36 = .ok (.invokevirtual 207, 3) := by decide +kernel
theorem dX6_bend_39 : decode cX6_bend 39 = .ok (.istore 4, 2) := by decide +kernel
theorem dX6_bend_41 : decode cX6_bend 41 = .ok (.iload 4, 2) := by decide +kernel
theorem dX6_bend_43 : decode cX6_bend 43 = .ok (.iload_n 2, 1) := by decide +kernel
theorem dX6_bend_44 : decode cX6_bend 44 = .ok (.if_icmp .ge 8, 3) := by decide +kernel
theorem dX6_bend_47 : decode cX6_bend 47 = .ok (.iload 4, 2) := by decide +kernel
theorem dX6_bend_49 : decode cX6_bend 49 = .ok (.istore_n 2, 1) := by decide +kernel
theorem dX6_bend_50 : decode cX6_bend 50 = .ok (.iload_n 3, 1) := by decide +kernel
theorem dX6_bend_51 : decode cX6_bend 51 = .ok (.istore_n 1, 1) := by decide +kernel
theorem dX6_bend_52 : decode cX6_bend 52 = .ok (.iinc 3 1, 3) := by decide +kernel
theorem dX6_bend_55 : decode cX6_bend 55 = .ok (.goto (-34), 3) := by decide +kernel
theorem dX6_bend_58 : decode cX6_bend 58 = .ok (.iload_n 1, 1) := by decide +kernel
theorem dX6_bend_59 : decode cX6_bend 59 = .ok (.ireturn, 1) := by decide +kernel
theorem dX6_early_0 : decode cX6_early 0 = .ok (.iload_n 1, 1) := by decide +kernel
theorem dX6_early_1 : decode cX6_early 1 = .ok (.iconst 0, 1) := by decide +kernel
theorem dX6_early_2 : decode cX6_early 2 = .ok (.sipush 999, 3) := by decide +kernel
theorem dX6_early_5 : decode cX6_early 5 = .ok (.invokestatic 162, 3) := by decide +kernel
theorem dX6_early_8 : decode cX6_early 8 = .ok (.istore_n 2, 1) := by decide +kernel
theorem dX6_early_9 : decode cX6_early 9 = .ok (.iload_n 2, 1) := by decide +kernel
theorem dX6_early_10 : decode cX6_early 10 = .ok (.ifCond .eq 9, 3) := by decide +kernel
theorem dX6_early_13 : decode cX6_early 13 = .ok (.aload_n 0, 1) := by decide +kernel
theorem dX6_early_14 : decode cX6_early 14 = .ok (.iload_n 2, 1) := by decide +kernel
theorem dX6_early_15 : decode cX6_early 15 = .ok (.invokevirtual 62, 3) := by decide +kernel
theorem dX6_early_18 : decode cX6_early 18 = .ok (.ireturn, 1) := by decide +kernel
theorem dX6_early_19 : decode cX6_early 19 = .ok (.aload_n 0, 1) := by decide +kernel
theorem dX6_early_20 : decode cX6_early 20 = .ok (.iload_n 1, 1) := by decide +kernel
theorem dX6_early_21 : decode cX6_early 21 = .ok (.bipush 10, 2) := by decide +kernel
theorem dX6_early_23 : decode cX6_early 23 = .ok (.invokevirtual 210, 3) := by decide +kernel
theorem dX6_early_26 : decode cX6_early 26 = .ok (.ifCond .eq 6, 3) := by decide +kernel
theorem dX6_early_29 : decode cX6_early 29 = .ok (.bipush (-9), 2) := by decide +kernel
theorem dX6_early_31 : decode cX6_early 31 = .ok (.ireturn, 1) := by decide +kernel
theorem dX6_early_32 : decode cX6_early 32 = .ok (.bipush 10, 2) := by decide +kernel
theorem dX6_early_34 : decode cX6_early 34 = .ok (.istore_n 3, 1) := by decide +kernel
theorem dX6_early_35 : decode cX6_early 35 = .ok (.bipush 64, 2) := by decide +kernel
theorem dX6_early_37 : decode cX6_early 37 = .ok (.istore 4, 2) := by decide +kernel
theorem dX6_early_39 : decode cX6_early 39 = .ok (.iload 4, 2) := by decide +kernel
theorem dX6_early_41 : decode cX6_early 41 = .ok (.ifCond .le 38, 3) := by decide +kernel
theorem dX6_early_44 : decode cX6_early 44 = .ok (.iload_n 3, 1) := by decide +kernel
theorem dX6_early_45 : decode cX6_early 45 = .ok (.iload 4, 2) := by decide +kernel
theorem dX6_early_47 : decode cX6_early 47 = .ok (.iadd, 1) := by decide +kernel
theorem dX6_early_48 : decode cX6_early 48 = .ok (.bipush 99, 2) := by decide +kernel
theorem dX6_early_50 : decode cX6_early 50 = .ok (.if_icmp .gt 20, 3) := by decide +kernel
theorem dX6_early_53 : decode cX6_early 53 = .ok (.aload_n 0, 1) := by decide +kernel
theorem dX6_early_54 : decode cX6_early 54 = .ok (.iload_n 1, 1) := by decide +kernel
theorem dX6_early_55 : decode cX6_early 55 = .ok (.iload_n 3, 1) := by decide +kernel
theorem dX6_early_56 : decode cX6_early 56 = .ok (.iload 4, 2) := by decide +kernel
theorem dX6_early_58 : decode cX6_early 58 = .ok (.iadd, 1) := by decide +kernel
theorem dX6_early_59 : decode cX6_early 59 = .ok (.invokevirtual 210, 3) := by decide +kernel
theorem dX6_early_62 : decode cX6_early 62 = .ok (.ifCond .ne 8, 3) := by decide +kernel
theorem dX6_early_65 : decode cX6_early 65 = .ok (.iload_n 3, 1) := by decide +kernel
theorem dX6_early_66 : decode cX6_early 66 = .ok (.iload 4, 2) := by decide +kernel
theorem dX6_early_68 : decode cX6_early 68 = .ok (.iadd, 1) := by decide +kernel
theorem dX6_early_69 : decode cX6_early 69 = .ok (.istore_n 3, 1) := by decide +kernel
theorem dX6_early_70 : decode cX6_early 70 = .ok (.iload 4, 2) := by decide +kernel
theorem dX6_early_72 : decode cX6_early 72 = .ok (.iconst 2, 1) := by decide +kernel
theorem dX6_early_73 : decode cX6_early 73 = .ok (.idiv, 1) := by decide +kernel
theorem dX6_early_74 : decode cX6_early 74 = .ok (.istore 4, 2) := by decide +kernel
theorem dX6_early_76 : decode cX6_early 76 = .ok (.goto (-37), 3) := by decide +kernel
theorem dX6_early_79 : decode cX6_early 79 = .ok (.iload_n 3, 1) := by decide +kernel
theorem dX6_early_80 : decode cX6_early 80 = .ok (.ireturn, 1) := by decide +kernel
theorem dX6_seat_0 : decode cX6_seat 0 = .ok (.aload_n 0, 1) := by decide +kernel
theorem dX6_seat_1 : decode cX6_seat 1 = .ok (.getfield 10, 3) := by decide +kernel
theorem dX6_seat_4 : decode cX6_seat 4 = .ok (.iload_n 1, 1) := by decide +kernel
theorem dX6_seat_5 : decode cX6_seat 5 = .ok (.invokevirtual 124, 3) := by decide +kernel
theorem dX6_seat_8 : decode cX6_seat 8 = .ok (.astore_n 2, 1) := by decide +kernel
theorem dX6_seat_9 : decode cX6_seat 9 = .ok (.aload_n 2, 1) := by decide +kernel
theorem dX6_seat_10 : decode cX6_seat 10 = .ok (.ifnonnull 9, 3) := by decide +kernel
theorem dX6_seat_13 : decode cX6_seat 13 = .ok (.aload_n 0, 1) := by decide +kernel
theorem dX6_seat_14 : decode cX6_seat 14 = .ok (.iconst (-1), 1) := by decide +kernel
theorem dX6_seat_15 : decode cX6_seat 15 = .ok (.invokevirtual 62, 3) := by decide +kernel
theorem dX6_seat_18 : decode cX6_seat 18 = .ok (.ireturn, 1) := by decide +kernel
theorem dX6_seat_19 : decode cX6_seat 19 = .ok (.iconst 0, 1) := by decide +kernel
theorem dX6_seat_20 : decode cX6_seat 20 = .ok (.istore_n 3, 1) := by decide +kernel
theorem dX6_seat_21 : decode cX6_seat 21 = .ok (.iconst (-1), 1) := by decide +kernel
theorem dX6_seat_22 : decode cX6_seat 22 = .ok (.istore 4, 2) := by decide +kernel
theorem dX6_seat_24 : decode cX6_seat 24 = .ok (.aload_n 0, 1) := by decide +kernel
theorem dX6_seat_25 : decode cX6_seat 25 = .ok (.getfield 43, 3) := by decide +kernel
theorem dX6_seat_28 : decode cX6_seat 28 = .ok (.aload_n 2, 1) := by decide +kernel
theorem dX6_seat_29 : decode cX6_seat 29 = .ok (.invokevirtual 199, 3) := by decide +kernel
theorem dX6_seat_32 : decode cX6_seat 32 = .ok (.iconst 0, 1) := by decide +kernel
theorem dX6_seat_33 : decode cX6_seat 33 = .ok (.istore 5, 2) := by decide +kernel
theorem dX6_seat_35 : decode cX6_seat 35 = .ok (.iload 5, 2) := by decide +kernel
theorem dX6_seat_37 : decode cX6_seat 37 = .ok (.iconst 3, 1) := by decide +kernel
theorem dX6_seat_38 : decode cX6_seat 38 = .ok (.if_icmp .ge 42, 3) := by decide +kernel
theorem dX6_seat_41 : decode cX6_seat 41 = .ok (.aload_n 0, 1) := by decide +kernel
theorem dX6_seat_42 : decode cX6_seat 42 = .ok (.getfield 43, 3) := by decide +kernel
theorem dX6_seat_45 : decode cX6_seat 45 = .ok (.iload 5, 2) := by decide +kernel
theorem dX6_seat_47 : decode cX6_seat 47 = .ok (.putfield 128, 3) := by decide +kernel
theorem dX6_seat_50 : decode cX6_seat 50 = .ok (.aload_n 0, 1) := by decide +kernel
theorem dX6_seat_51 : decode cX6_seat 51 = .ok (.aload_n 0, 1) := by decide +kernel
theorem dX6_seat_52 : decode cX6_seat 52 = .ok (.getfield 43, 3) := by decide +kernel
theorem dX6_seat_55 : decode cX6_seat 55 = .ok (.invokevirtual 188, 3) := by decide +kernel
theorem dX6_seat_58 : decode cX6_seat 58 = .ok (.istore 6, 2) := by decide +kernel
theorem dX6_seat_60 : decode cX6_seat 60 = .ok (.iload 6, 2) := by decide +kernel
theorem dX6_seat_62 : decode cX6_seat 62 = .ok (.iload 4, 2) := by decide +kernel
theorem dX6_seat_64 : decode cX6_seat 64 = .ok (.if_icmp .le 10, 3) := by decide +kernel
theorem dX6_seat_67 : decode cX6_seat 67 = .ok (.iload 6, 2) := by decide +kernel
theorem dX6_seat_69 : decode cX6_seat 69 = .ok (.istore 4, 2) := by decide +kernel
theorem dX6_seat_71 : decode cX6_seat 71 = .ok (.iload 5, 2) := by decide +kernel
theorem dX6_seat_73 : decode cX6_seat 73 = .ok (.istore_n 3, 1) := by decide +kernel
theorem dX6_seat_74 : decode cX6_seat 74 = .ok (.iinc 5 1, 3) := by decide +kernel
theorem dX6_seat_77 : decode cX6_seat 77 = .ok (.goto (-42), 3) := by decide +kernel
theorem dX6_seat_80 : decode cX6_seat 80 = .ok (.iload_n 3, 1) := by decide +kernel
theorem dX6_seat_81 : decode cX6_seat 81 = .ok (.ireturn, 1) := by decide +kernel
theorem dX6_more_0 : decode cX6_more 0 = .ok (.aload_n 0, 1) := by decide +kernel
theorem dX6_more_1 : decode cX6_more 1 = .ok (.getfield 10, 3) := by decide +kernel
theorem dX6_more_4 : decode cX6_more 4 = .ok (.iload_n 1, 1) := by decide +kernel
theorem dX6_more_5 : decode cX6_more 5 = .ok (.invokevirtual 124, 3) := by decide +kernel
theorem dX6_more_8 : decode cX6_more 8 = .ok (.astore_n 3, 1) := by decide +kernel
theorem dX6_more_9 : decode cX6_more 9 = .ok (.aload_n 0, 1) := by decide +kernel
theorem dX6_more_10 : decode cX6_more 10 = .ok (.getfield 10, 3) := by decide +kernel
theorem dX6_more_13 : decode cX6_more 13 = .ok (.iload_n 2, 1) := by decide +kernel
theorem dX6_more_14 : decode cX6_more 14 = .ok (.invokevirtual 124, 3) := by decide +kernel
theorem dX6_more_17 : decode cX6_more 17 = .ok (.astore 4, 2) := by decide +kernel
theorem dX6_more_19 : decode cX6_more 19 = .ok (.aload_n 3, 1) := by decide +kernel
theorem dX6_more_20 : decode cX6_more 20 = .ok (.ifnull 13, 3) := by decide +kernel
theorem dX6_more_23 : decode cX6_more 23 = .ok (.aload 4, 2) := by decide +kernel
theorem dX6_more_25 : decode cX6_more 25 = .ok (.ifnull 8, 3) := by decide +kernel
theorem dX6_more_28 : decode cX6_more 28 = .ok (.iload_n 1, 1) := by decide +kernel
theorem dX6_more_29 : decode cX6_more 29 = .ok (.iload_n 2, 1) := by decide +kernel
theorem dX6_more_30 : decode cX6_more 30 = .ok (.if_icmp .ne 12, 3) := by decide +kernel
theorem dX6_more_33 : decode cX6_more 33 = .ok (.ldc 214, 2) := by decide +kernel
theorem dX6_more_35 : decode cX6_more 35 = .ok (.aload_n 0, 1) := by decide +kernel
theorem dX6_more_36 : decode cX6_more 36 = .ok (.iconst (-1), 1) := by decide +kernel
theorem dX6_more_37 : decode cX6_more 37 = .ok (.invokevirtual 62, 3) := by decide +kernel
theorem dX6_more_40 : decode cX6_more 40 = .ok (.isub, 1) := by decide +kernel
theorem dX6_more_41 : decode cX6_more 41 = .ok (.ireturn, 1) := by decide +kernel
theorem dX6_more_42 : decode cX6_more 42 = .ok (.aload_n 0, 1) := by decide +kernel
theorem dX6_more_43 : decode cX6_more 43 = .ok (.aload_n 3, 1) := by decide +kernel
theorem dX6_more_44 : decode cX6_more 44 = .ok (.invokevirtual 188, 3) := by decide +kernel
theorem dX6_more_47 : decode cX6_more 47 = .ok (.aload_n 0, 1) := by decide +kernel
theorem dX6_more_48 : decode cX6_more 48 = .ok (.aload 4, 2) := by decide +kernel
theorem dX6_more_50 : decode cX6_more 50 = .ok (.invokevirtual 188, 3) := by decide +kernel
theorem dX6_more_53 : decode cX6_more 53 = .ok (.isub, 1) := by decide +kernel
theorem dX6_more_54 : decode cX6_more 54 = .ok (.ireturn, 1) := by decide +kernel
theorem dX6_both_0 : decode cX6_both 0 = .ok (.aload_n 0, 1) := by decide +kernel
theorem dX6_both_1 : decode cX6_both 1 = .ok (.getfield 10, 3) := by decide +kernel
theorem dX6_both_4 : decode cX6_both 4 = .ok (.iload_n 1, 1) := by decide +kernel
theorem dX6_both_5 : decode cX6_both 5 = .ok (.invokevirtual 124, 3) := by decide +kernel
theorem dX6_both_8 : decode cX6_both 8 = .ok (.astore_n 3, 1) := by decide +kernel
theorem dX6_both_9 : decode cX6_both 9 = .ok (.aload_n 0, 1) := by decide +kernel
theorem dX6_both_10 : decode cX6_both 10 = .ok (.getfield 10, 3) := by decide +kernel
theorem dX6_both_13 : decode cX6_both 13 = .ok (.iload_n 2, 1) := by decide +kernel
theorem dX6_both_14 : decode cX6_both 14 = .ok (.invokevirtual 124, 3) := by decide +kernel
theorem dX6_both_17 : decode cX6_both 17 = .ok (.astore 4, 2) := by decide +kernel
theorem dX6_both_19 : decode cX6_both 19 = .ok (.aload_n 3, 1) := by decide +kernel
theorem dX6_both_20 : decode cX6_both 20 = .ok (.ifnull 13, 3) := by decide +kernel
theorem dX6_both_23 : decode cX6_both 23 = .ok (.aload 4, 2) := by decide +kernel
theorem dX6_both_25 : decode cX6_both 25 = .ok (.ifnull 8, 3) := by decide +kernel
theorem dX6_both_28 : decode cX6_both 28 = .ok (.iload_n 1, 1) := by decide +kernel
theorem dX6_both_29 : decode cX6_both 29 = .ok (.iload_n 2, 1) := by decide +kernel
theorem dX6_both_30 : decode cX6_both 30 = .ok (.if_icmp .ne 9, 3) := by decide +kernel
theorem dX6_both_33 : decode cX6_both 33 = .ok (.aload_n 0, 1) := by decide +kernel
theorem dX6_both_34 : decode cX6_both 34 = .ok (.iconst (-1), 1) := by decide +kernel
theorem dX6_both_35 : decode cX6_both 35 = .ok (.invokevirtual 62, 3) := by decide +kernel
theorem dX6_both_38 : decode cX6_both 38 = .ok (.ireturn, 1) := by decide +kernel
theorem dX6_both_39 : decode cX6_both 39 = .ok (.aload_n 0, 1) := by decide +kernel
theorem dX6_both_40 : decode cX6_both 40 = .ok (.getfield 10, 3) := by decide +kernel
theorem dX6_both_43 : decode cX6_both 43 = .ok (.getfield 81, 3) := by decide +kernel
theorem dX6_both_46 : decode cX6_both 46 = .ok (.aload_n 0, 1) := by decide +kernel
theorem dX6_both_47 : decode cX6_both 47 = .ok (.aload_n 3, 1) := by decide +kernel
theorem dX6_both_48 : decode cX6_both 48 = .ok (.invokevirtual 215, 3) := by decide +kernel
theorem dX6_both_51 : decode cX6_both 51 = .ok (.aload_n 0, 1) := by decide +kernel
theorem dX6_both_52 : decode cX6_both 52 = .ok (.aload 4, 2) := by decide +kernel
theorem dX6_both_54 : decode cX6_both 54 = .ok (.invokevirtual 215, 3) := by decide +kernel
theorem dX6_both_57 : decode cX6_both 57 = .ok (.ior, 1) := by decide +kernel
theorem dX6_both_58 : decode cX6_both 58 = .ok (.invokevirtual 155, 3) := by decide +kernel
theorem dX6_both_61 : decode cX6_both 61 = .ok (.ireturn, 1) := by decide +kernel
theorem dX6_chance_0 : decode cX6_chance 0 = .ok (.aload_n 0, 1) := by decide +kernel
theorem dX6_chance_1 : decode cX6_chance 1 = .ok (.getfield 10, 3) := by decide +kernel
theorem dX6_chance_4 : decode cX6_chance 4 = .ok (.iload_n 1, 1) := by decide +kernel
theorem dX6_chance_5 : decode cX6_chance 5 = .ok (.invokevirtual 124, 3) := by decide +kernel
theorem dX6_chance_8 : decode cX6_chance 8 = .ok (.astore 4, 2) := by decide +kernel
theorem dX6_chance_10 : decode cX6_chance 10 = .ok (.aload 4, 2) := by decide +kernel
theorem dX6_chance_12 : decode cX6_chance 12 = .ok (.ifnonnull 14, 3) := by decide +kernel
theorem dX6_chance_15 : decode cX6_chance 15 = .ok (.ldc2_w 218, 3) := by decide +kernel
theorem dX6_chance_18 : decode cX6_chance 18 = .ok (.aload_n 0, 1) := by decide +kernel
theorem dX6_chance_19 : decode cX6_chance 19 = .ok (.iconst (-1), 1) := by decide +kernel
theorem dX6_chance_20 : decode cX6_chance 20 = .ok (.invokevirtual 62, 3) := by decide +kernel
theorem dX6_chance_23 : decode cX6_chance 23 = .ok (.i2l, 1) := by decide +kernel
theorem dX6_chance_24 : decode cX6_chance 24 = .ok (.lsub, 1) := by decide +kernel
theorem dX6_chance_25 : decode cX6_chance 25 = .ok (.lreturn, 1) := by decide +kernel
theorem dX6_chance_26 : decode cX6_chance 26 = .ok (.iload_n 2, 1) := by decide +kernel
theorem dX6_chance_27 : decode cX6_chance 27 = .ok (.iconst 0, 1) := by decide +kernel
theorem dX6_chance_28 : decode cX6_chance 28 = .ok (.bipush 20, 2) := by decide +kernel
theorem dX6_chance_30 : decode cX6_chance 30 = .ok (.invokestatic 162, 3) := by decide +kernel
theorem dX6_chance_33 : decode cX6_chance 33 = .ok (.istore 5, 2) := by decide +kernel
theorem dX6_chance_35 : decode cX6_chance 35 = .ok (.iload 5, 2) := by decide +kernel
theorem dX6_chance_37 : decode cX6_chance 37 = .ok (.ifCond .ne 16, 3) := by decide +kernel
theorem dX6_chance_40 : decode cX6_chance 40 = .ok (.iload_n 3, 1) := by decide +kernel
theorem dX6_chance_41 : decode cX6_chance 41 = .ok (.ifCond .eq 12, 3) := by decide +kernel
theorem dX6_chance_44 : decode cX6_chance 44 = .ok (.iload_n 3, 1) := by decide +kernel
theorem dX6_chance_45 : decode cX6_chance 45 = .ok (.iconst 1, 1) := by decide +kernel
theorem dX6_chance_46 : decode cX6_chance 46 = .ok (.if_icmp .eq 7, 3) := by decide +kernel
theorem dX6_chance_49 : decode cX6_chance 49 = .ok (.bipush (-2), 2) := by decide +kernel
theorem dX6_chance_51 : decode cX6_chance 51 = .ok (.istore 5, 2) := by decide +kernel
theorem dX6_chance_53 : decode cX6_chance 53 = .ok (.iload 5, 2) := by decide +kernel
theorem dX6_chance_55 : decode cX6_chance 55 = .ok (.ifCond .ne 14, 3) := by decide +kernel
theorem dX6_chance_58 : decode cX6_chance 58 = .ok (.aload_n 0, 1) := by decide +kernel
theorem dX6_chance_59 : decode cX6_chance 59 = .ok (.invokevirtual 220, 3) := by decide +kernel
theorem dX6_chance_62 : decode cX6_chance 62 = .ok (.ifCond .eq 7, 3) := by decide +kernel
theorem dX6_chance_65 : decode cX6_chance 65 = .ok (.bipush (-3), 2) := by decide +kernel
theorem dX6_chance_67 : decode cX6_chance 67 = .ok (.istore 5, 2) := by decide +kernel
theorem dX6_chance_69 : decode cX6_chance 69 = .ok (.iload 5, 2) := by decide +kernel
theorem dX6_chance_71 : decode cX6_chance 71 = .ok (.ifCond .eq 15, 3) := by decide +kernel
theorem dX6_chance_74 : decode cX6_chance 74 = .ok (.ldc2_w 218, 3) := by decide +kernel
theorem dX6_chance_77 : decode cX6_chance 77 = .ok (.aload_n 0, 1) := by decide +kernel
theorem dX6_chance_78 : decode cX6_chance 78 = .ok (.iload 5, 2) := by decide +kernel
theorem dX6_chance_80 : decode cX6_chance 80 = .ok (.invokevirtual 62, 3) := by decide +kernel
theorem dX6_chance_83 : decode cX6_chance 83 = .ok (.i2l, 1) := by decide +kernel
theorem dX6_chance_84 : decode cX6_chance 84 = .ok (.lsub, 1) := by decide +kernel
theorem dX6_chance_85 : decode cX6_chance 85 = .ok (.lreturn, 1) := by decide +kernel
theorem dX6_chance_86 : decode cX6_chance 86 = .ok (.iconst 0, 1) := by decide +kernel
theorem dX6_chance_87 : decode cX6_chance 87 = .ok (.istore 6, 2) := by decide +kernel
theorem dX6_chance_89 : decode cX6_chance 89 = .ok (.iconst 0, 1) := by decide +kernel
theorem dX6_chance_90 : decode cX6_chance 90 = .ok (.istore 7, 2) := by decide +kernel
theorem dX6_chance_92 : decode cX6_chance 92 = .ok (.iload 7, 2) := by decide +kernel
theorem dX6_chance_94 : decode cX6_chance 94 = .ok (.iload_n 2, 1) := by decide +kernel
theorem dX6_chance_95 : decode cX6_chance 95 = .ok (.if_icmp .gt 22, 3) := by decide +kernel
theorem dX6_chance_98 : decode cX6_chance 98 = .ok (.iload 6, 2) := by decide +kernel
theorem dX6_chance_100 : decode cX6_chance 100 = .ok (.aload_n 0, 1) := by decide +kernel
theorem dX6_chance_101 : decode cX6_chance 101 = .ok (.aload 4, 2) := by decide +kernel
theorem dX6_chance_103 : decode cX6_chance 103 = .ok (.iload 7, 2) := by decide +kernel
theorem dX6_chance_105 : decode cX6_chance 105 = .ok (.invokevirtual 223, 3) := by decide +kernel
theorem dX6_chance_108 : decode cX6_chance 108 = .ok (.iadd, 1) := by decide +kernel
theorem dX6_chance_109 : decode cX6_chance 109 = .ok (.istore 6, 2) := by decide +kernel
theorem dX6_chance_111 : decode cX6_chance 111 = .ok (.iinc 7 1, 3) := by decide +kernel
theorem dX6_chance_114 : decode cX6_chance 114 = .ok (.goto (-22), 3) := by decide +kernel
theorem dX6_chance_117 : decode cX6_chance 117 = .ok (.iconst 1, 1) := by decide +kernel
theorem dX6_chance_118 : decode cX6_chance 118 = .ok (.iload 6, 2) := by decide +kernel
theorem dX6_chance_120 : decode cX6_chance 120 = .ok (.iload_n 2, 1) := by decide +kernel
theorem dX6_chance_121 : decode cX6_chance 121 = .ok (.iconst 1, 1) := by decide +kernel
theorem dX6_chance_122 : decode cX6_chance 122 = .ok (.iadd, 1) := by decide +kernel
theorem dX6_chance_123 : decode cX6_chance 123 = .ok (.invokestatic 227, 3) := by decide +kernel
theorem dX6_chance_126 : decode cX6_chance 126 = .ok (.invokestatic 230, 3) := by decide +kernel
theorem dX6_chance_129 : decode cX6_chance 129 = .ok (.istore 7, 2) := by decide +kernel
theorem dX6_chance_131 : decode cX6_chance 131 = .ok (.iload_n 3, 1) := by decide +kernel
theorem dX6_chance_132 : decode cX6_chance 132 = .ok (.ifCond .ne 12, 3) := by decide +kernel
theorem dX6_chance_135 : decode cX6_chance 135 = .ok (.iload 6, 2) := by decide +kernel
theorem dX6_chance_137 : decode cX6_chance 137 = .ok (.iload 7, 2) := by decide +kernel
theorem dX6_chance_139 : decode cX6_chance 139 = .ok (.idiv, 1) := by decide +kernel
theorem dX6_chance_140 : decode cX6_chance 140 = .ok (.i2l, 1) := by decide +kernel
theorem dX6_chance_141 : decode cX6_chance 141 = .ok (.goto 10, 3) := by decide +kernel
theorem dX6_chance_144 : decode cX6_chance 144 = .ok (.iload_n 2, 1) := by decide +kernel
theorem dX6_chance_145 : decode cX6_chance 145 = .ok (.iconst 1, 1) := by decide +kernel
theorem dX6_chance_146 : decode cX6_chance 146 = .ok (.iadd, 1) := by decide +kernel
theorem dX6_chance_147 : decode cX6_chance 147 = .ok (.iload 7, 2) := by decide +kernel
theorem dX6_chance_149 : decode cX6_chance 149 = .ok (.idiv, 1) := by decide +kernel
theorem dX6_chance_150 : decode cX6_chance 150 = .ok (.i2l, 1) := by decide +kernel
theorem dX6_chance_151 : decode cX6_chance 151 = .ok (.lreturn, 1) := by decide +kernel
theorem dX6_missed_0 : decode cX6_missed 0 = .ok (.aload_n 0, 1) := by decide +kernel
theorem dX6_missed_1 : decode cX6_missed 1 = .ok (.getfield 10, 3) := by decide +kernel
theorem dX6_missed_4 : decode cX6_missed 4 = .ok (.iload_n 1, 1) := by decide +kernel
theorem dX6_missed_5 : decode cX6_missed 5 = .ok (.invokevirtual 124, 3) := by decide +kernel
theorem dX6_missed_8 : decode cX6_missed 8 = .ok (.astore_n 2, 1) := by decide +kernel
theorem dX6_missed_9 : decode cX6_missed 9 = .ok (.aload_n 2, 1) := by decide +kernel
theorem dX6_missed_10 : decode cX6_missed 10 = .ok (.ifnonnull 9, 3) := by decide +kernel
theorem dX6_missed_13 : decode cX6_missed 13 = .ok (.aload_n 0, 1) := by decide +kernel
theorem dX6_missed_14 : decode cX6_missed 14 = .ok (.iconst (-1), 1) := by decide +kernel
theorem dX6_missed_15 : decode cX6_missed 15 = .ok (.invokevirtual 62, 3) := by decide +kernel
theorem dX6_missed_18 : decode cX6_missed 18 = .ok (.ireturn, 1) := by decide +kernel
theorem dX6_missed_19 : decode cX6_missed 19 = .ok (.aload_n 0, 1) := by decide +kernel
theorem dX6_missed_20 : decode cX6_missed 20 = .ok (.getfield 10, 3) := by decide +kernel
theorem dX6_missed_23 : decode cX6_missed 23 = .ok (.getfield 81, 3) := by decide +kernel
theorem dX6_missed_26 : decode cX6_missed 26 = .ok (.aload_n 0, 1) := by decide +kernel
theorem dX6_missed_27 : decode cX6_missed 27 = .ok (.getfield 10, 3) := by decide +kernel
theorem dX6_missed_30 : decode cX6_missed 30 = .ok (.getfield 109, 3) := by decide +kernel
theorem dX6_missed_33 : decode cX6_missed 33 = .ok (.aload_n 2, 1) := by decide +kernel
theorem dX6_missed_34 : decode cX6_missed 34 = .ok (.getfield 128, 3) := by decide +kernel
theorem dX6_missed_37 : decode cX6_missed 37 = .ok (.invokevirtual 166, 3) := by decide +kernel
theorem dX6_missed_40 : decode cX6_missed 40 = .ok (.invokevirtual 235, 3) := by decide +kernel
theorem dX6_missed_43 : decode cX6_missed 43 = .ok (.aload_n 2, 1) := by decide +kernel
theorem dX6_missed_44 : decode cX6_missed 44 = .ok (.getfield 146, 3) := by decide +kernel
theorem dX6_missed_47 : decode cX6_missed 47 = .ok (.iconst (-1), 1) := by decide +kernel
theorem dX6_missed_48 : decode cX6_missed 48 = .ok (.ixor, 1) := by decide +kernel
theorem dX6_missed_49 : decode cX6_missed 49 = .ok (.iand, 1) := by decide +kernel
theorem dX6_missed_50 : decode cX6_missed 50 = .ok (.ireturn, 1) := by decide +kernel
theorem dX6_left_0 : decode cX6_left 0 = .ok (.aload_n 0, 1) := by decide +kernel
theorem dX6_left_1 : decode cX6_left 1 = .ok (.getfield 10, 3) := by decide +kernel
theorem dX6_left_4 : decode cX6_left 4 = .ok (.iload_n 1, 1) := by decide +kernel
theorem dX6_left_5 : decode cX6_left 5 = .ok (.invokevirtual 124, 3) := by decide +kernel
theorem dX6_left_8 : decode cX6_left 8 = .ok (.astore_n 2, 1) := by decide +kernel
theorem dX6_left_9 : decode cX6_left 9 = .ok (.aload_n 2, 1) := by decide +kernel
theorem dX6_left_10 : decode cX6_left 10 = .ok (.ifnonnull 9, 3) := by decide +kernel
theorem dX6_left_13 : decode cX6_left 13 = .ok (.aload_n 0, 1) := by decide +kernel
theorem dX6_left_14 : decode cX6_left 14 = .ok (.iconst (-1), 1) := by decide +kernel
theorem dX6_left_15 : decode cX6_left 15 = .ok (.invokevirtual 62, 3) := by decide +kernel
theorem dX6_left_18 : decode cX6_left 18 = .ok (.ireturn, 1) := by decide +kernel
theorem dX6_left_19 : decode cX6_left 19 = .ok (.aload_n 0, 1) := by decide +kernel
theorem dX6_left_20 : decode cX6_left 20 = .ok (.getfield 10, 3) := by decide +kernel
theorem dX6_left_23 : decode cX6_left 23 = .ok (.getfield 81, 3) := by decide +kernel
theorem dX6_left_26 : decode cX6_left 26 = .ok (.aload_n 2, 1) := by decide +kernel
theorem dX6_left_27 : decode cX6_left 27 = .ok (.getfield 146, 3) := by decide +kernel
theorem dX6_left_30 : decode cX6_left 30 = .ok (.iconst (-1), 1) := by decide +kernel
theorem dX6_left_31 : decode cX6_left 31 = .ok (.ixor, 1) := by decide +kernel
theorem dX6_left_32 : decode cX6_left 32 = .ok (.invokevirtual 155, 3) := by decide +kernel
theorem dX6_left_35 : decode cX6_left 35 = .ok (.ireturn, 1) := by decide +kernel
theorem dX6_kinds_0 : decode cX6_kinds 0 = .ok (.aload_n 0, 1) := by decide +kernel
theorem dX6_kinds_1 : decode cX6_kinds 1 = .ok (.getfield 10, 3) := by decide +kernel
theorem dX6_kinds_4 : decode cX6_kinds 4 = .ok (.getfield 81, 3) := by decide +kernel
theorem dX6_kinds_7 : decode cX6_kinds 7 = .ok (.astore_n 3, 1) := by decide +kernel
theorem dX6_kinds_8 : decode cX6_kinds 8 = .ok (.aload_n 3, 1) := by decide +kernel
theorem dX6_kinds_9 : decode cX6_kinds 9 = .ok (.iload_n 1, 1) := by decide +kernel
theorem dX6_kinds_10 : decode cX6_kinds 10 = .ok (.invokevirtual 85, 3) := by decide +kernel
theorem dX6_kinds_13 : decode cX6_kinds 13 = .ok (.ifCond .ne 9, 3) := by decide +kernel
theorem dX6_kinds_16 : decode cX6_kinds 16 = .ok (.aload_n 0, 1) := by decide +kernel
theorem dX6_kinds_17 : decode cX6_kinds 17 = .ok (.iconst (-1), 1) := by decide +kernel
theorem dX6_kinds_18 : decode cX6_kinds 18 = .ok (.invokevirtual 62, 3) := by decide +kernel
theorem dX6_kinds_21 : decode cX6_kinds 21 = .ok (.ireturn, 1) := by decide +kernel
theorem dX6_kinds_22 : decode cX6_kinds 22 = .ok (.iload_n 2, 1) := by decide +kernel
theorem dX6_kinds_23 : decode cX6_kinds 23 = .ok (.iconst 0, 1) := by decide +kernel
theorem dX6_kinds_24 : decode cX6_kinds 24 = .ok (.sipush 999, 3) := by decide +kernel
theorem dX6_kinds_27 : decode cX6_kinds 27 = .ok (.invokestatic 162, 3) := by decide +kernel
theorem dX6_kinds_30 : decode cX6_kinds 30 = .ok (.istore 4, 2) := by decide +kernel
theorem dX6_kinds_32 : decode cX6_kinds 32 = .ok (.iload 4, 2) := by decide +kernel
theorem dX6_kinds_34 : decode cX6_kinds 34 = .ok (.ifCond .eq 10, 3) := by decide +kernel
theorem dX6_kinds_37 : decode cX6_kinds 37 = .ok (.aload_n 0, 1) := by decide +kernel
theorem dX6_kinds_38 : decode cX6_kinds 38 = .ok (.iload 4, 2) := by decide +kernel
theorem dX6_kinds_40 : decode cX6_kinds 40 = .ok (.invokevirtual 62, 3) := by decide +kernel
theorem dX6_kinds_43 : decode cX6_kinds 43 = .ok (.ireturn, 1) := by decide +kernel
theorem dX6_kinds_44 : decode cX6_kinds 44 = .ok (.aload_n 3, 1) := by decide +kernel
theorem dX6_kinds_45 : decode cX6_kinds 45 = .ok (.iconst 1, 1) := by decide +kernel
theorem dX6_kinds_46 : decode cX6_kinds 46 = .ok (.aload_n 3, 1) := by decide +kernel
theorem dX6_kinds_47 : decode cX6_kinds 47 = .ok (.iload_n 1, 1) := by decide +kernel
theorem dX6_kinds_48 : decode cX6_kinds 48 = .ok (.invokevirtual 91, 3) := by decide +kernel
theorem dX6_kinds_51 : decode cX6_kinds 51 = .ok (.ishl, 1) := by decide +kernel
theorem dX6_kinds_52 : decode cX6_kinds 52 = .ok (.invokevirtual 235, 3) := by decide +kernel
theorem dX6_kinds_55 : decode cX6_kinds 55 = .ok (.istore 5, 2) := by decide +kernel
theorem dX6_kinds_57 : decode cX6_kinds 57 = .ok (.aload_n 3, 1) := by decide +kernel
theorem dX6_kinds_58 : decode cX6_kinds 58 = .ok (.iload_n 1, 1) := by decide +kernel
theorem dX6_kinds_59 : decode cX6_kinds 59 = .ok (.invokevirtual 94, 3) := by decide +kernel
theorem dX6_kinds_62 : decode cX6_kinds 62 = .ok (.istore 6, 2) := by decide +kernel
theorem dX6_kinds_64 : decode cX6_kinds 64 = .ok (.iconst 0, 1) := by decide +kernel
theorem dX6_kinds_65 : decode cX6_kinds 65 = .ok (.istore 7, 2) := by decide +kernel
theorem dX6_kinds_67 : decode cX6_kinds 67 = .ok (.iconst 0, 1) := by decide +kernel
theorem dX6_kinds_68 : decode cX6_kinds 68 = .ok (.istore 8, 2) := by decide +kernel
theorem dX6_kinds_70 : decode cX6_kinds 70 = .ok (.iload 8, 2) := by decide +kernel
theorem dX6_kinds_72 : decode cX6_kinds 72 = .ok (.bipush 6, 2) := by decide +kernel
theorem dX6_kinds_74 : decode cX6_kinds 74 = .ok (.if_icmp .ge 35, 3) := by decide +kernel
theorem dX6_kinds_77 : decode cX6_kinds 77 = .ok (.aload_n 3, 1) := by decide +kernel
theorem dX6_kinds_78 : decode cX6_kinds 78 = .ok (.iload_n 1, 1) := by decide +kernel
theorem dX6_kinds_79 : decode cX6_kinds 79 = .ok (.iload 8, 2) := by decide +kernel
theorem dX6_kinds_81 : decode cX6_kinds 81 = .ok (.invokevirtual 238, 3) := by decide +kernel
theorem dX6_kinds_84 : decode cX6_kinds 84 = .ok (.aload_n 3, 1) := by decide +kernel
theorem dX6_kinds_85 : decode cX6_kinds 85 = .ok (.iload 5, 2) := by decide +kernel
theorem dX6_kinds_87 : decode cX6_kinds 87 = .ok (.invokevirtual 155, 3) := by decide +kernel
theorem dX6_kinds_90 : decode cX6_kinds 90 = .ok (.iload_n 2, 1) := by decide +kernel
theorem dX6_kinds_91 : decode cX6_kinds 91 = .ok (.if_icmp .ne 12, 3) := by decide +kernel
theorem dX6_kinds_94 : decode cX6_kinds 94 = .ok (.iload 7, 2) := by decide +kernel
theorem dX6_kinds_96 : decode cX6_kinds 96 = .ok (.iconst 1, 1) := by decide +kernel
theorem dX6_kinds_97 : decode cX6_kinds 97 = .ok (.iload 8, 2) := by decide +kernel
theorem dX6_kinds_99 : decode cX6_kinds 99 = .ok (.ishl, 1) := by decide +kernel
theorem dX6_kinds_100 : decode cX6_kinds 100 = .ok (.ior, 1) := by decide +kernel
theorem dX6_kinds_101 : decode cX6_kinds 101 = .ok (.istore 7, 2) := by decide +kernel
theorem dX6_kinds_103 : decode cX6_kinds 103 = .ok (.iinc 8 1, 3) := by decide +kernel
theorem dX6_kinds_106 : decode cX6_kinds 106 = .ok (.goto (-36), 3) := by decide +kernel
theorem dX6_kinds_109 : decode cX6_kinds 109 = .ok (.aload_n 3, 1) := by decide +kernel
theorem dX6_kinds_110 : decode cX6_kinds 110 = .ok (.iload_n 1, 1) := by decide +kernel
theorem dX6_kinds_111 : decode cX6_kinds 111 = .ok (.iload 6, 2) := by decide +kernel
theorem dX6_kinds_113 : decode cX6_kinds 113 = .ok (.invokevirtual 238, 3) := by decide +kernel
theorem dX6_kinds_116 : decode cX6_kinds 116 = .ok (.iload 7, 2) := by decide +kernel
theorem dX6_kinds_118 : decode cX6_kinds 118 = .ok (.ireturn, 1) := by decide +kernel
theorem dX6_row_0 : decode cX6_row 0 = .ok (.iload_n 1, 1) := by decide +kernel
theorem dX6_row_1 : decode cX6_row 1 = .ok (.ifCond .ge 10, 3) := by decide +kernel
theorem dX6_row_4 : decode cX6_row 4 = .ok (.aload_n 0, 1) := by decide +kernel
theorem dX6_row_5 : decode cX6_row 5 = .ok (.bipush (-4), 2) := by decide +kernel
theorem dX6_row_7 : decode cX6_row 7 = .ok (.invokevirtual 62, 3) := by decide +kernel
theorem dX6_row_10 : decode cX6_row 10 = .ok (.ireturn, 1) := by decide +kernel
theorem dX6_row_11 : decode cX6_row 11 = .ok (.iload_n 1, 1) := by decide +kernel
theorem dX6_row_12 : decode cX6_row 12 = .ok (.bipush 9, 2) := by decide +kernel
theorem dX6_row_14 : decode cX6_row 14 = .ok (.if_icmp .gt 12, 3) := by decide +kernel
theorem dX6_row_17 : decode cX6_row 17 = .ok (.aload_n 0, 1) := by decide +kernel
theorem dX6_row_18 : decode cX6_row 18 = .ok (.getfield 54, 3) := by decide +kernel
theorem dX6_row_21 : decode cX6_row 21 = .ok (.bipush 12, 2) := by decide +kernel
theorem dX6_row_23 : decode cX6_row 23 = .ok (.if_icmp .lt 10, 3) := by decide +kernel
theorem dX6_row_26 : decode cX6_row 26 = .ok (.aload_n 0, 1) := by decide +kernel
theorem dX6_row_27 : decode cX6_row 27 = .ok (.bipush (-6), 2) := by decide +kernel
theorem dX6_row_29 : decode cX6_row 29 = .ok (.invokevirtual 62, 3) := by decide +kernel
theorem dX6_row_32 : decode cX6_row 32 = .ok (.ireturn, 1) := by decide +kernel
theorem dX6_row_33 : decode cX6_row 33 = .ok (.aload_n 0, 1) := by decide +kernel
theorem dX6_row_34 : decode cX6_row 34 = .ok (.getfield 47, 3) := by decide +kernel
theorem dX6_row_37 : decode cX6_row 37 = .ok (.aload_n 0, 1) := by decide +kernel
theorem dX6_row_38 : decode cX6_row 38 = .ok (.getfield 54, 3) := by decide +kernel
theorem dX6_row_41 : decode cX6_row 41 = .ok (.iload_n 1, 1) := by decide +kernel
theorem dX6_row_42 : decode cX6_row 42 = .ok (.invokestatic 242, 3) := by decide +kernel
theorem dX6_row_45 : decode cX6_row 45 = .ok (.aload_n 0, 1) := by decide +kernel
theorem dX6_row_46 : decode cX6_row 46 = .ok (.dup, 1) := by decide +kernel
theorem dX6_row_47 : decode cX6_row 47 = .ok (.getfield 54, 3) := by decide +kernel
theorem dX6_row_50 : decode cX6_row 50 = .ok (.iconst 1, 1) := by decide +kernel
theorem dX6_row_51 : decode cX6_row 51 = .ok (.iadd, 1) := by decide +kernel
theorem dX6_row_52 : decode cX6_row 52 = .ok (.putfield 54, 3) := by decide +kernel
theorem dX6_row_55 : decode cX6_row 55 = .ok (.aload_n 0, 1) := by decide +kernel
theorem dX6_row_56 : decode cX6_row 56 = .ok (.getfield 54, 3) := by decide +kernel
theorem dX6_row_59 : decode cX6_row 59 = .ok (.ireturn, 1) := by decide +kernel
theorem dX6_judge_0 : decode cX6_judge 0 = .ok (.aload_n 0, 1) := by decide +kernel
theorem dX6_judge_1 : decode cX6_judge 1 = .ok (.getfield 10, 3) := by decide +kernel
theorem dX6_judge_4 : decode cX6_judge 4 = .ok (.iload_n 1, 1) := by decide +kernel
theorem dX6_judge_5 : decode cX6_judge 5 = .ok (.invokevirtual 124, 3) := by decide +kernel
theorem dX6_judge_8 : decode cX6_judge 8 = .ok (.astore_n 2, 1) := by decide +kernel
theorem dX6_judge_9 : decode cX6_judge 9 = .ok (.aload_n 2, 1) := by decide +kernel
theorem dX6_judge_10 : decode cX6_judge 10 = .ok (.ifnonnull 9, 3) := by decide +kernel
theorem dX6_judge_13 : decode cX6_judge 13 = .ok (.aload_n 0, 1) := by decide +kernel
theorem dX6_judge_14 : decode cX6_judge 14 = .ok (.iconst (-1), 1) := by decide +kernel
theorem dX6_judge_15 : decode cX6_judge 15 = .ok (.invokevirtual 62, 3) := by decide +kernel
theorem dX6_judge_18 : decode cX6_judge 18 = .ok (.ireturn, 1) := by decide +kernel
theorem dX6_judge_19 : decode cX6_judge 19 = .ok (.aload_n 0, 1) := by decide +kernel
theorem dX6_judge_20 : decode cX6_judge 20 = .ok (.getfield 43, 3) := by decide +kernel
theorem dX6_judge_23 : decode cX6_judge 23 = .ok (.aload_n 2, 1) := by decide +kernel
theorem dX6_judge_24 : decode cX6_judge 24 = .ok (.invokevirtual 199, 3) := by decide +kernel
theorem dX6_judge_27 : decode cX6_judge 27 = .ok (.bipush (-9), 2) := by decide +kernel
theorem dX6_judge_29 : decode cX6_judge 29 = .ok (.istore_n 3, 1) := by decide +kernel
theorem dX6_judge_30 : decode cX6_judge 30 = .ok (.iconst 0, 1) := by decide +kernel
theorem dX6_judge_31 : decode cX6_judge 31 = .ok (.istore 4, 2) := by decide +kernel
theorem dX6_judge_33 : decode cX6_judge 33 = .ok (.iload 4, 2) := by decide +kernel
theorem dX6_judge_35 : decode cX6_judge 35 = .ok (.aload_n 0, 1) := by decide +kernel
theorem dX6_judge_36 : decode cX6_judge 36 = .ok (.getfield 54, 3) := by decide +kernel
theorem dX6_judge_39 : decode cX6_judge 39 = .ok (.if_icmp .ge 38, 3) := by decide +kernel
theorem dX6_judge_42 : decode cX6_judge 42 = .ok (.iload_n 3, 1) := by decide +kernel
theorem dX6_judge_43 : decode cX6_judge 43 = .ok (.bipush (-9), 2) := by decide +kernel
theorem dX6_judge_45 : decode cX6_judge 45 = .ok (.if_icmp .ne 32, 3) := by decide +kernel
theorem dX6_judge_48 : decode cX6_judge 48 = .ok (.aload_n 0, 1) := by decide +kernel
theorem dX6_judge_49 : decode cX6_judge 49 = .ok (.aload_n 0, 1) := by decide +kernel
theorem dX6_judge_50 : decode cX6_judge 50 = .ok (.getfield 43, 3) := by decide +kernel
theorem dX6_judge_53 : decode cX6_judge 53 = .ok (.aload_n 0, 1) := by decide +kernel
theorem dX6_judge_54 : decode cX6_judge 54 = .ok (.getfield 47, 3) := by decide +kernel
theorem dX6_judge_57 : decode cX6_judge 57 = .ok (.iload 4, 2) := by decide +kernel
theorem dX6_judge_59 : decode cX6_judge 59 = .ok (.invokestatic 246, 3) := by decide +kernel
theorem dX6_judge_62 : decode cX6_judge 62 = .ok (.invokevirtual 250, 3) := by decide +kernel
theorem dX6_judge_65 : decode cX6_judge 65 = .ok (.ifCond .ne 6, 3) := by decide +kernel
theorem dX6_judge_68 : decode cX6_judge 68 = .ok (.iload 4, 2) := by decide +kernel
theorem dX6_judge_70 : decode cX6_judge 70 = .ok (.istore_n 3, 1) := by decide +kernel
theorem dX6_judge_71 : decode cX6_judge 71 = .ok (.iinc 4 1, 3) := by decide +kernel
theorem dX6_judge_74 : decode cX6_judge 74 = .ok (.goto (-41), 3) := by decide +kernel
theorem dX6_judge_77 : decode cX6_judge 77 = .ok (.aload_n 0, 1) := by decide +kernel
theorem dX6_judge_78 : decode cX6_judge 78 = .ok (.iconst 0, 1) := by decide +kernel
theorem dX6_judge_79 : decode cX6_judge 79 = .ok (.putfield 54, 3) := by decide +kernel
theorem dX6_judge_82 : decode cX6_judge 82 = .ok (.iload_n 3, 1) := by decide +kernel
theorem dX6_judge_83 : decode cX6_judge 83 = .ok (.ireturn, 1) := by decide +kernel
theorem dX6_seeds_0 : decode cX6_seeds 0 = .ok (.aload_n 0, 1) := by decide +kernel
theorem dX6_seeds_1 : decode cX6_seeds 1 = .ok (.getfield 10, 3) := by decide +kernel
theorem dX6_seeds_4 : decode cX6_seeds 4 = .ok (.iload_n 1, 1) := by decide +kernel
theorem dX6_seeds_5 : decode cX6_seeds 5 = .ok (.invokevirtual 124, 3) := by decide +kernel
theorem dX6_seeds_8 : decode cX6_seeds 8 = .ok (.astore 5, 2) := by decide +kernel
theorem dX6_seeds_10 : decode cX6_seeds 10 = .ok (.aload 5, 2) := by decide +kernel
theorem dX6_seeds_12 : decode cX6_seeds 12 = .ok (.ifnonnull 9, 3) := by decide +kernel
theorem dX6_seeds_15 : decode cX6_seeds 15 = .ok (.aload_n 0, 1) := by decide +kernel
theorem dX6_seeds_16 : decode cX6_seeds 16 = .ok (.iconst (-1), 1) := by decide +kernel
theorem dX6_seeds_17 : decode cX6_seeds 17 = .ok (.invokevirtual 62, 3) := by decide +kernel
theorem dX6_seeds_20 : decode cX6_seeds 20 = .ok (.ireturn, 1) := by decide +kernel
theorem dX6_seeds_21 : decode cX6_seeds 21 = .ok (.iload_n 2, 1) := by decide +kernel
theorem dX6_seeds_22 : decode cX6_seeds 22 = .ok (.iconst 1, 1) := by decide +kernel
theorem dX6_seeds_23 : decode cX6_seeds 23 = .ok (.bipush 20, 2) := by decide +kernel
theorem dX6_seeds_25 : decode cX6_seeds 25 = .ok (.invokestatic 162, 3) := by decide +kernel
theorem dX6_seeds_28 : decode cX6_seeds 28 = .ok (.istore 6, 2) := by decide +kernel
theorem dX6_seeds_30 : decode cX6_seeds 30 = .ok (.iload 6, 2) := by decide +kernel
theorem dX6_seeds_32 : decode cX6_seeds 32 = .ok (.ifCond .ne 18, 3) := by decide +kernel
theorem dX6_seeds_35 : decode cX6_seeds 35 = .ok (.iload 4, 2) := by decide +kernel
theorem dX6_seeds_37 : decode cX6_seeds 37 = .ok (.ifCond .eq 13, 3) := by decide +kernel
theorem dX6_seeds_40 : decode cX6_seeds 40 = .ok (.iload 4, 2) := by decide +kernel
theorem dX6_seeds_42 : decode cX6_seeds 42 = .ok (.iconst 1, 1) := by decide +kernel
theorem dX6_seeds_43 : decode cX6_seeds 43 = .ok (.if_icmp .eq 7, 3) := by decide +kernel
theorem dX6_seeds_46 : decode cX6_seeds 46 = .ok (.bipush (-2), 2) := by decide +kernel
theorem dX6_seeds_48 : decode cX6_seeds 48 = .ok (.istore 6, 2) := by decide +kernel
theorem dX6_seeds_50 : decode cX6_seeds 50 = .ok (.iload 6, 2) := by decide +kernel
theorem dX6_seeds_52 : decode cX6_seeds 52 = .ok (.ifCond .eq 10, 3) := by decide +kernel
theorem dX6_seeds_55 : decode cX6_seeds 55 = .ok (.aload_n 0, 1) := by decide +kernel
theorem dX6_seeds_56 : decode cX6_seeds 56 = .ok (.iload 6, 2) := by decide +kernel
theorem dX6_seeds_58 : decode cX6_seeds 58 = .ok (.invokevirtual 62, 3) := by decide +kernel
theorem dX6_seeds_61 : decode cX6_seeds 61 = .ok (.ireturn, 1) := by decide +kernel
theorem dX6_seeds_62 : decode cX6_seeds 62 = .ok (.aload_n 0, 1) := by decide +kernel
theorem dX6_seeds_63 : decode cX6_seeds 63 = .ok (.getfield 43, 3) := by decide +kernel
theorem dX6_seeds_66 : decode cX6_seeds 66 = .ok (.aload 5, 2) := by decide +kernel
theorem dX6_seeds_68 : decode cX6_seeds 68 = .ok (.invokevirtual 199, 3) := by decide +kernel
theorem dX6_seeds_71 : decode cX6_seeds 71 = .ok (.iload_n 3, 1) := by decide +kernel
theorem dX6_seeds_72 : decode cX6_seeds 72 = .ok (.istore 7, 2) := by decide +kernel
theorem dX6_seeds_74 : decode cX6_seeds 74 = .ok (.iconst 0, 1) := by decide +kernel
theorem dX6_seeds_75 : decode cX6_seeds 75 = .ok (.istore 8, 2) := by decide +kernel
theorem dX6_seeds_77 : decode cX6_seeds 77 = .ok (.iload 8, 2) := by decide +kernel
theorem dX6_seeds_79 : decode cX6_seeds 79 = .ok (.iload_n 2, 1) := by decide +kernel
theorem dX6_seeds_80 : decode cX6_seeds 80 = .ok (.if_icmp .ge 65, 3) := by decide +kernel
theorem dX6_seeds_83 : decode cX6_seeds 83 = .ok (.aload_n 0, 1) := by decide +kernel
theorem dX6_seeds_84 : decode cX6_seeds 84 = .ok (.getfield 43, 3) := by decide +kernel
theorem dX6_seeds_87 : decode cX6_seeds 87 = .ok (.getfield 149, 3) := by decide +kernel
theorem dX6_seeds_90 : decode cX6_seeds 90 = .ok (.ifCond .ne 55, 3) := by decide +kernel
theorem dX6_seeds_93 : decode cX6_seeds 93 = .ok (.iload 7, 2) := by decide +kernel
theorem dX6_seeds_95 : decode cX6_seeds 95 = .ok (.ldc 254, 2) := by decide +kernel
theorem dX6_seeds_97 : decode cX6_seeds 97 = .ok (.imul, 1) := by decide +kernel
theorem dX6_seeds_98 : decode cX6_seeds 98 = .ok (.sipush 12345, 3) := by decide +kernel
theorem dX6_seeds_101 : decode cX6_seeds 101 = .ok (.iadd, 1) := by decide +kernel
theorem dX6_seeds_102 : decode cX6_seeds 102 = .ok (.istore 7, 2) := by decide +kernel
theorem dX6_seeds_104 : decode cX6_seeds 104 = .ok (.iload 7, 2) := by decide +kernel
theorem dX6_seeds_106 : decode cX6_seeds 106 = .ok (.ldc 255, 2) := by decide +kernel
theorem dX6_seeds_108 : decode cX6_seeds 108 = .ok (.iand, 1) := by decide +kernel
theorem dX6_seeds_109 : decode cX6_seeds 109 = .ok (.ldc_w 256, 3) := by decide +kernel
theorem dX6_seeds_112 : decode cX6_seeds 112 = .ok (.idiv, 1) := by decide +kernel
theorem dX6_seeds_113 : decode cX6_seeds 113 = .ok (.iconst 5, 1) := by decide +kernel
theorem dX6_seeds_114 : decode cX6_seeds 114 = .ok (.irem, 1) := by decide +kernel
theorem dX6_seeds_115 : decode cX6_seeds 115 = .ok (.istore 9, 2) := by decide +kernel
theorem dX6_seeds_117 : decode cX6_seeds 117 = .ok (.aload_n 0, 1) := by decide +kernel
theorem dX6_seeds_118 : decode cX6_seeds 118 = .ok (.aload_n 0, 1) := by decide +kernel
theorem dX6_seeds_119 : decode cX6_seeds 119 = .ok (.getfield 43, 3) := by decide +kernel
theorem dX6_seeds_122 : decode cX6_seeds 122 = .ok (.iload 9, 2) := by decide +kernel
theorem dX6_seeds_124 : decode cX6_seeds 124 = .ok (.iconst 4, 1) := by decide +kernel
theorem dX6_seeds_125 : decode cX6_seeds 125 = .ok (.if_icmp .ge 8, 3) := by decide +kernel
theorem dX6_seeds_128 : decode cX6_seeds 128 = .ok (.iload 9, 2) := by decide +kernel
theorem dX6_seeds_130 : decode cX6_seeds 130 = .ok (.goto 5, 3) := by decide +kernel
theorem dX6_seeds_133 : decode cX6_seeds 133 = .ok (.bipush 9, 2) := by decide +kernel
theorem dX6_seeds_135 : decode cX6_seeds 135 = .ok (.invokevirtual 250, 3) := by decide +kernel
theorem dX6_seeds_138 : decode cX6_seeds 138 = .ok (.pop, 1) := by decide +kernel
theorem dX6_seeds_139 : decode cX6_seeds 139 = .ok (.iinc 8 1, 3) := by decide +kernel
theorem dX6_seeds_142 : decode cX6_seeds 142 = .ok (.goto (-65), 3) := by decide +kernel
theorem dX6_seeds_145 : decode cX6_seeds 145 = .ok (.iload 4, 2) := by decide +kernel
theorem dX6_seeds_147 : decode cX6_seeds 147 = .ok (.ifCond .ne 23, 3) := by decide +kernel
theorem dX6_seeds_150 : decode cX6_seeds 150 = .ok (.aload_n 0, 1) := by decide +kernel
theorem dX6_seeds_151 : decode cX6_seeds 151 = .ok (.getfield 10, 3) := by decide +kernel
theorem dX6_seeds_154 : decode cX6_seeds 154 = .ok (.getfield 81, 3) := by decide +kernel
theorem dX6_seeds_157 : decode cX6_seeds 157 = .ok (.aload_n 0, 1) := by decide +kernel
theorem dX6_seeds_158 : decode cX6_seeds 158 = .ok (.getfield 43, 3) := by decide +kernel
theorem dX6_seeds_161 : decode cX6_seeds 161 = .ok (.getfield 146, 3) := by decide +kernel
theorem dX6_seeds_164 : decode cX6_seeds 164 = .ok (.invokevirtual 155, 3) := by decide +kernel
theorem dX6_seeds_167 : decode cX6_seeds 167 = .ok (.goto 10, 3) := by decide +kernel
theorem dX6_seeds_170 : decode cX6_seeds 170 = .ok (.aload_n 0, 1) := by decide +kernel
theorem dX6_seeds_171 : decode cX6_seeds 171 = .ok (.getfield 43, 3) := by decide +kernel
theorem dX6_seeds_174 : decode cX6_seeds 174 = .ok (.getfield 143, 3) := by decide +kernel
theorem dX6_seeds_177 : decode cX6_seeds 177 = .ok (.ireturn, 1) := by decide +kernel
theorem dX6_image_0 : decode cX6_image 0 = .ok (.aload_n 0, 1) := by decide +kernel
theorem dX6_image_1 : decode cX6_image 1 = .ok (.getfield 16, 3) := by decide +kernel
theorem dX6_image_4 : decode cX6_image 4 = .ok (.aload_n 0, 1) := by decide +kernel
theorem dX6_image_5 : decode cX6_image 5 = .ok (.getfield 10, 3) := by decide +kernel
theorem dX6_image_8 : decode cX6_image 8 = .ok (.invokevirtual 257, 3) := by decide +kernel
theorem dX6_image_11 : decode cX6_image 11 = .ok (.aload_n 0, 1) := by decide +kernel
theorem dX6_image_12 : decode cX6_image 12 = .ok (.iconst 1, 1) := by decide +kernel
theorem dX6_image_13 : decode cX6_image 13 = .ok (.putfield 58, 3) := by decide +kernel
theorem dX6_image_16 : decode cX6_image 16 = .ok (.aload_n 0, 1) := by decide +kernel
theorem dX6_image_17 : decode cX6_image 17 = .ok (.getfield 10, 3) := by decide +kernel
theorem dX6_image_20 : decode cX6_image 20 = .ok (.getfield 81, 3) := by decide +kernel
theorem dX6_image_23 : decode cX6_image 23 = .ok (.getfield 260, 3) := by decide +kernel
theorem dX6_image_26 : decode cX6_image 26 = .ok (.ireturn, 1) := by decide +kernel
theorem dX6_restore_0 : decode cX6_restore 0 = .ok (.aload_n 0, 1) := by decide +kernel
theorem dX6_restore_1 : decode cX6_restore 1 = .ok (.getfield 58, 3) := by decide +kernel
theorem dX6_restore_4 : decode cX6_restore 4 = .ok (.ifCond .ne 10, 3) := by decide +kernel
theorem dX6_restore_7 : decode cX6_restore 7 = .ok (.aload_n 0, 1) := by decide +kernel
theorem dX6_restore_8 : decode cX6_restore 8 = .ok (.bipush (-3), 2) := by decide +kernel
theorem dX6_restore_10 : decode cX6_restore 10 = .ok (.invokevirtual 62, 3) := by decide +kernel
theorem dX6_restore_13 : decode cX6_restore 13 = .ok (.ireturn, 1) := by decide +kernel
theorem dX6_restore_14 : decode cX6_restore 14 = .ok (.aload_n 0, 1) := by decide +kernel
theorem dX6_restore_15 : decode cX6_restore 15 = .ok (.getfield 10, 3) := by decide +kernel
theorem dX6_restore_18 : decode cX6_restore 18 = .ok (.aload_n 0, 1) := by decide +kernel
theorem dX6_restore_19 : decode cX6_restore 19 = .ok (.getfield 16, 3) := by decide +kernel
theorem dX6_restore_22 : decode cX6_restore 22 = .ok (.invokevirtual 257, 3) := by decide +kernel
theorem dX6_restore_25 : decode cX6_restore 25 = .ok (.aload_n 0, 1) := by decide +kernel
theorem dX6_restore_26 : decode cX6_restore 26 = .ok (.getfield 10, 3) := by decide +kernel
theorem dX6_restore_29 : decode cX6_restore 29 = .ok (.getfield 81, 3) := by decide +kernel
theorem dX6_restore_32 : decode cX6_restore 32 = .ok (.getfield 260, 3) := by decide +kernel
theorem dX6_restore_35 : decode cX6_restore 35 = .ok (.ireturn, 1) := by decide +kernel
theorem dX6_count_0 : decode cX6_count 0 = .ok (.iload_n 1, 1) := by decide +kernel
theorem dX6_count_1 : decode cX6_count 1 = .ok (.iconst 4, 1) := by decide +kernel
theorem dX6_count_2 : decode cX6_count 2 = .ok (.if_icmp .lt 28, 3) := by decide +kernel
theorem dX6_count_5 : decode cX6_count 5 = .ok (.iload_n 1, 1) := by decide +kernel
theorem dX6_count_6 : decode cX6_count 6 = .ok (.bipush 8, 2) := by decide +kernel
theorem dX6_count_8 : decode cX6_count 8 = .ok (.if_icmp .ge 22, 3) := by decide +kernel
theorem dX6_count_11 : decode cX6_count 11 = .ok (.aload_n 0, 1) := by decide +kernel
theorem dX6_count_12 : decode cX6_count 12 = .ok (.getfield 10, 3) := by decide +kernel
theorem dX6_count_15 : decode cX6_count 15 = .ok (.getfield 81, 3) := by decide +kernel
theorem dX6_count_18 : decode cX6_count 18 = .ok (.iconst 1, 1) := by decide +kernel
theorem dX6_count_19 : decode cX6_count 19 = .ok (.iload_n 1, 1) := by decide +kernel
theorem dX6_count_20 : decode cX6_count 20 = .ok (.iconst 4, 1) := by decide +kernel
theorem dX6_count_21 : decode cX6_count 21 = .ok (.isub, 1) := by decide +kernel
theorem dX6_count_22 : decode cX6_count 22 = .ok (.ishl, 1) := by decide +kernel
theorem dX6_count_23 : decode cX6_count 23 = .ok (.invokevirtual 235, 3) := by decide +kernel
theorem dX6_count_26 : decode cX6_count 26 = .ok (.invokestatic 180, 3) := by decide +kernel
theorem dX6_count_29 : decode cX6_count 29 = .ok (.ireturn, 1) := by decide +kernel
theorem dX6_count_30 : decode cX6_count 30 = .ok (.iload_n 1, 1) := by decide +kernel
theorem dX6_count_31 : decode cX6_count 31 = .ok (.bipush 10, 2) := by decide +kernel
theorem dX6_count_33 : decode cX6_count 33 = .ok (.if_icmp .le 21, 3) := by decide +kernel
theorem dX6_count_36 : decode cX6_count 36 = .ok (.iload_n 1, 1) := by decide +kernel
theorem dX6_count_37 : decode cX6_count 37 = .ok (.bipush 16, 2) := by decide +kernel
theorem dX6_count_39 : decode cX6_count 39 = .ok (.if_icmp .gt 15, 3) := by decide +kernel
theorem dX6_count_42 : decode cX6_count 42 = .ok (.aload_n 0, 1) := by decide +kernel
theorem dX6_count_43 : decode cX6_count 43 = .ok (.getfield 51, 3) := by decide +kernel
theorem dX6_count_46 : decode cX6_count 46 = .ok (.iload_n 1, 1) := by decide +kernel
theorem dX6_count_47 : decode cX6_count 47 = .ok (.bipush 10, 2) := by decide +kernel
theorem dX6_count_49 : decode cX6_count 49 = .ok (.isub, 1) := by decide +kernel
theorem dX6_count_50 : decode cX6_count 50 = .ok (.invokestatic 246, 3) := by decide +kernel
theorem dX6_count_53 : decode cX6_count 53 = .ok (.ireturn, 1) := by decide +kernel
theorem dX6_count_54 : decode cX6_count 54 = .ok (.iload_n 1, 1) := by decide +kernel
theorem dX6_count_55 : decode cX6_count 55 = .ok (.tableswitch 105 0 9 #[53, 64, 72, 84, 105, 105, 105, 105, 92, 100], 53) := by decide +kernel
theorem dX6_count_108 : decode cX6_count 108 = .ok (.aload_n 0, 1) := by decide +kernel
theorem dX6_count_109 : decode cX6_count 109 = .ok (.getfield 10, 3) := by decide +kernel
theorem dX6_count_112 : decode cX6_count 112 = .ok (.getfield 81, 3) := by decide +kernel
theorem dX6_count_115 : decode cX6_count 115 = .ok (.getfield 260, 3) := by decide +kernel
theorem dX6_count_118 : decode cX6_count 118 = .ok (.ireturn, 1) := by decide +kernel
theorem dX6_count_119 : decode cX6_count 119 = .ok (.aload_n 0, 1) := by decide +kernel
theorem dX6_count_120 : decode cX6_count 120 = .ok (.getfield 10, 3) := by decide +kernel
theorem dX6_count_123 : decode cX6_count 123 = .ok (.getfield 177, 3) := by decide +kernel
theorem dX6_count_126 : decode cX6_count 126 = .ok (.ireturn, 1) := by decide +kernel
theorem dX6_count_127 : decode cX6_count 127 = .ok (.aload_n 0, 1) := by decide +kernel
theorem dX6_count_128 : decode cX6_count 128 = .ok (.getfield 10, 3) := by decide +kernel
theorem dX6_count_131 : decode cX6_count 131 = .ok (.getfield 81, 3) := by decide +kernel
theorem dX6_count_134 : decode cX6_count 134 = .ok (.iconst (-1), 1) := by decide +kernel
theorem dX6_count_135 : decode cX6_count 135 = .ok (.invokevirtual 155, 3) := by decide +kernel
theorem dX6_count_138 : decode cX6_count 138 = .ok (.ireturn, 1) := by decide +kernel
theorem dX6_count_139 : decode cX6_count 139 = .ok (.aload_n 0, 1) := by decide +kernel
theorem dX6_count_140 : decode cX6_count 140 = .ok (.getfield 10, 3) := by decide +kernel
theorem dX6_count_143 : decode cX6_count 143 = .ok (.invokevirtual 263, 3) := by decide +kernel
theorem dX6_count_146 : decode cX6_count 146 = .ok (.ireturn, 1) := by decide +kernel
theorem dX6_count_147 : decode cX6_count 147 = .ok (.aload_n 0, 1) := by decide +kernel
theorem dX6_count_148 : decode cX6_count 148 = .ok (.getfield 22, 3) := by decide +kernel
theorem dX6_count_151 : decode cX6_count 151 = .ok (.getfield 74, 3) := by decide +kernel
theorem dX6_count_154 : decode cX6_count 154 = .ok (.ireturn, 1) := by decide +kernel
theorem dX6_count_155 : decode cX6_count 155 = .ok (.aload_n 0, 1) := by decide +kernel
theorem dX6_count_156 : decode cX6_count 156 = .ok (.getfield 54, 3) := by decide +kernel
theorem dX6_count_159 : decode cX6_count 159 = .ok (.ireturn, 1) := by decide +kernel
theorem dX6_count_160 : decode cX6_count 160 = .ok (.bipush (-9), 2) := by decide +kernel
theorem dX6_count_162 : decode cX6_count 162 = .ok (.ireturn, 1) := by decide +kernel
theorem dX6_at_0 : decode cX6_at 0 = .ok (.aload_n 0, 1) := by decide +kernel
theorem dX6_at_1 : decode cX6_at 1 = .ok (.ifnull 19, 3) := by decide +kernel
theorem dX6_at_4 : decode cX6_at 4 = .ok (.iload_n 1, 1) := by decide +kernel
theorem dX6_at_5 : decode cX6_at 5 = .ok (.ifCond .lt 15, 3) := by decide +kernel
theorem dX6_at_8 : decode cX6_at 8 = .ok (.iload_n 1, 1) := by decide +kernel
theorem dX6_at_9 : decode cX6_at 9 = .ok (.aload_n 0, 1) := by decide +kernel
theorem dX6_at_10 : decode cX6_at 10 = .ok (.arraylength, 1) := by decide +kernel
theorem dX6_at_11 : decode cX6_at 11 = .ok (.if_icmp .ge 9, 3) := by decide +kernel
theorem dX6_at_14 : decode cX6_at 14 = .ok (.aload_n 0, 1) := by decide +kernel
theorem dX6_at_15 : decode cX6_at 15 = .ok (.iload_n 1, 1) := by decide +kernel
theorem dX6_at_16 : decode cX6_at 16 = .ok (.iaload, 1) := by decide +kernel
theorem dX6_at_17 : decode cX6_at 17 = .ok (.goto 4, 3) := by decide +kernel
theorem dX6_at_20 : decode cX6_at 20 = .ok (.iconst 0, 1) := by decide +kernel
theorem dX6_at_21 : decode cX6_at 21 = .ok (.ireturn, 1) := by decide +kernel
theorem dX6_put_0 : decode cX6_put 0 = .ok (.aload_n 0, 1) := by decide +kernel
theorem dX6_put_1 : decode cX6_put 1 = .ok (.ifnull 17, 3) := by decide +kernel
theorem dX6_put_4 : decode cX6_put 4 = .ok (.iload_n 1, 1) := by decide +kernel
theorem dX6_put_5 : decode cX6_put 5 = .ok (.ifCond .lt 13, 3) := by decide +kernel
theorem dX6_put_8 : decode cX6_put 8 = .ok (.iload_n 1, 1) := by decide +kernel
theorem dX6_put_9 : decode cX6_put 9 = .ok (.aload_n 0, 1) := by decide +kernel
theorem dX6_put_10 : decode cX6_put 10 = .ok (.arraylength, 1) := by decide +kernel
theorem dX6_put_11 : decode cX6_put 11 = .ok (.if_icmp .ge 7, 3) := by decide +kernel
theorem dX6_put_14 : decode cX6_put 14 = .ok (.aload_n 0, 1) := by decide +kernel
theorem dX6_put_15 : decode cX6_put 15 = .ok (.iload_n 1, 1) := by decide +kernel
theorem dX6_put_16 : decode cX6_put 16 = .ok (.iload_n 2, 1) := by decide +kernel
theorem dX6_put_17 : decode cX6_put 17 = .ok (.iastore, 1) := by decide +kernel
theorem dX6_put_18 : decode cX6_put 18 = .ok (.return_, 1) := by decide +kernel
theorem dX6_outside_0 : decode cX6_outside 0 = .ok (.iload_n 0, 1) := by decide +kernel
theorem dX6_outside_1 : decode cX6_outside 1 = .ok (.iload_n 1, 1) := by decide +kernel
theorem dX6_outside_2 : decode cX6_outside 2 = .ok (.if_icmp .ge 6, 3) := by decide +kernel
theorem dX6_outside_5 : decode cX6_outside 5 = .ok (.bipush (-4), 2) := by decide +kernel
theorem dX6_outside_7 : decode cX6_outside 7 = .ok (.ireturn, 1) := by decide +kernel
theorem dX6_outside_8 : decode cX6_outside 8 = .ok (.iload_n 0, 1) := by decide +kernel
theorem dX6_outside_9 : decode cX6_outside 9 = .ok (.iload_n 2, 1) := by decide +kernel
theorem dX6_outside_10 : decode cX6_outside 10 = .ok (.if_icmp .le 8, 3) := by decide +kernel
theorem dX6_outside_13 : decode cX6_outside 13 = .ok (.bipush (-6), 2) := by decide +kernel
theorem dX6_outside_15 : decode cX6_outside 15 = .ok (.goto 4, 3) := by decide +kernel
theorem dX6_outside_18 : decode cX6_outside 18 = .ok (.iconst 0, 1) := by decide +kernel
theorem dX6_outside_19 : decode cX6_outside 19 = .ok (.ireturn, 1) := by decide +kernel
theorem dX6_commonDivisor_0 : decode cX6_commonDivisor 0 = .ok (.iload_n 1, 1) := by decide +kernel
theorem dX6_commonDivisor_1 : decode cX6_commonDivisor 1 = .ok (.istore_n 2, 1) := by decide +kernel
theorem dX6_commonDivisor_2 : decode cX6_commonDivisor 2 = .ok (.iload_n 2, 1) := by decide +kernel
theorem dX6_commonDivisor_3 : decode cX6_commonDivisor 3 = .ok (.iconst 1, 1) := by decide +kernel
theorem dX6_commonDivisor_4 : decode cX6_commonDivisor 4 = .ok (.if_icmp .le 23, 3) := by decide +kernel
theorem dX6_commonDivisor_7 : decode cX6_commonDivisor 7 = .ok (.iload_n 0, 1) := by decide +kernel
theorem dX6_commonDivisor_8 : decode cX6_commonDivisor 8 = .ok (.iload_n 2, 1) := by decide +kernel
theorem dX6_commonDivisor_9 : decode cX6_commonDivisor 9 = .ok (.irem, 1) := by decide +kernel
theorem dX6_commonDivisor_10 : decode cX6_commonDivisor 10 = .ok (.ifCond .ne 11, 3) := by decide +kernel
theorem dX6_commonDivisor_13 : decode cX6_commonDivisor 13 = .ok (.iload_n 1, 1) := by decide +kernel
theorem dX6_commonDivisor_14 : decode cX6_commonDivisor 14 = .ok (.iload_n 2, 1) := by decide +kernel
theorem dX6_commonDivisor_15 : decode cX6_commonDivisor 15 = .ok (.irem, 1) := by decide +kernel
theorem dX6_commonDivisor_16 : decode cX6_commonDivisor 16 = .ok (.ifCond .ne 5, 3) := by decide +kernel
theorem dX6_commonDivisor_19 : decode cX6_commonDivisor 19 = .ok (.iload_n 2, 1) := by decide +kernel
theorem dX6_commonDivisor_20 : decode cX6_commonDivisor 20 = .ok (.ireturn, 1) := by decide +kernel
theorem dX6_commonDivisor_21 : decode cX6_commonDivisor 21 = .ok (.iinc 2 (-1), 3) := by decide +kernel
theorem dX6_commonDivisor_24 : decode cX6_commonDivisor 24 = .ok (.goto (-22), 3) := by decide +kernel
theorem dX6_commonDivisor_27 : decode cX6_commonDivisor 27 = .ok (.iconst 1, 1) := by decide +kernel
theorem dX6_commonDivisor_28 : decode cX6_commonDivisor 28 = .ok (.ireturn, 1) := by decide +kernel
theorem dX6_refuse_0 : decode cX6_refuse 0 = .ok (.aload_n 0, 1) := by decide +kernel
theorem dX6_refuse_1 : decode cX6_refuse 1 = .ok (.getfield 51, 3) := by decide +kernel
theorem dX6_refuse_4 : decode cX6_refuse 4 = .ok (.iload_n 1, 1) := by decide +kernel
theorem dX6_refuse_5 : decode cX6_refuse 5 = .ok (.ineg, 1) := by decide +kernel
theorem dX6_refuse_6 : decode cX6_refuse 6 = .ok (.aload_n 0, 1) := by decide +kernel
theorem dX6_refuse_7 : decode cX6_refuse 7 = .ok (.getfield 51, 3) := by decide +kernel
theorem dX6_refuse_10 : decode cX6_refuse 10 = .ok (.iload_n 1, 1) := by decide +kernel
theorem dX6_refuse_11 : decode cX6_refuse 11 = .ok (.ineg, 1) := by decide +kernel
theorem dX6_refuse_12 : decode cX6_refuse 12 = .ok (.invokestatic 246, 3) := by decide +kernel
theorem dX6_refuse_15 : decode cX6_refuse 15 = .ok (.iconst 1, 1) := by decide +kernel
theorem dX6_refuse_16 : decode cX6_refuse 16 = .ok (.iadd, 1) := by decide +kernel
theorem dX6_refuse_17 : decode cX6_refuse 17 = .ok (.invokestatic 242, 3) := by decide +kernel
theorem dX6_refuse_20 : decode cX6_refuse 20 = .ok (.iload_n 1, 1) := by decide +kernel
theorem dX6_refuse_21 : decode cX6_refuse 21 = .ok (.ireturn, 1) := by decide +kernel
theorem dX6_takeTrain_0 : decode cX6_takeTrain 0 = .ok (.aload_n 0, 1) := by decide +kernel
theorem dX6_takeTrain_1 : decode cX6_takeTrain 1 = .ok (.getfield 22, 3) := by decide +kernel
theorem dX6_takeTrain_4 : decode cX6_takeTrain 4 = .ok (.invokevirtual 266, 3) := by decide +kernel
theorem dX6_takeTrain_7 : decode cX6_takeTrain 7 = .ok (.istore_n 1, 1) := by decide +kernel
theorem dX6_takeTrain_8 : decode cX6_takeTrain 8 = .ok (.iload_n 1, 1) := by decide +kernel
theorem dX6_takeTrain_9 : decode cX6_takeTrain 9 = .ok (.bipush (-9), 2) := by decide +kernel
theorem dX6_takeTrain_11 : decode cX6_takeTrain 11 = .ok (.if_icmp .eq 9, 3) := by decide +kernel
theorem dX6_takeTrain_14 : decode cX6_takeTrain 14 = .ok (.sipush (-1000), 3) := by decide +kernel
theorem dX6_takeTrain_17 : decode cX6_takeTrain 17 = .ok (.iload_n 1, 1) := by decide +kernel
theorem dX6_takeTrain_18 : decode cX6_takeTrain 18 = .ok (.isub, 1) := by decide +kernel
theorem dX6_takeTrain_19 : decode cX6_takeTrain 19 = .ok (.ireturn, 1) := by decide +kernel
theorem dX6_takeTrain_20 : decode cX6_takeTrain 20 = .ok (.aload_n 0, 1) := by decide +kernel
theorem dX6_takeTrain_21 : decode cX6_takeTrain 21 = .ok (.getfield 22, 3) := by decide +kernel
theorem dX6_takeTrain_24 : decode cX6_takeTrain 24 = .ok (.aload_n 0, 1) := by decide +kernel
theorem dX6_takeTrain_25 : decode cX6_takeTrain 25 = .ok (.getfield 10, 3) := by decide +kernel
theorem dX6_takeTrain_28 : decode cX6_takeTrain 28 = .ok (.getfield 81, 3) := by decide +kernel
theorem dX6_takeTrain_31 : decode cX6_takeTrain 31 = .ok (.getfield 260, 3) := by decide +kernel
theorem dX6_takeTrain_34 : decode cX6_takeTrain 34 = .ok (.aload_n 0, 1) := by decide +kernel
theorem dX6_takeTrain_35 : decode cX6_takeTrain 35 = .ok (.getfield 10, 3) := by decide +kernel
theorem dX6_takeTrain_38 : decode cX6_takeTrain 38 = .ok (.getfield 177, 3) := by decide +kernel
theorem dX6_takeTrain_41 : decode cX6_takeTrain 41 = .ok (.invokevirtual 269, 3) := by decide +kernel
theorem dX6_takeTrain_44 : decode cX6_takeTrain 44 = .ok (.istore_n 1, 1) := by decide +kernel
theorem dX6_takeTrain_45 : decode cX6_takeTrain 45 = .ok (.iload_n 1, 1) := by decide +kernel
theorem dX6_takeTrain_46 : decode cX6_takeTrain 46 = .ok (.bipush (-9), 2) := by decide +kernel
theorem dX6_takeTrain_48 : decode cX6_takeTrain 48 = .ok (.if_icmp .eq 9, 3) := by decide +kernel
theorem dX6_takeTrain_51 : decode cX6_takeTrain 51 = .ok (.sipush (-2000), 3) := by decide +kernel
theorem dX6_takeTrain_54 : decode cX6_takeTrain 54 = .ok (.iload_n 1, 1) := by decide +kernel
theorem dX6_takeTrain_55 : decode cX6_takeTrain 55 = .ok (.isub, 1) := by decide +kernel
theorem dX6_takeTrain_56 : decode cX6_takeTrain 56 = .ok (.ireturn, 1) := by decide +kernel
theorem dX6_takeTrain_57 : decode cX6_takeTrain 57 = .ok (.aload_n 0, 1) := by decide +kernel
theorem dX6_takeTrain_58 : decode cX6_takeTrain 58 = .ok (.getfield 22, 3) := by decide +kernel
theorem dX6_takeTrain_61 : decode cX6_takeTrain 61 = .ok (.aload_n 0, 1) := by decide +kernel
theorem dX6_takeTrain_62 : decode cX6_takeTrain 62 = .ok (.getfield 10, 3) := by decide +kernel
theorem dX6_takeTrain_65 : decode cX6_takeTrain 65 = .ok (.invokevirtual 272, 3) := by decide +kernel
theorem dX6_takeTrain_68 : decode cX6_takeTrain 68 = .ok (.ireturn, 1) := by decide +kernel
theorem dX6_mostOf_0 : decode cX6_mostOf 0 = .ok (.aload_n 0, 1) := by decide +kernel
theorem dX6_mostOf_1 : decode cX6_mostOf 1 = .ok (.getfield 29, 3) := by decide +kernel
theorem dX6_mostOf_4 : decode cX6_mostOf 4 = .ok (.aload_n 0, 1) := by decide +kernel
theorem dX6_mostOf_5 : decode cX6_mostOf 5 = .ok (.getfield 10, 3) := by decide +kernel
theorem dX6_mostOf_8 : decode cX6_mostOf 8 = .ok (.getfield 81, 3) := by decide +kernel
theorem dX6_mostOf_11 : decode cX6_mostOf 11 = .ok (.aload_n 0, 1) := by decide +kernel
theorem dX6_mostOf_12 : decode cX6_mostOf 12 = .ok (.getfield 10, 3) := by decide +kernel
theorem dX6_mostOf_15 : decode cX6_mostOf 15 = .ok (.getfield 109, 3) := by decide +kernel
theorem dX6_mostOf_18 : decode cX6_mostOf 18 = .ok (.aload_n 1, 1) := by decide +kernel
theorem dX6_mostOf_19 : decode cX6_mostOf 19 = .ok (.ldc 203, 2) := by decide +kernel
theorem dX6_mostOf_21 : decode cX6_mostOf 21 = .ok (.invokevirtual 195, 3) := by decide +kernel
theorem dX6_mostOf_24 : decode cX6_mostOf 24 = .ok (.ireturn, 1) := by decide +kernel
theorem dX6_mostTogether_0 : decode cX6_mostTogether 0 = .ok (.iconst 0, 1) := by decide +kernel
theorem dX6_mostTogether_1 : decode cX6_mostTogether 1 = .ok (.istore_n 1, 1) := by decide +kernel
theorem dX6_mostTogether_2 : decode cX6_mostTogether 2 = .ok (.iconst 0, 1) := by decide +kernel
theorem dX6_mostTogether_3 : decode cX6_mostTogether 3 = .ok (.istore_n 2, 1) := by decide +kernel
theorem dX6_mostTogether_4 : decode cX6_mostTogether 4 = .ok (.iload_n 2, 1) := by decide +kernel
theorem dX6_mostTogether_5 : decode cX6_mostTogether 5 = .ok (.aload_n 0, 1) := by decide +kernel
theorem dX6_mostTogether_6 : decode cX6_mostTogether 6 = .ok (.getfield 10, 3) := by decide +kernel
theorem dX6_mostTogether_9 : decode cX6_mostTogether 9 = .ok (.getfield 177, 3) := by decide +kernel
theorem dX6_mostTogether_12 : decode cX6_mostTogether 12 = .ok (.if_icmp .ge 46, 3) := by decide +kernel
theorem dX6_mostTogether_15 : decode cX6_mostTogether 15 = .ok (.aload_n 0, 1) := by decide +kernel
theorem dX6_mostTogether_16 : decode cX6_mostTogether 16 = .ok (.getfield 10, 3) := by decide +kernel
theorem dX6_mostTogether_19 : decode cX6_mostTogether 19 = .ok (.iload_n 2, 1) := by decide +kernel
theorem dX6_mostTogether_20 : decode cX6_mostTogether 20 = .ok (.invokevirtual 124, 3) := by decide +kernel
theorem dX6_mostTogether_23 : decode cX6_mostTogether 23 = .ok (.astore_n 3, 1) := by decide +kernel
theorem dX6_mostTogether_24 : decode cX6_mostTogether 24 = .ok (.aload_n 3, 1) := by decide +kernel
theorem dX6_mostTogether_25 : decode cX6_mostTogether 25 = .ok (.ifnull 27, 3) := by decide +kernel
theorem dX6_mostTogether_28 : decode cX6_mostTogether 28 = .ok (.iload_n 1, 1) := by decide +kernel
theorem dX6_mostTogether_29 : decode cX6_mostTogether 29 = .ok (.aload_n 0, 1) := by decide +kernel
theorem dX6_mostTogether_30 : decode cX6_mostTogether 30 = .ok (.getfield 29, 3) := by decide +kernel
theorem dX6_mostTogether_33 : decode cX6_mostTogether 33 = .ok (.aload_n 0, 1) := by decide +kernel
theorem dX6_mostTogether_34 : decode cX6_mostTogether 34 = .ok (.getfield 10, 3) := by decide +kernel
theorem dX6_mostTogether_37 : decode cX6_mostTogether 37 = .ok (.getfield 81, 3) := by decide +kernel
theorem dX6_mostTogether_40 : decode cX6_mostTogether 40 = .ok (.aload_n 0, 1) := by decide +kernel
theorem dX6_mostTogether_41 : decode cX6_mostTogether 41 = .ok (.getfield 36, 3) := by decide +kernel
theorem dX6_mostTogether_44 : decode cX6_mostTogether 44 = .ok (.aload_n 3, 1) := by decide +kernel
theorem dX6_mostTogether_45 : decode cX6_mostTogether 45 = .ok (.ldc 203, 2) := by decide +kernel
theorem dX6_mostTogether_47 : decode cX6_mostTogether 47 = .ok (.invokevirtual 195, 3) := by decide +kernel
theorem dX6_mostTogether_50 : decode cX6_mostTogether 50 = .ok (.iadd, 1) := by decide +kernel
theorem dX6_mostTogether_51 : decode cX6_mostTogether 51 = .ok (.istore_n 1, 1) := by decide +kernel
theorem dX6_mostTogether_52 : decode cX6_mostTogether 52 = .ok (.iinc 2 1, 3) := by decide +kernel
theorem dX6_mostTogether_55 : decode cX6_mostTogether 55 = .ok (.goto (-51), 3) := by decide +kernel
theorem dX6_mostTogether_58 : decode cX6_mostTogether 58 = .ok (.iload_n 1, 1) := by decide +kernel
theorem dX6_mostTogether_59 : decode cX6_mostTogether 59 = .ok (.ireturn, 1) := by decide +kernel
theorem dX6_someoneAbove_0 : decode cX6_someoneAbove 0 = .ok (.aload_n 0, 1) := by decide +kernel
theorem dX6_someoneAbove_1 : decode cX6_someoneAbove 1 = .ok (.getfield 36, 3) := by decide +kernel
theorem dX6_someoneAbove_4 : decode cX6_someoneAbove 4 = .ok (.aload_n 0, 1) := by decide +kernel
theorem dX6_someoneAbove_5 : decode cX6_someoneAbove 5 = .ok (.getfield 10, 3) := by decide +kernel
theorem dX6_someoneAbove_8 : decode cX6_someoneAbove 8 = .ok (.getfield 109, 3) := by decide +kernel
theorem dX6_someoneAbove_11 : decode cX6_someoneAbove 11 = .ok (.invokevirtual 204, 3) := by decide +kernel
theorem dX6_someoneAbove_14 : decode cX6_someoneAbove 14 = .ok (.aload_n 0, 1) := by decide +kernel
theorem dX6_someoneAbove_15 : decode cX6_someoneAbove 15 = .ok (.getfield 36, 3) := by decide +kernel
theorem dX6_someoneAbove_18 : decode cX6_someoneAbove 18 = .ok (.iload_n 2, 1) := by decide +kernel
theorem dX6_someoneAbove_19 : decode cX6_someoneAbove 19 = .ok (.putfield 118, 3) := by decide +kernel
theorem dX6_someoneAbove_22 : decode cX6_someoneAbove 22 = .ok (.iconst 0, 1) := by decide +kernel
theorem dX6_someoneAbove_23 : decode cX6_someoneAbove 23 = .ok (.istore_n 3, 1) := by decide +kernel
theorem dX6_someoneAbove_24 : decode cX6_someoneAbove 24 = .ok (.iload_n 3, 1) := by decide +kernel
theorem dX6_someoneAbove_25 : decode cX6_someoneAbove 25 = .ok (.aload_n 0, 1) := by decide +kernel
theorem dX6_someoneAbove_26 : decode cX6_someoneAbove 26 = .ok (.getfield 10, 3) := by decide +kernel
theorem dX6_someoneAbove_29 : decode cX6_someoneAbove 29 = .ok (.getfield 177, 3) := by decide +kernel
theorem dX6_someoneAbove_32 : decode cX6_someoneAbove 32 = .ok (.if_icmp .ge 52, 3) := by decide +kernel
theorem dX6_someoneAbove_35 : decode cX6_someoneAbove 35 = .ok (.aload_n 0, 1) := by decide +kernel
theorem dX6_someoneAbove_36 : decode cX6_someoneAbove 36 = .ok (.getfield 10, 3) := by decide +kernel
theorem dX6_someoneAbove_39 : decode cX6_someoneAbove 39 = .ok (.iload_n 3, 1) := by decide +kernel
theorem dX6_someoneAbove_40 : decode cX6_someoneAbove 40 = .ok (.invokevirtual 124, 3) := by decide +kernel
theorem dX6_someoneAbove_43 : decode cX6_someoneAbove 43 = .ok (.astore 4, 2) := by decide +kernel
theorem dX6_someoneAbove_45 : decode cX6_someoneAbove 45 = .ok (.aload 4, 2) := by decide +kernel
theorem dX6_someoneAbove_47 : decode cX6_someoneAbove 47 = .ok (.ifnull 31, 3) := by decide +kernel
theorem dX6_someoneAbove_50 : decode cX6_someoneAbove 50 = .ok (.aload_n 0, 1) := by decide +kernel
theorem dX6_someoneAbove_51 : decode cX6_someoneAbove 51 = .ok (.getfield 29, 3) := by decide +kernel
theorem dX6_someoneAbove_54 : decode cX6_someoneAbove 54 = .ok (.aload_n 0, 1) := by decide +kernel
theorem dX6_someoneAbove_55 : decode cX6_someoneAbove 55 = .ok (.getfield 10, 3) := by decide +kernel
theorem dX6_someoneAbove_58 : decode cX6_someoneAbove 58 = .ok (.getfield 81, 3) := by decide +kernel
theorem dX6_someoneAbove_61 : decode cX6_someoneAbove 61 = .ok (.aload_n 0, 1) := by decide +kernel
theorem dX6_someoneAbove_62 : decode cX6_someoneAbove 62 = .ok (.getfield 36, 3) := by decide +kernel
theorem dX6_someoneAbove_65 : decode cX6_someoneAbove 65 = .ok (.aload 4, 2) := by decide +kernel
theorem dX6_someoneAbove_67 : decode cX6_someoneAbove 67 = .ok (.ldc 203, 2) := by decide +kernel
theorem dX6_someoneAbove_69 : decode cX6_someoneAbove 69 = .ok (.invokevirtual 195, 3) := by decide +kernel
theorem dX6_someoneAbove_72 : decode cX6_someoneAbove 72 = .ok (.iload_n 1, 1) := by decide +kernel
theorem dX6_someoneAbove_73 : decode cX6_someoneAbove 73 = .ok (.if_icmp .le 5, 3) := by decide +kernel
theorem dX6_someoneAbove_76 : decode cX6_someoneAbove 76 = .ok (.iconst 1, 1) := by decide +kernel
theorem dX6_someoneAbove_77 : decode cX6_someoneAbove 77 = .ok (.ireturn, 1) := by decide +kernel
theorem dX6_someoneAbove_78 : decode cX6_someoneAbove 78 = .ok (.iinc 3 1, 3) := by decide +kernel
theorem dX6_someoneAbove_81 : decode cX6_someoneAbove 81 = .ok (.goto (-57), 3) := by decide +kernel
theorem dX6_someoneAbove_84 : decode cX6_someoneAbove 84 = .ok (.iconst 0, 1) := by decide +kernel
theorem dX6_someoneAbove_85 : decode cX6_someoneAbove 85 = .ok (.ireturn, 1) := by decide +kernel
theorem dX6_readByPlan_0 : decode cX6_readByPlan 0 = .ok (.aload_n 0, 1) := by decide +kernel
theorem dX6_readByPlan_1 : decode cX6_readByPlan 1 = .ok (.getfield 29, 3) := by decide +kernel
theorem dX6_readByPlan_4 : decode cX6_readByPlan 4 = .ok (.aload_n 0, 1) := by decide +kernel
theorem dX6_readByPlan_5 : decode cX6_readByPlan 5 = .ok (.getfield 10, 3) := by decide +kernel
theorem dX6_readByPlan_8 : decode cX6_readByPlan 8 = .ok (.getfield 81, 3) := by decide +kernel
theorem dX6_readByPlan_11 : decode cX6_readByPlan 11 = .ok (.aload_n 0, 1) := by decide +kernel
theorem dX6_readByPlan_12 : decode cX6_readByPlan 12 = .ok (.getfield 10, 3) := by decide +kernel
theorem dX6_readByPlan_15 : decode cX6_readByPlan 15 = .ok (.getfield 109, 3) := by decide +kernel
theorem dX6_readByPlan_18 : decode cX6_readByPlan 18 = .ok (.aload_n 1, 1) := by decide +kernel
theorem dX6_readByPlan_19 : decode cX6_readByPlan 19 = .ok (.ldc 203, 2) := by decide +kernel
theorem dX6_readByPlan_21 : decode cX6_readByPlan 21 = .ok (.invokevirtual 195, 3) := by decide +kernel
theorem dX6_readByPlan_24 : decode cX6_readByPlan 24 = .ok (.pop, 1) := by decide +kernel
theorem dX6_readByPlan_25 : decode cX6_readByPlan 25 = .ok (.aload_n 1, 1) := by decide +kernel
theorem dX6_readByPlan_26 : decode cX6_readByPlan 26 = .ok (.getfield 146, 3) := by decide +kernel
theorem dX6_readByPlan_29 : decode cX6_readByPlan 29 = .ok (.istore_n 2, 1) := by decide +kernel
theorem dX6_readByPlan_30 : decode cX6_readByPlan 30 = .ok (.iconst 0, 1) := by decide +kernel
theorem dX6_readByPlan_31 : decode cX6_readByPlan 31 = .ok (.istore_n 3, 1) := by decide +kernel
theorem dX6_readByPlan_32 : decode cX6_readByPlan 32 = .ok (.iload_n 3, 1) := by decide +kernel
theorem dX6_readByPlan_33 : decode cX6_readByPlan 33 = .ok (.aload_n 0, 1) := by decide +kernel
theorem dX6_readByPlan_34 : decode cX6_readByPlan 34 = .ok (.getfield 29, 3) := by decide +kernel
theorem dX6_readByPlan_37 : decode cX6_readByPlan 37 = .ok (.getfield 276, 3) := by decide +kernel
theorem dX6_readByPlan_40 : decode cX6_readByPlan 40 = .ok (.if_icmp .ge 44, 3) := by decide +kernel
theorem dX6_readByPlan_43 : decode cX6_readByPlan 43 = .ok (.aload_n 0, 1) := by decide +kernel
theorem dX6_readByPlan_44 : decode cX6_readByPlan 44 = .ok (.getfield 10, 3) := by decide +kernel
theorem dX6_readByPlan_47 : decode cX6_readByPlan 47 = .ok (.getfield 81, 3) := by decide +kernel
theorem dX6_readByPlan_50 : decode cX6_readByPlan 50 = .ok (.aload_n 0, 1) := by decide +kernel
theorem dX6_readByPlan_51 : decode cX6_readByPlan 51 = .ok (.getfield 29, 3) := by decide +kernel
theorem dX6_readByPlan_54 : decode cX6_readByPlan 54 = .ok (.iload_n 3, 1) := by decide +kernel
theorem dX6_readByPlan_55 : decode cX6_readByPlan 55 = .ok (.invokevirtual 192, 3) := by decide +kernel
theorem dX6_readByPlan_58 : decode cX6_readByPlan 58 = .ok (.iload_n 2, 1) := by decide +kernel
theorem dX6_readByPlan_59 : decode cX6_readByPlan 59 = .ok (.invokevirtual 279, 3) := by decide +kernel
theorem dX6_readByPlan_62 : decode cX6_readByPlan 62 = .ok (.istore 4, 2) := by decide +kernel
theorem dX6_readByPlan_64 : decode cX6_readByPlan 64 = .ok (.iload 4, 2) := by decide +kernel
theorem dX6_readByPlan_66 : decode cX6_readByPlan 66 = .ok (.bipush (-9), 2) := by decide +kernel
theorem dX6_readByPlan_68 : decode cX6_readByPlan 68 = .ok (.if_icmp .eq 10, 3) := by decide +kernel
theorem dX6_readByPlan_71 : decode cX6_readByPlan 71 = .ok (.iload_n 2, 1) := by decide +kernel
theorem dX6_readByPlan_72 : decode cX6_readByPlan 72 = .ok (.iconst 1, 1) := by decide +kernel
theorem dX6_readByPlan_73 : decode cX6_readByPlan 73 = .ok (.iload 4, 2) := by decide +kernel
theorem dX6_readByPlan_75 : decode cX6_readByPlan 75 = .ok (.ishl, 1) := by decide +kernel
theorem dX6_readByPlan_76 : decode cX6_readByPlan 76 = .ok (.ior, 1) := by decide +kernel
theorem dX6_readByPlan_77 : decode cX6_readByPlan 77 = .ok (.istore_n 2, 1) := by decide +kernel
theorem dX6_readByPlan_78 : decode cX6_readByPlan 78 = .ok (.iinc 3 1, 3) := by decide +kernel
theorem dX6_readByPlan_81 : decode cX6_readByPlan 81 = .ok (.goto (-49), 3) := by decide +kernel
theorem dX6_readByPlan_84 : decode cX6_readByPlan 84 = .ok (.iload_n 2, 1) := by decide +kernel
theorem dX6_readByPlan_85 : decode cX6_readByPlan 85 = .ok (.ireturn, 1) := by decide +kernel
theorem dX6_rowHasNoColumn_0 : decode cX6_rowHasNoColumn 0 = .ok (.iconst 0, 1) := by decide +kernel
theorem dX6_rowHasNoColumn_1 : decode cX6_rowHasNoColumn 1 = .ok (.istore_n 1, 1) := by decide +kernel
theorem dX6_rowHasNoColumn_2 : decode cX6_rowHasNoColumn 2 = .ok (.iload_n 1, 1) := by decide +kernel
theorem dX6_rowHasNoColumn_3 : decode cX6_rowHasNoColumn 3 = .ok (.aload_n 0, 1) := by decide +kernel
theorem dX6_rowHasNoColumn_4 : decode cX6_rowHasNoColumn 4 = .ok (.getfield 54, 3) := by decide +kernel
theorem dX6_rowHasNoColumn_7 : decode cX6_rowHasNoColumn 7 = .ok (.if_icmp .ge 23, 3) := by decide +kernel
theorem dX6_rowHasNoColumn_10 : decode cX6_rowHasNoColumn 10 = .ok (.aload_n 0, 1) := by decide +kernel
theorem dX6_rowHasNoColumn_11 : decode cX6_rowHasNoColumn 11 = .ok (.getfield 47, 3) := by decide +kernel
theorem dX6_rowHasNoColumn_14 : decode cX6_rowHasNoColumn 14 = .ok (.iload_n 1, 1) := by decide +kernel
theorem dX6_rowHasNoColumn_15 : decode cX6_rowHasNoColumn 15 = .ok (.invokestatic 246, 3) := by decide +kernel
theorem dX6_rowHasNoColumn_18 : decode cX6_rowHasNoColumn 18 = .ok (.iconst 4, 1) := by decide +kernel
theorem dX6_rowHasNoColumn_19 : decode cX6_rowHasNoColumn 19 = .ok (.if_icmp .lt 5, 3) := by decide +kernel
theorem dX6_rowHasNoColumn_22 : decode cX6_rowHasNoColumn 22 = .ok (.iconst 1, 1) := by decide +kernel
theorem dX6_rowHasNoColumn_23 : decode cX6_rowHasNoColumn 23 = .ok (.ireturn, 1) := by decide +kernel
theorem dX6_rowHasNoColumn_24 : decode cX6_rowHasNoColumn 24 = .ok (.iinc 1 1, 3) := by decide +kernel
theorem dX6_rowHasNoColumn_27 : decode cX6_rowHasNoColumn 27 = .ok (.goto (-25), 3) := by decide +kernel
theorem dX6_rowHasNoColumn_30 : decode cX6_rowHasNoColumn 30 = .ok (.iconst 0, 1) := by decide +kernel
theorem dX6_rowHasNoColumn_31 : decode cX6_rowHasNoColumn 31 = .ok (.ireturn, 1) := by decide +kernel
theorem dX6_worthByRow_0 : decode cX6_worthByRow 0 = .ok (.aload_n 0, 1) := by decide +kernel
theorem dX6_worthByRow_1 : decode cX6_worthByRow 1 = .ok (.getfield 36, 3) := by decide +kernel
theorem dX6_worthByRow_4 : decode cX6_worthByRow 4 = .ok (.aload_n 0, 1) := by decide +kernel
theorem dX6_worthByRow_5 : decode cX6_worthByRow 5 = .ok (.getfield 10, 3) := by decide +kernel
theorem dX6_worthByRow_8 : decode cX6_worthByRow 8 = .ok (.getfield 109, 3) := by decide +kernel
theorem dX6_worthByRow_11 : decode cX6_worthByRow 11 = .ok (.invokevirtual 204, 3) := by decide +kernel
theorem dX6_worthByRow_14 : decode cX6_worthByRow 14 = .ok (.aload_n 0, 1) := by decide +kernel
theorem dX6_worthByRow_15 : decode cX6_worthByRow 15 = .ok (.getfield 36, 3) := by decide +kernel
theorem dX6_worthByRow_18 : decode cX6_worthByRow 18 = .ok (.iload_n 2, 1) := by decide +kernel
theorem dX6_worthByRow_19 : decode cX6_worthByRow 19 = .ok (.putfield 282, 3) := by decide +kernel
theorem dX6_worthByRow_22 : decode cX6_worthByRow 22 = .ok (.aload_n 0, 1) := by decide +kernel
theorem dX6_worthByRow_23 : decode cX6_worthByRow 23 = .ok (.getfield 43, 3) := by decide +kernel
theorem dX6_worthByRow_26 : decode cX6_worthByRow 26 = .ok (.aload_n 1, 1) := by decide +kernel
theorem dX6_worthByRow_27 : decode cX6_worthByRow 27 = .ok (.invokevirtual 199, 3) := by decide +kernel
theorem dX6_worthByRow_30 : decode cX6_worthByRow 30 = .ok (.iconst 0, 1) := by decide +kernel
theorem dX6_worthByRow_31 : decode cX6_worthByRow 31 = .ok (.istore_n 3, 1) := by decide +kernel
theorem dX6_worthByRow_32 : decode cX6_worthByRow 32 = .ok (.iload_n 3, 1) := by decide +kernel
theorem dX6_worthByRow_33 : decode cX6_worthByRow 33 = .ok (.aload_n 0, 1) := by decide +kernel
theorem dX6_worthByRow_34 : decode cX6_worthByRow 34 = .ok (.getfield 54, 3) := by decide +kernel
theorem dX6_worthByRow_37 : decode cX6_worthByRow 37 = .ok (.if_icmp .ge 36, 3) := by decide +kernel
theorem dX6_worthByRow_40 : decode cX6_worthByRow 40 = .ok (.aload_n 0, 1) := by decide +kernel
theorem dX6_worthByRow_41 : decode cX6_worthByRow 41 = .ok (.getfield 43, 3) := by decide +kernel
theorem dX6_worthByRow_44 : decode cX6_worthByRow 44 = .ok (.aload_n 0, 1) := by decide +kernel
theorem dX6_worthByRow_45 : decode cX6_worthByRow 45 = .ok (.getfield 10, 3) := by decide +kernel
theorem dX6_worthByRow_48 : decode cX6_worthByRow 48 = .ok (.getfield 81, 3) := by decide +kernel
theorem dX6_worthByRow_51 : decode cX6_worthByRow 51 = .ok (.aload_n 0, 1) := by decide +kernel
theorem dX6_worthByRow_52 : decode cX6_worthByRow 52 = .ok (.getfield 36, 3) := by decide +kernel
theorem dX6_worthByRow_55 : decode cX6_worthByRow 55 = .ok (.aload_n 0, 1) := by decide +kernel
theorem dX6_worthByRow_56 : decode cX6_worthByRow 56 = .ok (.getfield 47, 3) := by decide +kernel
theorem dX6_worthByRow_59 : decode cX6_worthByRow 59 = .ok (.iload_n 3, 1) := by decide +kernel
theorem dX6_worthByRow_60 : decode cX6_worthByRow 60 = .ok (.invokestatic 246, 3) := by decide +kernel
theorem dX6_worthByRow_63 : decode cX6_worthByRow 63 = .ok (.invokevirtual 169, 3) := by decide +kernel
theorem dX6_worthByRow_66 : decode cX6_worthByRow 66 = .ok (.pop, 1) := by decide +kernel
theorem dX6_worthByRow_67 : decode cX6_worthByRow 67 = .ok (.iinc 3 1, 3) := by decide +kernel
theorem dX6_worthByRow_70 : decode cX6_worthByRow 70 = .ok (.goto (-38), 3) := by decide +kernel
theorem dX6_worthByRow_73 : decode cX6_worthByRow 73 = .ok (.aload_n 0, 1) := by decide +kernel
theorem dX6_worthByRow_74 : decode cX6_worthByRow 74 = .ok (.getfield 10, 3) := by decide +kernel
theorem dX6_worthByRow_77 : decode cX6_worthByRow 77 = .ok (.getfield 81, 3) := by decide +kernel
theorem dX6_worthByRow_80 : decode cX6_worthByRow 80 = .ok (.aload_n 0, 1) := by decide +kernel
theorem dX6_worthByRow_81 : decode cX6_worthByRow 81 = .ok (.getfield 43, 3) := by decide +kernel
theorem dX6_worthByRow_84 : decode cX6_worthByRow 84 = .ok (.getfield 146, 3) := by decide +kernel
theorem dX6_worthByRow_87 : decode cX6_worthByRow 87 = .ok (.invokevirtual 155, 3) := by decide +kernel
theorem dX6_worthByRow_90 : decode cX6_worthByRow 90 = .ok (.ireturn, 1) := by decide +kernel
theorem dX6_goesOn_0 : decode cX6_goesOn 0 = .ok (.aload_n 1, 1) := by decide +kernel
theorem dX6_goesOn_1 : decode cX6_goesOn 1 = .ok (.getfield 149, 3) := by decide +kernel
theorem dX6_goesOn_4 : decode cX6_goesOn 4 = .ok (.ifCond .eq 5, 3) := by decide +kernel
theorem dX6_goesOn_7 : decode cX6_goesOn 7 = .ok (.iconst 0, 1) := by decide +kernel
theorem dX6_goesOn_8 : decode cX6_goesOn 8 = .ok (.ireturn, 1) := by decide +kernel
theorem dX6_goesOn_9 : decode cX6_goesOn 9 = .ok (.iload_n 2, 1) := by decide +kernel
theorem dX6_goesOn_10 : decode cX6_goesOn 10 = .ok (.bipush 9, 2) := by decide +kernel
theorem dX6_goesOn_12 : decode cX6_goesOn 12 = .ok (.if_icmp .ne 28, 3) := by decide +kernel
theorem dX6_goesOn_15 : decode cX6_goesOn 15 = .ok (.aload_n 1, 1) := by decide +kernel
theorem dX6_goesOn_16 : decode cX6_goesOn 16 = .ok (.aload_n 0, 1) := by decide +kernel
theorem dX6_goesOn_17 : decode cX6_goesOn 17 = .ok (.getfield 10, 3) := by decide +kernel
theorem dX6_goesOn_20 : decode cX6_goesOn 20 = .ok (.getfield 109, 3) := by decide +kernel
theorem dX6_goesOn_23 : decode cX6_goesOn 23 = .ok (.iconst 1, 1) := by decide +kernel
theorem dX6_goesOn_24 : decode cX6_goesOn 24 = .ok (.invokevirtual 173, 3) := by decide +kernel
theorem dX6_goesOn_27 : decode cX6_goesOn 27 = .ok (.aload_n 1, 1) := by decide +kernel
theorem dX6_goesOn_28 : decode cX6_goesOn 28 = .ok (.getfield 149, 3) := by decide +kernel
theorem dX6_goesOn_31 : decode cX6_goesOn 31 = .ok (.ifCond .ne 7, 3) := by decide +kernel
theorem dX6_goesOn_34 : decode cX6_goesOn 34 = .ok (.iconst 1, 1) := by decide +kernel
theorem dX6_goesOn_35 : decode cX6_goesOn 35 = .ok (.goto 4, 3) := by decide +kernel
theorem dX6_goesOn_38 : decode cX6_goesOn 38 = .ok (.iconst 0, 1) := by decide +kernel
theorem dX6_goesOn_39 : decode cX6_goesOn 39 = .ok (.ireturn, 1) := by decide +kernel
theorem dX6_goesOn_40 : decode cX6_goesOn 40 = .ok (.aload_n 1, 1) := by decide +kernel
theorem dX6_goesOn_41 : decode cX6_goesOn 41 = .ok (.aload_n 0, 1) := by decide +kernel
theorem dX6_goesOn_42 : decode cX6_goesOn 42 = .ok (.getfield 10, 3) := by decide +kernel
theorem dX6_goesOn_45 : decode cX6_goesOn 45 = .ok (.getfield 81, 3) := by decide +kernel
theorem dX6_goesOn_48 : decode cX6_goesOn 48 = .ok (.aload_n 0, 1) := by decide +kernel
theorem dX6_goesOn_49 : decode cX6_goesOn 49 = .ok (.getfield 10, 3) := by decide +kernel
theorem dX6_goesOn_52 : decode cX6_goesOn 52 = .ok (.getfield 109, 3) := by decide +kernel
theorem dX6_goesOn_55 : decode cX6_goesOn 55 = .ok (.iload_n 2, 1) := by decide +kernel
theorem dX6_goesOn_56 : decode cX6_goesOn 56 = .ok (.invokevirtual 169, 3) := by decide +kernel
theorem dX6_goesOn_59 : decode cX6_goesOn 59 = .ok (.ifCond .lt 7, 3) := by decide +kernel
theorem dX6_goesOn_62 : decode cX6_goesOn 62 = .ok (.iconst 1, 1) := by decide +kernel
theorem dX6_goesOn_63 : decode cX6_goesOn 63 = .ok (.goto 4, 3) := by decide +kernel
theorem dX6_goesOn_66 : decode cX6_goesOn 66 = .ok (.iconst 0, 1) := by decide +kernel
theorem dX6_goesOn_67 : decode cX6_goesOn 67 = .ok (.ireturn, 1) := by decide +kernel
