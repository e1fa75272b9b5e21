theorem dX0_init_0 : decode cX0_init 0 = .ok (.aload_n 0, 1) := by decide +kernel
theorem dX0_init_1 : decode cX0_init 1 = .ok (.invokespecial 3, 3) := by decide +kernel
theorem dX0_init_4 : decode cX0_init 4 = .ok (.aload_n 0, 1) := by decide +kernel
theorem dX0_init_5 : decode cX0_init 5 = .ok (.iconst 0, 1) := by decide +kernel
theorem dX0_init_6 : decode cX0_init 6 = .ok (.putfield 9, 3) := by decide +kernel
theorem dX0_init_9 : decode cX0_init 9 = .ok (.aload_n 0, 1) := by decide +kernel
theorem dX0_init_10 : decode cX0_init 10 = .ok (.iconst 0, 1) := by decide +kernel
theorem dX0_init_11 : decode cX0_init 11 = .ok (.putfield 15, 3) := by decide +kernel
theorem dX0_init_14 : decode cX0_init 14 = .ok (.aload_n 0, 1) := by decide +kernel
theorem dX0_init_15 : decode cX0_init 15 = .ok (.bipush 30, 2) := by decide +kernel
theorem dX0_init_17 : decode cX0_init 17 = .ok (.putfield 18, 3) := by decide +kernel
theorem dX0_init_20 : decode cX0_init 20 = .ok (.aload_n 0, 1) := by decide +kernel
theorem dX0_init_21 : decode cX0_init 21 = .ok (.iconst 0, 1) := by decide +kernel
theorem dX0_init_22 : decode cX0_init 22 = .ok (.putfield 21, 3) := by decide +kernel
theorem dX0_init_25 : decode cX0_init 25 = .ok (.aload_n 0, 1) := by decide +kernel
theorem dX0_init_26 : decode cX0_init 26 = .ok (.iconst 0, 1) := by decide +kernel
theorem dX0_init_27 : decode cX0_init 27 = .ok (.putfield 24, 3) := by decide +kernel
theorem dX0_init_30 : decode cX0_init 30 = .ok (.return_, 1) := by decide +kernel
theorem dX0_become_0 : decode cX0_become 0 = .ok (.aload_n 0, 1) := by decide +kernel
theorem dX0_become_1 : decode cX0_become 1 = .ok (.aload_n 1, 1) := by decide +kernel
theorem dX0_become_2 : decode cX0_become 2 = .ok (.getfield 9, 3) := by decide +kernel
theorem dX0_become_5 : decode cX0_become 5 = .ok (.putfield 9, 3) := by decide +kernel
theorem dX0_become_8 : decode cX0_become 8 = .ok (.aload_n 0, 1) := by decide +kernel
theorem dX0_become_9 : decode cX0_become 9 = .ok (.aload_n 1, 1) := by decide +kernel
theorem dX0_become_10 : decode cX0_become 10 = .ok (.getfield 15, 3) := by decide +kernel
theorem dX0_become_13 : decode cX0_become 13 = .ok (.putfield 15, 3) := by decide +kernel
theorem dX0_become_16 : decode cX0_become 16 = .ok (.aload_n 0, 1) := by decide +kernel
theorem dX0_become_17 : decode cX0_become 17 = .ok (.aload_n 1, 1) := by decide +kernel
theorem dX0_become_18 : decode cX0_become 18 = .ok (.getfield 18, 3) := by decide +kernel
theorem dX0_become_21 : decode cX0_become 21 = .ok (.putfield 18, 3) := by decide +kernel
theorem dX0_become_24 : decode cX0_become 24 = .ok (.aload_n 0, 1) := by decide +kernel
theorem dX0_become_25 : decode cX0_become 25 = .ok (.aload_n 1, 1) := by decide +kernel
theorem dX0_become_26 : decode cX0_become 26 = .ok (.getfield 21, 3) := by decide +kernel
theorem dX0_become_29 : decode cX0_become 29 = .ok (.putfield 21, 3) := by decide +kernel
theorem dX0_become_32 : decode cX0_become 32 = .ok (.aload_n 0, 1) := by decide +kernel
theorem dX0_become_33 : decode cX0_become 33 = .ok (.aload_n 1, 1) := by decide +kernel
theorem dX0_become_34 : decode cX0_become 34 = .ok (.getfield 24, 3) := by decide +kernel
theorem dX0_become_37 : decode cX0_become 37 = .ok (.putfield 24, 3) := by decide +kernel
theorem dX0_become_40 : decode cX0_become 40 = .ok (.return_, 1) := by decide +kernel
theorem dX0_turnsAt_0 : decode cX0_turnsAt 0 = .ok (.iconst 0, 1) := by decide +kernel
theorem dX0_turnsAt_1 : decode cX0_turnsAt 1 = .ok (.aload_n 0, 1) := by decide +kernel
theorem dX0_turnsAt_2 : decode cX0_turnsAt 2 = .ok (.getfield 18, 3) := by decide +kernel
theorem dX0_turnsAt_5 : decode cX0_turnsAt 5 = .ok (.aload_n 0, 1) := by decide +kernel
theorem dX0_turnsAt_6 : decode cX0_turnsAt 6 = .ok (.iload_n 1, 1) := by decide +kernel
theorem dX0_turnsAt_7 : decode cX0_turnsAt 7 = .ok (.invokevirtual 27, 3) := by decide +kernel
theorem dX0_turnsAt_10 : decode cX0_turnsAt 10 = .ok (.iadd, 1) := by decide +kernel
theorem dX0_turnsAt_11 : decode cX0_turnsAt 11 = .ok (.aload_n 0, 1) := by decide +kernel
theorem dX0_turnsAt_12 : decode cX0_turnsAt 12 = .ok (.getfield 24, 3) := by decide +kernel
theorem dX0_turnsAt_15 : decode cX0_turnsAt 15 = .ok (.isub, 1) := by decide +kernel
theorem dX0_turnsAt_16 : decode cX0_turnsAt 16 = .ok (.invokestatic 31, 3) := by decide +kernel
theorem dX0_turnsAt_19 : decode cX0_turnsAt 19 = .ok (.ireturn, 1) := by decide +kernel
theorem dX0_delay_0 : decode cX0_delay 0 = .ok (.aload_n 0, 1) := by decide +kernel
theorem dX0_delay_1 : decode cX0_delay 1 = .ok (.getfield 9, 3) := by decide +kernel
theorem dX0_delay_4 : decode cX0_delay 4 = .ok (.tableswitch 65 1 4 #[32, 39, 50, 55], 32) := by decide +kernel
theorem dX0_delay_36 : decode cX0_delay 36 = .ok (.iconst 3, 1) := by decide +kernel
theorem dX0_delay_37 : decode cX0_delay 37 = .ok (.aload_n 0, 1) := by decide +kernel
theorem dX0_delay_38 : decode cX0_delay 38 = .ok (.getfield 15, 3) := by decide +kernel
theorem dX0_delay_41 : decode cX0_delay 41 = .ok (.imul, 1) := by decide +kernel
theorem dX0_delay_42 : decode cX0_delay 42 = .ok (.ireturn, 1) := by decide +kernel
theorem dX0_delay_43 : decode cX0_delay 43 = .ok (.iconst 3, 1) := by decide +kernel
theorem dX0_delay_44 : decode cX0_delay 44 = .ok (.aload_n 0, 1) := by decide +kernel
theorem dX0_delay_45 : decode cX0_delay 45 = .ok (.getfield 15, 3) := by decide +kernel
theorem dX0_delay_48 : decode cX0_delay 48 = .ok (.imul, 1) := by decide +kernel
theorem dX0_delay_49 : decode cX0_delay 49 = .ok (.iconst 5, 1) := by decide +kernel
theorem dX0_delay_50 : decode cX0_delay 50 = .ok (.iload_n 1, 1) := by decide +kernel
theorem dX0_delay_51 : decode cX0_delay 51 = .ok (.imul, 1) := by decide +kernel
theorem dX0_delay_52 : decode cX0_delay 52 = .ok (.iadd, 1) := by decide +kernel
theorem dX0_delay_53 : decode cX0_delay 53 = .ok (.ireturn, 1) := by decide +kernel
theorem dX0_delay_54 : decode cX0_delay 54 = .ok (.bipush (-4), 2) := by decide +kernel
theorem dX0_delay_56 : decode cX0_delay 56 = .ok (.iload_n 1, 1) := by decide +kernel
theorem dX0_delay_57 : decode cX0_delay 57 = .ok (.imul, 1) := by decide +kernel
theorem dX0_delay_58 : decode cX0_delay 58 = .ok (.ireturn, 1) := by decide +kernel
theorem dX0_delay_59 : decode cX0_delay 59 = .ok (.bipush (-4), 2) := by decide +kernel
theorem dX0_delay_61 : decode cX0_delay 61 = .ok (.iload_n 1, 1) := by decide +kernel
theorem dX0_delay_62 : decode cX0_delay 62 = .ok (.imul, 1) := by decide +kernel
theorem dX0_delay_63 : decode cX0_delay 63 = .ok (.aload_n 0, 1) := by decide +kernel
theorem dX0_delay_64 : decode cX0_delay 64 = .ok (.getfield 15, 3) := by decide +kernel
theorem dX0_delay_67 : decode cX0_delay 67 = .ok (.isub, 1) := by decide +kernel
theorem dX0_delay_68 : decode cX0_delay 68 = .ok (.ireturn, 1) := by decide +kernel
theorem dX0_delay_69 : decode cX0_delay 69 = .ok (.iconst 0, 1) := by decide +kernel
theorem dX0_delay_70 : decode cX0_delay 70 = .ok (.ireturn, 1) := by decide +kernel
theorem dX0_columnsFor_0 : decode cX0_columnsFor 0 = .ok (.iconst 0, 1) := by decide +kernel
theorem dX0_columnsFor_1 : decode cX0_columnsFor 1 = .ok (.istore_n 2, 1) := by decide +kernel
theorem dX0_columnsFor_2 : decode cX0_columnsFor 2 = .ok (.iconst 0, 1) := by decide +kernel
theorem dX0_columnsFor_3 : decode cX0_columnsFor 3 = .ok (.istore_n 3, 1) := by decide +kernel
theorem dX0_columnsFor_4 : decode cX0_columnsFor 4 = .ok (.iload_n 3, 1) := by decide +kernel
theorem dX0_columnsFor_5 : decode cX0_columnsFor 5 = .ok (.iconst 4, 1) := by decide +kernel
theorem dX0_columnsFor_6 : decode cX0_columnsFor 6 = .ok (.if_icmp .ge 24, 3) := by decide +kernel
theorem dX0_columnsFor_9 : decode cX0_columnsFor 9 = .ok (.aload_n 0, 1) := by decide +kernel
theorem dX0_columnsFor_10 : decode cX0_columnsFor 10 = .ok (.iload_n 3, 1) := by decide +kernel
theorem dX0_columnsFor_11 : decode cX0_columnsFor 11 = .ok (.iload_n 1, 1) := by decide +kernel
theorem dX0_columnsFor_12 : decode cX0_columnsFor 12 = .ok (.invokevirtual 37, 3) := by decide +kernel
theorem dX0_columnsFor_15 : decode cX0_columnsFor 15 = .ok (.ifCond .eq 9, 3) := by decide +kernel
theorem dX0_columnsFor_18 : decode cX0_columnsFor 18 = .ok (.iload_n 2, 1) := by decide +kernel
theorem dX0_columnsFor_19 : decode cX0_columnsFor 19 = .ok (.iconst 1, 1) := by decide +kernel
theorem dX0_columnsFor_20 : decode cX0_columnsFor 20 = .ok (.iload_n 3, 1) := by decide +kernel
theorem dX0_columnsFor_21 : decode cX0_columnsFor 21 = .ok (.ishl, 1) := by decide +kernel
theorem dX0_columnsFor_22 : decode cX0_columnsFor 22 = .ok (.ior, 1) := by decide +kernel
theorem dX0_columnsFor_23 : decode cX0_columnsFor 23 = .ok (.istore_n 2, 1) := by decide +kernel
theorem dX0_columnsFor_24 : decode cX0_columnsFor 24 = .ok (.iinc 3 1, 3) := by decide +kernel
theorem dX0_columnsFor_27 : decode cX0_columnsFor 27 = .ok (.goto (-23), 3) := by decide +kernel
theorem dX0_columnsFor_30 : decode cX0_columnsFor 30 = .ok (.iload_n 2, 1) := by decide +kernel
theorem dX0_columnsFor_31 : decode cX0_columnsFor 31 = .ok (.ireturn, 1) := by decide +kernel
theorem dX0_isShown_0 : decode cX0_isShown 0 = .ok (.iload_n 1, 1) := by decide +kernel
theorem dX0_isShown_1 : decode cX0_isShown 1 = .ok (.aload_n 0, 1) := by decide +kernel
theorem dX0_isShown_2 : decode cX0_isShown 2 = .ok (.getfield 21, 3) := by decide +kernel
theorem dX0_isShown_5 : decode cX0_isShown 5 = .ok (.iadd, 1) := by decide +kernel
theorem dX0_isShown_6 : decode cX0_isShown 6 = .ok (.iload_n 2, 1) := by decide +kernel
theorem dX0_isShown_7 : decode cX0_isShown 7 = .ok (.isub, 1) := by decide +kernel
theorem dX0_isShown_8 : decode cX0_isShown 8 = .ok (.invokestatic 41, 3) := by decide +kernel
theorem dX0_isShown_11 : decode cX0_isShown 11 = .ok (.istore_n 3, 1) := by decide +kernel
theorem dX0_isShown_12 : decode cX0_isShown 12 = .ok (.aload_n 0, 1) := by decide +kernel
theorem dX0_isShown_13 : decode cX0_isShown 13 = .ok (.getfield 9, 3) := by decide +kernel
theorem dX0_isShown_16 : decode cX0_isShown 16 = .ok (.lookupswitch 59 #[(4, 28), (5, 38)], 28) := by decide +kernel
theorem dX0_isShown_44 : decode cX0_isShown 44 = .ok (.iload_n 3, 1) := by decide +kernel
theorem dX0_isShown_45 : decode cX0_isShown 45 = .ok (.ifCond .ne 7, 3) := by decide +kernel
theorem dX0_isShown_48 : decode cX0_isShown 48 = .ok (.iconst 1, 1) := by decide +kernel
theorem dX0_isShown_49 : decode cX0_isShown 49 = .ok (.goto 4, 3) := by decide +kernel
theorem dX0_isShown_52 : decode cX0_isShown 52 = .ok (.iconst 0, 1) := by decide +kernel
theorem dX0_isShown_53 : decode cX0_isShown 53 = .ok (.ireturn, 1) := by decide +kernel
theorem dX0_isShown_54 : decode cX0_isShown 54 = .ok (.iload_n 3, 1) := by decide +kernel
theorem dX0_isShown_55 : decode cX0_isShown 55 = .ok (.iconst 1, 1) := by decide +kernel
theorem dX0_isShown_56 : decode cX0_isShown 56 = .ok (.if_icmp .gt 17, 3) := by decide +kernel
theorem dX0_isShown_59 : decode cX0_isShown 59 = .ok (.iload_n 1, 1) := by decide +kernel
theorem dX0_isShown_60 : decode cX0_isShown 60 = .ok (.aload_n 0, 1) := by decide +kernel
theorem dX0_isShown_61 : decode cX0_isShown 61 = .ok (.getfield 15, 3) := by decide +kernel
theorem dX0_isShown_64 : decode cX0_isShown 64 = .ok (.iconst 4, 1) := by decide +kernel
theorem dX0_isShown_65 : decode cX0_isShown 65 = .ok (.irem, 1) := by decide +kernel
theorem dX0_isShown_66 : decode cX0_isShown 66 = .ok (.if_icmp .lt 7, 3) := by decide +kernel
theorem dX0_isShown_69 : decode cX0_isShown 69 = .ok (.iconst 1, 1) := by decide +kernel
theorem dX0_isShown_70 : decode cX0_isShown 70 = .ok (.goto 4, 3) := by decide +kernel
theorem dX0_isShown_73 : decode cX0_isShown 73 = .ok (.iconst 0, 1) := by decide +kernel
theorem dX0_isShown_74 : decode cX0_isShown 74 = .ok (.ireturn, 1) := by decide +kernel
theorem dX0_isShown_75 : decode cX0_isShown 75 = .ok (.iload_n 3, 1) := by decide +kernel
theorem dX0_isShown_76 : decode cX0_isShown 76 = .ok (.iconst 1, 1) := by decide +kernel
theorem dX0_isShown_77 : decode cX0_isShown 77 = .ok (.if_icmp .gt 7, 3) := by decide +kernel
theorem dX0_isShown_80 : decode cX0_isShown 80 = .ok (.iconst 1, 1) := by decide +kernel
theorem dX0_isShown_81 : decode cX0_isShown 81 = .ok (.goto 4, 3) := by decide +kernel
theorem dX0_isShown_84 : decode cX0_isShown 84 = .ok (.iconst 0, 1) := by decide +kernel
theorem dX0_isShown_85 : decode cX0_isShown 85 = .ok (.ireturn, 1) := by decide +kernel
theorem dX1_init_0 : decode cX1_init 0 = .ok (.aload_n 0, 1) := by decide +kernel
theorem dX1_init_1 : decode cX1_init 1 = .ok (.invokespecial 3, 3) := by decide +kernel
theorem dX1_init_4 : decode cX1_init 4 = .ok (.aload_n 0, 1) := by decide +kernel
theorem dX1_init_5 : decode cX1_init 5 = .ok (.bipush 96, 2) := by decide +kernel
theorem dX1_init_7 : decode cX1_init 7 = .ok (.newarray .int, 2) := by decide +kernel
theorem dX1_init_9 : decode cX1_init 9 = .ok (.putfield 9, 3) := by decide +kernel
theorem dX1_init_12 : decode cX1_init 12 = .ok (.aload_n 0, 1) := by decide +kernel
theorem dX1_init_13 : decode cX1_init 13 = .ok (.iconst 0, 1) := by decide +kernel
theorem dX1_init_14 : decode cX1_init 14 = .ok (.putfield 15, 3) := by decide +kernel
theorem dX1_init_17 : decode cX1_init 17 = .ok (.return_, 1) := by decide +kernel
theorem dX1_isFull_0 : decode cX1_isFull 0 = .ok (.aload_n 0, 1) := by decide +kernel
theorem dX1_isFull_1 : decode cX1_isFull 1 = .ok (.getfield 15, 3) := by decide +kernel
theorem dX1_isFull_4 : decode cX1_isFull 4 = .ok (.bipush 96, 2) := by decide +kernel
theorem dX1_isFull_6 : decode cX1_isFull 6 = .ok (.if_icmp .lt 7, 3) := by decide +kernel
theorem dX1_isFull_9 : decode cX1_isFull 9 = .ok (.iconst 1, 1) := by decide +kernel
theorem dX1_isFull_10 : decode cX1_isFull 10 = .ok (.goto 4, 3) := by decide +kernel
theorem dX1_isFull_13 : decode cX1_isFull 13 = .ok (.iconst 0, 1) := by decide +kernel
theorem dX1_isFull_14 : decode cX1_isFull 14 = .ok (.ireturn, 1) := by decide +kernel
theorem dX1_add_0 : decode cX1_add 0 = .ok (.aload_n 0, 1) := by decide +kernel
theorem dX1_add_1 : decode cX1_add 1 = .ok (.invokevirtual 19, 3) := by decide +kernel
theorem dX1_add_4 : decode cX1_add 4 = .ok (.ifCond .ne 25, 3) := by decide +kernel
theorem dX1_add_7 : decode cX1_add 7 = .ok (.aload_n 0, 1) := by decide +kernel
theorem dX1_add_8 : decode cX1_add 8 = .ok (.getfield 9, 3) := by decide +kernel
theorem dX1_add_11 : decode cX1_add 11 = .ok (.aload_n 0, 1) := by decide +kernel
theorem dX1_add_12 : decode cX1_add 12 = .ok (.getfield 15, 3) := by decide +kernel
theorem dX1_add_15 : decode cX1_add 15 = .ok (.iload_n 1, 1) := by decide +kernel
theorem dX1_add_16 : decode cX1_add 16 = .ok (.invokestatic 23, 3) := by decide +kernel
theorem dX1_add_19 : decode cX1_add 19 = .ok (.aload_n 0, 1) := by decide +kernel
theorem dX1_add_20 : decode cX1_add 20 = .ok (.dup, 1) := by decide +kernel
theorem dX1_add_21 : decode cX1_add 21 = .ok (.getfield 15, 3) := by decide +kernel
theorem dX1_add_24 : decode cX1_add 24 = .ok (.iconst 1, 1) := by decide +kernel
theorem dX1_add_25 : decode cX1_add 25 = .ok (.iadd, 1) := by decide +kernel
theorem dX1_add_26 : decode cX1_add 26 = .ok (.putfield 15, 3) := by decide +kernel
theorem dX1_add_29 : decode cX1_add 29 = .ok (.return_, 1) := by decide +kernel
theorem dX1_formFault_0 : decode cX1_formFault 0 = .ok (.iconst 0, 1) := by decide +kernel
theorem dX1_formFault_1 : decode cX1_formFault 1 = .ok (.istore_n 1, 1) := by decide +kernel
theorem dX1_formFault_2 : decode cX1_formFault 2 = .ok (.iconst 0, 1) := by decide +kernel
theorem dX1_formFault_3 : decode cX1_formFault 3 = .ok (.istore_n 2, 1) := by decide +kernel
theorem dX1_formFault_4 : decode cX1_formFault 4 = .ok (.iload_n 2, 1) := by decide +kernel
theorem dX1_formFault_5 : decode cX1_formFault 5 = .ok (.bipush 96, 2) := by decide +kernel
theorem dX1_formFault_7 : decode cX1_formFault 7 = .ok (.if_icmp .ge 37, 3) := by decide +kernel
theorem dX1_formFault_10 : decode cX1_formFault 10 = .ok (.iload_n 2, 1) := by decide +kernel
theorem dX1_formFault_11 : decode cX1_formFault 11 = .ok (.ifCond .eq 11, 3) := by decide +kernel
theorem dX1_formFault_14 : decode cX1_formFault 14 = .ok (.iload_n 1, 1) := by decide +kernel
theorem dX1_formFault_15 : decode cX1_formFault 15 = .ok (.aload_n 0, 1) := by decide +kernel
theorem dX1_formFault_16 : decode cX1_formFault 16 = .ok (.getfield 15, 3) := by decide +kernel
theorem dX1_formFault_19 : decode cX1_formFault 19 = .ok (.if_icmp .ge 25, 3) := by decide +kernel
theorem dX1_formFault_22 : decode cX1_formFault 22 = .ok (.aload_n 0, 1) := by decide +kernel
theorem dX1_formFault_23 : decode cX1_formFault 23 = .ok (.iload_n 1, 1) := by decide +kernel
theorem dX1_formFault_24 : decode cX1_formFault 24 = .ok (.invokevirtual 27, 3) := by decide +kernel
theorem dX1_formFault_27 : decode cX1_formFault 27 = .ok (.istore_n 3, 1) := by decide +kernel
theorem dX1_formFault_28 : decode cX1_formFault 28 = .ok (.iload_n 3, 1) := by decide +kernel
theorem dX1_formFault_29 : decode cX1_formFault 29 = .ok (.ifCond .ge 7, 3) := by decide +kernel
theorem dX1_formFault_32 : decode cX1_formFault 32 = .ok (.iconst (-1), 1) := by decide +kernel
theorem dX1_formFault_33 : decode cX1_formFault 33 = .ok (.iload_n 3, 1) := by decide +kernel
theorem dX1_formFault_34 : decode cX1_formFault 34 = .ok (.isub, 1) := by decide +kernel
theorem dX1_formFault_35 : decode cX1_formFault 35 = .ok (.ireturn, 1) := by decide +kernel
theorem dX1_formFault_36 : decode cX1_formFault 36 = .ok (.iload_n 3, 1) := by decide +kernel
theorem dX1_formFault_37 : decode cX1_formFault 37 = .ok (.istore_n 1, 1) := by decide +kernel
theorem dX1_formFault_38 : decode cX1_formFault 38 = .ok (.iinc 2 1, 3) := by decide +kernel
theorem dX1_formFault_41 : decode cX1_formFault 41 = .ok (.goto (-37), 3) := by decide +kernel
theorem dX1_formFault_44 : decode cX1_formFault 44 = .ok (.bipush (-9), 2) := by decide +kernel
theorem dX1_formFault_46 : decode cX1_formFault 46 = .ok (.ireturn, 1) := by decide +kernel
theorem dX1_senseFault_0 : decode cX1_senseFault 0 = .ok (.iload_n 1, 1) := by decide +kernel
theorem dX1_senseFault_1 : decode cX1_senseFault 1 = .ok (.istore_n 3, 1) := by decide +kernel
theorem dX1_senseFault_2 : decode cX1_senseFault 2 = .ok (.iload_n 2, 1) := by decide +kernel
theorem dX1_senseFault_3 : decode cX1_senseFault 3 = .ok (.istore 4, 2) := by decide +kernel
theorem dX1_senseFault_5 : decode cX1_senseFault 5 = .ok (.iconst 0, 1) := by decide +kernel
theorem dX1_senseFault_6 : decode cX1_senseFault 6 = .ok (.istore 5, 2) := by decide +kernel
theorem dX1_senseFault_8 : decode cX1_senseFault 8 = .ok (.iconst 0, 1) := by decide +kernel
theorem dX1_senseFault_9 : decode cX1_senseFault 9 = .ok (.istore 6, 2) := by decide +kernel
theorem dX1_senseFault_11 : decode cX1_senseFault 11 = .ok (.iload 6, 2) := by decide +kernel
theorem dX1_senseFault_13 : decode cX1_senseFault 13 = .ok (.bipush 96, 2) := by decide +kernel
theorem dX1_senseFault_15 : decode cX1_senseFault 15 = .ok (.if_icmp .ge 95, 3) := by decide +kernel
theorem dX1_senseFault_18 : decode cX1_senseFault 18 = .ok (.iload 5, 2) := by decide +kernel
theorem dX1_senseFault_20 : decode cX1_senseFault 20 = .ok (.ifCond .lt 90, 3) := by decide +kernel
theorem dX1_senseFault_23 : decode cX1_senseFault 23 = .ok (.iload 5, 2) := by decide +kernel
theorem dX1_senseFault_25 : decode cX1_senseFault 25 = .ok (.aload_n 0, 1) := by decide +kernel
theorem dX1_senseFault_26 : decode cX1_senseFault 26 = .ok (.getfield 15, 3) := by decide +kernel
theorem dX1_senseFault_29 : decode cX1_senseFault 29 = .ok (.if_icmp .ge 81, 3) := by decide +kernel
theorem dX1_senseFault_32 : decode cX1_senseFault 32 = .ok (.aload_n 0, 1) := by decide +kernel
theorem dX1_senseFault_33 : decode cX1_senseFault 33 = .ok (.iload 5, 2) := by decide +kernel
theorem dX1_senseFault_35 : decode cX1_senseFault 35 = .ok (.invokevirtual 31, 3) := by decide +kernel
theorem dX1_senseFault_38 : decode cX1_senseFault 38 = .ok (.istore 7, 2) := by decide +kernel
theorem dX1_senseFault_40 : decode cX1_senseFault 40 = .ok (.iload_n 3, 1) := by decide +kernel
theorem dX1_senseFault_41 : decode cX1_senseFault 41 = .ok (.iload 7, 2) := by decide +kernel
theorem dX1_senseFault_43 : decode cX1_senseFault 43 = .ok (.bipush 108, 2) := by decide +kernel
theorem dX1_senseFault_45 : decode cX1_senseFault 45 = .ok (.if_icmp .ne 7, 3) := by decide +kernel
theorem dX1_senseFault_48 : decode cX1_senseFault 48 = .ok (.iconst 1, 1) := by decide +kernel
theorem dX1_senseFault_49 : decode cX1_senseFault 49 = .ok (.goto 4, 3) := by decide +kernel
theorem dX1_senseFault_52 : decode cX1_senseFault 52 = .ok (.iconst 0, 1) := by decide +kernel
theorem dX1_senseFault_53 : decode cX1_senseFault 53 = .ok (.iadd, 1) := by decide +kernel
theorem dX1_senseFault_54 : decode cX1_senseFault 54 = .ok (.istore_n 3, 1) := by decide +kernel
theorem dX1_senseFault_55 : decode cX1_senseFault 55 = .ok (.iload 4, 2) := by decide +kernel
theorem dX1_senseFault_57 : decode cX1_senseFault 57 = .ok (.iload 7, 2) := by decide +kernel
theorem dX1_senseFault_59 : decode cX1_senseFault 59 = .ok (.bipush 107, 2) := by decide +kernel
theorem dX1_senseFault_61 : decode cX1_senseFault 61 = .ok (.if_icmp .ne 7, 3) := by decide +kernel
theorem dX1_senseFault_64 : decode cX1_senseFault 64 = .ok (.iconst 1, 1) := by decide +kernel
theorem dX1_senseFault_65 : decode cX1_senseFault 65 = .ok (.goto 4, 3) := by decide +kernel
theorem dX1_senseFault_68 : decode cX1_senseFault 68 = .ok (.iconst 0, 1) := by decide +kernel
theorem dX1_senseFault_69 : decode cX1_senseFault 69 = .ok (.iadd, 1) := by decide +kernel
theorem dX1_senseFault_70 : decode cX1_senseFault 70 = .ok (.istore 4, 2) := by decide +kernel
theorem dX1_senseFault_72 : decode cX1_senseFault 72 = .ok (.iload_n 3, 1) := by decide +kernel
theorem dX1_senseFault_73 : decode cX1_senseFault 73 = .ok (.bipush 8, 2) := by decide +kernel
theorem dX1_senseFault_75 : decode cX1_senseFault 75 = .ok (.if_icmp .gt 18, 3) := by decide +kernel
theorem dX1_senseFault_78 : decode cX1_senseFault 78 = .ok (.iload 4, 2) := by decide +kernel
theorem dX1_senseFault_80 : decode cX1_senseFault 80 = .ok (.iconst 4, 1) := by decide +kernel
theorem dX1_senseFault_81 : decode cX1_senseFault 81 = .ok (.if_icmp .gt 12, 3) := by decide +kernel
theorem dX1_senseFault_84 : decode cX1_senseFault 84 = .ok (.aload_n 0, 1) := by decide +kernel
theorem dX1_senseFault_85 : decode cX1_senseFault 85 = .ok (.iload 5, 2) := by decide +kernel
theorem dX1_senseFault_87 : decode cX1_senseFault 87 = .ok (.invokevirtual 34, 3) := by decide +kernel
theorem dX1_senseFault_90 : decode cX1_senseFault 90 = .ok (.ifCond .ne 6, 3) := by decide +kernel
theorem dX1_senseFault_93 : decode cX1_senseFault 93 = .ok (.iload 5, 2) := by decide +kernel
theorem dX1_senseFault_95 : decode cX1_senseFault 95 = .ok (.ireturn, 1) := by decide +kernel
theorem dX1_senseFault_96 : decode cX1_senseFault 96 = .ok (.aload_n 0, 1) := by decide +kernel
theorem dX1_senseFault_97 : decode cX1_senseFault 97 = .ok (.iload 5, 2) := by decide +kernel
theorem dX1_senseFault_99 : decode cX1_senseFault 99 = .ok (.invokevirtual 27, 3) := by decide +kernel
theorem dX1_senseFault_102 : decode cX1_senseFault 102 = .ok (.istore 5, 2) := by decide +kernel
theorem dX1_senseFault_104 : decode cX1_senseFault 104 = .ok (.iinc 6 1, 3) := by decide +kernel
theorem dX1_senseFault_107 : decode cX1_senseFault 107 = .ok (.goto (-96), 3) := by decide +kernel
theorem dX1_senseFault_110 : decode cX1_senseFault 110 = .ok (.bipush (-9), 2) := by decide +kernel
theorem dX1_senseFault_112 : decode cX1_senseFault 112 = .ok (.ireturn, 1) := by decide +kernel
theorem dX1_bringAll_0 : decode cX1_bringAll 0 = .ok (.iconst 0, 1) := by decide +kernel
theorem dX1_bringAll_1 : decode cX1_bringAll 1 = .ok (.istore_n 2, 1) := by decide +kernel
theorem dX1_bringAll_2 : decode cX1_bringAll 2 = .ok (.iconst 0, 1) := by decide +kernel
theorem dX1_bringAll_3 : decode cX1_bringAll 3 = .ok (.istore_n 3, 1) := by decide +kernel
theorem dX1_bringAll_4 : decode cX1_bringAll 4 = .ok (.iload_n 3, 1) := by decide +kernel
theorem dX1_bringAll_5 : decode cX1_bringAll 5 = .ok (.bipush 96, 2) := by decide +kernel
theorem dX1_bringAll_7 : decode cX1_bringAll 7 = .ok (.if_icmp .ge 33, 3) := by decide +kernel
theorem dX1_bringAll_10 : decode cX1_bringAll 10 = .ok (.iload_n 2, 1) := by decide +kernel
theorem dX1_bringAll_11 : decode cX1_bringAll 11 = .ok (.ifCond .lt 29, 3) := by decide +kernel
theorem dX1_bringAll_14 : decode cX1_bringAll 14 = .ok (.iload_n 2, 1) := by decide +kernel
theorem dX1_bringAll_15 : decode cX1_bringAll 15 = .ok (.aload_n 0, 1) := by decide +kernel
theorem dX1_bringAll_16 : decode cX1_bringAll 16 = .ok (.getfield 15, 3) := by decide +kernel
theorem dX1_bringAll_19 : decode cX1_bringAll 19 = .ok (.if_icmp .ge 21, 3) := by decide +kernel
theorem dX1_bringAll_22 : decode cX1_bringAll 22 = .ok (.aload_n 0, 1) := by decide +kernel
theorem dX1_bringAll_23 : decode cX1_bringAll 23 = .ok (.aload_n 1, 1) := by decide +kernel
theorem dX1_bringAll_24 : decode cX1_bringAll 24 = .ok (.iload_n 2, 1) := by decide +kernel
theorem dX1_bringAll_25 : decode cX1_bringAll 25 = .ok (.invokevirtual 38, 3) := by decide +kernel
theorem dX1_bringAll_28 : decode cX1_bringAll 28 = .ok (.aload_n 0, 1) := by decide +kernel
theorem dX1_bringAll_29 : decode cX1_bringAll 29 = .ok (.iload_n 2, 1) := by decide +kernel
theorem dX1_bringAll_30 : decode cX1_bringAll 30 = .ok (.invokevirtual 27, 3) := by decide +kernel
theorem dX1_bringAll_33 : decode cX1_bringAll 33 = .ok (.istore_n 2, 1) := by decide +kernel
theorem dX1_bringAll_34 : decode cX1_bringAll 34 = .ok (.iinc 3 1, 3) := by decide +kernel
theorem dX1_bringAll_37 : decode cX1_bringAll 37 = .ok (.goto (-33), 3) := by decide +kernel
theorem dX1_bringAll_40 : decode cX1_bringAll 40 = .ok (.iload_n 3, 1) := by decide +kernel
theorem dX1_bringAll_41 : decode cX1_bringAll 41 = .ok (.ireturn, 1) := by decide +kernel
theorem dX1_bring_0 : decode cX1_bring 0 = .ok (.aload_n 0, 1) := by decide +kernel
theorem dX1_bring_1 : decode cX1_bring 1 = .ok (.iload_n 2, 1) := by decide +kernel
theorem dX1_bring_2 : decode cX1_bring 2 = .ok (.invokevirtual 31, 3) := by decide +kernel
theorem dX1_bring_5 : decode cX1_bring 5 = .ok (.lookupswitch 135 #[(104, 73), (108, 35), (116, 118)], 35) := by decide +kernel
theorem dX1_bring_40 : decode cX1_bring 40 = .ok (.aload_n 1, 1) := by decide +kernel
theorem dX1_bring_41 : decode cX1_bring 41 = .ok (.getfield 42, 3) := by decide +kernel
theorem dX1_bring_44 : decode cX1_bring 44 = .ok (.aload_n 0, 1) := by decide +kernel
theorem dX1_bring_45 : decode cX1_bring 45 = .ok (.iload_n 2, 1) := by decide +kernel
theorem dX1_bring_46 : decode cX1_bring 46 = .ok (.iconst 1, 1) := by decide +kernel
theorem dX1_bring_47 : decode cX1_bring 47 = .ok (.iadd, 1) := by decide +kernel
theorem dX1_bring_48 : decode cX1_bring 48 = .ok (.invokevirtual 48, 3) := by decide +kernel
theorem dX1_bring_51 : decode cX1_bring 51 = .ok (.aload_n 0, 1) := by decide +kernel
theorem dX1_bring_52 : decode cX1_bring 52 = .ok (.iload_n 2, 1) := by decide +kernel
theorem dX1_bring_53 : decode cX1_bring 53 = .ok (.iconst 2, 1) := by decide +kernel
theorem dX1_bring_54 : decode cX1_bring 54 = .ok (.iadd, 1) := by decide +kernel
theorem dX1_bring_55 : decode cX1_bring 55 = .ok (.invokevirtual 48, 3) := by decide +kernel
theorem dX1_bring_58 : decode cX1_bring 58 = .ok (.aload_n 0, 1) := by decide +kernel
theorem dX1_bring_59 : decode cX1_bring 59 = .ok (.iload_n 2, 1) := by decide +kernel
theorem dX1_bring_60 : decode cX1_bring 60 = .ok (.iconst 3, 1) := by decide +kernel
theorem dX1_bring_61 : decode cX1_bring 61 = .ok (.iadd, 1) := by decide +kernel
theorem dX1_bring_62 : decode cX1_bring 62 = .ok (.invokevirtual 48, 3) := by decide +kernel
theorem dX1_bring_65 : decode cX1_bring 65 = .ok (.aload_n 0, 1) := by decide +kernel
theorem dX1_bring_66 : decode cX1_bring 66 = .ok (.iload_n 2, 1) := by decide +kernel
theorem dX1_bring_67 : decode cX1_bring 67 = .ok (.iconst 4, 1) := by decide +kernel
theorem dX1_bring_68 : decode cX1_bring 68 = .ok (.iadd, 1) := by decide +kernel
theorem dX1_bring_69 : decode cX1_bring 69 = .ok (.invokevirtual 48, 3) := by decide +kernel
theorem dX1_bring_72 : decode cX1_bring 72 = .ok (.invokevirtual 51, 3) := by decide +kernel
theorem dX1_bring_75 : decode cX1_bring 75 = .ok (.goto 90, 3) := by decide +kernel
theorem dX1_bring_78 : decode cX1_bring 78 = .ok (.aload_n 1, 1) := by decide +kernel
theorem dX1_bring_79 : decode cX1_bring 79 = .ok (.getfield 57, 3) := by decide +kernel
theorem dX1_bring_82 : decode cX1_bring 82 = .ok (.aload_n 0, 1) := by decide +kernel
theorem dX1_bring_83 : decode cX1_bring 83 = .ok (.iload_n 2, 1) := by decide +kernel
theorem dX1_bring_84 : decode cX1_bring 84 = .ok (.iconst 1, 1) := by decide +kernel
theorem dX1_bring_85 : decode cX1_bring 85 = .ok (.iadd, 1) := by decide +kernel
theorem dX1_bring_86 : decode cX1_bring 86 = .ok (.invokevirtual 48, 3) := by decide +kernel
theorem dX1_bring_89 : decode cX1_bring 89 = .ok (.putfield 61, 3) := by decide +kernel
theorem dX1_bring_92 : decode cX1_bring 92 = .ok (.aload_n 1, 1) := by decide +kernel
theorem dX1_bring_93 : decode cX1_bring 93 = .ok (.getfield 57, 3) := by decide +kernel
theorem dX1_bring_96 : decode cX1_bring 96 = .ok (.aload_n 0, 1) := by decide +kernel
theorem dX1_bring_97 : decode cX1_bring 97 = .ok (.iload_n 2, 1) := by decide +kernel
theorem dX1_bring_98 : decode cX1_bring 98 = .ok (.iconst 2, 1) := by decide +kernel
theorem dX1_bring_99 : decode cX1_bring 99 = .ok (.iadd, 1) := by decide +kernel
theorem dX1_bring_100 : decode cX1_bring 100 = .ok (.invokevirtual 48, 3) := by decide +kernel
theorem dX1_bring_103 : decode cX1_bring 103 = .ok (.putfield 66, 3) := by decide +kernel
theorem dX1_bring_106 : decode cX1_bring 106 = .ok (.aload_n 1, 1) := by decide +kernel
theorem dX1_bring_107 : decode cX1_bring 107 = .ok (.getfield 57, 3) := by decide +kernel
theorem dX1_bring_110 : decode cX1_bring 110 = .ok (.aload_n 0, 1) := by decide +kernel
theorem dX1_bring_111 : decode cX1_bring 111 = .ok (.iload_n 2, 1) := by decide +kernel
theorem dX1_bring_112 : decode cX1_bring 112 = .ok (.iconst 3, 1) := by decide +kernel
theorem dX1_bring_113 : decode cX1_bring 113 = .ok (.iadd, 1) := by decide +kernel
theorem dX1_bring_114 : decode cX1_bring 114 = .ok (.invokevirtual 69, 3) := by decide +kernel
theorem dX1_bring_117 : decode cX1_bring 117 = .ok (.putfield 72, 3) := by decide +kernel
theorem dX1_bring_120 : decode cX1_bring 120 = .ok (.goto 45, 3) := by decide +kernel
theorem dX1_bring_123 : decode cX1_bring 123 = .ok (.aload_n 1, 1) := by decide +kernel
theorem dX1_bring_124 : decode cX1_bring 124 = .ok (.getfield 57, 3) := by decide +kernel
theorem dX1_bring_127 : decode cX1_bring 127 = .ok (.aload_n 0, 1) := by decide +kernel
theorem dX1_bring_128 : decode cX1_bring 128 = .ok (.iload_n 2, 1) := by decide +kernel
theorem dX1_bring_129 : decode cX1_bring 129 = .ok (.iconst 1, 1) := by decide +kernel
theorem dX1_bring_130 : decode cX1_bring 130 = .ok (.iadd, 1) := by decide +kernel
theorem dX1_bring_131 : decode cX1_bring 131 = .ok (.invokevirtual 75, 3) := by decide +kernel
theorem dX1_bring_134 : decode cX1_bring 134 = .ok (.putfield 78, 3) := by decide +kernel
theorem dX1_bring_137 : decode cX1_bring 137 = .ok (.goto 28, 3) := by decide +kernel
theorem dX1_bring_140 : decode cX1_bring 140 = .ok (.aload_n 1, 1) := by decide +kernel
theorem dX1_bring_141 : decode cX1_bring 141 = .ok (.aload_n 0, 1) := by decide +kernel
theorem dX1_bring_142 : decode cX1_bring 142 = .ok (.iload_n 2, 1) := by decide +kernel
theorem dX1_bring_143 : decode cX1_bring 143 = .ok (.iconst 1, 1) := by decide +kernel
theorem dX1_bring_144 : decode cX1_bring 144 = .ok (.iadd, 1) := by decide +kernel
theorem dX1_bring_145 : decode cX1_bring 145 = .ok (.invokevirtual 48, 3) := by decide +kernel
theorem dX1_bring_148 : decode cX1_bring 148 = .ok (.aload_n 0, 1) := by decide +kernel
theorem dX1_bring_149 : decode cX1_bring 149 = .ok (.iload_n 2, 1) := by decide +kernel
theorem dX1_bring_150 : decode cX1_bring 150 = .ok (.iconst 2, 1) := by decide +kernel
theorem dX1_bring_151 : decode cX1_bring 151 = .ok (.iadd, 1) := by decide +kernel
theorem dX1_bring_152 : decode cX1_bring 152 = .ok (.invokevirtual 48, 3) := by decide +kernel
theorem dX1_bring_155 : decode cX1_bring 155 = .ok (.aload_n 0, 1) := by decide +kernel
theorem dX1_bring_156 : decode cX1_bring 156 = .ok (.iload_n 2, 1) := by decide +kernel
theorem dX1_bring_157 : decode cX1_bring 157 = .ok (.iconst 3, 1) := by decide +kernel
theorem dX1_bring_158 : decode cX1_bring 158 = .ok (.iadd, 1) := by decide +kernel
theorem dX1_bring_159 : decode cX1_bring 159 = .ok (.invokevirtual 69, 3) := by decide +kernel
theorem dX1_bring_162 : decode cX1_bring 162 = .ok (.invokevirtual 81, 3) := by decide +kernel
theorem dX1_bring_165 : decode cX1_bring 165 = .ok (.return_, 1) := by decide +kernel
theorem dX1_isInRange_0 : decode cX1_isInRange 0 = .ok (.aload_n 0, 1) := by decide +kernel
theorem dX1_isInRange_1 : decode cX1_isInRange 1 = .ok (.iload_n 1, 1) := by decide +kernel
theorem dX1_isInRange_2 : decode cX1_isInRange 2 = .ok (.iconst 1, 1) := by decide +kernel
theorem dX1_isInRange_3 : decode cX1_isInRange 3 = .ok (.iadd, 1) := by decide +kernel
theorem dX1_isInRange_4 : decode cX1_isInRange 4 = .ok (.invokevirtual 48, 3) := by decide +kernel
theorem dX1_isInRange_7 : decode cX1_isInRange 7 = .ok (.istore_n 2, 1) := by decide +kernel
theorem dX1_isInRange_8 : decode cX1_isInRange 8 = .ok (.aload_n 0, 1) := by decide +kernel
theorem dX1_isInRange_9 : decode cX1_isInRange 9 = .ok (.iload_n 1, 1) := by decide +kernel
theorem dX1_isInRange_10 : decode cX1_isInRange 10 = .ok (.iconst 2, 1) := by decide +kernel
theorem dX1_isInRange_11 : decode cX1_isInRange 11 = .ok (.iadd, 1) := by decide +kernel
theorem dX1_isInRange_12 : decode cX1_isInRange 12 = .ok (.invokevirtual 48, 3) := by decide +kernel
theorem dX1_isInRange_15 : decode cX1_isInRange 15 = .ok (.istore_n 3, 1) := by decide +kernel
theorem dX1_isInRange_16 : decode cX1_isInRange 16 = .ok (.aload_n 0, 1) := by decide +kernel
theorem dX1_isInRange_17 : decode cX1_isInRange 17 = .ok (.iload_n 1, 1) := by decide +kernel
theorem dX1_isInRange_18 : decode cX1_isInRange 18 = .ok (.invokevirtual 31, 3) := by decide +kernel
theorem dX1_isInRange_21 : decode cX1_isInRange 21 = .ok (.tableswitch 130 104 108 #[63, 130, 130, 87, 35], 35) := by decide +kernel
theorem dX1_isInRange_56 : decode cX1_isInRange 56 = .ok (.iload_n 2, 1) := by decide +kernel
theorem dX1_isInRange_57 : decode cX1_isInRange 57 = .ok (.iconst 4, 1) := by decide +kernel
theorem dX1_isInRange_58 : decode cX1_isInRange 58 = .ok (.if_icmp .ge 24, 3) := by decide +kernel
theorem dX1_isInRange_61 : decode cX1_isInRange 61 = .ok (.iload_n 3, 1) := by decide +kernel
theorem dX1_isInRange_62 : decode cX1_isInRange 62 = .ok (.bipush 6, 2) := by decide +kernel
theorem dX1_isInRange_64 : decode cX1_isInRange 64 = .ok (.if_icmp .ge 18, 3) := by decide +kernel
theorem dX1_isInRange_67 : decode cX1_isInRange 67 = .ok (.aload_n 0, 1) := by decide +kernel
theorem dX1_isInRange_68 : decode cX1_isInRange 68 = .ok (.iload_n 1, 1) := by decide +kernel
theorem dX1_isInRange_69 : decode cX1_isInRange 69 = .ok (.iconst 4, 1) := by decide +kernel
theorem dX1_isInRange_70 : decode cX1_isInRange 70 = .ok (.iadd, 1) := by decide +kernel
theorem dX1_isInRange_71 : decode cX1_isInRange 71 = .ok (.invokevirtual 48, 3) := by decide +kernel
theorem dX1_isInRange_74 : decode cX1_isInRange 74 = .ok (.iconst 1, 1) := by decide +kernel
theorem dX1_isInRange_75 : decode cX1_isInRange 75 = .ok (.if_icmp .lt 7, 3) := by decide +kernel
theorem dX1_isInRange_78 : decode cX1_isInRange 78 = .ok (.iconst 1, 1) := by decide +kernel
theorem dX1_isInRange_79 : decode cX1_isInRange 79 = .ok (.goto 4, 3) := by decide +kernel
theorem dX1_isInRange_82 : decode cX1_isInRange 82 = .ok (.iconst 0, 1) := by decide +kernel
theorem dX1_isInRange_83 : decode cX1_isInRange 83 = .ok (.ireturn, 1) := by decide +kernel
theorem dX1_isInRange_84 : decode cX1_isInRange 84 = .ok (.iload_n 2, 1) := by decide +kernel
theorem dX1_isInRange_85 : decode cX1_isInRange 85 = .ok (.bipush 6, 2) := by decide +kernel
theorem dX1_isInRange_87 : decode cX1_isInRange 87 = .ok (.if_icmp .ge 19, 3) := by decide +kernel
theorem dX1_isInRange_90 : decode cX1_isInRange 90 = .ok (.aload_n 0, 1) := by decide +kernel
theorem dX1_isInRange_91 : decode cX1_isInRange 91 = .ok (.iload_n 1, 1) := by decide +kernel
theorem dX1_isInRange_92 : decode cX1_isInRange 92 = .ok (.iconst 3, 1) := by decide +kernel
theorem dX1_isInRange_93 : decode cX1_isInRange 93 = .ok (.iadd, 1) := by decide +kernel
theorem dX1_isInRange_94 : decode cX1_isInRange 94 = .ok (.invokevirtual 69, 3) := by decide +kernel
theorem dX1_isInRange_97 : decode cX1_isInRange 97 = .ok (.bipush 10, 2) := by decide +kernel
theorem dX1_isInRange_99 : decode cX1_isInRange 99 = .ok (.if_icmp .lt 7, 3) := by decide +kernel
theorem dX1_isInRange_102 : decode cX1_isInRange 102 = .ok (.iconst 1, 1) := by decide +kernel
theorem dX1_isInRange_103 : decode cX1_isInRange 103 = .ok (.goto 4, 3) := by decide +kernel
theorem dX1_isInRange_106 : decode cX1_isInRange 106 = .ok (.iconst 0, 1) := by decide +kernel
theorem dX1_isInRange_107 : decode cX1_isInRange 107 = .ok (.ireturn, 1) := by decide +kernel
theorem dX1_isInRange_108 : decode cX1_isInRange 108 = .ok (.aload_n 0, 1) := by decide +kernel
theorem dX1_isInRange_109 : decode cX1_isInRange 109 = .ok (.iload_n 1, 1) := by decide +kernel
theorem dX1_isInRange_110 : decode cX1_isInRange 110 = .ok (.iconst 3, 1) := by decide +kernel
theorem dX1_isInRange_111 : decode cX1_isInRange 111 = .ok (.iadd, 1) := by decide +kernel
theorem dX1_isInRange_112 : decode cX1_isInRange 112 = .ok (.invokevirtual 69, 3) := by decide +kernel
theorem dX1_isInRange_115 : decode cX1_isInRange 115 = .ok (.istore 4, 2) := by decide +kernel
theorem dX1_isInRange_117 : decode cX1_isInRange 117 = .ok (.iload_n 2, 1) := by decide +kernel
theorem dX1_isInRange_118 : decode cX1_isInRange 118 = .ok (.iconst 3, 1) := by decide +kernel
theorem dX1_isInRange_119 : decode cX1_isInRange 119 = .ok (.if_icmp .ge 30, 3) := by decide +kernel
theorem dX1_isInRange_122 : decode cX1_isInRange 122 = .ok (.iload_n 3, 1) := by decide +kernel
theorem dX1_isInRange_123 : decode cX1_isInRange 123 = .ok (.iconst 1, 1) := by decide +kernel
theorem dX1_isInRange_124 : decode cX1_isInRange 124 = .ok (.if_icmp .lt 25, 3) := by decide +kernel
theorem dX1_isInRange_127 : decode cX1_isInRange 127 = .ok (.iload_n 3, 1) := by decide +kernel
theorem dX1_isInRange_128 : decode cX1_isInRange 128 = .ok (.iconst 4, 1) := by decide +kernel
theorem dX1_isInRange_129 : decode cX1_isInRange 129 = .ok (.if_icmp .gt 20, 3) := by decide +kernel
theorem dX1_isInRange_132 : decode cX1_isInRange 132 = .ok (.iload 4, 2) := by decide +kernel
theorem dX1_isInRange_134 : decode cX1_isInRange 134 = .ok (.iconst 1, 1) := by decide +kernel
theorem dX1_isInRange_135 : decode cX1_isInRange 135 = .ok (.if_icmp .lt 14, 3) := by decide +kernel
theorem dX1_isInRange_138 : decode cX1_isInRange 138 = .ok (.iload 4, 2) := by decide +kernel
theorem dX1_isInRange_140 : decode cX1_isInRange 140 = .ok (.bipush 30, 2) := by decide +kernel
theorem dX1_isInRange_142 : decode cX1_isInRange 142 = .ok (.if_icmp .gt 7, 3) := by decide +kernel
theorem dX1_isInRange_145 : decode cX1_isInRange 145 = .ok (.iconst 1, 1) := by decide +kernel
theorem dX1_isInRange_146 : decode cX1_isInRange 146 = .ok (.goto 4, 3) := by decide +kernel
theorem dX1_isInRange_149 : decode cX1_isInRange 149 = .ok (.iconst 0, 1) := by decide +kernel
theorem dX1_isInRange_150 : decode cX1_isInRange 150 = .ok (.ireturn, 1) := by decide +kernel
theorem dX1_isInRange_151 : decode cX1_isInRange 151 = .ok (.iconst 1, 1) := by decide +kernel
theorem dX1_isInRange_152 : decode cX1_isInRange 152 = .ok (.ireturn, 1) := by decide +kernel
theorem dX1_behindStatement_0 : decode cX1_behindStatement 0 = .ok (.aload_n 0, 1) := by decide +kernel
theorem dX1_behindStatement_1 : decode cX1_behindStatement 1 = .ok (.iload_n 1, 1) := by decide +kernel
theorem dX1_behindStatement_2 : decode cX1_behindStatement 2 = .ok (.invokevirtual 31, 3) := by decide +kernel
theorem dX1_behindStatement_5 : decode cX1_behindStatement 5 = .ok (.lookupswitch 71 #[(104, 43), (107, 53), (108, 43), (116, 63)], 43) := by decide +kernel
theorem dX1_behindStatement_48 : decode cX1_behindStatement 48 = .ok (.aload_n 0, 1) := by decide +kernel
theorem dX1_behindStatement_49 : decode cX1_behindStatement 49 = .ok (.iload_n 1, 1) := by decide +kernel
theorem dX1_behindStatement_50 : decode cX1_behindStatement 50 = .ok (.iconst 1, 1) := by decide +kernel
theorem dX1_behindStatement_51 : decode cX1_behindStatement 51 = .ok (.iadd, 1) := by decide +kernel
theorem dX1_behindStatement_52 : decode cX1_behindStatement 52 = .ok (.iconst 4, 1) := by decide +kernel
theorem dX1_behindStatement_53 : decode cX1_behindStatement 53 = .ok (.iconst 4, 1) := by decide +kernel
theorem dX1_behindStatement_54 : decode cX1_behindStatement 54 = .ok (.invokevirtual 85, 3) := by decide +kernel
theorem dX1_behindStatement_57 : decode cX1_behindStatement 57 = .ok (.ireturn, 1) := by decide +kernel
theorem dX1_behindStatement_58 : decode cX1_behindStatement 58 = .ok (.aload_n 0, 1) := by decide +kernel
theorem dX1_behindStatement_59 : decode cX1_behindStatement 59 = .ok (.iload_n 1, 1) := by decide +kernel
theorem dX1_behindStatement_60 : decode cX1_behindStatement 60 = .ok (.iconst 1, 1) := by decide +kernel
theorem dX1_behindStatement_61 : decode cX1_behindStatement 61 = .ok (.iadd, 1) := by decide +kernel
theorem dX1_behindStatement_62 : decode cX1_behindStatement 62 = .ok (.iconst 3, 1) := by decide +kernel
theorem dX1_behindStatement_63 : decode cX1_behindStatement 63 = .ok (.iconst 4, 1) := by decide +kernel
theorem dX1_behindStatement_64 : decode cX1_behindStatement 64 = .ok (.invokevirtual 85, 3) := by decide +kernel
theorem dX1_behindStatement_67 : decode cX1_behindStatement 67 = .ok (.ireturn, 1) := by decide +kernel
theorem dX1_behindStatement_68 : decode cX1_behindStatement 68 = .ok (.aload_n 0, 1) := by decide +kernel
theorem dX1_behindStatement_69 : decode cX1_behindStatement 69 = .ok (.iload_n 1, 1) := by decide +kernel
theorem dX1_behindStatement_70 : decode cX1_behindStatement 70 = .ok (.iconst 1, 1) := by decide +kernel
theorem dX1_behindStatement_71 : decode cX1_behindStatement 71 = .ok (.iadd, 1) := by decide +kernel
theorem dX1_behindStatement_72 : decode cX1_behindStatement 72 = .ok (.invokevirtual 89, 3) := by decide +kernel
theorem dX1_behindStatement_75 : decode cX1_behindStatement 75 = .ok (.ireturn, 1) := by decide +kernel
theorem dX1_behindStatement_76 : decode cX1_behindStatement 76 = .ok (.iconst (-1), 1) := by decide +kernel
theorem dX1_behindStatement_77 : decode cX1_behindStatement 77 = .ok (.iload_n 1, 1) := by decide +kernel
theorem dX1_behindStatement_78 : decode cX1_behindStatement 78 = .ok (.isub, 1) := by decide +kernel
theorem dX1_behindStatement_79 : decode cX1_behindStatement 79 = .ok (.ireturn, 1) := by decide +kernel
theorem dX1_behindDigits_0 : decode cX1_behindDigits 0 = .ok (.iconst 0, 1) := by decide +kernel
theorem dX1_behindDigits_1 : decode cX1_behindDigits 1 = .ok (.istore 4, 2) := by decide +kernel
theorem dX1_behindDigits_3 : decode cX1_behindDigits 3 = .ok (.iload 4, 2) := by decide +kernel
theorem dX1_behindDigits_5 : decode cX1_behindDigits 5 = .ok (.iload_n 3, 1) := by decide +kernel
theorem dX1_behindDigits_6 : decode cX1_behindDigits 6 = .ok (.if_icmp .ge 23, 3) := by decide +kernel
theorem dX1_behindDigits_9 : decode cX1_behindDigits 9 = .ok (.aload_n 0, 1) := by decide +kernel
theorem dX1_behindDigits_10 : decode cX1_behindDigits 10 = .ok (.iload_n 1, 1) := by decide +kernel
theorem dX1_behindDigits_11 : decode cX1_behindDigits 11 = .ok (.iload 4, 2) := by decide +kernel
theorem dX1_behindDigits_13 : decode cX1_behindDigits 13 = .ok (.iadd, 1) := by decide +kernel
theorem dX1_behindDigits_14 : decode cX1_behindDigits 14 = .ok (.invokevirtual 31, 3) := by decide +kernel
theorem dX1_behindDigits_17 : decode cX1_behindDigits 17 = .ok (.invokestatic 92, 3) := by decide +kernel
theorem dX1_behindDigits_20 : decode cX1_behindDigits 20 = .ok (.ifCond .eq 9, 3) := by decide +kernel
theorem dX1_behindDigits_23 : decode cX1_behindDigits 23 = .ok (.iinc 4 1, 3) := by decide +kernel
theorem dX1_behindDigits_26 : decode cX1_behindDigits 26 = .ok (.goto (-23), 3) := by decide +kernel
theorem dX1_behindDigits_29 : decode cX1_behindDigits 29 = .ok (.iload_n 1, 1) := by decide +kernel
theorem dX1_behindDigits_30 : decode cX1_behindDigits 30 = .ok (.iload 4, 2) := by decide +kernel
theorem dX1_behindDigits_32 : decode cX1_behindDigits 32 = .ok (.iadd, 1) := by decide +kernel
theorem dX1_behindDigits_33 : decode cX1_behindDigits 33 = .ok (.istore 5, 2) := by decide +kernel
theorem dX1_behindDigits_35 : decode cX1_behindDigits 35 = .ok (.iload 4, 2) := by decide +kernel
theorem dX1_behindDigits_37 : decode cX1_behindDigits 37 = .ok (.iload_n 2, 1) := by decide +kernel
theorem dX1_behindDigits_38 : decode cX1_behindDigits 38 = .ok (.if_icmp .lt 21, 3) := by decide +kernel
theorem dX1_behindDigits_41 : decode cX1_behindDigits 41 = .ok (.aload_n 0, 1) := by decide +kernel
theorem dX1_behindDigits_42 : decode cX1_behindDigits 42 = .ok (.iload 5, 2) := by decide +kernel
theorem dX1_behindDigits_44 : decode cX1_behindDigits 44 = .ok (.invokevirtual 31, 3) := by decide +kernel
theorem dX1_behindDigits_47 : decode cX1_behindDigits 47 = .ok (.bipush 59, 2) := by decide +kernel
theorem dX1_behindDigits_49 : decode cX1_behindDigits 49 = .ok (.if_icmp .ne 10, 3) := by decide +kernel
theorem dX1_behindDigits_52 : decode cX1_behindDigits 52 = .ok (.iload 5, 2) := by decide +kernel
theorem dX1_behindDigits_54 : decode cX1_behindDigits 54 = .ok (.iconst 1, 1) := by decide +kernel
theorem dX1_behindDigits_55 : decode cX1_behindDigits 55 = .ok (.iadd, 1) := by decide +kernel
theorem dX1_behindDigits_56 : decode cX1_behindDigits 56 = .ok (.goto 7, 3) := by decide +kernel
theorem dX1_behindDigits_59 : decode cX1_behindDigits 59 = .ok (.iconst (-1), 1) := by decide +kernel
theorem dX1_behindDigits_60 : decode cX1_behindDigits 60 = .ok (.iload 5, 2) := by decide +kernel
theorem dX1_behindDigits_62 : decode cX1_behindDigits 62 = .ok (.isub, 1) := by decide +kernel
theorem dX1_behindDigits_63 : decode cX1_behindDigits 63 = .ok (.ireturn, 1) := by decide +kernel
theorem dX1_behindTilt_0 : decode cX1_behindTilt 0 = .ok (.aload_n 0, 1) := by decide +kernel
theorem dX1_behindTilt_1 : decode cX1_behindTilt 1 = .ok (.iload_n 1, 1) := by decide +kernel
theorem dX1_behindTilt_2 : decode cX1_behindTilt 2 = .ok (.invokevirtual 31, 3) := by decide +kernel
theorem dX1_behindTilt_5 : decode cX1_behindTilt 5 = .ok (.istore_n 2, 1) := by decide +kernel
theorem dX1_behindTilt_6 : decode cX1_behindTilt 6 = .ok (.iload_n 2, 1) := by decide +kernel
theorem dX1_behindTilt_7 : decode cX1_behindTilt 7 = .ok (.bipush 43, 2) := by decide +kernel
theorem dX1_behindTilt_9 : decode cX1_behindTilt 9 = .ok (.if_icmp .eq 19, 3) := by decide +kernel
theorem dX1_behindTilt_12 : decode cX1_behindTilt 12 = .ok (.iload_n 2, 1) := by decide +kernel
theorem dX1_behindTilt_13 : decode cX1_behindTilt 13 = .ok (.bipush 45, 2) := by decide +kernel
theorem dX1_behindTilt_15 : decode cX1_behindTilt 15 = .ok (.if_icmp .eq 13, 3) := by decide +kernel
theorem dX1_behindTilt_18 : decode cX1_behindTilt 18 = .ok (.iload_n 2, 1) := by decide +kernel
theorem dX1_behindTilt_19 : decode cX1_behindTilt 19 = .ok (.bipush 48, 2) := by decide +kernel
theorem dX1_behindTilt_21 : decode cX1_behindTilt 21 = .ok (.if_icmp .eq 7, 3) := by decide +kernel
theorem dX1_behindTilt_24 : decode cX1_behindTilt 24 = .ok (.iconst (-1), 1) := by decide +kernel
theorem dX1_behindTilt_25 : decode cX1_behindTilt 25 = .ok (.iload_n 1, 1) := by decide +kernel
theorem dX1_behindTilt_26 : decode cX1_behindTilt 26 = .ok (.isub, 1) := by decide +kernel
theorem dX1_behindTilt_27 : decode cX1_behindTilt 27 = .ok (.ireturn, 1) := by decide +kernel
theorem dX1_behindTilt_28 : decode cX1_behindTilt 28 = .ok (.aload_n 0, 1) := by decide +kernel
theorem dX1_behindTilt_29 : decode cX1_behindTilt 29 = .ok (.iload_n 1, 1) := by decide +kernel
theorem dX1_behindTilt_30 : decode cX1_behindTilt 30 = .ok (.iconst 1, 1) := by decide +kernel
theorem dX1_behindTilt_31 : decode cX1_behindTilt 31 = .ok (.iadd, 1) := by decide +kernel
theorem dX1_behindTilt_32 : decode cX1_behindTilt 32 = .ok (.invokevirtual 31, 3) := by decide +kernel
theorem dX1_behindTilt_35 : decode cX1_behindTilt 35 = .ok (.bipush 59, 2) := by decide +kernel
theorem dX1_behindTilt_37 : decode cX1_behindTilt 37 = .ok (.if_icmp .ne 9, 3) := by decide +kernel
theorem dX1_behindTilt_40 : decode cX1_behindTilt 40 = .ok (.iload_n 1, 1) := by decide +kernel
theorem dX1_behindTilt_41 : decode cX1_behindTilt 41 = .ok (.iconst 2, 1) := by decide +kernel
theorem dX1_behindTilt_42 : decode cX1_behindTilt 42 = .ok (.iadd, 1) := by decide +kernel
theorem dX1_behindTilt_43 : decode cX1_behindTilt 43 = .ok (.goto 7, 3) := by decide +kernel
theorem dX1_behindTilt_46 : decode cX1_behindTilt 46 = .ok (.bipush (-2), 2) := by decide +kernel
theorem dX1_behindTilt_48 : decode cX1_behindTilt 48 = .ok (.iload_n 1, 1) := by decide +kernel
theorem dX1_behindTilt_49 : decode cX1_behindTilt 49 = .ok (.isub, 1) := by decide +kernel
theorem dX1_behindTilt_50 : decode cX1_behindTilt 50 = .ok (.ireturn, 1) := by decide +kernel
theorem dX1_tiltAt_0 : decode cX1_tiltAt 0 = .ok (.aload_n 0, 1) := by decide +kernel
theorem dX1_tiltAt_1 : decode cX1_tiltAt 1 = .ok (.iload_n 1, 1) := by decide +kernel
theorem dX1_tiltAt_2 : decode cX1_tiltAt 2 = .ok (.invokevirtual 31, 3) := by decide +kernel
theorem dX1_tiltAt_5 : decode cX1_tiltAt 5 = .ok (.lookupswitch 31 #[(43, 27), (45, 29)], 27) := by decide +kernel
theorem dX1_tiltAt_32 : decode cX1_tiltAt 32 = .ok (.iconst 1, 1) := by decide +kernel
theorem dX1_tiltAt_33 : decode cX1_tiltAt 33 = .ok (.ireturn, 1) := by decide +kernel
theorem dX1_tiltAt_34 : decode cX1_tiltAt 34 = .ok (.iconst (-1), 1) := by decide +kernel
theorem dX1_tiltAt_35 : decode cX1_tiltAt 35 = .ok (.ireturn, 1) := by decide +kernel
theorem dX1_tiltAt_36 : decode cX1_tiltAt 36 = .ok (.iconst 0, 1) := by decide +kernel
theorem dX1_tiltAt_37 : decode cX1_tiltAt 37 = .ok (.ireturn, 1) := by decide +kernel
theorem dX1_letterAt_0 : decode cX1_letterAt 0 = .ok (.iload_n 1, 1) := by decide +kernel
theorem dX1_letterAt_1 : decode cX1_letterAt 1 = .ok (.ifCond .lt 29, 3) := by decide +kernel
theorem dX1_letterAt_4 : decode cX1_letterAt 4 = .ok (.iload_n 1, 1) := by decide +kernel
theorem dX1_letterAt_5 : decode cX1_letterAt 5 = .ok (.aload_n 0, 1) := by decide +kernel
theorem dX1_letterAt_6 : decode cX1_letterAt 6 = .ok (.getfield 15, 3) := by decide +kernel
theorem dX1_letterAt_9 : decode cX1_letterAt 9 = .ok (.if_icmp .ge 21, 3) := by decide +kernel
theorem dX1_letterAt_12 : decode cX1_letterAt 12 = .ok (.iload_n 1, 1) := by decide +kernel
theorem dX1_letterAt_13 : decode cX1_letterAt 13 = .ok (.aload_n 0, 1) := by decide +kernel
theorem dX1_letterAt_14 : decode cX1_letterAt 14 = .ok (.getfield 9, 3) := by decide +kernel
theorem dX1_letterAt_17 : decode cX1_letterAt 17 = .ok (.arraylength, 1) := by decide +kernel
theorem dX1_letterAt_18 : decode cX1_letterAt 18 = .ok (.if_icmp .ge 12, 3) := by decide +kernel
theorem dX1_letterAt_21 : decode cX1_letterAt 21 = .ok (.aload_n 0, 1) := by decide +kernel
theorem dX1_letterAt_22 : decode cX1_letterAt 22 = .ok (.getfield 9, 3) := by decide +kernel
theorem dX1_letterAt_25 : decode cX1_letterAt 25 = .ok (.iload_n 1, 1) := by decide +kernel
theorem dX1_letterAt_26 : decode cX1_letterAt 26 = .ok (.iaload, 1) := by decide +kernel
theorem dX1_letterAt_27 : decode cX1_letterAt 27 = .ok (.goto 4, 3) := by decide +kernel
theorem dX1_letterAt_30 : decode cX1_letterAt 30 = .ok (.iconst (-1), 1) := by decide +kernel
theorem dX1_letterAt_31 : decode cX1_letterAt 31 = .ok (.ireturn, 1) := by decide +kernel
theorem dX1_digitAt_0 : decode cX1_digitAt 0 = .ok (.aload_n 0, 1) := by decide +kernel
theorem dX1_digitAt_1 : decode cX1_digitAt 1 = .ok (.iload_n 1, 1) := by decide +kernel
theorem dX1_digitAt_2 : decode cX1_digitAt 2 = .ok (.invokevirtual 31, 3) := by decide +kernel
theorem dX1_digitAt_5 : decode cX1_digitAt 5 = .ok (.istore_n 2, 1) := by decide +kernel
theorem dX1_digitAt_6 : decode cX1_digitAt 6 = .ok (.iload_n 2, 1) := by decide +kernel
theorem dX1_digitAt_7 : decode cX1_digitAt 7 = .ok (.invokestatic 92, 3) := by decide +kernel
theorem dX1_digitAt_10 : decode cX1_digitAt 10 = .ok (.ifCond .eq 10, 3) := by decide +kernel
theorem dX1_digitAt_13 : decode cX1_digitAt 13 = .ok (.iload_n 2, 1) := by decide +kernel
theorem dX1_digitAt_14 : decode cX1_digitAt 14 = .ok (.bipush 48, 2) := by decide +kernel
theorem dX1_digitAt_16 : decode cX1_digitAt 16 = .ok (.isub, 1) := by decide +kernel
theorem dX1_digitAt_17 : decode cX1_digitAt 17 = .ok (.goto 4, 3) := by decide +kernel
theorem dX1_digitAt_20 : decode cX1_digitAt 20 = .ok (.iconst 0, 1) := by decide +kernel
theorem dX1_digitAt_21 : decode cX1_digitAt 21 = .ok (.ireturn, 1) := by decide +kernel
theorem dX1_numberAt_0 : decode cX1_numberAt 0 = .ok (.aload_n 0, 1) := by decide +kernel
theorem dX1_numberAt_1 : decode cX1_numberAt 1 = .ok (.iload_n 1, 1) := by decide +kernel
theorem dX1_numberAt_2 : decode cX1_numberAt 2 = .ok (.invokevirtual 48, 3) := by decide +kernel
theorem dX1_numberAt_5 : decode cX1_numberAt 5 = .ok (.istore_n 2, 1) := by decide +kernel
theorem dX1_numberAt_6 : decode cX1_numberAt 6 = .ok (.aload_n 0, 1) := by decide +kernel
theorem dX1_numberAt_7 : decode cX1_numberAt 7 = .ok (.iload_n 1, 1) := by decide +kernel
theorem dX1_numberAt_8 : decode cX1_numberAt 8 = .ok (.iconst 1, 1) := by decide +kernel
theorem dX1_numberAt_9 : decode cX1_numberAt 9 = .ok (.iadd, 1) := by decide +kernel
theorem dX1_numberAt_10 : decode cX1_numberAt 10 = .ok (.invokevirtual 31, 3) := by decide +kernel
theorem dX1_numberAt_13 : decode cX1_numberAt 13 = .ok (.invokestatic 92, 3) := by decide +kernel
theorem dX1_numberAt_16 : decode cX1_numberAt 16 = .ok (.ifCond .eq 18, 3) := by decide +kernel
theorem dX1_numberAt_19 : decode cX1_numberAt 19 = .ok (.bipush 10, 2) := by decide +kernel
theorem dX1_numberAt_21 : decode cX1_numberAt 21 = .ok (.iload_n 2, 1) := by decide +kernel
theorem dX1_numberAt_22 : decode cX1_numberAt 22 = .ok (.imul, 1) := by decide +kernel
theorem dX1_numberAt_23 : decode cX1_numberAt 23 = .ok (.aload_n 0, 1) := by decide +kernel
theorem dX1_numberAt_24 : decode cX1_numberAt 24 = .ok (.iload_n 1, 1) := by decide +kernel
theorem dX1_numberAt_25 : decode cX1_numberAt 25 = .ok (.iconst 1, 1) := by decide +kernel
theorem dX1_numberAt_26 : decode cX1_numberAt 26 = .ok (.iadd, 1) := by decide +kernel
theorem dX1_numberAt_27 : decode cX1_numberAt 27 = .ok (.invokevirtual 48, 3) := by decide +kernel
theorem dX1_numberAt_30 : decode cX1_numberAt 30 = .ok (.iadd, 1) := by decide +kernel
theorem dX1_numberAt_31 : decode cX1_numberAt 31 = .ok (.goto 4, 3) := by decide +kernel
theorem dX1_numberAt_34 : decode cX1_numberAt 34 = .ok (.iload_n 2, 1) := by decide +kernel
theorem dX1_numberAt_35 : decode cX1_numberAt 35 = .ok (.ireturn, 1) := by decide +kernel
theorem dX1_isDigit_0 : decode cX1_isDigit 0 = .ok (.iload_n 0, 1) := by decide +kernel
theorem dX1_isDigit_1 : decode cX1_isDigit 1 = .ok (.bipush 48, 2) := by decide +kernel
theorem dX1_isDigit_3 : decode cX1_isDigit 3 = .ok (.if_icmp .lt 13, 3) := by decide +kernel
theorem dX1_isDigit_6 : decode cX1_isDigit 6 = .ok (.iload_n 0, 1) := by decide +kernel
theorem dX1_isDigit_7 : decode cX1_isDigit 7 = .ok (.bipush 57, 2) := by decide +kernel
theorem dX1_isDigit_9 : decode cX1_isDigit 9 = .ok (.if_icmp .gt 7, 3) := by decide +kernel
theorem dX1_isDigit_12 : decode cX1_isDigit 12 = .ok (.iconst 1, 1) := by decide +kernel
theorem dX1_isDigit_13 : decode cX1_isDigit 13 = .ok (.goto 4, 3) := by decide +kernel
theorem dX1_isDigit_16 : decode cX1_isDigit 16 = .ok (.iconst 0, 1) := by decide +kernel
theorem dX1_isDigit_17 : decode cX1_isDigit 17 = .ok (.ireturn, 1) := by decide +kernel
theorem dX2_init_0 : decode cX2_init 0 = .ok (.aload_n 0, 1) := by decide +kernel
theorem dX2_init_1 : decode cX2_init 1 = .ok (.invokespecial 3, 3) := by decide +kernel
theorem dX2_init_4 : decode cX2_init 4 = .ok (.aload_n 0, 1) := by decide +kernel
theorem dX2_init_5 : decode cX2_init 5 = .ok (.iconst 0, 1) := by decide +kernel
theorem dX2_init_6 : decode cX2_init 6 = .ok (.putfield 9, 3) := by decide +kernel
theorem dX2_init_9 : decode cX2_init 9 = .ok (.aload_n 0, 1) := by decide +kernel
theorem dX2_init_10 : decode cX2_init 10 = .ok (.iconst 1, 1) := by decide +kernel
theorem dX2_init_11 : decode cX2_init 11 = .ok (.putfield 15, 3) := by decide +kernel
theorem dX2_init_14 : decode cX2_init 14 = .ok (.aload_n 0, 1) := by decide +kernel
theorem dX2_init_15 : decode cX2_init 15 = .ok (.iconst 1, 1) := by decide +kernel
theorem dX2_init_16 : decode cX2_init 16 = .ok (.putfield 18, 3) := by decide +kernel
theorem dX2_init_19 : decode cX2_init 19 = .ok (.aload_n 0, 1) := by decide +kernel
theorem dX2_init_20 : decode cX2_init 20 = .ok (.iconst 0, 1) := by decide +kernel
theorem dX2_init_21 : decode cX2_init 21 = .ok (.putfield 21, 3) := by decide +kernel
theorem dX2_init_24 : decode cX2_init 24 = .ok (.aload_n 0, 1) := by decide +kernel
theorem dX2_init_25 : decode cX2_init 25 = .ok (.iconst 0, 1) := by decide +kernel
theorem dX2_init_26 : decode cX2_init 26 = .ok (.putfield 24, 3) := by decide +kernel
theorem dX2_init_29 : decode cX2_init 29 = .ok (.aload_n 0, 1) := by decide +kernel
theorem dX2_init_30 : decode cX2_init 30 = .ok (.iconst 0, 1) := by decide +kernel
theorem dX2_init_31 : decode cX2_init 31 = .ok (.putfield 27, 3) := by decide +kernel
theorem dX2_init_34 : decode cX2_init 34 = .ok (.aload_n 0, 1) := by decide +kernel
theorem dX2_init_35 : decode cX2_init 35 = .ok (.iconst 0, 1) := by decide +kernel
theorem dX2_init_36 : decode cX2_init 36 = .ok (.putfield 30, 3) := by decide +kernel
theorem dX2_init_39 : decode cX2_init 39 = .ok (.aload_n 0, 1) := by decide +kernel
theorem dX2_init_40 : decode cX2_init 40 = .ok (.iconst 0, 1) := by decide +kernel
theorem dX2_init_41 : decode cX2_init 41 = .ok (.putfield 33, 3) := by decide +kernel
theorem dX2_init_44 : decode cX2_init 44 = .ok (.return_, 1) := by decide +kernel
theorem dX2_come_0 : decode cX2_come 0 = .ok (.aload_n 0, 1) := by decide +kernel
theorem dX2_come_1 : decode cX2_come 1 = .ok (.iload_n 1, 1) := by decide +kernel
theorem dX2_come_2 : decode cX2_come 2 = .ok (.putfield 9, 3) := by decide +kernel
theorem dX2_come_5 : decode cX2_come 5 = .ok (.aload_n 0, 1) := by decide +kernel
theorem dX2_come_6 : decode cX2_come 6 = .ok (.iload_n 2, 1) := by decide +kernel
theorem dX2_come_7 : decode cX2_come 7 = .ok (.putfield 15, 3) := by decide +kernel
theorem dX2_come_10 : decode cX2_come 10 = .ok (.aload_n 0, 1) := by decide +kernel
theorem dX2_come_11 : decode cX2_come 11 = .ok (.iload_n 3, 1) := by decide +kernel
theorem dX2_come_12 : decode cX2_come 12 = .ok (.putfield 18, 3) := by decide +kernel
theorem dX2_come_15 : decode cX2_come 15 = .ok (.aload_n 0, 1) := by decide +kernel
theorem dX2_come_16 : decode cX2_come 16 = .ok (.invokevirtual 37, 3) := by decide +kernel
theorem dX2_come_19 : decode cX2_come 19 = .ok (.return_, 1) := by decide +kernel
theorem dX2_startPage_0 : decode cX2_startPage 0 = .ok (.aload_n 0, 1) := by decide +kernel
theorem dX2_startPage_1 : decode cX2_startPage 1 = .ok (.iconst 0, 1) := by decide +kernel
theorem dX2_startPage_2 : decode cX2_startPage 2 = .ok (.putfield 21, 3) := by decide +kernel
theorem dX2_startPage_5 : decode cX2_startPage 5 = .ok (.aload_n 0, 1) := by decide +kernel
theorem dX2_startPage_6 : decode cX2_startPage 6 = .ok (.iconst 0, 1) := by decide +kernel
theorem dX2_startPage_7 : decode cX2_startPage 7 = .ok (.putfield 24, 3) := by decide +kernel
theorem dX2_startPage_10 : decode cX2_startPage 10 = .ok (.aload_n 0, 1) := by decide +kernel
theorem dX2_startPage_11 : decode cX2_startPage 11 = .ok (.iconst 0, 1) := by decide +kernel
theorem dX2_startPage_12 : decode cX2_startPage 12 = .ok (.putfield 27, 3) := by decide +kernel
theorem dX2_startPage_15 : decode cX2_startPage 15 = .ok (.aload_n 0, 1) := by decide +kernel
theorem dX2_startPage_16 : decode cX2_startPage 16 = .ok (.iconst 0, 1) := by decide +kernel
theorem dX2_startPage_17 : decode cX2_startPage 17 = .ok (.putfield 30, 3) := by decide +kernel
theorem dX2_startPage_20 : decode cX2_startPage 20 = .ok (.aload_n 0, 1) := by decide +kernel
theorem dX2_startPage_21 : decode cX2_startPage 21 = .ok (.iconst 0, 1) := by decide +kernel
theorem dX2_startPage_22 : decode cX2_startPage 22 = .ok (.putfield 33, 3) := by decide +kernel
theorem dX2_startPage_25 : decode cX2_startPage 25 = .ok (.return_, 1) := by decide +kernel
theorem dX2_become_0 : decode cX2_become 0 = .ok (.aload_n 0, 1) := by decide +kernel
theorem dX2_become_1 : decode cX2_become 1 = .ok (.aload_n 1, 1) := by decide +kernel
theorem dX2_become_2 : decode cX2_become 2 = .ok (.getfield 9, 3) := by decide +kernel
theorem dX2_become_5 : decode cX2_become 5 = .ok (.putfield 9, 3) := by decide +kernel
theorem dX2_become_8 : decode cX2_become 8 = .ok (.aload_n 0, 1) := by decide +kernel
theorem dX2_become_9 : decode cX2_become 9 = .ok (.aload_n 1, 1) := by decide +kernel
theorem dX2_become_10 : decode cX2_become 10 = .ok (.getfield 15, 3) := by decide +kernel
theorem dX2_become_13 : decode cX2_become 13 = .ok (.putfield 15, 3) := by decide +kernel
theorem dX2_become_16 : decode cX2_become 16 = .ok (.aload_n 0, 1) := by decide +kernel
theorem dX2_become_17 : decode cX2_become 17 = .ok (.aload_n 1, 1) := by decide +kernel
theorem dX2_become_18 : decode cX2_become 18 = .ok (.getfield 18, 3) := by decide +kernel
theorem dX2_become_21 : decode cX2_become 21 = .ok (.putfield 18, 3) := by decide +kernel
theorem dX2_become_24 : decode cX2_become 24 = .ok (.aload_n 0, 1) := by decide +kernel
theorem dX2_become_25 : decode cX2_become 25 = .ok (.aload_n 1, 1) := by decide +kernel
theorem dX2_become_26 : decode cX2_become 26 = .ok (.getfield 21, 3) := by decide +kernel
theorem dX2_become_29 : decode cX2_become 29 = .ok (.putfield 21, 3) := by decide +kernel
theorem dX2_become_32 : decode cX2_become 32 = .ok (.aload_n 0, 1) := by decide +kernel
theorem dX2_become_33 : decode cX2_become 33 = .ok (.aload_n 1, 1) := by decide +kernel
theorem dX2_become_34 : decode cX2_become 34 = .ok (.getfield 24, 3) := by decide +kernel
theorem dX2_become_37 : decode cX2_become 37 = .ok (.putfield 24, 3) := by decide +kernel
theorem dX2_become_40 : decode cX2_become 40 = .ok (.aload_n 0, 1) := by decide +kernel
theorem dX2_become_41 : decode cX2_become 41 = .ok (.aload_n 1, 1) := by decide +kernel
theorem dX2_become_42 : decode cX2_become 42 = .ok (.getfield 27, 3) := by decide +kernel
theorem dX2_become_45 : decode cX2_become 45 = .ok (.putfield 27, 3) := by decide +kernel
theorem dX2_become_48 : decode cX2_become 48 = .ok (.aload_n 0, 1) := by decide +kernel
theorem dX2_become_49 : decode cX2_become 49 = .ok (.aload_n 1, 1) := by decide +kernel
theorem dX2_become_50 : decode cX2_become 50 = .ok (.getfield 30, 3) := by decide +kernel
theorem dX2_become_53 : decode cX2_become 53 = .ok (.putfield 30, 3) := by decide +kernel
theorem dX2_become_56 : decode cX2_become 56 = .ok (.aload_n 0, 1) := by decide +kernel
theorem dX2_become_57 : decode cX2_become 57 = .ok (.aload_n 1, 1) := by decide +kernel
theorem dX2_become_58 : decode cX2_become 58 = .ok (.getfield 33, 3) := by decide +kernel
theorem dX2_become_61 : decode cX2_become 61 = .ok (.putfield 33, 3) := by decide +kernel
theorem dX2_become_64 : decode cX2_become 64 = .ok (.return_, 1) := by decide +kernel
theorem dX2_readOn_0 : decode cX2_readOn 0 = .ok (.iload_n 3, 1) := by decide +kernel
theorem dX2_readOn_1 : decode cX2_readOn 1 = .ok (.ifCond .lt 27, 3) := by decide +kernel
theorem dX2_readOn_4 : decode cX2_readOn 4 = .ok (.iload_n 3, 1) := by decide +kernel
theorem dX2_readOn_5 : decode cX2_readOn 5 = .ok (.iconst 4, 1) := by decide +kernel
theorem dX2_readOn_6 : decode cX2_readOn 6 = .ok (.if_icmp .ge 22, 3) := by decide +kernel
theorem dX2_readOn_9 : decode cX2_readOn 9 = .ok (.aload_n 2, 1) := by decide +kernel
theorem dX2_readOn_10 : decode cX2_readOn 10 = .ok (.aload_n 0, 1) := by decide +kernel
theorem dX2_readOn_11 : decode cX2_readOn 11 = .ok (.getfield 9, 3) := by decide +kernel
theorem dX2_readOn_14 : decode cX2_readOn 14 = .ok (.invokevirtual 40, 3) := by decide +kernel
theorem dX2_readOn_17 : decode cX2_readOn 17 = .ok (.iload_n 3, 1) := by decide +kernel
theorem dX2_readOn_18 : decode cX2_readOn 18 = .ok (.ishr, 1) := by decide +kernel
theorem dX2_readOn_19 : decode cX2_readOn 19 = .ok (.iconst 1, 1) := by decide +kernel
theorem dX2_readOn_20 : decode cX2_readOn 20 = .ok (.iand, 1) := by decide +kernel
theorem dX2_readOn_21 : decode cX2_readOn 21 = .ok (.ifCond .eq 7, 3) := by decide +kernel
theorem dX2_readOn_24 : decode cX2_readOn 24 = .ok (.iconst 1, 1) := by decide +kernel
theorem dX2_readOn_25 : decode cX2_readOn 25 = .ok (.goto 4, 3) := by decide +kernel
theorem dX2_readOn_28 : decode cX2_readOn 28 = .ok (.iconst 0, 1) := by decide +kernel
theorem dX2_readOn_29 : decode cX2_readOn 29 = .ok (.istore 4, 2) := by decide +kernel
theorem dX2_readOn_31 : decode cX2_readOn 31 = .ok (.iload 4, 2) := by decide +kernel
theorem dX2_readOn_33 : decode cX2_readOn 33 = .ok (.ifCond .eq 22, 3) := by decide +kernel
theorem dX2_readOn_36 : decode cX2_readOn 36 = .ok (.aload_n 0, 1) := by decide +kernel
theorem dX2_readOn_37 : decode cX2_readOn 37 = .ok (.getfield 33, 3) := by decide +kernel
theorem dX2_readOn_40 : decode cX2_readOn 40 = .ok (.ifCond .ne 15, 3) := by decide +kernel
theorem dX2_readOn_43 : decode cX2_readOn 43 = .ok (.aload_n 1, 1) := by decide +kernel
theorem dX2_readOn_44 : decode cX2_readOn 44 = .ok (.iload_n 3, 1) := by decide +kernel
theorem dX2_readOn_45 : decode cX2_readOn 45 = .ok (.aload_n 0, 1) := by decide +kernel
theorem dX2_readOn_46 : decode cX2_readOn 46 = .ok (.getfield 30, 3) := by decide +kernel
theorem dX2_readOn_49 : decode cX2_readOn 49 = .ok (.invokevirtual 46, 3) := by decide +kernel
theorem dX2_readOn_52 : decode cX2_readOn 52 = .ok (.goto 5, 3) := by decide +kernel
theorem dX2_readOn_55 : decode cX2_readOn 55 = .ok (.bipush (-9), 2) := by decide +kernel
theorem dX2_readOn_57 : decode cX2_readOn 57 = .ok (.istore 5, 2) := by decide +kernel
theorem dX2_readOn_59 : decode cX2_readOn 59 = .ok (.iload 5, 2) := by decide +kernel
theorem dX2_readOn_61 : decode cX2_readOn 61 = .ok (.bipush (-9), 2) := by decide +kernel
theorem dX2_readOn_63 : decode cX2_readOn 63 = .ok (.if_icmp .ne 6, 3) := by decide +kernel
theorem dX2_readOn_66 : decode cX2_readOn 66 = .ok (.bipush (-3), 2) := by decide +kernel
theorem dX2_readOn_68 : decode cX2_readOn 68 = .ok (.ireturn, 1) := by decide +kernel
theorem dX2_readOn_69 : decode cX2_readOn 69 = .ok (.aload_n 1, 1) := by decide +kernel
theorem dX2_readOn_70 : decode cX2_readOn 70 = .ok (.iload 5, 2) := by decide +kernel
theorem dX2_readOn_72 : decode cX2_readOn 72 = .ok (.aload_n 0, 1) := by decide +kernel
theorem dX2_readOn_73 : decode cX2_readOn 73 = .ok (.getfield 15, 3) := by decide +kernel
theorem dX2_readOn_76 : decode cX2_readOn 76 = .ok (.invokevirtual 52, 3) := by decide +kernel
theorem dX2_readOn_79 : decode cX2_readOn 79 = .ok (.istore 6, 2) := by decide +kernel
theorem dX2_readOn_81 : decode cX2_readOn 81 = .ok (.aload_n 0, 1) := by decide +kernel
theorem dX2_readOn_82 : decode cX2_readOn 82 = .ok (.dup, 1) := by decide +kernel
theorem dX2_readOn_83 : decode cX2_readOn 83 = .ok (.getfield 21, 3) := by decide +kernel
theorem dX2_readOn_86 : decode cX2_readOn 86 = .ok (.iload 6, 2) := by decide +kernel
theorem dX2_readOn_88 : decode cX2_readOn 88 = .ok (.iadd, 1) := by decide +kernel
theorem dX2_readOn_89 : decode cX2_readOn 89 = .ok (.putfield 21, 3) := by decide +kernel
theorem dX2_readOn_92 : decode cX2_readOn 92 = .ok (.aload_n 0, 1) := by decide +kernel
theorem dX2_readOn_93 : decode cX2_readOn 93 = .ok (.dup, 1) := by decide +kernel
theorem dX2_readOn_94 : decode cX2_readOn 94 = .ok (.getfield 24, 3) := by decide +kernel
theorem dX2_readOn_97 : decode cX2_readOn 97 = .ok (.iload 6, 2) := by decide +kernel
theorem dX2_readOn_99 : decode cX2_readOn 99 = .ok (.iadd, 1) := by decide +kernel
theorem dX2_readOn_100 : decode cX2_readOn 100 = .ok (.putfield 24, 3) := by decide +kernel
theorem dX2_readOn_103 : decode cX2_readOn 103 = .ok (.aload_n 0, 1) := by decide +kernel
theorem dX2_readOn_104 : decode cX2_readOn 104 = .ok (.getfield 24, 3) := by decide +kernel
theorem dX2_readOn_107 : decode cX2_readOn 107 = .ok (.aload_n 0, 1) := by decide +kernel
theorem dX2_readOn_108 : decode cX2_readOn 108 = .ok (.getfield 18, 3) := by decide +kernel
theorem dX2_readOn_111 : decode cX2_readOn 111 = .ok (.if_icmp .le 18, 3) := by decide +kernel
theorem dX2_readOn_114 : decode cX2_readOn 114 = .ok (.aload_n 0, 1) := by decide +kernel
theorem dX2_readOn_115 : decode cX2_readOn 115 = .ok (.dup, 1) := by decide +kernel
theorem dX2_readOn_116 : decode cX2_readOn 116 = .ok (.getfield 27, 3) := by decide +kernel
theorem dX2_readOn_119 : decode cX2_readOn 119 = .ok (.iconst 1, 1) := by decide +kernel
theorem dX2_readOn_120 : decode cX2_readOn 120 = .ok (.iadd, 1) := by decide +kernel
theorem dX2_readOn_121 : decode cX2_readOn 121 = .ok (.putfield 27, 3) := by decide +kernel
theorem dX2_readOn_124 : decode cX2_readOn 124 = .ok (.aload_n 0, 1) := by decide +kernel
theorem dX2_readOn_125 : decode cX2_readOn 125 = .ok (.iconst 0, 1) := by decide +kernel
theorem dX2_readOn_126 : decode cX2_readOn 126 = .ok (.putfield 24, 3) := by decide +kernel
theorem dX2_readOn_129 : decode cX2_readOn 129 = .ok (.aload_n 0, 1) := by decide +kernel
theorem dX2_readOn_130 : decode cX2_readOn 130 = .ok (.getfield 21, 3) := by decide +kernel
theorem dX2_readOn_133 : decode cX2_readOn 133 = .ok (.aload_n 2, 1) := by decide +kernel
theorem dX2_readOn_134 : decode cX2_readOn 134 = .ok (.aload_n 0, 1) := by decide +kernel
theorem dX2_readOn_135 : decode cX2_readOn 135 = .ok (.getfield 27, 3) := by decide +kernel
theorem dX2_readOn_138 : decode cX2_readOn 138 = .ok (.invokevirtual 55, 3) := by decide +kernel
theorem dX2_readOn_141 : decode cX2_readOn 141 = .ok (.if_icmp .le 11, 3) := by decide +kernel
theorem dX2_readOn_144 : decode cX2_readOn 144 = .ok (.aload_n 0, 1) := by decide +kernel
theorem dX2_readOn_145 : decode cX2_readOn 145 = .ok (.iconst 1, 1) := by decide +kernel
theorem dX2_readOn_146 : decode cX2_readOn 146 = .ok (.putfield 33, 3) := by decide +kernel
theorem dX2_readOn_149 : decode cX2_readOn 149 = .ok (.bipush (-9), 2) := by decide +kernel
theorem dX2_readOn_151 : decode cX2_readOn 151 = .ok (.ireturn, 1) := by decide +kernel
theorem dX2_readOn_152 : decode cX2_readOn 152 = .ok (.aload_n 0, 1) := by decide +kernel
theorem dX2_readOn_153 : decode cX2_readOn 153 = .ok (.dup, 1) := by decide +kernel
theorem dX2_readOn_154 : decode cX2_readOn 154 = .ok (.getfield 30, 3) := by decide +kernel
theorem dX2_readOn_157 : decode cX2_readOn 157 = .ok (.iconst 1, 1) := by decide +kernel
theorem dX2_readOn_158 : decode cX2_readOn 158 = .ok (.iload 5, 2) := by decide +kernel
theorem dX2_readOn_160 : decode cX2_readOn 160 = .ok (.ishl, 1) := by decide +kernel
theorem dX2_readOn_161 : decode cX2_readOn 161 = .ok (.ior, 1) := by decide +kernel
theorem dX2_readOn_162 : decode cX2_readOn 162 = .ok (.putfield 30, 3) := by decide +kernel
theorem dX2_readOn_165 : decode cX2_readOn 165 = .ok (.iload 5, 2) := by decide +kernel
theorem dX2_readOn_167 : decode cX2_readOn 167 = .ok (.ireturn, 1) := by decide +kernel
theorem dX2_lookAway_0 : decode cX2_lookAway 0 = .ok (.aload_n 0, 1) := by decide +kernel
theorem dX2_lookAway_1 : decode cX2_lookAway 1 = .ok (.iconst 0, 1) := by decide +kernel
theorem dX2_lookAway_2 : decode cX2_lookAway 2 = .ok (.putfield 24, 3) := by decide +kernel
theorem dX2_lookAway_5 : decode cX2_lookAway 5 = .ok (.aload_n 0, 1) := by decide +kernel
theorem dX2_lookAway_6 : decode cX2_lookAway 6 = .ok (.dup, 1) := by decide +kernel
theorem dX2_lookAway_7 : decode cX2_lookAway 7 = .ok (.getfield 21, 3) := by decide +kernel
theorem dX2_lookAway_10 : decode cX2_lookAway 10 = .ok (.iload_n 2, 1) := by decide +kernel
theorem dX2_lookAway_11 : decode cX2_lookAway 11 = .ok (.iadd, 1) := by decide +kernel
theorem dX2_lookAway_12 : decode cX2_lookAway 12 = .ok (.putfield 21, 3) := by decide +kernel
theorem dX2_lookAway_15 : decode cX2_lookAway 15 = .ok (.aload_n 0, 1) := by decide +kernel
theorem dX2_lookAway_16 : decode cX2_lookAway 16 = .ok (.getfield 21, 3) := by decide +kernel
theorem dX2_lookAway_19 : decode cX2_lookAway 19 = .ok (.aload_n 1, 1) := by decide +kernel
theorem dX2_lookAway_20 : decode cX2_lookAway 20 = .ok (.aload_n 0, 1) := by decide +kernel
theorem dX2_lookAway_21 : decode cX2_lookAway 21 = .ok (.getfield 27, 3) := by decide +kernel
theorem dX2_lookAway_24 : decode cX2_lookAway 24 = .ok (.invokevirtual 55, 3) := by decide +kernel
theorem dX2_lookAway_27 : decode cX2_lookAway 27 = .ok (.if_icmp .le 8, 3) := by decide +kernel
theorem dX2_lookAway_30 : decode cX2_lookAway 30 = .ok (.aload_n 0, 1) := by decide +kernel
theorem dX2_lookAway_31 : decode cX2_lookAway 31 = .ok (.iconst 1, 1) := by decide +kernel
theorem dX2_lookAway_32 : decode cX2_lookAway 32 = .ok (.putfield 33, 3) := by decide +kernel
theorem dX2_lookAway_35 : decode cX2_lookAway 35 = .ok (.return_, 1) := by decide +kernel
theorem dX3_init_0 : decode cX3_init 0 = .ok (.aload_n 0, 1) := by decide +kernel
theorem dX3_init_1 : decode cX3_init 1 = .ok (.invokespecial 3, 3) := by decide +kernel
theorem dX3_init_4 : decode cX3_init 4 = .ok (.aload_n 0, 1) := by decide +kernel
theorem dX3_init_5 : decode cX3_init 5 = .ok (.new 9, 3) := by decide +kernel
theorem dX3_init_8 : decode cX3_init 8 = .ok (.dup, 1) := by decide +kernel
theorem dX3_init_9 : decode cX3_init 9 = .ok (.invokespecial 11, 3) := by decide +kernel
theorem dX3_init_12 : decode cX3_init 12 = .ok (.putfield 12, 3) := by decide +kernel
theorem dX3_init_15 : decode cX3_init 15 = .ok (.aload_n 0, 1) := by decide +kernel
theorem dX3_init_16 : decode cX3_init 16 = .ok (.new 18, 3) := by decide +kernel
theorem dX3_init_19 : decode cX3_init 19 = .ok (.dup, 1) := by decide +kernel
theorem dX3_init_20 : decode cX3_init 20 = .ok (.invokespecial 20, 3) := by decide +kernel
theorem dX3_init_23 : decode cX3_init 23 = .ok (.putfield 21, 3) := by decide +kernel
theorem dX3_init_26 : decode cX3_init 26 = .ok (.aload_n 0, 1) := by decide +kernel
theorem dX3_init_27 : decode cX3_init 27 = .ok (.iconst 4, 1) := by decide +kernel
theorem dX3_init_28 : decode cX3_init 28 = .ok (.anewarray 25, 3) := by decide +kernel
theorem dX3_init_31 : decode cX3_init 31 = .ok (.putfield 27, 3) := by decide +kernel
theorem dX3_init_34 : decode cX3_init 34 = .ok (.aload_n 0, 1) := by decide +kernel
theorem dX3_init_35 : decode cX3_init 35 = .ok (.iconst 0, 1) := by decide +kernel
theorem dX3_init_36 : decode cX3_init 36 = .ok (.putfield 31, 3) := by decide +kernel
theorem dX3_init_39 : decode cX3_init 39 = .ok (.iconst 0, 1) := by decide +kernel
theorem dX3_init_40 : decode cX3_init 40 = .ok (.istore_n 1, 1) := by decide +kernel
theorem dX3_init_41 : decode cX3_init 41 = .ok (.iload_n 1, 1) := by decide +kernel
theorem dX3_init_42 : decode cX3_init 42 = .ok (.aload_n 0, 1) := by decide +kernel
theorem dX3_init_43 : decode cX3_init 43 = .ok (.getfield 27, 3) := by decide +kernel
theorem dX3_init_46 : decode cX3_init 46 = .ok (.arraylength, 1) := by decide +kernel
theorem dX3_init_47 : decode cX3_init 47 = .ok (.if_icmp .ge 22, 3) := by decide +kernel
theorem dX3_init_50 : decode cX3_init 50 = .ok (.aload_n 0, 1) := by decide +kernel
theorem dX3_init_51 : decode cX3_init 51 = .ok (.getfield 27, 3) := by decide +kernel
theorem dX3_init_54 : decode cX3_init 54 = .ok (.iload_n 1, 1) := by decide +kernel
theorem dX3_init_55 : decode cX3_init 55 = .ok (.new 25, 3) := by decide +kernel
theorem dX3_init_58 : decode cX3_init 58 = .ok (.dup, 1) := by decide +kernel
theorem dX3_init_59 : decode cX3_init 59 = .ok (.invokespecial 35, 3) := by decide +kernel
theorem dX3_init_62 : decode cX3_init 62 = .ok (.aastore, 1) := by decide +kernel
theorem dX3_init_63 : decode cX3_init 63 = .ok (.iinc 1 1, 3) := by decide +kernel
theorem dX3_init_66 : decode cX3_init 66 = .ok (.goto (-25), 3) := by decide +kernel
theorem dX3_init_69 : decode cX3_init 69 = .ok (.return_, 1) := by decide +kernel
theorem dX3_who_0 : decode cX3_who 0 = .ok (.iload_n 1, 1) := by decide +kernel
theorem dX3_who_1 : decode cX3_who 1 = .ok (.ifCond .lt 29, 3) := by decide +kernel
theorem dX3_who_4 : decode cX3_who 4 = .ok (.iload_n 1, 1) := by decide +kernel
theorem dX3_who_5 : decode cX3_who 5 = .ok (.aload_n 0, 1) := by decide +kernel
theorem dX3_who_6 : decode cX3_who 6 = .ok (.getfield 31, 3) := by decide +kernel
theorem dX3_who_9 : decode cX3_who 9 = .ok (.if_icmp .ge 21, 3) := by decide +kernel
theorem dX3_who_12 : decode cX3_who 12 = .ok (.iload_n 1, 1) := by decide +kernel
theorem dX3_who_13 : decode cX3_who 13 = .ok (.aload_n 0, 1) := by decide +kernel
theorem dX3_who_14 : decode cX3_who 14 = .ok (.getfield 27, 3) := by decide +kernel
theorem dX3_who_17 : decode cX3_who 17 = .ok (.arraylength, 1) := by decide +kernel
theorem dX3_who_18 : decode cX3_who 18 = .ok (.if_icmp .ge 12, 3) := by decide +kernel
theorem dX3_who_21 : decode cX3_who 21 = .ok (.aload_n 0, 1) := by decide +kernel
theorem dX3_who_22 : decode cX3_who 22 = .ok (.getfield 27, 3) := by decide +kernel
theorem dX3_who_25 : decode cX3_who 25 = .ok (.iload_n 1, 1) := by decide +kernel
theorem dX3_who_26 : decode cX3_who 26 = .ok (.aaload, 1) := by decide +kernel
theorem dX3_who_27 : decode cX3_who 27 = .ok (.goto 4, 3) := by decide +kernel
theorem dX3_who_30 : decode cX3_who 30 = .ok (.aconst_null, 1) := by decide +kernel
theorem dX3_who_31 : decode cX3_who 31 = .ok (.areturn, 1) := by decide +kernel
theorem dX3_addLooker_0 : decode cX3_addLooker 0 = .ok (.aload_n 0, 1) := by decide +kernel
theorem dX3_addLooker_1 : decode cX3_addLooker 1 = .ok (.getfield 31, 3) := by decide +kernel
theorem dX3_addLooker_4 : decode cX3_addLooker 4 = .ok (.iconst 4, 1) := by decide +kernel
theorem dX3_addLooker_5 : decode cX3_addLooker 5 = .ok (.if_icmp .ge 38, 3) := by decide +kernel
theorem dX3_addLooker_8 : decode cX3_addLooker 8 = .ok (.aload_n 0, 1) := by decide +kernel
theorem dX3_addLooker_9 : decode cX3_addLooker 9 = .ok (.dup, 1) := by decide +kernel
theorem dX3_addLooker_10 : decode cX3_addLooker 10 = .ok (.getfield 31, 3) := by decide +kernel
theorem dX3_addLooker_13 : decode cX3_addLooker 13 = .ok (.iconst 1, 1) := by decide +kernel
theorem dX3_addLooker_14 : decode cX3_addLooker 14 = .ok (.iadd, 1) := by decide +kernel
theorem dX3_addLooker_15 : decode cX3_addLooker 15 = .ok (.putfield 31, 3) := by decide +kernel
theorem dX3_addLooker_18 : decode cX3_addLooker 18 = .ok (.aload_n 0, 1) := by decide +kernel
theorem dX3_addLooker_19 : decode cX3_addLooker 19 = .ok (.aload_n 0, 1) := by decide +kernel
theorem dX3_addLooker_20 : decode cX3_addLooker 20 = .ok (.getfield 31, 3) := by decide +kernel
theorem dX3_addLooker_23 : decode cX3_addLooker 23 = .ok (.iconst 1, 1) := by decide +kernel
theorem dX3_addLooker_24 : decode cX3_addLooker 24 = .ok (.isub, 1) := by decide +kernel
theorem dX3_addLooker_25 : decode cX3_addLooker 25 = .ok (.invokevirtual 36, 3) := by decide +kernel
theorem dX3_addLooker_28 : decode cX3_addLooker 28 = .ok (.astore 4, 2) := by decide +kernel
theorem dX3_addLooker_30 : decode cX3_addLooker 30 = .ok (.aload 4, 2) := by decide +kernel
theorem dX3_addLooker_32 : decode cX3_addLooker 32 = .ok (.ifnull 11, 3) := by decide +kernel
theorem dX3_addLooker_35 : decode cX3_addLooker 35 = .ok (.aload 4, 2) := by decide +kernel
theorem dX3_addLooker_37 : decode cX3_addLooker 37 = .ok (.iload_n 1, 1) := by decide +kernel
theorem dX3_addLooker_38 : decode cX3_addLooker 38 = .ok (.iload_n 2, 1) := by decide +kernel
theorem dX3_addLooker_39 : decode cX3_addLooker 39 = .ok (.iload_n 3, 1) := by decide +kernel
theorem dX3_addLooker_40 : decode cX3_addLooker 40 = .ok (.invokevirtual 40, 3) := by decide +kernel
theorem dX3_addLooker_43 : decode cX3_addLooker 43 = .ok (.return_, 1) := by decide +kernel
theorem dX3_cutOffLookers_0 : decode cX3_cutOffLookers 0 = .ok (.iconst 0, 1) := by decide +kernel
theorem dX3_cutOffLookers_1 : decode cX3_cutOffLookers 1 = .ok (.istore_n 1, 1) := by decide +kernel
theorem dX3_cutOffLookers_2 : decode cX3_cutOffLookers 2 = .ok (.iconst 0, 1) := by decide +kernel
theorem dX3_cutOffLookers_3 : decode cX3_cutOffLookers 3 = .ok (.istore_n 2, 1) := by decide +kernel
theorem dX3_cutOffLookers_4 : decode cX3_cutOffLookers 4 = .ok (.iload_n 2, 1) := by decide +kernel
theorem dX3_cutOffLookers_5 : decode cX3_cutOffLookers 5 = .ok (.aload_n 0, 1) := by decide +kernel
theorem dX3_cutOffLookers_6 : decode cX3_cutOffLookers 6 = .ok (.getfield 31, 3) := by decide +kernel
theorem dX3_cutOffLookers_9 : decode cX3_cutOffLookers 9 = .ok (.if_icmp .ge 29, 3) := by decide +kernel
theorem dX3_cutOffLookers_12 : decode cX3_cutOffLookers 12 = .ok (.aload_n 0, 1) := by decide +kernel
theorem dX3_cutOffLookers_13 : decode cX3_cutOffLookers 13 = .ok (.iload_n 2, 1) := by decide +kernel
theorem dX3_cutOffLookers_14 : decode cX3_cutOffLookers 14 = .ok (.invokevirtual 36, 3) := by decide +kernel
theorem dX3_cutOffLookers_17 : decode cX3_cutOffLookers 17 = .ok (.astore_n 3, 1) := by decide +kernel
theorem dX3_cutOffLookers_18 : decode cX3_cutOffLookers 18 = .ok (.aload_n 3, 1) := by decide +kernel
theorem dX3_cutOffLookers_19 : decode cX3_cutOffLookers 19 = .ok (.ifnull 13, 3) := by decide +kernel
theorem dX3_cutOffLookers_22 : decode cX3_cutOffLookers 22 = .ok (.aload_n 3, 1) := by decide +kernel
theorem dX3_cutOffLookers_23 : decode cX3_cutOffLookers 23 = .ok (.getfield 44, 3) := by decide +kernel
theorem dX3_cutOffLookers_26 : decode cX3_cutOffLookers 26 = .ok (.ifCond .eq 6, 3) := by decide +kernel
theorem dX3_cutOffLookers_29 : decode cX3_cutOffLookers 29 = .ok (.iinc 1 1, 3) := by decide +kernel
theorem dX3_cutOffLookers_32 : decode cX3_cutOffLookers 32 = .ok (.iinc 2 1, 3) := by decide +kernel
theorem dX3_cutOffLookers_35 : decode cX3_cutOffLookers 35 = .ok (.goto (-31), 3) := by decide +kernel
theorem dX3_cutOffLookers_38 : decode cX3_cutOffLookers 38 = .ok (.iload_n 1, 1) := by decide +kernel
theorem dX3_cutOffLookers_39 : decode cX3_cutOffLookers 39 = .ok (.ireturn, 1) := by decide +kernel
theorem dX3_become_0 : decode cX3_become 0 = .ok (.aload_n 0, 1) := by decide +kernel
theorem dX3_become_1 : decode cX3_become 1 = .ok (.getfield 12, 3) := by decide +kernel
theorem dX3_become_4 : decode cX3_become 4 = .ok (.aload_n 1, 1) := by decide +kernel
theorem dX3_become_5 : decode cX3_become 5 = .ok (.getfield 12, 3) := by decide +kernel
theorem dX3_become_8 : decode cX3_become 8 = .ok (.invokevirtual 48, 3) := by decide +kernel
theorem dX3_become_11 : decode cX3_become 11 = .ok (.aload_n 0, 1) := by decide +kernel
theorem dX3_become_12 : decode cX3_become 12 = .ok (.getfield 21, 3) := by decide +kernel
theorem dX3_become_15 : decode cX3_become 15 = .ok (.aload_n 1, 1) := by decide +kernel
theorem dX3_become_16 : decode cX3_become 16 = .ok (.getfield 21, 3) := by decide +kernel
theorem dX3_become_19 : decode cX3_become 19 = .ok (.invokevirtual 52, 3) := by decide +kernel
theorem dX3_become_22 : decode cX3_become 22 = .ok (.aload_n 0, 1) := by decide +kernel
theorem dX3_become_23 : decode cX3_become 23 = .ok (.aload_n 1, 1) := by decide +kernel
theorem dX3_become_24 : decode cX3_become 24 = .ok (.getfield 31, 3) := by decide +kernel
theorem dX3_become_27 : decode cX3_become 27 = .ok (.putfield 31, 3) := by decide +kernel
theorem dX3_become_30 : decode cX3_become 30 = .ok (.iconst 0, 1) := by decide +kernel
theorem dX3_become_31 : decode cX3_become 31 = .ok (.istore_n 2, 1) := by decide +kernel
theorem dX3_become_32 : decode cX3_become 32 = .ok (.iload_n 2, 1) := by decide +kernel
theorem dX3_become_33 : decode cX3_become 33 = .ok (.aload_n 0, 1) := by decide +kernel
theorem dX3_become_34 : decode cX3_become 34 = .ok (.getfield 31, 3) := by decide +kernel
theorem dX3_become_37 : decode cX3_become 37 = .ok (.if_icmp .ge 37, 3) := by decide +kernel
theorem dX3_become_40 : decode cX3_become 40 = .ok (.aload_n 0, 1) := by decide +kernel
theorem dX3_become_41 : decode cX3_become 41 = .ok (.iload_n 2, 1) := by decide +kernel
theorem dX3_become_42 : decode cX3_become 42 = .ok (.invokevirtual 36, 3) := by decide +kernel
theorem dX3_become_45 : decode cX3_become 45 = .ok (.astore_n 3, 1) := by decide +kernel
theorem dX3_become_46 : decode cX3_become 46 = .ok (.aload_n 1, 1) := by decide +kernel
theorem dX3_become_47 : decode cX3_become 47 = .ok (.iload_n 2, 1) := by decide +kernel
theorem dX3_become_48 : decode cX3_become 48 = .ok (.invokevirtual 36, 3) := by decide +kernel
theorem dX3_become_51 : decode cX3_become 51 = .ok (.astore 4, 2) := by decide +kernel
theorem dX3_become_53 : decode cX3_become 53 = .ok (.aload_n 3, 1) := by decide +kernel
theorem dX3_become_54 : decode cX3_become 54 = .ok (.ifnull 14, 3) := by decide +kernel
theorem dX3_become_57 : decode cX3_become 57 = .ok (.aload 4, 2) := by decide +kernel
theorem dX3_become_59 : decode cX3_become 59 = .ok (.ifnull 9, 3) := by decide +kernel
theorem dX3_become_62 : decode cX3_become 62 = .ok (.aload_n 3, 1) := by decide +kernel
theorem dX3_become_63 : decode cX3_become 63 = .ok (.aload 4, 2) := by decide +kernel
theorem dX3_become_65 : decode cX3_become 65 = .ok (.invokevirtual 55, 3) := by decide +kernel
theorem dX3_become_68 : decode cX3_become 68 = .ok (.iinc 2 1, 3) := by decide +kernel
theorem dX3_become_71 : decode cX3_become 71 = .ok (.goto (-39), 3) := by decide +kernel
theorem dX3_become_74 : decode cX3_become 74 = .ok (.return_, 1) := by decide +kernel
theorem dX4_init_0 : decode cX4_init 0 = .ok (.aload_n 0, 1) := by decide +kernel
theorem dX4_init_1 : decode cX4_init 1 = .ok (.invokespecial 3, 3) := by decide +kernel
theorem dX4_init_4 : decode cX4_init 4 = .ok (.aload_n 0, 1) := by decide +kernel
theorem dX4_init_5 : decode cX4_init 5 = .ok (.bipush 8, 2) := by decide +kernel
theorem dX4_init_7 : decode cX4_init 7 = .ok (.newarray .int, 2) := by decide +kernel
theorem dX4_init_9 : decode cX4_init 9 = .ok (.putfield 9, 3) := by decide +kernel
theorem dX4_init_12 : decode cX4_init 12 = .ok (.aload_n 0, 1) := by decide +kernel
theorem dX4_init_13 : decode cX4_init 13 = .ok (.bipush 8, 2) := by decide +kernel
theorem dX4_init_15 : decode cX4_init 15 = .ok (.newarray .int, 2) := by decide +kernel
theorem dX4_init_17 : decode cX4_init 17 = .ok (.putfield 15, 3) := by decide +kernel
theorem dX4_init_20 : decode cX4_init 20 = .ok (.aload_n 0, 1) := by decide +kernel
theorem dX4_init_21 : decode cX4_init 21 = .ok (.bipush 8, 2) := by decide +kernel
theorem dX4_init_23 : decode cX4_init 23 = .ok (.newarray .int, 2) := by decide +kernel
theorem dX4_init_25 : decode cX4_init 25 = .ok (.putfield 18, 3) := by decide +kernel
theorem dX4_init_28 : decode cX4_init 28 = .ok (.aload_n 0, 1) := by decide +kernel
theorem dX4_init_29 : decode cX4_init 29 = .ok (.iconst 4, 1) := by decide +kernel
theorem dX4_init_30 : decode cX4_init 30 = .ok (.newarray .int, 2) := by decide +kernel
theorem dX4_init_32 : decode cX4_init 32 = .ok (.putfield 21, 3) := by decide +kernel
theorem dX4_init_35 : decode cX4_init 35 = .ok (.aload_n 0, 1) := by decide +kernel
theorem dX4_init_36 : decode cX4_init 36 = .ok (.bipush 9, 2) := by decide +kernel
theorem dX4_init_38 : decode cX4_init 38 = .ok (.newarray .int, 2) := by decide +kernel
theorem dX4_init_40 : decode cX4_init 40 = .ok (.putfield 24, 3) := by decide +kernel
theorem dX4_init_43 : decode cX4_init 43 = .ok (.aload_n 0, 1) := by decide +kernel
theorem dX4_init_44 : decode cX4_init 44 = .ok (.bipush 9, 2) := by decide +kernel
theorem dX4_init_46 : decode cX4_init 46 = .ok (.newarray .int, 2) := by decide +kernel
theorem dX4_init_48 : decode cX4_init 48 = .ok (.putfield 27, 3) := by decide +kernel
theorem dX4_init_51 : decode cX4_init 51 = .ok (.aload_n 0, 1) := by decide +kernel
theorem dX4_init_52 : decode cX4_init 52 = .ok (.bipush 9, 2) := by decide +kernel
theorem dX4_init_54 : decode cX4_init 54 = .ok (.newarray .int, 2) := by decide +kernel
theorem dX4_init_56 : decode cX4_init 56 = .ok (.putfield 30, 3) := by decide +kernel
theorem dX4_init_59 : decode cX4_init 59 = .ok (.aload_n 0, 1) := by decide +kernel
theorem dX4_init_60 : decode cX4_init 60 = .ok (.bipush 9, 2) := by decide +kernel
theorem dX4_init_62 : decode cX4_init 62 = .ok (.newarray .int, 2) := by decide +kernel
theorem dX4_init_64 : decode cX4_init 64 = .ok (.putfield 33, 3) := by decide +kernel
theorem dX4_init_67 : decode cX4_init 67 = .ok (.aload_n 0, 1) := by decide +kernel
theorem dX4_init_68 : decode cX4_init 68 = .ok (.bipush 9, 2) := by decide +kernel
theorem dX4_init_70 : decode cX4_init 70 = .ok (.newarray .int, 2) := by decide +kernel
theorem dX4_init_72 : decode cX4_init 72 = .ok (.putfield 36, 3) := by decide +kernel
theorem dX4_init_75 : decode cX4_init 75 = .ok (.aload_n 0, 1) := by decide +kernel
theorem dX4_init_76 : decode cX4_init 76 = .ok (.bipush 8, 2) := by decide +kernel
theorem dX4_init_78 : decode cX4_init 78 = .ok (.newarray .int, 2) := by decide +kernel
theorem dX4_init_80 : decode cX4_init 80 = .ok (.putfield 39, 3) := by decide +kernel
theorem dX4_init_83 : decode cX4_init 83 = .ok (.aload_n 0, 1) := by decide +kernel
theorem dX4_init_84 : decode cX4_init 84 = .ok (.bipush 8, 2) := by decide +kernel
theorem dX4_init_86 : decode cX4_init 86 = .ok (.newarray .int, 2) := by decide +kernel
theorem dX4_init_88 : decode cX4_init 88 = .ok (.putfield 42, 3) := by decide +kernel
theorem dX4_init_91 : decode cX4_init 91 = .ok (.aload_n 0, 1) := by decide +kernel
theorem dX4_init_92 : decode cX4_init 92 = .ok (.iconst 0, 1) := by decide +kernel
theorem dX4_init_93 : decode cX4_init 93 = .ok (.putfield 45, 3) := by decide +kernel
theorem dX4_init_96 : decode cX4_init 96 = .ok (.aload_n 0, 1) := by decide +kernel
theorem dX4_init_97 : decode cX4_init 97 = .ok (.iconst 0, 1) := by decide +kernel
theorem dX4_init_98 : decode cX4_init 98 = .ok (.putfield 49, 3) := by decide +kernel
theorem dX4_init_101 : decode cX4_init 101 = .ok (.aload_n 0, 1) := by decide +kernel
theorem dX4_init_102 : decode cX4_init 102 = .ok (.iconst 0, 1) := by decide +kernel
theorem dX4_init_103 : decode cX4_init 103 = .ok (.putfield 52, 3) := by decide +kernel
theorem dX4_init_106 : decode cX4_init 106 = .ok (.aload_n 0, 1) := by decide +kernel
theorem dX4_init_107 : decode cX4_init 107 = .ok (.iconst 0, 1) := by decide +kernel
theorem dX4_init_108 : decode cX4_init 108 = .ok (.putfield 55, 3) := by decide +kernel
theorem dX4_init_111 : decode cX4_init 111 = .ok (.return_, 1) := by decide +kernel
theorem dX4_greatest_0 : decode cX4_greatest 0 = .ok (.aload_n 0, 1) := by decide +kernel
theorem dX4_greatest_1 : decode cX4_greatest 1 = .ok (.aload_n 1, 1) := by decide +kernel
theorem dX4_greatest_2 : decode cX4_greatest 2 = .ok (.aload_n 3, 1) := by decide +kernel
theorem dX4_greatest_3 : decode cX4_greatest 3 = .ok (.invokevirtual 58, 3) := by decide +kernel
theorem dX4_greatest_6 : decode cX4_greatest 6 = .ok (.aload_n 0, 1) := by decide +kernel
theorem dX4_greatest_7 : decode cX4_greatest 7 = .ok (.aload_n 1, 1) := by decide +kernel
theorem dX4_greatest_8 : decode cX4_greatest 8 = .ok (.aload_n 2, 1) := by decide +kernel
theorem dX4_greatest_9 : decode cX4_greatest 9 = .ok (.aload_n 3, 1) := by decide +kernel
theorem dX4_greatest_10 : decode cX4_greatest 10 = .ok (.invokevirtual 62, 3) := by decide +kernel
theorem dX4_greatest_13 : decode cX4_greatest 13 = .ok (.iconst 0, 1) := by decide +kernel
theorem dX4_greatest_14 : decode cX4_greatest 14 = .ok (.istore 5, 2) := by decide +kernel
theorem dX4_greatest_16 : decode cX4_greatest 16 = .ok (.iload 5, 2) := by decide +kernel
theorem dX4_greatest_18 : decode cX4_greatest 18 = .ok (.bipush 8, 2) := by decide +kernel
theorem dX4_greatest_20 : decode cX4_greatest 20 = .ok (.if_icmp .gt 34, 3) := by decide +kernel
theorem dX4_greatest_23 : decode cX4_greatest 23 = .ok (.aload_n 0, 1) := by decide +kernel
theorem dX4_greatest_24 : decode cX4_greatest 24 = .ok (.getfield 24, 3) := by decide +kernel
theorem dX4_greatest_27 : decode cX4_greatest 27 = .ok (.iload 5, 2) := by decide +kernel
theorem dX4_greatest_29 : decode cX4_greatest 29 = .ok (.iload 4, 2) := by decide +kernel
theorem dX4_greatest_31 : decode cX4_greatest 31 = .ok (.aload_n 2, 1) := by decide +kernel
theorem dX4_greatest_32 : decode cX4_greatest 32 = .ok (.aload_n 3, 1) := by decide +kernel
theorem dX4_greatest_33 : decode cX4_greatest 33 = .ok (.getfield 66, 3) := by decide +kernel
theorem dX4_greatest_36 : decode cX4_greatest 36 = .ok (.iload 5, 2) := by decide +kernel
theorem dX4_greatest_38 : decode cX4_greatest 38 = .ok (.iadd, 1) := by decide +kernel
theorem dX4_greatest_39 : decode cX4_greatest 39 = .ok (.invokevirtual 71, 3) := by decide +kernel
theorem dX4_greatest_42 : decode cX4_greatest 42 = .ok (.invokestatic 77, 3) := by decide +kernel
theorem dX4_greatest_45 : decode cX4_greatest 45 = .ok (.invokestatic 83, 3) := by decide +kernel
theorem dX4_greatest_48 : decode cX4_greatest 48 = .ok (.iinc 5 1, 3) := by decide +kernel
theorem dX4_greatest_51 : decode cX4_greatest 51 = .ok (.goto (-35), 3) := by decide +kernel
theorem dX4_greatest_54 : decode cX4_greatest 54 = .ok (.aload_n 0, 1) := by decide +kernel
theorem dX4_greatest_55 : decode cX4_greatest 55 = .ok (.aload_n 3, 1) := by decide +kernel
theorem dX4_greatest_56 : decode cX4_greatest 56 = .ok (.getfield 87, 3) := by decide +kernel
theorem dX4_greatest_59 : decode cX4_greatest 59 = .ok (.putfield 45, 3) := by decide +kernel
theorem dX4_greatest_62 : decode cX4_greatest 62 = .ok (.aload_n 0, 1) := by decide +kernel
theorem dX4_greatest_63 : decode cX4_greatest 63 = .ok (.getfield 27, 3) := by decide +kernel
theorem dX4_greatest_66 : decode cX4_greatest 66 = .ok (.iconst 0, 1) := by decide +kernel
theorem dX4_greatest_67 : decode cX4_greatest 67 = .ok (.aload_n 3, 1) := by decide +kernel
theorem dX4_greatest_68 : decode cX4_greatest 68 = .ok (.getfield 88, 3) := by decide +kernel
theorem dX4_greatest_71 : decode cX4_greatest 71 = .ok (.invokestatic 83, 3) := by decide +kernel
theorem dX4_greatest_74 : decode cX4_greatest 74 = .ok (.aload_n 0, 1) := by decide +kernel
theorem dX4_greatest_75 : decode cX4_greatest 75 = .ok (.getfield 30, 3) := by decide +kernel
theorem dX4_greatest_78 : decode cX4_greatest 78 = .ok (.iconst 0, 1) := by decide +kernel
theorem dX4_greatest_79 : decode cX4_greatest 79 = .ok (.aload_n 3, 1) := by decide +kernel
theorem dX4_greatest_80 : decode cX4_greatest 80 = .ok (.getfield 91, 3) := by decide +kernel
theorem dX4_greatest_83 : decode cX4_greatest 83 = .ok (.invokestatic 83, 3) := by decide +kernel
theorem dX4_greatest_86 : decode cX4_greatest 86 = .ok (.aload_n 0, 1) := by decide +kernel
theorem dX4_greatest_87 : decode cX4_greatest 87 = .ok (.getfield 33, 3) := by decide +kernel
theorem dX4_greatest_90 : decode cX4_greatest 90 = .ok (.iconst 0, 1) := by decide +kernel
theorem dX4_greatest_91 : decode cX4_greatest 91 = .ok (.iconst 0, 1) := by decide +kernel
theorem dX4_greatest_92 : decode cX4_greatest 92 = .ok (.invokestatic 83, 3) := by decide +kernel
theorem dX4_greatest_95 : decode cX4_greatest 95 = .ok (.aload_n 0, 1) := by decide +kernel
theorem dX4_greatest_96 : decode cX4_greatest 96 = .ok (.getfield 36, 3) := by decide +kernel
theorem dX4_greatest_99 : decode cX4_greatest 99 = .ok (.iconst 0, 1) := by decide +kernel
theorem dX4_greatest_100 : decode cX4_greatest 100 = .ok (.aload_n 1, 1) := by decide +kernel
theorem dX4_greatest_101 : decode cX4_greatest 101 = .ok (.aload_n 3, 1) := by decide +kernel
theorem dX4_greatest_102 : decode cX4_greatest 102 = .ok (.getfield 94, 3) := by decide +kernel
theorem dX4_greatest_105 : decode cX4_greatest 105 = .ok (.invokevirtual 97, 3) := by decide +kernel
theorem dX4_greatest_108 : decode cX4_greatest 108 = .ok (.invokestatic 83, 3) := by decide +kernel
theorem dX4_greatest_111 : decode cX4_greatest 111 = .ok (.aload_n 0, 1) := by decide +kernel
theorem dX4_greatest_112 : decode cX4_greatest 112 = .ok (.iconst 0, 1) := by decide +kernel
theorem dX4_greatest_113 : decode cX4_greatest 113 = .ok (.putfield 52, 3) := by decide +kernel
theorem dX4_greatest_116 : decode cX4_greatest 116 = .ok (.aload_n 0, 1) := by decide +kernel
theorem dX4_greatest_117 : decode cX4_greatest 117 = .ok (.aload_n 0, 1) := by decide +kernel
theorem dX4_greatest_118 : decode cX4_greatest 118 = .ok (.getfield 36, 3) := by decide +kernel
theorem dX4_greatest_121 : decode cX4_greatest 121 = .ok (.iconst 0, 1) := by decide +kernel
theorem dX4_greatest_122 : decode cX4_greatest 122 = .ok (.invokestatic 102, 3) := by decide +kernel
theorem dX4_greatest_125 : decode cX4_greatest 125 = .ok (.putfield 55, 3) := by decide +kernel
theorem dX4_greatest_128 : decode cX4_greatest 128 = .ok (.aload_n 3, 1) := by decide +kernel
theorem dX4_greatest_129 : decode cX4_greatest 129 = .ok (.getfield 106, 3) := by decide +kernel
theorem dX4_greatest_132 : decode cX4_greatest 132 = .ok (.ifCond .ne 8, 3) := by decide +kernel
theorem dX4_greatest_135 : decode cX4_greatest 135 = .ok (.aload_n 0, 1) := by decide +kernel
theorem dX4_greatest_136 : decode cX4_greatest 136 = .ok (.iconst 0, 1) := by decide +kernel
theorem dX4_greatest_137 : decode cX4_greatest 137 = .ok (.invokevirtual 110, 3) := by decide +kernel
theorem dX4_greatest_140 : decode cX4_greatest 140 = .ok (.aload_n 0, 1) := by decide +kernel
theorem dX4_greatest_141 : decode cX4_greatest 141 = .ok (.getfield 55, 3) := by decide +kernel
theorem dX4_greatest_144 : decode cX4_greatest 144 = .ok (.ireturn, 1) := by decide +kernel
theorem dX4_planned_0 : decode cX4_planned 0 = .ok (.iload_n 1, 1) := by decide +kernel
theorem dX4_planned_1 : decode cX4_planned 1 = .ok (.ifCond .lt 22, 3) := by decide +kernel
theorem dX4_planned_4 : decode cX4_planned 4 = .ok (.iload_n 1, 1) := by decide +kernel
theorem dX4_planned_5 : decode cX4_planned 5 = .ok (.aload_n 0, 1) := by decide +kernel
theorem dX4_planned_6 : decode cX4_planned 6 = .ok (.getfield 52, 3) := by decide +kernel
theorem dX4_planned_9 : decode cX4_planned 9 = .ok (.if_icmp .ge 14, 3) := by decide +kernel
theorem dX4_planned_12 : decode cX4_planned 12 = .ok (.aload_n 0, 1) := by decide +kernel
theorem dX4_planned_13 : decode cX4_planned 13 = .ok (.getfield 42, 3) := by decide +kernel
theorem dX4_planned_16 : decode cX4_planned 16 = .ok (.iload_n 1, 1) := by decide +kernel
theorem dX4_planned_17 : decode cX4_planned 17 = .ok (.invokestatic 102, 3) := by decide +kernel
theorem dX4_planned_20 : decode cX4_planned 20 = .ok (.goto 5, 3) := by decide +kernel
theorem dX4_planned_23 : decode cX4_planned 23 = .ok (.bipush (-9), 2) := by decide +kernel
theorem dX4_planned_25 : decode cX4_planned 25 = .ok (.ireturn, 1) := by decide +kernel
theorem dX4_prepareLines_0 : decode cX4_prepareLines 0 = .ok (.iconst 0, 1) := by decide +kernel
theorem dX4_prepareLines_1 : decode cX4_prepareLines 1 = .ok (.istore_n 3, 1) := by decide +kernel
theorem dX4_prepareLines_2 : decode cX4_prepareLines 2 = .ok (.iload_n 3, 1) := by decide +kernel
theorem dX4_prepareLines_3 : decode cX4_prepareLines 3 = .ok (.aload_n 1, 1) := by decide +kernel
theorem dX4_prepareLines_4 : decode cX4_prepareLines 4 = .ok (.getfield 114, 3) := by decide +kernel
theorem dX4_prepareLines_7 : decode cX4_prepareLines 7 = .ok (.if_icmp .ge 39, 3) := by decide +kernel
theorem dX4_prepareLines_10 : decode cX4_prepareLines 10 = .ok (.aload_n 0, 1) := by decide +kernel
theorem dX4_prepareLines_11 : decode cX4_prepareLines 11 = .ok (.getfield 9, 3) := by decide +kernel
theorem dX4_prepareLines_14 : decode cX4_prepareLines 14 = .ok (.iload_n 3, 1) := by decide +kernel
theorem dX4_prepareLines_15 : decode cX4_prepareLines 15 = .ok (.aload_n 1, 1) := by decide +kernel
theorem dX4_prepareLines_16 : decode cX4_prepareLines 16 = .ok (.iload_n 3, 1) := by decide +kernel
theorem dX4_prepareLines_17 : decode cX4_prepareLines 17 = .ok (.aload_n 2, 1) := by decide +kernel
theorem dX4_prepareLines_18 : decode cX4_prepareLines 18 = .ok (.getfield 117, 3) := by decide +kernel
theorem dX4_prepareLines_21 : decode cX4_prepareLines 21 = .ok (.invokevirtual 120, 3) := by decide +kernel
theorem dX4_prepareLines_24 : decode cX4_prepareLines 24 = .ok (.invokestatic 83, 3) := by decide +kernel
theorem dX4_prepareLines_27 : decode cX4_prepareLines 27 = .ok (.aload_n 0, 1) := by decide +kernel
theorem dX4_prepareLines_28 : decode cX4_prepareLines 28 = .ok (.getfield 15, 3) := by decide +kernel
theorem dX4_prepareLines_31 : decode cX4_prepareLines 31 = .ok (.iload_n 3, 1) := by decide +kernel
theorem dX4_prepareLines_32 : decode cX4_prepareLines 32 = .ok (.aload_n 1, 1) := by decide +kernel
theorem dX4_prepareLines_33 : decode cX4_prepareLines 33 = .ok (.iload_n 3, 1) := by decide +kernel
theorem dX4_prepareLines_34 : decode cX4_prepareLines 34 = .ok (.invokevirtual 123, 3) := by decide +kernel
theorem dX4_prepareLines_37 : decode cX4_prepareLines 37 = .ok (.invokestatic 83, 3) := by decide +kernel
theorem dX4_prepareLines_40 : decode cX4_prepareLines 40 = .ok (.iinc 3 1, 3) := by decide +kernel
theorem dX4_prepareLines_43 : decode cX4_prepareLines 43 = .ok (.goto (-41), 3) := by decide +kernel
theorem dX4_prepareLines_46 : decode cX4_prepareLines 46 = .ok (.return_, 1) := by decide +kernel
theorem dX4_prepareColumns_0 : decode cX4_prepareColumns 0 = .ok (.aload_n 1, 1) := by decide +kernel
theorem dX4_prepareColumns_1 : decode cX4_prepareColumns 1 = .ok (.aload_n 2, 1) := by decide +kernel
theorem dX4_prepareColumns_2 : decode cX4_prepareColumns 2 = .ok (.aload_n 3, 1) := by decide +kernel
theorem dX4_prepareColumns_3 : decode cX4_prepareColumns 3 = .ok (.getfield 126, 3) := by decide +kernel
theorem dX4_prepareColumns_6 : decode cX4_prepareColumns 6 = .ok (.invokevirtual 129, 3) := by decide +kernel
theorem dX4_prepareColumns_9 : decode cX4_prepareColumns 9 = .ok (.invokevirtual 132, 3) := by decide +kernel
theorem dX4_prepareColumns_12 : decode cX4_prepareColumns 12 = .ok (.aload_n 3, 1) := by decide +kernel
theorem dX4_prepareColumns_13 : decode cX4_prepareColumns 13 = .ok (.getfield 94, 3) := by decide +kernel
theorem dX4_prepareColumns_16 : decode cX4_prepareColumns 16 = .ok (.iconst (-1), 1) := by decide +kernel
theorem dX4_prepareColumns_17 : decode cX4_prepareColumns 17 = .ok (.ixor, 1) := by decide +kernel
theorem dX4_prepareColumns_18 : decode cX4_prepareColumns 18 = .ok (.iand, 1) := by decide +kernel
theorem dX4_prepareColumns_19 : decode cX4_prepareColumns 19 = .ok (.istore 4, 2) := by decide +kernel
theorem dX4_prepareColumns_21 : decode cX4_prepareColumns 21 = .ok (.aload_n 0, 1) := by decide +kernel
theorem dX4_prepareColumns_22 : decode cX4_prepareColumns 22 = .ok (.iconst 0, 1) := by decide +kernel
theorem dX4_prepareColumns_23 : decode cX4_prepareColumns 23 = .ok (.putfield 49, 3) := by decide +kernel
theorem dX4_prepareColumns_26 : decode cX4_prepareColumns 26 = .ok (.iconst 0, 1) := by decide +kernel
theorem dX4_prepareColumns_27 : decode cX4_prepareColumns 27 = .ok (.istore 5, 2) := by decide +kernel
theorem dX4_prepareColumns_29 : decode cX4_prepareColumns 29 = .ok (.iload 5, 2) := by decide +kernel
theorem dX4_prepareColumns_31 : decode cX4_prepareColumns 31 = .ok (.iconst 4, 1) := by decide +kernel
theorem dX4_prepareColumns_32 : decode cX4_prepareColumns 32 = .ok (.if_icmp .ge 20, 3) := by decide +kernel
theorem dX4_prepareColumns_35 : decode cX4_prepareColumns 35 = .ok (.aload_n 0, 1) := by decide +kernel
theorem dX4_prepareColumns_36 : decode cX4_prepareColumns 36 = .ok (.getfield 21, 3) := by decide +kernel
theorem dX4_prepareColumns_39 : decode cX4_prepareColumns 39 = .ok (.iload 5, 2) := by decide +kernel
theorem dX4_prepareColumns_41 : decode cX4_prepareColumns 41 = .ok (.bipush (-9), 2) := by decide +kernel
theorem dX4_prepareColumns_43 : decode cX4_prepareColumns 43 = .ok (.invokestatic 83, 3) := by decide +kernel
theorem dX4_prepareColumns_46 : decode cX4_prepareColumns 46 = .ok (.iinc 5 1, 3) := by decide +kernel
theorem dX4_prepareColumns_49 : decode cX4_prepareColumns 49 = .ok (.goto (-20), 3) := by decide +kernel
theorem dX4_prepareColumns_52 : decode cX4_prepareColumns 52 = .ok (.aload_n 1, 1) := by decide +kernel
theorem dX4_prepareColumns_53 : decode cX4_prepareColumns 53 = .ok (.getfield 114, 3) := by decide +kernel
theorem dX4_prepareColumns_56 : decode cX4_prepareColumns 56 = .ok (.iconst 1, 1) := by decide +kernel
theorem dX4_prepareColumns_57 : decode cX4_prepareColumns 57 = .ok (.isub, 1) := by decide +kernel
theorem dX4_prepareColumns_58 : decode cX4_prepareColumns 58 = .ok (.istore 5, 2) := by decide +kernel
theorem dX4_prepareColumns_60 : decode cX4_prepareColumns 60 = .ok (.iload 5, 2) := by decide +kernel
theorem dX4_prepareColumns_62 : decode cX4_prepareColumns 62 = .ok (.ifCond .lt 74, 3) := by decide +kernel
theorem dX4_prepareColumns_65 : decode cX4_prepareColumns 65 = .ok (.iload 4, 2) := by decide +kernel
theorem dX4_prepareColumns_67 : decode cX4_prepareColumns 67 = .ok (.iload 5, 2) := by decide +kernel
theorem dX4_prepareColumns_69 : decode cX4_prepareColumns 69 = .ok (.ishr, 1) := by decide +kernel
theorem dX4_prepareColumns_70 : decode cX4_prepareColumns 70 = .ok (.iconst 1, 1) := by decide +kernel
theorem dX4_prepareColumns_71 : decode cX4_prepareColumns 71 = .ok (.iand, 1) := by decide +kernel
theorem dX4_prepareColumns_72 : decode cX4_prepareColumns 72 = .ok (.ifCond .eq 58, 3) := by decide +kernel
theorem dX4_prepareColumns_75 : decode cX4_prepareColumns 75 = .ok (.aload_n 1, 1) := by decide +kernel
theorem dX4_prepareColumns_76 : decode cX4_prepareColumns 76 = .ok (.iload 5, 2) := by decide +kernel
theorem dX4_prepareColumns_78 : decode cX4_prepareColumns 78 = .ok (.invokevirtual 135, 3) := by decide +kernel
theorem dX4_prepareColumns_81 : decode cX4_prepareColumns 81 = .ok (.istore 6, 2) := by decide +kernel
theorem dX4_prepareColumns_83 : decode cX4_prepareColumns 83 = .ok (.aload_n 0, 1) := by decide +kernel
theorem dX4_prepareColumns_84 : decode cX4_prepareColumns 84 = .ok (.getfield 18, 3) := by decide +kernel
theorem dX4_prepareColumns_87 : decode cX4_prepareColumns 87 = .ok (.iload 5, 2) := by decide +kernel
theorem dX4_prepareColumns_89 : decode cX4_prepareColumns 89 = .ok (.aload_n 0, 1) := by decide +kernel
theorem dX4_prepareColumns_90 : decode cX4_prepareColumns 90 = .ok (.getfield 21, 3) := by decide +kernel
theorem dX4_prepareColumns_93 : decode cX4_prepareColumns 93 = .ok (.iload 6, 2) := by decide +kernel
theorem dX4_prepareColumns_95 : decode cX4_prepareColumns 95 = .ok (.invokestatic 102, 3) := by decide +kernel
theorem dX4_prepareColumns_98 : decode cX4_prepareColumns 98 = .ok (.invokestatic 83, 3) := by decide +kernel
theorem dX4_prepareColumns_101 : decode cX4_prepareColumns 101 = .ok (.aload_n 0, 1) := by decide +kernel
theorem dX4_prepareColumns_102 : decode cX4_prepareColumns 102 = .ok (.getfield 21, 3) := by decide +kernel
theorem dX4_prepareColumns_105 : decode cX4_prepareColumns 105 = .ok (.iload 6, 2) := by decide +kernel
theorem dX4_prepareColumns_107 : decode cX4_prepareColumns 107 = .ok (.iload 5, 2) := by decide +kernel
theorem dX4_prepareColumns_109 : decode cX4_prepareColumns 109 = .ok (.invokestatic 83, 3) := by decide +kernel
theorem dX4_prepareColumns_112 : decode cX4_prepareColumns 112 = .ok (.aload_n 0, 1) := by decide +kernel
theorem dX4_prepareColumns_113 : decode cX4_prepareColumns 113 = .ok (.dup, 1) := by decide +kernel
theorem dX4_prepareColumns_114 : decode cX4_prepareColumns 114 = .ok (.getfield 49, 3) := by decide +kernel
theorem dX4_prepareColumns_117 : decode cX4_prepareColumns 117 = .ok (.aload_n 0, 1) := by decide +kernel
theorem dX4_prepareColumns_118 : decode cX4_prepareColumns 118 = .ok (.getfield 15, 3) := by decide +kernel
theorem dX4_prepareColumns_121 : decode cX4_prepareColumns 121 = .ok (.iload 5, 2) := by decide +kernel
theorem dX4_prepareColumns_123 : decode cX4_prepareColumns 123 = .ok (.invokestatic 102, 3) := by decide +kernel
theorem dX4_prepareColumns_126 : decode cX4_prepareColumns 126 = .ok (.iadd, 1) := by decide +kernel
theorem dX4_prepareColumns_127 : decode cX4_prepareColumns 127 = .ok (.putfield 49, 3) := by decide +kernel
theorem dX4_prepareColumns_130 : decode cX4_prepareColumns 130 = .ok (.iinc 5 (-1), 3) := by decide +kernel
theorem dX4_prepareColumns_133 : decode cX4_prepareColumns 133 = .ok (.goto (-73), 3) := by decide +kernel
theorem dX4_prepareColumns_136 : decode cX4_prepareColumns 136 = .ok (.return_, 1) := by decide +kernel
theorem dX4_goDeeper_0 : decode cX4_goDeeper 0 = .ok (.iload_n 1, 1) := by decide +kernel
theorem dX4_goDeeper_1 : decode cX4_goDeeper 1 = .ok (.bipush 8, 2) := by decide +kernel
theorem dX4_goDeeper_3 : decode cX4_goDeeper 3 = .ok (.if_icmp .ge 11, 3) := by decide +kernel
theorem dX4_goDeeper_6 : decode cX4_goDeeper 6 = .ok (.aload_n 0, 1) := by decide +kernel
theorem dX4_goDeeper_7 : decode cX4_goDeeper 7 = .ok (.iload_n 1, 1) := by decide +kernel
theorem dX4_goDeeper_8 : decode cX4_goDeeper 8 = .ok (.invokevirtual 138, 3) := by decide +kernel
theorem dX4_goDeeper_11 : decode cX4_goDeeper 11 = .ok (.ifCond .eq 4, 3) := by decide +kernel
theorem dX4_goDeeper_14 : decode cX4_goDeeper 14 = .ok (.return_, 1) := by decide +kernel
theorem dX4_goDeeper_15 : decode cX4_goDeeper 15 = .ok (.iconst 0, 1) := by decide +kernel
theorem dX4_goDeeper_16 : decode cX4_goDeeper 16 = .ok (.istore_n 2, 1) := by decide +kernel
theorem dX4_goDeeper_17 : decode cX4_goDeeper 17 = .ok (.iload_n 2, 1) := by decide +kernel
theorem dX4_goDeeper_18 : decode cX4_goDeeper 18 = .ok (.iconst 4, 1) := by decide +kernel
theorem dX4_goDeeper_19 : decode cX4_goDeeper 19 = .ok (.if_icmp .ge 31, 3) := by decide +kernel
theorem dX4_goDeeper_22 : decode cX4_goDeeper 22 = .ok (.aload_n 0, 1) := by decide +kernel
theorem dX4_goDeeper_23 : decode cX4_goDeeper 23 = .ok (.getfield 21, 3) := by decide +kernel
theorem dX4_goDeeper_26 : decode cX4_goDeeper 26 = .ok (.iload_n 2, 1) := by decide +kernel
theorem dX4_goDeeper_27 : decode cX4_goDeeper 27 = .ok (.invokestatic 102, 3) := by decide +kernel
theorem dX4_goDeeper_30 : decode cX4_goDeeper 30 = .ok (.istore_n 3, 1) := by decide +kernel
theorem dX4_goDeeper_31 : decode cX4_goDeeper 31 = .ok (.iload_n 3, 1) := by decide +kernel
theorem dX4_goDeeper_32 : decode cX4_goDeeper 32 = .ok (.bipush (-9), 2) := by decide +kernel
theorem dX4_goDeeper_34 : decode cX4_goDeeper 34 = .ok (.if_icmp .eq 10, 3) := by decide +kernel
theorem dX4_goDeeper_37 : decode cX4_goDeeper 37 = .ok (.aload_n 0, 1) := by decide +kernel
theorem dX4_goDeeper_38 : decode cX4_goDeeper 38 = .ok (.iload_n 1, 1) := by decide +kernel
theorem dX4_goDeeper_39 : decode cX4_goDeeper 39 = .ok (.iload_n 2, 1) := by decide +kernel
theorem dX4_goDeeper_40 : decode cX4_goDeeper 40 = .ok (.iload_n 3, 1) := by decide +kernel
theorem dX4_goDeeper_41 : decode cX4_goDeeper 41 = .ok (.invokevirtual 142, 3) := by decide +kernel
theorem dX4_goDeeper_44 : decode cX4_goDeeper 44 = .ok (.iinc 2 1, 3) := by decide +kernel
theorem dX4_goDeeper_47 : decode cX4_goDeeper 47 = .ok (.goto (-30), 3) := by decide +kernel
theorem dX4_goDeeper_50 : decode cX4_goDeeper 50 = .ok (.return_, 1) := by decide +kernel
theorem dX4_isHopeless_0 : decode cX4_isHopeless 0 = .ok (.aload_n 0, 1) := by decide +kernel
theorem dX4_isHopeless_1 : decode cX4_isHopeless 1 = .ok (.getfield 36, 3) := by decide +kernel
theorem dX4_isHopeless_4 : decode cX4_isHopeless 4 = .ok (.iload_n 1, 1) := by decide +kernel
theorem dX4_isHopeless_5 : decode cX4_isHopeless 5 = .ok (.invokestatic 102, 3) := by decide +kernel
theorem dX4_isHopeless_8 : decode cX4_isHopeless 8 = .ok (.aload_n 0, 1) := by decide +kernel
theorem dX4_isHopeless_9 : decode cX4_isHopeless 9 = .ok (.getfield 49, 3) := by decide +kernel
theorem dX4_isHopeless_12 : decode cX4_isHopeless 12 = .ok (.iadd, 1) := by decide +kernel
theorem dX4_isHopeless_13 : decode cX4_isHopeless 13 = .ok (.istore_n 2, 1) := by decide +kernel
theorem dX4_isHopeless_14 : decode cX4_isHopeless 14 = .ok (.iload_n 2, 1) := by decide +kernel
theorem dX4_isHopeless_15 : decode cX4_isHopeless 15 = .ok (.aload_n 0, 1) := by decide +kernel
theorem dX4_isHopeless_16 : decode cX4_isHopeless 16 = .ok (.getfield 55, 3) := by decide +kernel
theorem dX4_isHopeless_19 : decode cX4_isHopeless 19 = .ok (.if_icmp .lt 21, 3) := by decide +kernel
theorem dX4_isHopeless_22 : decode cX4_isHopeless 22 = .ok (.iload_n 2, 1) := by decide +kernel
theorem dX4_isHopeless_23 : decode cX4_isHopeless 23 = .ok (.aload_n 0, 1) := by decide +kernel
theorem dX4_isHopeless_24 : decode cX4_isHopeless 24 = .ok (.getfield 55, 3) := by decide +kernel
theorem dX4_isHopeless_27 : decode cX4_isHopeless 27 = .ok (.if_icmp .ne 17, 3) := by decide +kernel
theorem dX4_isHopeless_30 : decode cX4_isHopeless 30 = .ok (.iload_n 1, 1) := by decide +kernel
theorem dX4_isHopeless_31 : decode cX4_isHopeless 31 = .ok (.iconst 1, 1) := by decide +kernel
theorem dX4_isHopeless_32 : decode cX4_isHopeless 32 = .ok (.iadd, 1) := by decide +kernel
theorem dX4_isHopeless_33 : decode cX4_isHopeless 33 = .ok (.aload_n 0, 1) := by decide +kernel
theorem dX4_isHopeless_34 : decode cX4_isHopeless 34 = .ok (.getfield 52, 3) := by decide +kernel
theorem dX4_isHopeless_37 : decode cX4_isHopeless 37 = .ok (.if_icmp .lt 7, 3) := by decide +kernel
theorem dX4_isHopeless_40 : decode cX4_isHopeless 40 = .ok (.iconst 1, 1) := by decide +kernel
theorem dX4_isHopeless_41 : decode cX4_isHopeless 41 = .ok (.goto 4, 3) := by decide +kernel
theorem dX4_isHopeless_44 : decode cX4_isHopeless 44 = .ok (.iconst 0, 1) := by decide +kernel
theorem dX4_isHopeless_45 : decode cX4_isHopeless 45 = .ok (.ireturn, 1) := by decide +kernel
theorem dX4_tryLine_0 : decode cX4_tryLine 0 = .ok (.aload_n 0, 1) := by decide +kernel
theorem dX4_tryLine_1 : decode cX4_tryLine 1 = .ok (.getfield 27, 3) := by decide +kernel
theorem dX4_tryLine_4 : decode cX4_tryLine 4 = .ok (.iload_n 1, 1) := by decide +kernel
theorem dX4_tryLine_5 : decode cX4_tryLine 5 = .ok (.invokestatic 102, 3) := by decide +kernel
theorem dX4_tryLine_8 : decode cX4_tryLine 8 = .ok (.aload_n 0, 1) := by decide +kernel
theorem dX4_tryLine_9 : decode cX4_tryLine 9 = .ok (.getfield 9, 3) := by decide +kernel
theorem dX4_tryLine_12 : decode cX4_tryLine 12 = .ok (.iload_n 3, 1) := by decide +kernel
theorem dX4_tryLine_13 : decode cX4_tryLine 13 = .ok (.invokestatic 102, 3) := by decide +kernel
theorem dX4_tryLine_16 : decode cX4_tryLine 16 = .ok (.iadd, 1) := by decide +kernel
theorem dX4_tryLine_17 : decode cX4_tryLine 17 = .ok (.istore 4, 2) := by decide +kernel
theorem dX4_tryLine_19 : decode cX4_tryLine 19 = .ok (.aload_n 0, 1) := by decide +kernel
theorem dX4_tryLine_20 : decode cX4_tryLine 20 = .ok (.getfield 30, 3) := by decide +kernel
theorem dX4_tryLine_23 : decode cX4_tryLine 23 = .ok (.iload_n 1, 1) := by decide +kernel
theorem dX4_tryLine_24 : decode cX4_tryLine 24 = .ok (.invokestatic 102, 3) := by decide +kernel
theorem dX4_tryLine_27 : decode cX4_tryLine 27 = .ok (.aload_n 0, 1) := by decide +kernel
theorem dX4_tryLine_28 : decode cX4_tryLine 28 = .ok (.getfield 9, 3) := by decide +kernel
theorem dX4_tryLine_31 : decode cX4_tryLine 31 = .ok (.iload_n 3, 1) := by decide +kernel
theorem dX4_tryLine_32 : decode cX4_tryLine 32 = .ok (.invokestatic 102, 3) := by decide +kernel
theorem dX4_tryLine_35 : decode cX4_tryLine 35 = .ok (.iadd, 1) := by decide +kernel
theorem dX4_tryLine_36 : decode cX4_tryLine 36 = .ok (.istore 5, 2) := by decide +kernel
theorem dX4_tryLine_38 : decode cX4_tryLine 38 = .ok (.iload 5, 2) := by decide +kernel
theorem dX4_tryLine_40 : decode cX4_tryLine 40 = .ok (.aload_n 0, 1) := by decide +kernel
theorem dX4_tryLine_41 : decode cX4_tryLine 41 = .ok (.getfield 45, 3) := by decide +kernel
theorem dX4_tryLine_44 : decode cX4_tryLine 44 = .ok (.if_icmp .le 7, 3) := by decide +kernel
theorem dX4_tryLine_47 : decode cX4_tryLine 47 = .ok (.iconst 1, 1) := by decide +kernel
theorem dX4_tryLine_48 : decode cX4_tryLine 48 = .ok (.goto 4, 3) := by decide +kernel
theorem dX4_tryLine_51 : decode cX4_tryLine 51 = .ok (.iconst 0, 1) := by decide +kernel
theorem dX4_tryLine_52 : decode cX4_tryLine 52 = .ok (.istore 6, 2) := by decide +kernel
theorem dX4_tryLine_54 : decode cX4_tryLine 54 = .ok (.aload_n 0, 1) := by decide +kernel
theorem dX4_tryLine_55 : decode cX4_tryLine 55 = .ok (.getfield 33, 3) := by decide +kernel
theorem dX4_tryLine_58 : decode cX4_tryLine 58 = .ok (.iload_n 1, 1) := by decide +kernel
theorem dX4_tryLine_59 : decode cX4_tryLine 59 = .ok (.invokestatic 102, 3) := by decide +kernel
theorem dX4_tryLine_62 : decode cX4_tryLine 62 = .ok (.iload 6, 2) := by decide +kernel
theorem dX4_tryLine_64 : decode cX4_tryLine 64 = .ok (.ifCond .eq 7, 3) := by decide +kernel
theorem dX4_tryLine_67 : decode cX4_tryLine 67 = .ok (.iconst 1, 1) := by decide +kernel
theorem dX4_tryLine_68 : decode cX4_tryLine 68 = .ok (.goto 4, 3) := by decide +kernel
theorem dX4_tryLine_71 : decode cX4_tryLine 71 = .ok (.iconst 0, 1) := by decide +kernel
theorem dX4_tryLine_72 : decode cX4_tryLine 72 = .ok (.iadd, 1) := by decide +kernel
theorem dX4_tryLine_73 : decode cX4_tryLine 73 = .ok (.istore 7, 2) := by decide +kernel
theorem dX4_tryLine_75 : decode cX4_tryLine 75 = .ok (.iload 4, 2) := by decide +kernel
theorem dX4_tryLine_77 : decode cX4_tryLine 77 = .ok (.aload_n 0, 1) := by decide +kernel
theorem dX4_tryLine_78 : decode cX4_tryLine 78 = .ok (.getfield 24, 3) := by decide +kernel
theorem dX4_tryLine_81 : decode cX4_tryLine 81 = .ok (.iload 7, 2) := by decide +kernel
theorem dX4_tryLine_83 : decode cX4_tryLine 83 = .ok (.invokestatic 102, 3) := by decide +kernel
theorem dX4_tryLine_86 : decode cX4_tryLine 86 = .ok (.if_icmp .le 4, 3) := by decide +kernel
theorem dX4_tryLine_89 : decode cX4_tryLine 89 = .ok (.return_, 1) := by decide +kernel
theorem dX4_tryLine_90 : decode cX4_tryLine 90 = .ok (.iload_n 1, 1) := by decide +kernel
theorem dX4_tryLine_91 : decode cX4_tryLine 91 = .ok (.iconst 1, 1) := by decide +kernel
theorem dX4_tryLine_92 : decode cX4_tryLine 92 = .ok (.iadd, 1) := by decide +kernel
theorem dX4_tryLine_93 : decode cX4_tryLine 93 = .ok (.istore 8, 2) := by decide +kernel
theorem dX4_tryLine_95 : decode cX4_tryLine 95 = .ok (.aload_n 0, 1) := by decide +kernel
theorem dX4_tryLine_96 : decode cX4_tryLine 96 = .ok (.getfield 27, 3) := by decide +kernel
theorem dX4_tryLine_99 : decode cX4_tryLine 99 = .ok (.iload 8, 2) := by decide +kernel
theorem dX4_tryLine_101 : decode cX4_tryLine 101 = .ok (.iload 4, 2) := by decide +kernel
theorem dX4_tryLine_103 : decode cX4_tryLine 103 = .ok (.invokestatic 83, 3) := by decide +kernel
theorem dX4_tryLine_106 : decode cX4_tryLine 106 = .ok (.aload_n 0, 1) := by decide +kernel
theorem dX4_tryLine_107 : decode cX4_tryLine 107 = .ok (.getfield 30, 3) := by decide +kernel
theorem dX4_tryLine_110 : decode cX4_tryLine 110 = .ok (.iload 8, 2) := by decide +kernel
theorem dX4_tryLine_112 : decode cX4_tryLine 112 = .ok (.iload 6, 2) := by decide +kernel
theorem dX4_tryLine_114 : decode cX4_tryLine 114 = .ok (.ifCond .eq 7, 3) := by decide +kernel
theorem dX4_tryLine_117 : decode cX4_tryLine 117 = .ok (.iconst 0, 1) := by decide +kernel
theorem dX4_tryLine_118 : decode cX4_tryLine 118 = .ok (.goto 5, 3) := by decide +kernel
theorem dX4_tryLine_121 : decode cX4_tryLine 121 = .ok (.iload 5, 2) := by decide +kernel
theorem dX4_tryLine_123 : decode cX4_tryLine 123 = .ok (.invokestatic 83, 3) := by decide +kernel
theorem dX4_tryLine_126 : decode cX4_tryLine 126 = .ok (.aload_n 0, 1) := by decide +kernel
theorem dX4_tryLine_127 : decode cX4_tryLine 127 = .ok (.getfield 33, 3) := by decide +kernel
theorem dX4_tryLine_130 : decode cX4_tryLine 130 = .ok (.iload 8, 2) := by decide +kernel
theorem dX4_tryLine_132 : decode cX4_tryLine 132 = .ok (.iload 7, 2) := by decide +kernel
theorem dX4_tryLine_134 : decode cX4_tryLine 134 = .ok (.invokestatic 83, 3) := by decide +kernel
theorem dX4_tryLine_137 : decode cX4_tryLine 137 = .ok (.aload_n 0, 1) := by decide +kernel
theorem dX4_tryLine_138 : decode cX4_tryLine 138 = .ok (.getfield 36, 3) := by decide +kernel
theorem dX4_tryLine_141 : decode cX4_tryLine 141 = .ok (.iload 8, 2) := by decide +kernel
theorem dX4_tryLine_143 : decode cX4_tryLine 143 = .ok (.aload_n 0, 1) := by decide +kernel
theorem dX4_tryLine_144 : decode cX4_tryLine 144 = .ok (.getfield 36, 3) := by decide +kernel
theorem dX4_tryLine_147 : decode cX4_tryLine 147 = .ok (.iload_n 1, 1) := by decide +kernel
theorem dX4_tryLine_148 : decode cX4_tryLine 148 = .ok (.invokestatic 102, 3) := by decide +kernel
theorem dX4_tryLine_151 : decode cX4_tryLine 151 = .ok (.aload_n 0, 1) := by decide +kernel
theorem dX4_tryLine_152 : decode cX4_tryLine 152 = .ok (.getfield 15, 3) := by decide +kernel
theorem dX4_tryLine_155 : decode cX4_tryLine 155 = .ok (.iload_n 3, 1) := by decide +kernel
theorem dX4_tryLine_156 : decode cX4_tryLine 156 = .ok (.invokestatic 102, 3) := by decide +kernel
theorem dX4_tryLine_159 : decode cX4_tryLine 159 = .ok (.iadd, 1) := by decide +kernel
theorem dX4_tryLine_160 : decode cX4_tryLine 160 = .ok (.invokestatic 83, 3) := by decide +kernel
theorem dX4_tryLine_163 : decode cX4_tryLine 163 = .ok (.aload_n 0, 1) := by decide +kernel
theorem dX4_tryLine_164 : decode cX4_tryLine 164 = .ok (.getfield 39, 3) := by decide +kernel
theorem dX4_tryLine_167 : decode cX4_tryLine 167 = .ok (.iload_n 1, 1) := by decide +kernel
theorem dX4_tryLine_168 : decode cX4_tryLine 168 = .ok (.iload_n 2, 1) := by decide +kernel
theorem dX4_tryLine_169 : decode cX4_tryLine 169 = .ok (.invokestatic 83, 3) := by decide +kernel
theorem dX4_tryLine_172 : decode cX4_tryLine 172 = .ok (.aload_n 0, 1) := by decide +kernel
theorem dX4_tryLine_173 : decode cX4_tryLine 173 = .ok (.iload 8, 2) := by decide +kernel
theorem dX4_tryLine_175 : decode cX4_tryLine 175 = .ok (.invokevirtual 146, 3) := by decide +kernel
theorem dX4_tryLine_178 : decode cX4_tryLine 178 = .ok (.aload_n 0, 1) := by decide +kernel
theorem dX4_tryLine_179 : decode cX4_tryLine 179 = .ok (.getfield 21, 3) := by decide +kernel
theorem dX4_tryLine_182 : decode cX4_tryLine 182 = .ok (.iload_n 2, 1) := by decide +kernel
theorem dX4_tryLine_183 : decode cX4_tryLine 183 = .ok (.aload_n 0, 1) := by decide +kernel
theorem dX4_tryLine_184 : decode cX4_tryLine 184 = .ok (.getfield 18, 3) := by decide +kernel
theorem dX4_tryLine_187 : decode cX4_tryLine 187 = .ok (.iload_n 3, 1) := by decide +kernel
theorem dX4_tryLine_188 : decode cX4_tryLine 188 = .ok (.invokestatic 102, 3) := by decide +kernel
theorem dX4_tryLine_191 : decode cX4_tryLine 191 = .ok (.invokestatic 83, 3) := by decide +kernel
theorem dX4_tryLine_194 : decode cX4_tryLine 194 = .ok (.aload_n 0, 1) := by decide +kernel
theorem dX4_tryLine_195 : decode cX4_tryLine 195 = .ok (.dup, 1) := by decide +kernel
theorem dX4_tryLine_196 : decode cX4_tryLine 196 = .ok (.getfield 49, 3) := by decide +kernel
theorem dX4_tryLine_199 : decode cX4_tryLine 199 = .ok (.aload_n 0, 1) := by decide +kernel
theorem dX4_tryLine_200 : decode cX4_tryLine 200 = .ok (.getfield 15, 3) := by decide +kernel
theorem dX4_tryLine_203 : decode cX4_tryLine 203 = .ok (.iload_n 3, 1) := by decide +kernel
theorem dX4_tryLine_204 : decode cX4_tryLine 204 = .ok (.invokestatic 102, 3) := by decide +kernel
theorem dX4_tryLine_207 : decode cX4_tryLine 207 = .ok (.isub, 1) := by decide +kernel
theorem dX4_tryLine_208 : decode cX4_tryLine 208 = .ok (.putfield 49, 3) := by decide +kernel
theorem dX4_tryLine_211 : decode cX4_tryLine 211 = .ok (.aload_n 0, 1) := by decide +kernel
theorem dX4_tryLine_212 : decode cX4_tryLine 212 = .ok (.iload 8, 2) := by decide +kernel
theorem dX4_tryLine_214 : decode cX4_tryLine 214 = .ok (.invokevirtual 110, 3) := by decide +kernel
theorem dX4_tryLine_217 : decode cX4_tryLine 217 = .ok (.aload_n 0, 1) := by decide +kernel
theorem dX4_tryLine_218 : decode cX4_tryLine 218 = .ok (.dup, 1) := by decide +kernel
theorem dX4_tryLine_219 : decode cX4_tryLine 219 = .ok (.getfield 49, 3) := by decide +kernel
theorem dX4_tryLine_222 : decode cX4_tryLine 222 = .ok (.aload_n 0, 1) := by decide +kernel
theorem dX4_tryLine_223 : decode cX4_tryLine 223 = .ok (.getfield 15, 3) := by decide +kernel
theorem dX4_tryLine_226 : decode cX4_tryLine 226 = .ok (.iload_n 3, 1) := by decide +kernel
theorem dX4_tryLine_227 : decode cX4_tryLine 227 = .ok (.invokestatic 102, 3) := by decide +kernel
theorem dX4_tryLine_230 : decode cX4_tryLine 230 = .ok (.iadd, 1) := by decide +kernel
theorem dX4_tryLine_231 : decode cX4_tryLine 231 = .ok (.putfield 49, 3) := by decide +kernel
theorem dX4_tryLine_234 : decode cX4_tryLine 234 = .ok (.aload_n 0, 1) := by decide +kernel
theorem dX4_tryLine_235 : decode cX4_tryLine 235 = .ok (.getfield 21, 3) := by decide +kernel
theorem dX4_tryLine_238 : decode cX4_tryLine 238 = .ok (.iload_n 2, 1) := by decide +kernel
theorem dX4_tryLine_239 : decode cX4_tryLine 239 = .ok (.iload_n 3, 1) := by decide +kernel
theorem dX4_tryLine_240 : decode cX4_tryLine 240 = .ok (.invokestatic 83, 3) := by decide +kernel
theorem dX4_tryLine_243 : decode cX4_tryLine 243 = .ok (.return_, 1) := by decide +kernel
theorem dX4_keepIfBetter_0 : decode cX4_keepIfBetter 0 = .ok (.aload_n 0, 1) := by decide +kernel
theorem dX4_keepIfBetter_1 : decode cX4_keepIfBetter 1 = .ok (.getfield 36, 3) := by decide +kernel
theorem dX4_keepIfBetter_4 : decode cX4_keepIfBetter 4 = .ok (.iload_n 1, 1) := by decide +kernel
theorem dX4_keepIfBetter_5 : decode cX4_keepIfBetter 5 = .ok (.invokestatic 102, 3) := by decide +kernel
theorem dX4_keepIfBetter_8 : decode cX4_keepIfBetter 8 = .ok (.istore_n 2, 1) := by decide +kernel
theorem dX4_keepIfBetter_9 : decode cX4_keepIfBetter 9 = .ok (.iload_n 2, 1) := by decide +kernel
theorem dX4_keepIfBetter_10 : decode cX4_keepIfBetter 10 = .ok (.aload_n 0, 1) := by decide +kernel
theorem dX4_keepIfBetter_11 : decode cX4_keepIfBetter 11 = .ok (.getfield 55, 3) := by decide +kernel
theorem dX4_keepIfBetter_14 : decode cX4_keepIfBetter 14 = .ok (.if_icmp .lt 19, 3) := by decide +kernel
theorem dX4_keepIfBetter_17 : decode cX4_keepIfBetter 17 = .ok (.iload_n 2, 1) := by decide +kernel
theorem dX4_keepIfBetter_18 : decode cX4_keepIfBetter 18 = .ok (.aload_n 0, 1) := by decide +kernel
theorem dX4_keepIfBetter_19 : decode cX4_keepIfBetter 19 = .ok (.getfield 55, 3) := by decide +kernel
theorem dX4_keepIfBetter_22 : decode cX4_keepIfBetter 22 = .ok (.if_icmp .ne 12, 3) := by decide +kernel
theorem dX4_keepIfBetter_25 : decode cX4_keepIfBetter 25 = .ok (.iload_n 1, 1) := by decide +kernel
theorem dX4_keepIfBetter_26 : decode cX4_keepIfBetter 26 = .ok (.aload_n 0, 1) := by decide +kernel
theorem dX4_keepIfBetter_27 : decode cX4_keepIfBetter 27 = .ok (.getfield 52, 3) := by decide +kernel
theorem dX4_keepIfBetter_30 : decode cX4_keepIfBetter 30 = .ok (.if_icmp .lt 4, 3) := by decide +kernel
theorem dX4_keepIfBetter_33 : decode cX4_keepIfBetter 33 = .ok (.return_, 1) := by decide +kernel
theorem dX4_keepIfBetter_34 : decode cX4_keepIfBetter 34 = .ok (.aload_n 0, 1) := by decide +kernel
theorem dX4_keepIfBetter_35 : decode cX4_keepIfBetter 35 = .ok (.iload_n 2, 1) := by decide +kernel
theorem dX4_keepIfBetter_36 : decode cX4_keepIfBetter 36 = .ok (.putfield 55, 3) := by decide +kernel
theorem dX4_keepIfBetter_39 : decode cX4_keepIfBetter 39 = .ok (.aload_n 0, 1) := by decide +kernel
theorem dX4_keepIfBetter_40 : decode cX4_keepIfBetter 40 = .ok (.iload_n 1, 1) := by decide +kernel
theorem dX4_keepIfBetter_41 : decode cX4_keepIfBetter 41 = .ok (.putfield 52, 3) := by decide +kernel
theorem dX4_keepIfBetter_44 : decode cX4_keepIfBetter 44 = .ok (.iconst 0, 1) := by decide +kernel
theorem dX4_keepIfBetter_45 : decode cX4_keepIfBetter 45 = .ok (.istore_n 3, 1) := by decide +kernel
theorem dX4_keepIfBetter_46 : decode cX4_keepIfBetter 46 = .ok (.iload_n 3, 1) := by decide +kernel
theorem dX4_keepIfBetter_47 : decode cX4_keepIfBetter 47 = .ok (.iload_n 1, 1) := by decide +kernel
theorem dX4_keepIfBetter_48 : decode cX4_keepIfBetter 48 = .ok (.if_icmp .ge 25, 3) := by decide +kernel
theorem dX4_keepIfBetter_51 : decode cX4_keepIfBetter 51 = .ok (.aload_n 0, 1) := by decide +kernel
theorem dX4_keepIfBetter_52 : decode cX4_keepIfBetter 52 = .ok (.getfield 42, 3) := by decide +kernel
theorem dX4_keepIfBetter_55 : decode cX4_keepIfBetter 55 = .ok (.iload_n 3, 1) := by decide +kernel
theorem dX4_keepIfBetter_56 : decode cX4_keepIfBetter 56 = .ok (.aload_n 0, 1) := by decide +kernel
theorem dX4_keepIfBetter_57 : decode cX4_keepIfBetter 57 = .ok (.getfield 39, 3) := by decide +kernel
theorem dX4_keepIfBetter_60 : decode cX4_keepIfBetter 60 = .ok (.iload_n 3, 1) := by decide +kernel
theorem dX4_keepIfBetter_61 : decode cX4_keepIfBetter 61 = .ok (.invokestatic 102, 3) := by decide +kernel
theorem dX4_keepIfBetter_64 : decode cX4_keepIfBetter 64 = .ok (.invokestatic 83, 3) := by decide +kernel
theorem dX4_keepIfBetter_67 : decode cX4_keepIfBetter 67 = .ok (.iinc 3 1, 3) := by decide +kernel
theorem dX4_keepIfBetter_70 : decode cX4_keepIfBetter 70 = .ok (.goto (-24), 3) := by decide +kernel
theorem dX4_keepIfBetter_73 : decode cX4_keepIfBetter 73 = .ok (.return_, 1) := by decide +kernel
theorem dX5_init_0 : decode cX5_init 0 = .ok (.aload_n 0, 1) := by decide +kernel
theorem dX5_init_1 : decode cX5_init 1 = .ok (.invokespecial 3, 3) := by decide +kernel
theorem dX5_init_4 : decode cX5_init 4 = .ok (.aload_n 0, 1) := by decide +kernel
theorem dX5_init_5 : decode cX5_init 5 = .ok (.bipush 8, 2) := by decide +kernel
theorem dX5_init_7 : decode cX5_init 7 = .ok (.newarray .int, 2) := by decide +kernel
theorem dX5_init_9 : decode cX5_init 9 = .ok (.putfield 9, 3) := by decide +kernel
theorem dX5_init_12 : decode cX5_init 12 = .ok (.aload_n 0, 1) := by decide +kernel
theorem dX5_init_13 : decode cX5_init 13 = .ok (.bipush 8, 2) := by decide +kernel
theorem dX5_init_15 : decode cX5_init 15 = .ok (.newarray .int, 2) := by decide +kernel
theorem dX5_init_17 : decode cX5_init 17 = .ok (.putfield 15, 3) := by decide +kernel
theorem dX5_init_20 : decode cX5_init 20 = .ok (.aload_n 0, 1) := by decide +kernel
theorem dX5_init_21 : decode cX5_init 21 = .ok (.bipush 8, 2) := by decide +kernel
theorem dX5_init_23 : decode cX5_init 23 = .ok (.newarray .int, 2) := by decide +kernel
theorem dX5_init_25 : decode cX5_init 25 = .ok (.putfield 18, 3) := by decide +kernel
theorem dX5_init_28 : decode cX5_init 28 = .ok (.aload_n 0, 1) := by decide +kernel
theorem dX5_init_29 : decode cX5_init 29 = .ok (.bipush 8, 2) := by decide +kernel
theorem dX5_init_31 : decode cX5_init 31 = .ok (.newarray .int, 2) := by decide +kernel
theorem dX5_init_33 : decode cX5_init 33 = .ok (.putfield 21, 3) := by decide +kernel
theorem dX5_init_36 : decode cX5_init 36 = .ok (.aload_n 0, 1) := by decide +kernel
theorem dX5_init_37 : decode cX5_init 37 = .ok (.iconst 0, 1) := by decide +kernel
theorem dX5_init_38 : decode cX5_init 38 = .ok (.putfield 24, 3) := by decide +kernel
theorem dX5_init_41 : decode cX5_init 41 = .ok (.return_, 1) := by decide +kernel
theorem dX5_has_0 : decode cX5_has 0 = .ok (.iload_n 1, 1) := by decide +kernel
theorem dX5_has_1 : decode cX5_has 1 = .ok (.ifCond .lt 15, 3) := by decide +kernel
theorem dX5_has_4 : decode cX5_has 4 = .ok (.iload_n 1, 1) := by decide +kernel
theorem dX5_has_5 : decode cX5_has 5 = .ok (.aload_n 0, 1) := by decide +kernel
theorem dX5_has_6 : decode cX5_has 6 = .ok (.getfield 24, 3) := by decide +kernel
theorem dX5_has_9 : decode cX5_has 9 = .ok (.if_icmp .ge 7, 3) := by decide +kernel
theorem dX5_has_12 : decode cX5_has 12 = .ok (.iconst 1, 1) := by decide +kernel
theorem dX5_has_13 : decode cX5_has 13 = .ok (.goto 4, 3) := by decide +kernel
theorem dX5_has_16 : decode cX5_has 16 = .ok (.iconst 0, 1) := by decide +kernel
theorem dX5_has_17 : decode cX5_has 17 = .ok (.ireturn, 1) := by decide +kernel
theorem dX5_add_0 : decode cX5_add 0 = .ok (.aload_n 0, 1) := by decide +kernel
theorem dX5_add_1 : decode cX5_add 1 = .ok (.getfield 24, 3) := by decide +kernel
theorem dX5_add_4 : decode cX5_add 4 = .ok (.bipush 8, 2) := by decide +kernel
theorem dX5_add_6 : decode cX5_add 6 = .ok (.if_icmp .ge 62, 3) := by decide +kernel
theorem dX5_add_9 : decode cX5_add 9 = .ok (.aload_n 0, 1) := by decide +kernel
theorem dX5_add_10 : decode cX5_add 10 = .ok (.getfield 9, 3) := by decide +kernel
theorem dX5_add_13 : decode cX5_add 13 = .ok (.aload_n 0, 1) := by decide +kernel
theorem dX5_add_14 : decode cX5_add 14 = .ok (.getfield 24, 3) := by decide +kernel
theorem dX5_add_17 : decode cX5_add 17 = .ok (.iload_n 1, 1) := by decide +kernel
theorem dX5_add_18 : decode cX5_add 18 = .ok (.invokestatic 28, 3) := by decide +kernel
theorem dX5_add_21 : decode cX5_add 21 = .ok (.aload_n 0, 1) := by decide +kernel
theorem dX5_add_22 : decode cX5_add 22 = .ok (.getfield 15, 3) := by decide +kernel
theorem dX5_add_25 : decode cX5_add 25 = .ok (.aload_n 0, 1) := by decide +kernel
theorem dX5_add_26 : decode cX5_add 26 = .ok (.getfield 24, 3) := by decide +kernel
theorem dX5_add_29 : decode cX5_add 29 = .ok (.iload_n 2, 1) := by decide +kernel
theorem dX5_add_30 : decode cX5_add 30 = .ok (.invokestatic 28, 3) := by decide +kernel
theorem dX5_add_33 : decode cX5_add 33 = .ok (.aload_n 0, 1) := by decide +kernel
theorem dX5_add_34 : decode cX5_add 34 = .ok (.getfield 18, 3) := by decide +kernel
theorem dX5_add_37 : decode cX5_add 37 = .ok (.aload_n 0, 1) := by decide +kernel
theorem dX5_add_38 : decode cX5_add 38 = .ok (.getfield 24, 3) := by decide +kernel
theorem dX5_add_41 : decode cX5_add 41 = .ok (.iload_n 3, 1) := by decide +kernel
theorem dX5_add_42 : decode cX5_add 42 = .ok (.invokestatic 28, 3) := by decide +kernel
theorem dX5_add_45 : decode cX5_add 45 = .ok (.aload_n 0, 1) := by decide +kernel
theorem dX5_add_46 : decode cX5_add 46 = .ok (.getfield 21, 3) := by decide +kernel
theorem dX5_add_49 : decode cX5_add 49 = .ok (.aload_n 0, 1) := by decide +kernel
theorem dX5_add_50 : decode cX5_add 50 = .ok (.getfield 24, 3) := by decide +kernel
theorem dX5_add_53 : decode cX5_add 53 = .ok (.iload 4, 2) := by decide +kernel
theorem dX5_add_55 : decode cX5_add 55 = .ok (.invokestatic 28, 3) := by decide +kernel
theorem dX5_add_58 : decode cX5_add 58 = .ok (.aload_n 0, 1) := by decide +kernel
theorem dX5_add_59 : decode cX5_add 59 = .ok (.dup, 1) := by decide +kernel
theorem dX5_add_60 : decode cX5_add 60 = .ok (.getfield 24, 3) := by decide +kernel
theorem dX5_add_63 : decode cX5_add 63 = .ok (.iconst 1, 1) := by decide +kernel
theorem dX5_add_64 : decode cX5_add 64 = .ok (.iadd, 1) := by decide +kernel
theorem dX5_add_65 : decode cX5_add 65 = .ok (.putfield 24, 3) := by decide +kernel
theorem dX5_add_68 : decode cX5_add 68 = .ok (.return_, 1) := by decide +kernel
theorem dX5_become_0 : decode cX5_become 0 = .ok (.iconst 0, 1) := by decide +kernel
theorem dX5_become_1 : decode cX5_become 1 = .ok (.istore_n 2, 1) := by decide +kernel
theorem dX5_become_2 : decode cX5_become 2 = .ok (.iload_n 2, 1) := by decide +kernel
theorem dX5_become_3 : decode cX5_become 3 = .ok (.bipush 8, 2) := by decide +kernel
theorem dX5_become_5 : decode cX5_become 5 = .ok (.if_icmp .ge 61, 3) := by decide +kernel
theorem dX5_become_8 : decode cX5_become 8 = .ok (.aload_n 0, 1) := by decide +kernel
theorem dX5_become_9 : decode cX5_become 9 = .ok (.getfield 9, 3) := by decide +kernel
theorem dX5_become_12 : decode cX5_become 12 = .ok (.iload_n 2, 1) := by decide +kernel
theorem dX5_become_13 : decode cX5_become 13 = .ok (.aload_n 1, 1) := by decide +kernel
theorem dX5_become_14 : decode cX5_become 14 = .ok (.iload_n 2, 1) := by decide +kernel
theorem dX5_become_15 : decode cX5_become 15 = .ok (.invokevirtual 32, 3) := by decide +kernel
theorem dX5_become_18 : decode cX5_become 18 = .ok (.invokestatic 28, 3) := by decide +kernel
theorem dX5_become_21 : decode cX5_become 21 = .ok (.aload_n 0, 1) := by decide +kernel
theorem dX5_become_22 : decode cX5_become 22 = .ok (.getfield 15, 3) := by decide +kernel
theorem dX5_become_25 : decode cX5_become 25 = .ok (.iload_n 2, 1) := by decide +kernel
theorem dX5_become_26 : decode cX5_become 26 = .ok (.aload_n 1, 1) := by decide +kernel
theorem dX5_become_27 : decode cX5_become 27 = .ok (.iload_n 2, 1) := by decide +kernel
theorem dX5_become_28 : decode cX5_become 28 = .ok (.invokevirtual 36, 3) := by decide +kernel
theorem dX5_become_31 : decode cX5_become 31 = .ok (.invokestatic 28, 3) := by decide +kernel
theorem dX5_become_34 : decode cX5_become 34 = .ok (.aload_n 0, 1) := by decide +kernel
theorem dX5_become_35 : decode cX5_become 35 = .ok (.getfield 18, 3) := by decide +kernel
theorem dX5_become_38 : decode cX5_become 38 = .ok (.iload_n 2, 1) := by decide +kernel
theorem dX5_become_39 : decode cX5_become 39 = .ok (.aload_n 1, 1) := by decide +kernel
theorem dX5_become_40 : decode cX5_become 40 = .ok (.iload_n 2, 1) := by decide +kernel
theorem dX5_become_41 : decode cX5_become 41 = .ok (.invokevirtual 39, 3) := by decide +kernel
theorem dX5_become_44 : decode cX5_become 44 = .ok (.invokestatic 28, 3) := by decide +kernel
theorem dX5_become_47 : decode cX5_become 47 = .ok (.aload_n 0, 1) := by decide +kernel
theorem dX5_become_48 : decode cX5_become 48 = .ok (.getfield 21, 3) := by decide +kernel
theorem dX5_become_51 : decode cX5_become 51 = .ok (.iload_n 2, 1) := by decide +kernel
theorem dX5_become_52 : decode cX5_become 52 = .ok (.aload_n 1, 1) := by decide +kernel
theorem dX5_become_53 : decode cX5_become 53 = .ok (.iload_n 2, 1) := by decide +kernel
theorem dX5_become_54 : decode cX5_become 54 = .ok (.invokevirtual 42, 3) := by decide +kernel
theorem dX5_become_57 : decode cX5_become 57 = .ok (.invokestatic 28, 3) := by decide +kernel
theorem dX5_become_60 : decode cX5_become 60 = .ok (.iinc 2 1, 3) := by decide +kernel
theorem dX5_become_63 : decode cX5_become 63 = .ok (.goto (-61), 3) := by decide +kernel
theorem dX5_become_66 : decode cX5_become 66 = .ok (.aload_n 0, 1) := by decide +kernel
theorem dX5_become_67 : decode cX5_become 67 = .ok (.aload_n 1, 1) := by decide +kernel
theorem dX5_become_68 : decode cX5_become 68 = .ok (.getfield 24, 3) := by decide +kernel
theorem dX5_become_71 : decode cX5_become 71 = .ok (.putfield 24, 3) := by decide +kernel
theorem dX5_become_74 : decode cX5_become 74 = .ok (.return_, 1) := by decide +kernel
theorem dX5_columnOf_0 : decode cX5_columnOf 0 = .ok (.aload_n 0, 1) := by decide +kernel
theorem dX5_columnOf_1 : decode cX5_columnOf 1 = .ok (.getfield 9, 3) := by decide +kernel
theorem dX5_columnOf_4 : decode cX5_columnOf 4 = .ok (.iload_n 1, 1) := by decide +kernel
theorem dX5_columnOf_5 : decode cX5_columnOf 5 = .ok (.invokestatic 45, 3) := by decide +kernel
theorem dX5_columnOf_8 : decode cX5_columnOf 8 = .ok (.ireturn, 1) := by decide +kernel
theorem dX5_kindOf_0 : decode cX5_kindOf 0 = .ok (.aload_n 0, 1) := by decide +kernel
theorem dX5_kindOf_1 : decode cX5_kindOf 1 = .ok (.getfield 15, 3) := by decide +kernel
theorem dX5_kindOf_4 : decode cX5_kindOf 4 = .ok (.iload_n 1, 1) := by decide +kernel
theorem dX5_kindOf_5 : decode cX5_kindOf 5 = .ok (.invokestatic 45, 3) := by decide +kernel
theorem dX5_kindOf_8 : decode cX5_kindOf 8 = .ok (.ireturn, 1) := by decide +kernel
theorem dX5_setKind_0 : decode cX5_setKind 0 = .ok (.aload_n 0, 1) := by decide +kernel
theorem dX5_setKind_1 : decode cX5_setKind 1 = .ok (.getfield 15, 3) := by decide +kernel
theorem dX5_setKind_4 : decode cX5_setKind 4 = .ok (.iload_n 1, 1) := by decide +kernel
theorem dX5_setKind_5 : decode cX5_setKind 5 = .ok (.iload_n 2, 1) := by decide +kernel
theorem dX5_setKind_6 : decode cX5_setKind 6 = .ok (.invokestatic 28, 3) := by decide +kernel
theorem dX5_setKind_9 : decode cX5_setKind 9 = .ok (.return_, 1) := by decide +kernel
theorem dX5_figureOf_0 : decode cX5_figureOf 0 = .ok (.aload_n 0, 1) := by decide +kernel
theorem dX5_figureOf_1 : decode cX5_figureOf 1 = .ok (.getfield 18, 3) := by decide +kernel
theorem dX5_figureOf_4 : decode cX5_figureOf 4 = .ok (.iload_n 1, 1) := by decide +kernel
theorem dX5_figureOf_5 : decode cX5_figureOf 5 = .ok (.invokestatic 45, 3) := by decide +kernel
theorem dX5_figureOf_8 : decode cX5_figureOf 8 = .ok (.ireturn, 1) := by decide +kernel
theorem dX5_secondsOf_0 : decode cX5_secondsOf 0 = .ok (.aload_n 0, 1) := by decide +kernel
theorem dX5_secondsOf_1 : decode cX5_secondsOf 1 = .ok (.getfield 21, 3) := by decide +kernel
theorem dX5_secondsOf_4 : decode cX5_secondsOf 4 = .ok (.iload_n 1, 1) := by decide +kernel
theorem dX5_secondsOf_5 : decode cX5_secondsOf 5 = .ok (.invokestatic 45, 3) := by decide +kernel
theorem dX5_secondsOf_8 : decode cX5_secondsOf 8 = .ok (.ireturn, 1) := by decide +kernel
theorem dX5_aheadOf_0 : decode cX5_aheadOf 0 = .ok (.iconst 0, 1) := by decide +kernel
theorem dX5_aheadOf_1 : decode cX5_aheadOf 1 = .ok (.istore_n 2, 1) := by decide +kernel
theorem dX5_aheadOf_2 : decode cX5_aheadOf 2 = .ok (.iconst 0, 1) := by decide +kernel
theorem dX5_aheadOf_3 : decode cX5_aheadOf 3 = .ok (.istore_n 3, 1) := by decide +kernel
theorem dX5_aheadOf_4 : decode cX5_aheadOf 4 = .ok (.iload_n 3, 1) := by decide +kernel
theorem dX5_aheadOf_5 : decode cX5_aheadOf 5 = .ok (.iload_n 1, 1) := by decide +kernel
theorem dX5_aheadOf_6 : decode cX5_aheadOf 6 = .ok (.if_icmp .ge 39, 3) := by decide +kernel
theorem dX5_aheadOf_9 : decode cX5_aheadOf 9 = .ok (.iload_n 3, 1) := by decide +kernel
theorem dX5_aheadOf_10 : decode cX5_aheadOf 10 = .ok (.aload_n 0, 1) := by decide +kernel
theorem dX5_aheadOf_11 : decode cX5_aheadOf 11 = .ok (.getfield 24, 3) := by decide +kernel
theorem dX5_aheadOf_14 : decode cX5_aheadOf 14 = .ok (.if_icmp .ge 31, 3) := by decide +kernel
theorem dX5_aheadOf_17 : decode cX5_aheadOf 17 = .ok (.aload_n 0, 1) := by decide +kernel
theorem dX5_aheadOf_18 : decode cX5_aheadOf 18 = .ok (.getfield 9, 3) := by decide +kernel
theorem dX5_aheadOf_21 : decode cX5_aheadOf 21 = .ok (.iload_n 3, 1) := by decide +kernel
theorem dX5_aheadOf_22 : decode cX5_aheadOf 22 = .ok (.invokestatic 45, 3) := by decide +kernel
theorem dX5_aheadOf_25 : decode cX5_aheadOf 25 = .ok (.aload_n 0, 1) := by decide +kernel
theorem dX5_aheadOf_26 : decode cX5_aheadOf 26 = .ok (.getfield 9, 3) := by decide +kernel
theorem dX5_aheadOf_29 : decode cX5_aheadOf 29 = .ok (.iload_n 1, 1) := by decide +kernel
theorem dX5_aheadOf_30 : decode cX5_aheadOf 30 = .ok (.invokestatic 45, 3) := by decide +kernel
theorem dX5_aheadOf_33 : decode cX5_aheadOf 33 = .ok (.if_icmp .ne 6, 3) := by decide +kernel
theorem dX5_aheadOf_36 : decode cX5_aheadOf 36 = .ok (.iinc 2 1, 3) := by decide +kernel
theorem dX5_aheadOf_39 : decode cX5_aheadOf 39 = .ok (.iinc 3 1, 3) := by decide +kernel
theorem dX5_aheadOf_42 : decode cX5_aheadOf 42 = .ok (.goto (-38), 3) := by decide +kernel
theorem dX5_aheadOf_45 : decode cX5_aheadOf 45 = .ok (.iload_n 2, 1) := by decide +kernel
theorem dX5_aheadOf_46 : decode cX5_aheadOf 46 = .ok (.ireturn, 1) := by decide +kernel
theorem dX5_costOf_0 : decode cX5_costOf 0 = .ok (.aload_n 0, 1) := by decide +kernel
theorem dX5_costOf_1 : decode cX5_costOf 1 = .ok (.iload_n 1, 1) := by decide +kernel
theorem dX5_costOf_2 : decode cX5_costOf 2 = .ok (.invokevirtual 42, 3) := by decide +kernel
theorem dX5_costOf_5 : decode cX5_costOf 5 = .ok (.iload_n 2, 1) := by decide +kernel
theorem dX5_costOf_6 : decode cX5_costOf 6 = .ok (.imul, 1) := by decide +kernel
theorem dX5_costOf_7 : decode cX5_costOf 7 = .ok (.istore_n 3, 1) := by decide +kernel
theorem dX5_costOf_8 : decode cX5_costOf 8 = .ok (.aload_n 0, 1) := by decide +kernel
theorem dX5_costOf_9 : decode cX5_costOf 9 = .ok (.iload_n 1, 1) := by decide +kernel
theorem dX5_costOf_10 : decode cX5_costOf 10 = .ok (.invokevirtual 36, 3) := by decide +kernel
theorem dX5_costOf_13 : decode cX5_costOf 13 = .ok (.tableswitch 57 1 4 #[31, 39, 31, 47], 31) := by decide +kernel
theorem dX5_costOf_44 : decode cX5_costOf 44 = .ok (.iconst 1, 1) := by decide +kernel
theorem dX5_costOf_45 : decode cX5_costOf 45 = .ok (.iload_n 3, 1) := by decide +kernel
theorem dX5_costOf_46 : decode cX5_costOf 46 = .ok (.iconst 2, 1) := by decide +kernel
theorem dX5_costOf_47 : decode cX5_costOf 47 = .ok (.idiv, 1) := by decide +kernel
theorem dX5_costOf_48 : decode cX5_costOf 48 = .ok (.invokestatic 49, 3) := by decide +kernel
theorem dX5_costOf_51 : decode cX5_costOf 51 = .ok (.ireturn, 1) := by decide +kernel
theorem dX5_costOf_52 : decode cX5_costOf 52 = .ok (.iload_n 3, 1) := by decide +kernel
theorem dX5_costOf_53 : decode cX5_costOf 53 = .ok (.aload_n 0, 1) := by decide +kernel
theorem dX5_costOf_54 : decode cX5_costOf 54 = .ok (.iload_n 1, 1) := by decide +kernel
theorem dX5_costOf_55 : decode cX5_costOf 55 = .ok (.invokevirtual 39, 3) := by decide +kernel
theorem dX5_costOf_58 : decode cX5_costOf 58 = .ok (.iadd, 1) := by decide +kernel
theorem dX5_costOf_59 : decode cX5_costOf 59 = .ok (.ireturn, 1) := by decide +kernel
theorem dX5_costOf_60 : decode cX5_costOf 60 = .ok (.iload_n 3, 1) := by decide +kernel
theorem dX5_costOf_61 : decode cX5_costOf 61 = .ok (.aload_n 0, 1) := by decide +kernel
theorem dX5_costOf_62 : decode cX5_costOf 62 = .ok (.iload_n 1, 1) := by decide +kernel
theorem dX5_costOf_63 : decode cX5_costOf 63 = .ok (.invokevirtual 39, 3) := by decide +kernel
theorem dX5_costOf_66 : decode cX5_costOf 66 = .ok (.iadd, 1) := by decide +kernel
theorem dX5_costOf_67 : decode cX5_costOf 67 = .ok (.iconst 3, 1) := by decide +kernel
theorem dX5_costOf_68 : decode cX5_costOf 68 = .ok (.iadd, 1) := by decide +kernel
theorem dX5_costOf_69 : decode cX5_costOf 69 = .ok (.ireturn, 1) := by decide +kernel
theorem dX5_costOf_70 : decode cX5_costOf 70 = .ok (.iload_n 3, 1) := by decide +kernel
theorem dX5_costOf_71 : decode cX5_costOf 71 = .ok (.ireturn, 1) := by decide +kernel
theorem dX5_worthOf_0 : decode cX5_worthOf 0 = .ok (.aload_n 0, 1) := by decide +kernel
theorem dX5_worthOf_1 : decode cX5_worthOf 1 = .ok (.iload_n 1, 1) := by decide +kernel
theorem dX5_worthOf_2 : decode cX5_worthOf 2 = .ok (.invokevirtual 39, 3) := by decide +kernel
theorem dX5_worthOf_5 : decode cX5_worthOf 5 = .ok (.istore_n 2, 1) := by decide +kernel
theorem dX5_worthOf_6 : decode cX5_worthOf 6 = .ok (.aload_n 0, 1) := by decide +kernel
theorem dX5_worthOf_7 : decode cX5_worthOf 7 = .ok (.iload_n 1, 1) := by decide +kernel
theorem dX5_worthOf_8 : decode cX5_worthOf 8 = .ok (.invokevirtual 36, 3) := by decide +kernel
theorem dX5_worthOf_11 : decode cX5_worthOf 11 = .ok (.tableswitch 67 1 5 #[33, 67, 37, 55, 59], 33) := by decide +kernel
theorem dX5_worthOf_44 : decode cX5_worthOf 44 = .ok (.iload_n 2, 1) := by decide +kernel
theorem dX5_worthOf_45 : decode cX5_worthOf 45 = .ok (.iconst 2, 1) := by decide +kernel
theorem dX5_worthOf_46 : decode cX5_worthOf 46 = .ok (.idiv, 1) := by decide +kernel
theorem dX5_worthOf_47 : decode cX5_worthOf 47 = .ok (.ireturn, 1) := by decide +kernel
theorem dX5_worthOf_48 : decode cX5_worthOf 48 = .ok (.iload_n 2, 1) := by decide +kernel
theorem dX5_worthOf_49 : decode cX5_worthOf 49 = .ok (.iconst 2, 1) := by decide +kernel
theorem dX5_worthOf_50 : decode cX5_worthOf 50 = .ok (.idiv, 1) := by decide +kernel
theorem dX5_worthOf_51 : decode cX5_worthOf 51 = .ok (.aload_n 0, 1) := by decide +kernel
theorem dX5_worthOf_52 : decode cX5_worthOf 52 = .ok (.iload_n 1, 1) := by decide +kernel
theorem dX5_worthOf_53 : decode cX5_worthOf 53 = .ok (.invokevirtual 55, 3) := by decide +kernel
theorem dX5_worthOf_56 : decode cX5_worthOf 56 = .ok (.ifCond .eq 7, 3) := by decide +kernel
theorem dX5_worthOf_59 : decode cX5_worthOf 59 = .ok (.iconst 2, 1) := by decide +kernel
theorem dX5_worthOf_60 : decode cX5_worthOf 60 = .ok (.goto 4, 3) := by decide +kernel
theorem dX5_worthOf_63 : decode cX5_worthOf 63 = .ok (.iconst 0, 1) := by decide +kernel
theorem dX5_worthOf_64 : decode cX5_worthOf 64 = .ok (.iadd, 1) := by decide +kernel
theorem dX5_worthOf_65 : decode cX5_worthOf 65 = .ok (.ireturn, 1) := by decide +kernel
theorem dX5_worthOf_66 : decode cX5_worthOf 66 = .ok (.iload_n 2, 1) := by decide +kernel
theorem dX5_worthOf_67 : decode cX5_worthOf 67 = .ok (.iconst 5, 1) := by decide +kernel
theorem dX5_worthOf_68 : decode cX5_worthOf 68 = .ok (.iadd, 1) := by decide +kernel
theorem dX5_worthOf_69 : decode cX5_worthOf 69 = .ok (.ireturn, 1) := by decide +kernel
theorem dX5_worthOf_70 : decode cX5_worthOf 70 = .ok (.iload_n 2, 1) := by decide +kernel
theorem dX5_worthOf_71 : decode cX5_worthOf 71 = .ok (.aload_n 0, 1) := by decide +kernel
theorem dX5_worthOf_72 : decode cX5_worthOf 72 = .ok (.iload_n 1, 1) := by decide +kernel
theorem dX5_worthOf_73 : decode cX5_worthOf 73 = .ok (.invokevirtual 59, 3) := by decide +kernel
theorem dX5_worthOf_76 : decode cX5_worthOf 76 = .ok (.iadd, 1) := by decide +kernel
theorem dX5_worthOf_77 : decode cX5_worthOf 77 = .ok (.ireturn, 1) := by decide +kernel
theorem dX5_worthOf_78 : decode cX5_worthOf 78 = .ok (.iload_n 2, 1) := by decide +kernel
theorem dX5_worthOf_79 : decode cX5_worthOf 79 = .ok (.ireturn, 1) := by decide +kernel
theorem dX5_isHelped_0 : decode cX5_isHelped 0 = .ok (.iconst 0, 1) := by decide +kernel
theorem dX5_isHelped_1 : decode cX5_isHelped 1 = .ok (.istore_n 2, 1) := by decide +kernel
theorem dX5_isHelped_2 : decode cX5_isHelped 2 = .ok (.iconst 0, 1) := by decide +kernel
theorem dX5_isHelped_3 : decode cX5_isHelped 3 = .ok (.istore_n 3, 1) := by decide +kernel
theorem dX5_isHelped_4 : decode cX5_isHelped 4 = .ok (.iload_n 3, 1) := by decide +kernel
theorem dX5_isHelped_5 : decode cX5_isHelped 5 = .ok (.iload_n 1, 1) := by decide +kernel
theorem dX5_isHelped_6 : decode cX5_isHelped 6 = .ok (.if_icmp .ge 54, 3) := by decide +kernel
theorem dX5_isHelped_9 : decode cX5_isHelped 9 = .ok (.iload_n 3, 1) := by decide +kernel
theorem dX5_isHelped_10 : decode cX5_isHelped 10 = .ok (.aload_n 0, 1) := by decide +kernel
theorem dX5_isHelped_11 : decode cX5_isHelped 11 = .ok (.getfield 24, 3) := by decide +kernel
theorem dX5_isHelped_14 : decode cX5_isHelped 14 = .ok (.if_icmp .ge 46, 3) := by decide +kernel
theorem dX5_isHelped_17 : decode cX5_isHelped 17 = .ok (.aload_n 0, 1) := by decide +kernel
theorem dX5_isHelped_18 : decode cX5_isHelped 18 = .ok (.getfield 9, 3) := by decide +kernel
theorem dX5_isHelped_21 : decode cX5_isHelped 21 = .ok (.iload_n 3, 1) := by decide +kernel
theorem dX5_isHelped_22 : decode cX5_isHelped 22 = .ok (.invokestatic 45, 3) := by decide +kernel
theorem dX5_isHelped_25 : decode cX5_isHelped 25 = .ok (.aload_n 0, 1) := by decide +kernel
theorem dX5_isHelped_26 : decode cX5_isHelped 26 = .ok (.getfield 9, 3) := by decide +kernel
theorem dX5_isHelped_29 : decode cX5_isHelped 29 = .ok (.iload_n 1, 1) := by decide +kernel
theorem dX5_isHelped_30 : decode cX5_isHelped 30 = .ok (.invokestatic 45, 3) := by decide +kernel
theorem dX5_isHelped_33 : decode cX5_isHelped 33 = .ok (.if_icmp .ne 21, 3) := by decide +kernel
theorem dX5_isHelped_36 : decode cX5_isHelped 36 = .ok (.aload_n 0, 1) := by decide +kernel
theorem dX5_isHelped_37 : decode cX5_isHelped 37 = .ok (.getfield 15, 3) := by decide +kernel
theorem dX5_isHelped_40 : decode cX5_isHelped 40 = .ok (.iload_n 3, 1) := by decide +kernel
theorem dX5_isHelped_41 : decode cX5_isHelped 41 = .ok (.invokestatic 45, 3) := by decide +kernel
theorem dX5_isHelped_44 : decode cX5_isHelped 44 = .ok (.iconst 3, 1) := by decide +kernel
theorem dX5_isHelped_45 : decode cX5_isHelped 45 = .ok (.if_icmp .eq 7, 3) := by decide +kernel
theorem dX5_isHelped_48 : decode cX5_isHelped 48 = .ok (.iconst 1, 1) := by decide +kernel
theorem dX5_isHelped_49 : decode cX5_isHelped 49 = .ok (.goto 4, 3) := by decide +kernel
theorem dX5_isHelped_52 : decode cX5_isHelped 52 = .ok (.iconst 0, 1) := by decide +kernel
theorem dX5_isHelped_53 : decode cX5_isHelped 53 = .ok (.istore_n 2, 1) := by decide +kernel
theorem dX5_isHelped_54 : decode cX5_isHelped 54 = .ok (.iinc 3 1, 3) := by decide +kernel
theorem dX5_isHelped_57 : decode cX5_isHelped 57 = .ok (.goto (-53), 3) := by decide +kernel
theorem dX5_isHelped_60 : decode cX5_isHelped 60 = .ok (.iload_n 2, 1) := by decide +kernel
theorem dX5_isHelped_61 : decode cX5_isHelped 61 = .ok (.ireturn, 1) := by decide +kernel
theorem dX5_worthOfBits_0 : decode cX5_worthOfBits 0 = .ok (.iconst 0, 1) := by decide +kernel
theorem dX5_worthOfBits_1 : decode cX5_worthOfBits 1 = .ok (.istore_n 2, 1) := by decide +kernel
theorem dX5_worthOfBits_2 : decode cX5_worthOfBits 2 = .ok (.iconst 0, 1) := by decide +kernel
theorem dX5_worthOfBits_3 : decode cX5_worthOfBits 3 = .ok (.istore_n 3, 1) := by decide +kernel
theorem dX5_worthOfBits_4 : decode cX5_worthOfBits 4 = .ok (.iload_n 3, 1) := by decide +kernel
theorem dX5_worthOfBits_5 : decode cX5_worthOfBits 5 = .ok (.aload_n 0, 1) := by decide +kernel
theorem dX5_worthOfBits_6 : decode cX5_worthOfBits 6 = .ok (.getfield 24, 3) := by decide +kernel
theorem dX5_worthOfBits_9 : decode cX5_worthOfBits 9 = .ok (.if_icmp .ge 25, 3) := by decide +kernel
theorem dX5_worthOfBits_12 : decode cX5_worthOfBits 12 = .ok (.iload_n 1, 1) := by decide +kernel
theorem dX5_worthOfBits_13 : decode cX5_worthOfBits 13 = .ok (.iload_n 3, 1) := by decide +kernel
theorem dX5_worthOfBits_14 : decode cX5_worthOfBits 14 = .ok (.ishr, 1) := by decide +kernel
theorem dX5_worthOfBits_15 : decode cX5_worthOfBits 15 = .ok (.iconst 1, 1) := by decide +kernel
theorem dX5_worthOfBits_16 : decode cX5_worthOfBits 16 = .ok (.iand, 1) := by decide +kernel
theorem dX5_worthOfBits_17 : decode cX5_worthOfBits 17 = .ok (.ifCond .eq 11, 3) := by decide +kernel
theorem dX5_worthOfBits_20 : decode cX5_worthOfBits 20 = .ok (.iload_n 2, 1) := by decide +kernel
theorem dX5_worthOfBits_21 : decode cX5_worthOfBits 21 = .ok (.aload_n 0, 1) := by decide +kernel
theorem dX5_worthOfBits_22 : decode cX5_worthOfBits 22 = .ok (.iload_n 3, 1) := by decide +kernel
theorem dX5_worthOfBits_23 : decode cX5_worthOfBits 23 = .ok (.invokevirtual 62, 3) := by decide +kernel
theorem dX5_worthOfBits_26 : decode cX5_worthOfBits 26 = .ok (.iadd, 1) := by decide +kernel
theorem dX5_worthOfBits_27 : decode cX5_worthOfBits 27 = .ok (.istore_n 2, 1) := by decide +kernel
theorem dX5_worthOfBits_28 : decode cX5_worthOfBits 28 = .ok (.iinc 3 1, 3) := by decide +kernel
theorem dX5_worthOfBits_31 : decode cX5_worthOfBits 31 = .ok (.goto (-27), 3) := by decide +kernel
theorem dX5_worthOfBits_34 : decode cX5_worthOfBits 34 = .ok (.iload_n 2, 1) := by decide +kernel
theorem dX5_worthOfBits_35 : decode cX5_worthOfBits 35 = .ok (.ireturn, 1) := by decide +kernel
theorem dX5_linesOfColumns_0 : decode cX5_linesOfColumns 0 = .ok (.iconst 0, 1) := by decide +kernel
theorem dX5_linesOfColumns_1 : decode cX5_linesOfColumns 1 = .ok (.istore_n 2, 1) := by decide +kernel
theorem dX5_linesOfColumns_2 : decode cX5_linesOfColumns 2 = .ok (.iconst 0, 1) := by decide +kernel
theorem dX5_linesOfColumns_3 : decode cX5_linesOfColumns 3 = .ok (.istore_n 3, 1) := by decide +kernel
theorem dX5_linesOfColumns_4 : decode cX5_linesOfColumns 4 = .ok (.iload_n 3, 1) := by decide +kernel
theorem dX5_linesOfColumns_5 : decode cX5_linesOfColumns 5 = .ok (.aload_n 0, 1) := by decide +kernel
theorem dX5_linesOfColumns_6 : decode cX5_linesOfColumns 6 = .ok (.getfield 24, 3) := by decide +kernel
theorem dX5_linesOfColumns_9 : decode cX5_linesOfColumns 9 = .ok (.if_icmp .ge 27, 3) := by decide +kernel
theorem dX5_linesOfColumns_12 : decode cX5_linesOfColumns 12 = .ok (.iload_n 1, 1) := by decide +kernel
theorem dX5_linesOfColumns_13 : decode cX5_linesOfColumns 13 = .ok (.aload_n 0, 1) := by decide +kernel
theorem dX5_linesOfColumns_14 : decode cX5_linesOfColumns 14 = .ok (.iload_n 3, 1) := by decide +kernel
theorem dX5_linesOfColumns_15 : decode cX5_linesOfColumns 15 = .ok (.invokevirtual 32, 3) := by decide +kernel
theorem dX5_linesOfColumns_18 : decode cX5_linesOfColumns 18 = .ok (.ishr, 1) := by decide +kernel
theorem dX5_linesOfColumns_19 : decode cX5_linesOfColumns 19 = .ok (.iconst 1, 1) := by decide +kernel
theorem dX5_linesOfColumns_20 : decode cX5_linesOfColumns 20 = .ok (.iand, 1) := by decide +kernel
theorem dX5_linesOfColumns_21 : decode cX5_linesOfColumns 21 = .ok (.ifCond .eq 9, 3) := by decide +kernel
theorem dX5_linesOfColumns_24 : decode cX5_linesOfColumns 24 = .ok (.iload_n 2, 1) := by decide +kernel
theorem dX5_linesOfColumns_25 : decode cX5_linesOfColumns 25 = .ok (.iconst 1, 1) := by decide +kernel
theorem dX5_linesOfColumns_26 : decode cX5_linesOfColumns 26 = .ok (.iload_n 3, 1) := by decide +kernel
theorem dX5_linesOfColumns_27 : decode cX5_linesOfColumns 27 = .ok (.ishl, 1) := by decide +kernel
theorem dX5_linesOfColumns_28 : decode cX5_linesOfColumns 28 = .ok (.ior, 1) := by decide +kernel
theorem dX5_linesOfColumns_29 : decode cX5_linesOfColumns 29 = .ok (.istore_n 2, 1) := by decide +kernel
theorem dX5_linesOfColumns_30 : decode cX5_linesOfColumns 30 = .ok (.iinc 3 1, 3) := by decide +kernel
theorem dX5_linesOfColumns_33 : decode cX5_linesOfColumns 33 = .ok (.goto (-29), 3) := by decide +kernel
theorem dX5_linesOfColumns_36 : decode cX5_linesOfColumns 36 = .ok (.iload_n 2, 1) := by decide +kernel
theorem dX5_linesOfColumns_37 : decode cX5_linesOfColumns 37 = .ok (.ireturn, 1) := by decide +kernel
theorem dX5_nextLine_0 : decode cX5_nextLine 0 = .ok (.iconst 0, 1) := by decide +kernel
theorem dX5_nextLine_1 : decode cX5_nextLine 1 = .ok (.istore_n 3, 1) := by decide +kernel
theorem dX5_nextLine_2 : decode cX5_nextLine 2 = .ok (.iload_n 3, 1) := by decide +kernel
theorem dX5_nextLine_3 : decode cX5_nextLine 3 = .ok (.aload_n 0, 1) := by decide +kernel
theorem dX5_nextLine_4 : decode cX5_nextLine 4 = .ok (.getfield 24, 3) := by decide +kernel
theorem dX5_nextLine_7 : decode cX5_nextLine 7 = .ok (.if_icmp .ge 28, 3) := by decide +kernel
theorem dX5_nextLine_10 : decode cX5_nextLine 10 = .ok (.aload_n 0, 1) := by decide +kernel
theorem dX5_nextLine_11 : decode cX5_nextLine 11 = .ok (.iload_n 3, 1) := by decide +kernel
theorem dX5_nextLine_12 : decode cX5_nextLine 12 = .ok (.invokevirtual 32, 3) := by decide +kernel
theorem dX5_nextLine_15 : decode cX5_nextLine 15 = .ok (.iload_n 1, 1) := by decide +kernel
theorem dX5_nextLine_16 : decode cX5_nextLine 16 = .ok (.if_icmp .ne 13, 3) := by decide +kernel
theorem dX5_nextLine_19 : decode cX5_nextLine 19 = .ok (.iload_n 2, 1) := by decide +kernel
theorem dX5_nextLine_20 : decode cX5_nextLine 20 = .ok (.iload_n 3, 1) := by decide +kernel
theorem dX5_nextLine_21 : decode cX5_nextLine 21 = .ok (.ishr, 1) := by decide +kernel
theorem dX5_nextLine_22 : decode cX5_nextLine 22 = .ok (.iconst 1, 1) := by decide +kernel
theorem dX5_nextLine_23 : decode cX5_nextLine 23 = .ok (.iand, 1) := by decide +kernel
theorem dX5_nextLine_24 : decode cX5_nextLine 24 = .ok (.ifCond .ne 5, 3) := by decide +kernel
theorem dX5_nextLine_27 : decode cX5_nextLine 27 = .ok (.iload_n 3, 1) := by decide +kernel
theorem dX5_nextLine_28 : decode cX5_nextLine 28 = .ok (.ireturn, 1) := by decide +kernel
theorem dX5_nextLine_29 : decode cX5_nextLine 29 = .ok (.iinc 3 1, 3) := by decide +kernel
theorem dX5_nextLine_32 : decode cX5_nextLine 32 = .ok (.goto (-30), 3) := by decide +kernel
theorem dX5_nextLine_35 : decode cX5_nextLine 35 = .ok (.bipush (-9), 2) := by decide +kernel
theorem dX5_nextLine_37 : decode cX5_nextLine 37 = .ok (.ireturn, 1) := by decide +kernel
theorem dJ6_bitCount_0f7a4_0 : decode cJ6_bitCount_0f7a4 0 = .ok (.iload_n 0, 1) := by decide +kernel
theorem dJ6_bitCount_0f7a4_1 : decode cJ6_bitCount_0f7a4 1 = .ok (.iload_n 0, 1) := by decide +kernel
theorem dJ6_bitCount_0f7a4_2 : decode cJ6_bitCount_0f7a4 2 = .ok (.iconst 1, 1) := by decide +kernel
theorem dJ6_bitCount_0f7a4_3 : decode cJ6_bitCount_0f7a4 3 = .ok (.iushr, 1) := by decide +kernel
theorem dJ6_bitCount_0f7a4_4 : decode cJ6_bitCount_0f7a4 4 = .ok (.ldc_w 265, 3) := by decide +kernel
theorem dJ6_bitCount_0f7a4_7 : decode cJ6_bitCount_0f7a4 7 = .ok (.iand, 1) := by decide +kernel
theorem dJ6_bitCount_0f7a4_8 : decode cJ6_bitCount_0f7a4 8 = .ok (.isub, 1) := by decide +kernel
theorem dJ6_bitCount_0f7a4_9 : decode cJ6_bitCount_0f7a4 9 = .ok (.istore_n 0, 1) := by decide +kernel
theorem dJ6_bitCount_0f7a4_10 : decode cJ6_bitCount_0f7a4 10 = .ok (.iload_n 0, 1) := by decide +kernel
theorem dJ6_bitCount_0f7a4_11 : decode cJ6_bitCount_0f7a4 11 = .ok (.ldc_w 266, 3) := by decide +kernel
theorem dJ6_bitCount_0f7a4_14 : decode cJ6_bitCount_0f7a4 14 = .ok (.iand, 1) := by decide +kernel
theorem dJ6_bitCount_0f7a4_15 : decode cJ6_bitCount_0f7a4 15 = .ok (.iload_n 0, 1) := by decide +kernel
theorem dJ6_bitCount_0f7a4_16 : decode cJ6_bitCount_0f7a4 16 = .ok (.iconst 2, 1) := by decide +kernel
theorem dJ6_bitCount_0f7a4_17 : decode cJ6_bitCount_0f7a4 17 = .ok (.iushr, 1) := by decide +kernel
theorem dJ6_bitCount_0f7a4_18 : decode cJ6_bitCount_0f7a4 18 = .ok (.ldc_w 266, 3) := by decide +kernel
theorem dJ6_bitCount_0f7a4_21 : decode cJ6_bitCount_0f7a4 21 = .ok (.iand, 1) := by decide +kernel
theorem dJ6_bitCount_0f7a4_22 : decode cJ6_bitCount_0f7a4 22 = .ok (.iadd, 1) := by decide +kernel
theorem dJ6_bitCount_0f7a4_23 : decode cJ6_bitCount_0f7a4 23 = .ok (.istore_n 0, 1) := by decide +kernel
theorem dJ6_bitCount_0f7a4_24 : decode cJ6_bitCount_0f7a4 24 = .ok (.iload_n 0, 1) := by decide +kernel
theorem dJ6_bitCount_0f7a4_25 : decode cJ6_bitCount_0f7a4 25 = .ok (.iload_n 0, 1) := by decide +kernel
theorem dJ6_bitCount_0f7a4_26 : decode cJ6_bitCount_0f7a4 26 = .ok (.iconst 4, 1) := by decide +kernel
theorem dJ6_bitCount_0f7a4_27 : decode cJ6_bitCount_0f7a4 27 = .ok (.iushr, 1) := by decide +kernel
theorem dJ6_bitCount_0f7a4_28 : decode cJ6_bitCount_0f7a4 28 = .ok (.iadd, 1) := by decide +kernel
theorem dJ6_bitCount_0f7a4_29 : decode cJ6_bitCount_0f7a4 29 = .ok (.ldc_w 267, 3) := by decide +kernel
theorem dJ6_bitCount_0f7a4_32 : decode cJ6_bitCount_0f7a4 32 = .ok (.iand, 1) := by decide +kernel
theorem dJ6_bitCount_0f7a4_33 : decode cJ6_bitCount_0f7a4 33 = .ok (.istore_n 0, 1) := by decide +kernel
theorem dJ6_bitCount_0f7a4_34 : decode cJ6_bitCount_0f7a4 34 = .ok (.iload_n 0, 1) := by decide +kernel
theorem dJ6_bitCount_0f7a4_35 : decode cJ6_bitCount_0f7a4 35 = .ok (.iload_n 0, 1) := by decide +kernel
theorem dJ6_bitCount_0f7a4_36 : decode cJ6_bitCount_0f7a4 36 = .ok (.bipush 8, 2) := by decide +kernel
theorem dJ6_bitCount_0f7a4_38 : decode cJ6_bitCount_0f7a4 38 = .ok (.iushr, 1) := by decide +kernel
theorem dJ6_bitCount_0f7a4_39 : decode cJ6_bitCount_0f7a4 39 = .ok (.iadd, 1) := by decide +kernel
theorem dJ6_bitCount_0f7a4_40 : decode cJ6_bitCount_0f7a4 40 = .ok (.istore_n 0, 1) := by decide +kernel
theorem dJ6_bitCount_0f7a4_41 : decode cJ6_bitCount_0f7a4 41 = .ok (.iload_n 0, 1) := by decide +kernel
theorem dJ6_bitCount_0f7a4_42 : decode cJ6_bitCount_0f7a4 42 = .ok (.iload_n 0, 1) := by decide +kernel
theorem dJ6_bitCount_0f7a4_43 : decode cJ6_bitCount_0f7a4 43 = .ok (.bipush 16, 2) := by decide +kernel
theorem dJ6_bitCount_0f7a4_45 : decode cJ6_bitCount_0f7a4 45 = .ok (.iushr, 1) := by decide +kernel
theorem dJ6_bitCount_0f7a4_46 : decode cJ6_bitCount_0f7a4 46 = .ok (.iadd, 1) := by decide +kernel
theorem dJ6_bitCount_0f7a4_47 : decode cJ6_bitCount_0f7a4 47 = .ok (.istore_n 0, 1) := by decide +kernel
theorem dJ6_bitCount_0f7a4_48 : decode cJ6_bitCount_0f7a4 48 = .ok (.iload_n 0, 1) := by decide +kernel
theorem dJ6_bitCount_0f7a4_49 : decode cJ6_bitCount_0f7a4 49 = .ok (.bipush 63, 2) := by decide +kernel
theorem dJ6_bitCount_0f7a4_51 : decode cJ6_bitCount_0f7a4 51 = .ok (.iand, 1) := by decide +kernel
theorem dJ6_bitCount_0f7a4_52 : decode cJ6_bitCount_0f7a4 52 = .ok (.ireturn, 1) := by decide +kernel
theorem dJ9_abs_0f7a4_0 : decode cJ9_abs_0f7a4 0 = .ok (.iload_n 0, 1) := by decide +kernel
theorem dJ9_abs_0f7a4_1 : decode cJ9_abs_0f7a4 1 = .ok (.ifCond .ge 8, 3) := by decide +kernel
theorem dJ9_abs_0f7a4_4 : decode cJ9_abs_0f7a4 4 = .ok (.iload_n 0, 1) := by decide +kernel
theorem dJ9_abs_0f7a4_5 : decode cJ9_abs_0f7a4 5 = .ok (.ineg, 1) := by decide +kernel
theorem dJ9_abs_0f7a4_6 : decode cJ9_abs_0f7a4 6 = .ok (.goto 4, 3) := by decide +kernel
theorem dJ9_abs_0f7a4_9 : decode cJ9_abs_0f7a4 9 = .ok (.iload_n 0, 1) := by decide +kernel
theorem dJ9_abs_0f7a4_10 : decode cJ9_abs_0f7a4 10 = .ok (.ireturn, 1) := by decide +kernel
theorem dJ9_max_7cf53_0 : decode cJ9_max_7cf53 0 = .ok (.iload_n 0, 1) := by decide +kernel
theorem dJ9_max_7cf53_1 : decode cJ9_max_7cf53 1 = .ok (.iload_n 1, 1) := by decide +kernel
theorem dJ9_max_7cf53_2 : decode cJ9_max_7cf53 2 = .ok (.if_icmp .lt 7, 3) := by decide +kernel
theorem dJ9_max_7cf53_5 : decode cJ9_max_7cf53 5 = .ok (.iload_n 0, 1) := by decide +kernel
theorem dJ9_max_7cf53_6 : decode cJ9_max_7cf53 6 = .ok (.goto 4, 3) := by decide +kernel
theorem dJ9_max_7cf53_9 : decode cJ9_max_7cf53 9 = .ok (.iload_n 1, 1) := by decide +kernel
theorem dJ9_max_7cf53_10 : decode cJ9_max_7cf53 10 = .ok (.ireturn, 1) := by decide +kernel
theorem dJ9_min_7cf53_0 : decode cJ9_min_7cf53 0 = .ok (.iload_n 0, 1) := by decide +kernel
theorem dJ9_min_7cf53_1 : decode cJ9_min_7cf53 1 = .ok (.iload_n 1, 1) := by decide +kernel
theorem dJ9_min_7cf53_2 : decode cJ9_min_7cf53 2 = .ok (.if_icmp .gt 7, 3) := by decide +kernel
theorem dJ9_min_7cf53_5 : decode cJ9_min_7cf53 5 = .ok (.iload_n 0, 1) := by decide +kernel
theorem dJ9_min_7cf53_6 : decode cJ9_min_7cf53 6 = .ok (.goto 4, 3) := by decide +kernel
theorem dJ9_min_7cf53_9 : decode cJ9_min_7cf53 9 = .ok (.iload_n 1, 1) := by decide +kernel
theorem dJ9_min_7cf53_10 : decode cJ9_min_7cf53 10 = .ok (.ireturn, 1) := by decide +kernel
