theorem dX6_in_0 : decode cX6_in 0 = .ok (.lload_n 0, 1) := by decide +kernel
theorem dX6_in_1 : decode cX6_in 1 = .ok (.lload_n 2, 1) := by decide +kernel
theorem dX6_in_2 : decode cX6_in 2 = .ok (.lcmp, 1) := by decide +kernel
theorem dX6_in_3 : decode cX6_in 3 = .ok (.ifCond .lt 14, 3) := by decide +kernel
theorem dX6_in_6 : decode cX6_in 6 = .ok (.lload_n 0, 1) := by decide +kernel
theorem dX6_in_7 : decode cX6_in 7 = .ok (.lload 4, 2) := by decide +kernel
theorem dX6_in_9 : decode cX6_in 9 = .ok (.lcmp, 1) := by decide +kernel
theorem dX6_in_10 : decode cX6_in 10 = .ok (.ifCond .gt 7, 3) := by decide +kernel
theorem dX6_in_13 : decode cX6_in 13 = .ok (.iconst 1, 1) := by decide +kernel
theorem dX6_in_14 : decode cX6_in 14 = .ok (.goto 4, 3) := by decide +kernel
theorem dX6_in_17 : decode cX6_in 17 = .ok (.iconst 0, 1) := by decide +kernel
theorem dX6_in_18 : decode cX6_in 18 = .ok (.ireturn, 1) := by decide +kernel
theorem dX6_init_0 : decode cX6_init 0 = .ok (.aload_n 0, 1) := by decide +kernel
theorem dX6_init_1 : decode cX6_init 1 = .ok (.invokespecial 1, 3) := by decide +kernel
theorem dX6_init_4 : decode cX6_init 4 = .ok (.aload_n 0, 1) := by decide +kernel
theorem dX6_init_5 : decode cX6_init 5 = .ok (.bipush 98, 2) := by decide +kernel
theorem dX6_init_7 : decode cX6_init 7 = .ok (.newarray .int, 2) := by decide +kernel
theorem dX6_init_9 : decode cX6_init 9 = .ok (.putfield 7, 3) := by decide +kernel
theorem dX6_init_12 : decode cX6_init 12 = .ok (.aload_n 0, 1) := by decide +kernel
theorem dX6_init_13 : decode cX6_init 13 = .ok (.sipush 196, 3) := by decide +kernel
theorem dX6_init_16 : decode cX6_init 16 = .ok (.newarray .int, 2) := by decide +kernel
theorem dX6_init_18 : decode cX6_init 18 = .ok (.putfield 13, 3) := by decide +kernel
theorem dX6_init_21 : decode cX6_init 21 = .ok (.aload_n 0, 1) := by decide +kernel
theorem dX6_init_22 : decode cX6_init 22 = .ok (.iconst 2, 1) := by decide +kernel
theorem dX6_init_23 : decode cX6_init 23 = .ok (.newarray .boolean, 2) := by decide +kernel
theorem dX6_init_25 : decode cX6_init 25 = .ok (.putfield 16, 3) := by decide +kernel
theorem dX6_init_28 : decode cX6_init 28 = .ok (.aload_n 0, 1) := by decide +kernel
theorem dX6_init_29 : decode cX6_init 29 = .ok (.bipush 98, 2) := by decide +kernel
theorem dX6_init_31 : decode cX6_init 31 = .ok (.newarray .int, 2) := by decide +kernel
theorem dX6_init_33 : decode cX6_init 33 = .ok (.putfield 20, 3) := by decide +kernel
theorem dX6_init_36 : decode cX6_init 36 = .ok (.aload_n 0, 1) := by decide +kernel
theorem dX6_init_37 : decode cX6_init 37 = .ok (.iconst 3, 1) := by decide +kernel
theorem dX6_init_38 : decode cX6_init 38 = .ok (.newarray .int, 2) := by decide +kernel
theorem dX6_init_40 : decode cX6_init 40 = .ok (.putfield 23, 3) := by decide +kernel
theorem dX6_init_43 : decode cX6_init 43 = .ok (.aload_n 0, 1) := by decide +kernel
theorem dX6_init_44 : decode cX6_init 44 = .ok (.sipush 200, 3) := by decide +kernel
theorem dX6_init_47 : decode cX6_init 47 = .ok (.newarray .int, 2) := by decide +kernel
theorem dX6_init_49 : decode cX6_init 49 = .ok (.putfield 26, 3) := by decide +kernel
theorem dX6_init_52 : decode cX6_init 52 = .ok (.aload_n 0, 1) := by decide +kernel
theorem dX6_init_53 : decode cX6_init 53 = .ok (.sipush 250, 3) := by decide +kernel
theorem dX6_init_56 : decode cX6_init 56 = .ok (.newarray .int, 2) := by decide +kernel
theorem dX6_init_58 : decode cX6_init 58 = .ok (.putfield 29, 3) := by decide +kernel
theorem dX6_init_61 : decode cX6_init 61 = .ok (.aload_n 0, 1) := by decide +kernel
theorem dX6_init_62 : decode cX6_init 62 = .ok (.sipush 15309, 3) := by decide +kernel
theorem dX6_init_65 : decode cX6_init 65 = .ok (.newarray .int, 2) := by decide +kernel
theorem dX6_init_67 : decode cX6_init 67 = .ok (.putfield 32, 3) := by decide +kernel
theorem dX6_init_70 : decode cX6_init 70 = .ok (.aload_n 0, 1) := by decide +kernel
theorem dX6_init_71 : decode cX6_init 71 = .ok (.sipush 2187, 3) := by decide +kernel
theorem dX6_init_74 : decode cX6_init 74 = .ok (.newarray .int, 2) := by decide +kernel
theorem dX6_init_76 : decode cX6_init 76 = .ok (.putfield 35, 3) := by decide +kernel
theorem dX6_init_79 : decode cX6_init 79 = .ok (.aload_n 0, 1) := by decide +kernel
theorem dX6_init_80 : decode cX6_init 80 = .ok (.sipush 2187, 3) := by decide +kernel
theorem dX6_init_83 : decode cX6_init 83 = .ok (.newarray .boolean, 2) := by decide +kernel
theorem dX6_init_85 : decode cX6_init 85 = .ok (.putfield 38, 3) := by decide +kernel
theorem dX6_init_88 : decode cX6_init 88 = .ok (.aload_n 0, 1) := by decide +kernel
theorem dX6_init_89 : decode cX6_init 89 = .ok (.sipush 2187, 3) := by decide +kernel
theorem dX6_init_92 : decode cX6_init 92 = .ok (.newarray .int, 2) := by decide +kernel
theorem dX6_init_94 : decode cX6_init 94 = .ok (.putfield 41, 3) := by decide +kernel
theorem dX6_init_97 : decode cX6_init 97 = .ok (.aload_n 0, 1) := by decide +kernel
theorem dX6_init_98 : decode cX6_init 98 = .ok (.iconst 5, 1) := by decide +kernel
theorem dX6_init_99 : decode cX6_init 99 = .ok (.invokevirtual 44, 3) := by decide +kernel
theorem dX6_init_102 : decode cX6_init 102 = .ok (.return_, 1) := by decide +kernel
theorem dX6_begins_0 : decode cX6_begins 0 = .ok (.iconst 0, 1) := by decide +kernel
theorem dX6_begins_1 : decode cX6_begins 1 = .ok (.istore_n 2, 1) := by decide +kernel
theorem dX6_begins_2 : decode cX6_begins 2 = .ok (.iload_n 2, 1) := by decide +kernel
theorem dX6_begins_3 : decode cX6_begins 3 = .ok (.bipush 98, 2) := by decide +kernel
theorem dX6_begins_5 : decode cX6_begins 5 = .ok (.if_icmp .ge 16, 3) := by decide +kernel
theorem dX6_begins_8 : decode cX6_begins 8 = .ok (.aload_n 0, 1) := by decide +kernel
theorem dX6_begins_9 : decode cX6_begins 9 = .ok (.getfield 7, 3) := by decide +kernel
theorem dX6_begins_12 : decode cX6_begins 12 = .ok (.iload_n 2, 1) := by decide +kernel
theorem dX6_begins_13 : decode cX6_begins 13 = .ok (.iconst 0, 1) := by decide +kernel
theorem dX6_begins_14 : decode cX6_begins 14 = .ok (.iastore, 1) := by decide +kernel
theorem dX6_begins_15 : decode cX6_begins 15 = .ok (.iinc 2 1, 3) := by decide +kernel
theorem dX6_begins_18 : decode cX6_begins 18 = .ok (.goto (-16), 3) := by decide +kernel
theorem dX6_begins_21 : decode cX6_begins 21 = .ok (.aload_n 0, 1) := by decide +kernel
theorem dX6_begins_22 : decode cX6_begins 22 = .ok (.getfield 7, 3) := by decide +kernel
theorem dX6_begins_25 : decode cX6_begins 25 = .ok (.iconst 0, 1) := by decide +kernel
theorem dX6_begins_26 : decode cX6_begins 26 = .ok (.iload_n 1, 1) := by decide +kernel
theorem dX6_begins_27 : decode cX6_begins 27 = .ok (.iastore, 1) := by decide +kernel
theorem dX6_begins_28 : decode cX6_begins 28 = .ok (.iconst 0, 1) := by decide +kernel
theorem dX6_begins_29 : decode cX6_begins 29 = .ok (.istore_n 2, 1) := by decide +kernel
theorem dX6_begins_30 : decode cX6_begins 30 = .ok (.iload_n 2, 1) := by decide +kernel
theorem dX6_begins_31 : decode cX6_begins 31 = .ok (.bipush 7, 2) := by decide +kernel
theorem dX6_begins_33 : decode cX6_begins 33 = .ok (.if_icmp .ge 19, 3) := by decide +kernel
theorem dX6_begins_36 : decode cX6_begins 36 = .ok (.aload_n 0, 1) := by decide +kernel
theorem dX6_begins_37 : decode cX6_begins 37 = .ok (.getfield 7, 3) := by decide +kernel
theorem dX6_begins_40 : decode cX6_begins 40 = .ok (.bipush 9, 2) := by decide +kernel
theorem dX6_begins_42 : decode cX6_begins 42 = .ok (.iload_n 2, 1) := by decide +kernel
theorem dX6_begins_43 : decode cX6_begins 43 = .ok (.iadd, 1) := by decide +kernel
theorem dX6_begins_44 : decode cX6_begins 44 = .ok (.iload_n 2, 1) := by decide +kernel
theorem dX6_begins_45 : decode cX6_begins 45 = .ok (.iastore, 1) := by decide +kernel
theorem dX6_begins_46 : decode cX6_begins 46 = .ok (.iinc 2 1, 3) := by decide +kernel
theorem dX6_begins_49 : decode cX6_begins 49 = .ok (.goto (-19), 3) := by decide +kernel
theorem dX6_begins_52 : decode cX6_begins 52 = .ok (.return_, 1) := by decide +kernel
theorem dX6_refuses_0 : decode cX6_refuses 0 = .ok (.aload_n 0, 1) := by decide +kernel
theorem dX6_refuses_1 : decode cX6_refuses 1 = .ok (.getfield 23, 3) := by decide +kernel
theorem dX6_refuses_4 : decode cX6_refuses 4 = .ok (.iload_n 1, 1) := by decide +kernel
theorem dX6_refuses_5 : decode cX6_refuses 5 = .ok (.dup2, 1) := by decide +kernel
theorem dX6_refuses_6 : decode cX6_refuses 6 = .ok (.iaload, 1) := by decide +kernel
theorem dX6_refuses_7 : decode cX6_refuses 7 = .ok (.aload_n 0, 1) := by decide +kernel
theorem dX6_refuses_8 : decode cX6_refuses 8 = .ok (.getfield 48, 3) := by decide +kernel
theorem dX6_refuses_11 : decode cX6_refuses 11 = .ok (.ifCond .eq 7, 3) := by decide +kernel
theorem dX6_refuses_14 : decode cX6_refuses 14 = .ok (.iconst 0, 1) := by decide +kernel
theorem dX6_refuses_15 : decode cX6_refuses 15 = .ok (.goto 4, 3) := by decide +kernel
theorem dX6_refuses_18 : decode cX6_refuses 18 = .ok (.iconst 1, 1) := by decide +kernel
theorem dX6_refuses_19 : decode cX6_refuses 19 = .ok (.iadd, 1) := by decide +kernel
theorem dX6_refuses_20 : decode cX6_refuses 20 = .ok (.iastore, 1) := by decide +kernel
theorem dX6_refuses_21 : decode cX6_refuses 21 = .ok (.iload_n 2, 1) := by decide +kernel
theorem dX6_refuses_22 : decode cX6_refuses 22 = .ok (.ireturn, 1) := by decide +kernel
theorem dX6_bad_0 : decode cX6_bad 0 = .ok (.aload_n 0, 1) := by decide +kernel
theorem dX6_bad_1 : decode cX6_bad 1 = .ok (.iconst 0, 1) := by decide +kernel
theorem dX6_bad_2 : decode cX6_bad 2 = .ok (.bipush (-2), 2) := by decide +kernel
theorem dX6_bad_4 : decode cX6_bad 4 = .ok (.invokevirtual 52, 3) := by decide +kernel
theorem dX6_bad_7 : decode cX6_bad 7 = .ok (.ireturn, 1) := by decide +kernel
theorem dX6_no_0 : decode cX6_no 0 = .ok (.aload_n 0, 1) := by decide +kernel
theorem dX6_no_1 : decode cX6_no 1 = .ok (.iconst 1, 1) := by decide +kernel
theorem dX6_no_2 : decode cX6_no 2 = .ok (.bipush (-3), 2) := by decide +kernel
theorem dX6_no_4 : decode cX6_no 4 = .ok (.invokevirtual 52, 3) := by decide +kernel
theorem dX6_no_7 : decode cX6_no 7 = .ok (.ireturn, 1) := by decide +kernel
theorem dX6_full_0 : decode cX6_full 0 = .ok (.aload_n 0, 1) := by decide +kernel
theorem dX6_full_1 : decode cX6_full 1 = .ok (.iconst 2, 1) := by decide +kernel
theorem dX6_full_2 : decode cX6_full 2 = .ok (.bipush (-4), 2) := by decide +kernel
theorem dX6_full_4 : decode cX6_full 4 = .ok (.invokevirtual 52, 3) := by decide +kernel
theorem dX6_full_7 : decode cX6_full 7 = .ok (.ireturn, 1) := by decide +kernel
theorem dX6_isDrawer_0 : decode cX6_isDrawer 0 = .ok (.iload_n 1, 1) := by decide +kernel
theorem dX6_isDrawer_1 : decode cX6_isDrawer 1 = .ok (.i2l, 1) := by decide +kernel
theorem dX6_isDrawer_2 : decode cX6_isDrawer 2 = .ok (.lconst 0, 1) := by decide +kernel
theorem dX6_isDrawer_3 : decode cX6_isDrawer 3 = .ok (.aload_n 0, 1) := by decide +kernel
theorem dX6_isDrawer_4 : decode cX6_isDrawer 4 = .ok (.getfield 7, 3) := by decide +kernel
theorem dX6_isDrawer_7 : decode cX6_isDrawer 7 = .ok (.iconst 0, 1) := by decide +kernel
theorem dX6_isDrawer_8 : decode cX6_isDrawer 8 = .ok (.iaload, 1) := by decide +kernel
theorem dX6_isDrawer_9 : decode cX6_isDrawer 9 = .ok (.iconst 1, 1) := by decide +kernel
theorem dX6_isDrawer_10 : decode cX6_isDrawer 10 = .ok (.isub, 1) := by decide +kernel
theorem dX6_isDrawer_11 : decode cX6_isDrawer 11 = .ok (.i2l, 1) := by decide +kernel
theorem dX6_isDrawer_12 : decode cX6_isDrawer 12 = .ok (.invokestatic 56, 3) := by decide +kernel
theorem dX6_isDrawer_15 : decode cX6_isDrawer 15 = .ok (.ireturn, 1) := by decide +kernel
theorem dX6_power_0 : decode cX6_power 0 = .ok (.iconst 1, 1) := by decide +kernel
theorem dX6_power_1 : decode cX6_power 1 = .ok (.istore_n 1, 1) := by decide +kernel
theorem dX6_power_2 : decode cX6_power 2 = .ok (.iconst 0, 1) := by decide +kernel
theorem dX6_power_3 : decode cX6_power 3 = .ok (.istore_n 2, 1) := by decide +kernel
theorem dX6_power_4 : decode cX6_power 4 = .ok (.iload_n 2, 1) := by decide +kernel
theorem dX6_power_5 : decode cX6_power 5 = .ok (.iload_n 0, 1) := by decide +kernel
theorem dX6_power_6 : decode cX6_power 6 = .ok (.if_icmp .ge 13, 3) := by decide +kernel
theorem dX6_power_9 : decode cX6_power 9 = .ok (.iload_n 1, 1) := by decide +kernel
theorem dX6_power_10 : decode cX6_power 10 = .ok (.iconst 3, 1) := by decide +kernel
theorem dX6_power_11 : decode cX6_power 11 = .ok (.imul, 1) := by decide +kernel
theorem dX6_power_12 : decode cX6_power 12 = .ok (.istore_n 1, 1) := by decide +kernel
theorem dX6_power_13 : decode cX6_power 13 = .ok (.iinc 2 1, 3) := by decide +kernel
theorem dX6_power_16 : decode cX6_power 16 = .ok (.goto (-12), 3) := by decide +kernel
theorem dX6_power_19 : decode cX6_power 19 = .ok (.iload_n 1, 1) := by decide +kernel
theorem dX6_power_20 : decode cX6_power 20 = .ok (.ireturn, 1) := by decide +kernel
theorem dX6_states_0 : decode cX6_states 0 = .ok (.aload_n 0, 1) := by decide +kernel
theorem dX6_states_1 : decode cX6_states 1 = .ok (.getfield 7, 3) := by decide +kernel
theorem dX6_states_4 : decode cX6_states 4 = .ok (.iconst 0, 1) := by decide +kernel
theorem dX6_states_5 : decode cX6_states 5 = .ok (.iaload, 1) := by decide +kernel
theorem dX6_states_6 : decode cX6_states 6 = .ok (.invokestatic 60, 3) := by decide +kernel
theorem dX6_states_9 : decode cX6_states 9 = .ok (.ireturn, 1) := by decide +kernel
theorem dX6_outIn_0 : decode cX6_outIn 0 = .ok (.iload_n 0, 1) := by decide +kernel
theorem dX6_outIn_1 : decode cX6_outIn 1 = .ok (.iload_n 1, 1) := by decide +kernel
theorem dX6_outIn_2 : decode cX6_outIn 2 = .ok (.invokestatic 60, 3) := by decide +kernel
theorem dX6_outIn_5 : decode cX6_outIn 5 = .ok (.idiv, 1) := by decide +kernel
theorem dX6_outIn_6 : decode cX6_outIn 6 = .ok (.iconst 3, 1) := by decide +kernel
theorem dX6_outIn_7 : decode cX6_outIn 7 = .ok (.irem, 1) := by decide +kernel
theorem dX6_outIn_8 : decode cX6_outIn 8 = .ok (.ireturn, 1) := by decide +kernel
theorem dX6_isBeside_0 : decode cX6_isBeside 0 = .ok (.iload_n 2, 1) := by decide +kernel
theorem dX6_isBeside_1 : decode cX6_isBeside 1 = .ok (.ifCond .le 14, 3) := by decide +kernel
theorem dX6_isBeside_4 : decode cX6_isBeside 4 = .ok (.iload_n 1, 1) := by decide +kernel
theorem dX6_isBeside_5 : decode cX6_isBeside 5 = .ok (.iload_n 2, 1) := by decide +kernel
theorem dX6_isBeside_6 : decode cX6_isBeside 6 = .ok (.iconst 1, 1) := by decide +kernel
theorem dX6_isBeside_7 : decode cX6_isBeside 7 = .ok (.isub, 1) := by decide +kernel
theorem dX6_isBeside_8 : decode cX6_isBeside 8 = .ok (.invokestatic 64, 3) := by decide +kernel
theorem dX6_isBeside_11 : decode cX6_isBeside 11 = .ok (.iconst 2, 1) := by decide +kernel
theorem dX6_isBeside_12 : decode cX6_isBeside 12 = .ok (.if_icmp .eq 26, 3) := by decide +kernel
theorem dX6_isBeside_15 : decode cX6_isBeside 15 = .ok (.iload_n 2, 1) := by decide +kernel
theorem dX6_isBeside_16 : decode cX6_isBeside 16 = .ok (.iconst 1, 1) := by decide +kernel
theorem dX6_isBeside_17 : decode cX6_isBeside 17 = .ok (.iadd, 1) := by decide +kernel
theorem dX6_isBeside_18 : decode cX6_isBeside 18 = .ok (.aload_n 0, 1) := by decide +kernel
theorem dX6_isBeside_19 : decode cX6_isBeside 19 = .ok (.getfield 7, 3) := by decide +kernel
theorem dX6_isBeside_22 : decode cX6_isBeside 22 = .ok (.iconst 0, 1) := by decide +kernel
theorem dX6_isBeside_23 : decode cX6_isBeside 23 = .ok (.iaload, 1) := by decide +kernel
theorem dX6_isBeside_24 : decode cX6_isBeside 24 = .ok (.if_icmp .ge 18, 3) := by decide +kernel
theorem dX6_isBeside_27 : decode cX6_isBeside 27 = .ok (.iload_n 1, 1) := by decide +kernel
theorem dX6_isBeside_28 : decode cX6_isBeside 28 = .ok (.iload_n 2, 1) := by decide +kernel
theorem dX6_isBeside_29 : decode cX6_isBeside 29 = .ok (.iconst 1, 1) := by decide +kernel
theorem dX6_isBeside_30 : decode cX6_isBeside 30 = .ok (.iadd, 1) := by decide +kernel
theorem dX6_isBeside_31 : decode cX6_isBeside 31 = .ok (.invokestatic 64, 3) := by decide +kernel
theorem dX6_isBeside_34 : decode cX6_isBeside 34 = .ok (.iconst 2, 1) := by decide +kernel
theorem dX6_isBeside_35 : decode cX6_isBeside 35 = .ok (.if_icmp .ne 7, 3) := by decide +kernel
theorem dX6_isBeside_38 : decode cX6_isBeside 38 = .ok (.iconst 1, 1) := by decide +kernel
theorem dX6_isBeside_39 : decode cX6_isBeside 39 = .ok (.goto 4, 3) := by decide +kernel
theorem dX6_isBeside_42 : decode cX6_isBeside 42 = .ok (.iconst 0, 1) := by decide +kernel
theorem dX6_isBeside_43 : decode cX6_isBeside 43 = .ok (.ireturn, 1) := by decide +kernel
theorem dX6_amount_0 : decode cX6_amount 0 = .ok (.aload_n 0, 1) := by decide +kernel
theorem dX6_amount_1 : decode cX6_amount 1 = .ok (.getfield 7, 3) := by decide +kernel
theorem dX6_amount_4 : decode cX6_amount 4 = .ok (.bipush 16, 2) := by decide +kernel
theorem dX6_amount_6 : decode cX6_amount 6 = .ok (.iconst 4, 1) := by decide +kernel
theorem dX6_amount_7 : decode cX6_amount 7 = .ok (.iload_n 1, 1) := by decide +kernel
theorem dX6_amount_8 : decode cX6_amount 8 = .ok (.imul, 1) := by decide +kernel
theorem dX6_amount_9 : decode cX6_amount 9 = .ok (.iadd, 1) := by decide +kernel
theorem dX6_amount_10 : decode cX6_amount 10 = .ok (.iconst 2, 1) := by decide +kernel
theorem dX6_amount_11 : decode cX6_amount 11 = .ok (.iadd, 1) := by decide +kernel
theorem dX6_amount_12 : decode cX6_amount 12 = .ok (.iaload, 1) := by decide +kernel
theorem dX6_amount_13 : decode cX6_amount 13 = .ok (.istore 4, 2) := by decide +kernel
theorem dX6_amount_15 : decode cX6_amount 15 = .ok (.aload_n 0, 1) := by decide +kernel
theorem dX6_amount_16 : decode cX6_amount 16 = .ok (.getfield 7, 3) := by decide +kernel
theorem dX6_amount_19 : decode cX6_amount 19 = .ok (.bipush 16, 2) := by decide +kernel
theorem dX6_amount_21 : decode cX6_amount 21 = .ok (.iconst 4, 1) := by decide +kernel
theorem dX6_amount_22 : decode cX6_amount 22 = .ok (.iload_n 1, 1) := by decide +kernel
theorem dX6_amount_23 : decode cX6_amount 23 = .ok (.imul, 1) := by decide +kernel
theorem dX6_amount_24 : decode cX6_amount 24 = .ok (.iadd, 1) := by decide +kernel
theorem dX6_amount_25 : decode cX6_amount 25 = .ok (.iconst 3, 1) := by decide +kernel
theorem dX6_amount_26 : decode cX6_amount 26 = .ok (.iadd, 1) := by decide +kernel
theorem dX6_amount_27 : decode cX6_amount 27 = .ok (.iaload, 1) := by decide +kernel
theorem dX6_amount_28 : decode cX6_amount 28 = .ok (.istore 5, 2) := by decide +kernel
theorem dX6_amount_30 : decode cX6_amount 30 = .ok (.aload_n 0, 1) := by decide +kernel
theorem dX6_amount_31 : decode cX6_amount 31 = .ok (.getfield 7, 3) := by decide +kernel
theorem dX6_amount_34 : decode cX6_amount 34 = .ok (.bipush 16, 2) := by decide +kernel
theorem dX6_amount_36 : decode cX6_amount 36 = .ok (.iconst 4, 1) := by decide +kernel
theorem dX6_amount_37 : decode cX6_amount 37 = .ok (.iload_n 1, 1) := by decide +kernel
theorem dX6_amount_38 : decode cX6_amount 38 = .ok (.imul, 1) := by decide +kernel
theorem dX6_amount_39 : decode cX6_amount 39 = .ok (.iadd, 1) := by decide +kernel
theorem dX6_amount_40 : decode cX6_amount 40 = .ok (.iconst 1, 1) := by decide +kernel
theorem dX6_amount_41 : decode cX6_amount 41 = .ok (.iadd, 1) := by decide +kernel
theorem dX6_amount_42 : decode cX6_amount 42 = .ok (.iaload, 1) := by decide +kernel
theorem dX6_amount_43 : decode cX6_amount 43 = .ok (.istore 6, 2) := by decide +kernel
theorem dX6_amount_45 : decode cX6_amount 45 = .ok (.iload_n 3, 1) := by decide +kernel
theorem dX6_amount_46 : decode cX6_amount 46 = .ok (.ifCond .eq 8, 3) := by decide +kernel
theorem dX6_amount_49 : decode cX6_amount 49 = .ok (.iload 5, 2) := by decide +kernel
theorem dX6_amount_51 : decode cX6_amount 51 = .ok (.goto 6, 3) := by decide +kernel
theorem dX6_amount_54 : decode cX6_amount 54 = .ok (.iload 5, 2) := by decide +kernel
theorem dX6_amount_56 : decode cX6_amount 56 = .ok (.ineg, 1) := by decide +kernel
theorem dX6_amount_57 : decode cX6_amount 57 = .ok (.istore 7, 2) := by decide +kernel
theorem dX6_amount_59 : decode cX6_amount 59 = .ok (.iload 4, 2) := by decide +kernel
theorem dX6_amount_61 : decode cX6_amount 61 = .ok (.iconst 1, 1) := by decide +kernel
theorem dX6_amount_62 : decode cX6_amount 62 = .ok (.if_icmp .eq 9, 3) := by decide +kernel
theorem dX6_amount_65 : decode cX6_amount 65 = .ok (.iload 4, 2) := by decide +kernel
theorem dX6_amount_67 : decode cX6_amount 67 = .ok (.iconst 5, 1) := by decide +kernel
theorem dX6_amount_68 : decode cX6_amount 68 = .ok (.if_icmp .ne 42, 3) := by decide +kernel
theorem dX6_amount_71 : decode cX6_amount 71 = .ok (.iload 4, 2) := by decide +kernel
theorem dX6_amount_73 : decode cX6_amount 73 = .ok (.iconst 1, 1) := by decide +kernel
theorem dX6_amount_74 : decode cX6_amount 74 = .ok (.if_icmp .ne 8, 3) := by decide +kernel
theorem dX6_amount_77 : decode cX6_amount 77 = .ok (.iload 5, 2) := by decide +kernel
theorem dX6_amount_79 : decode cX6_amount 79 = .ok (.goto 13, 3) := by decide +kernel
theorem dX6_amount_82 : decode cX6_amount 82 = .ok (.iload 5, 2) := by decide +kernel
theorem dX6_amount_84 : decode cX6_amount 84 = .ok (.ifCond .le 7, 3) := by decide +kernel
theorem dX6_amount_87 : decode cX6_amount 87 = .ok (.iconst 1, 1) := by decide +kernel
theorem dX6_amount_88 : decode cX6_amount 88 = .ok (.goto 4, 3) := by decide +kernel
theorem dX6_amount_91 : decode cX6_amount 91 = .ok (.iconst (-1), 1) := by decide +kernel
theorem dX6_amount_92 : decode cX6_amount 92 = .ok (.istore 8, 2) := by decide +kernel
theorem dX6_amount_94 : decode cX6_amount 94 = .ok (.iload_n 2, 1) := by decide +kernel
theorem dX6_amount_95 : decode cX6_amount 95 = .ok (.iload 6, 2) := by decide +kernel
theorem dX6_amount_97 : decode cX6_amount 97 = .ok (.invokestatic 64, 3) := by decide +kernel
theorem dX6_amount_100 : decode cX6_amount 100 = .ok (.ifCond .ne 8, 3) := by decide +kernel
theorem dX6_amount_103 : decode cX6_amount 103 = .ok (.iload 8, 2) := by decide +kernel
theorem dX6_amount_105 : decode cX6_amount 105 = .ok (.goto 4, 3) := by decide +kernel
theorem dX6_amount_108 : decode cX6_amount 108 = .ok (.iconst 0, 1) := by decide +kernel
theorem dX6_amount_109 : decode cX6_amount 109 = .ok (.ireturn, 1) := by decide +kernel
theorem dX6_amount_110 : decode cX6_amount 110 = .ok (.iload 4, 2) := by decide +kernel
theorem dX6_amount_112 : decode cX6_amount 112 = .ok (.iconst 3, 1) := by decide +kernel
theorem dX6_amount_113 : decode cX6_amount 113 = .ok (.if_icmp .ne 20, 3) := by decide +kernel
theorem dX6_amount_116 : decode cX6_amount 116 = .ok (.aload_n 0, 1) := by decide +kernel
theorem dX6_amount_117 : decode cX6_amount 117 = .ok (.iload_n 2, 1) := by decide +kernel
theorem dX6_amount_118 : decode cX6_amount 118 = .ok (.iload 6, 2) := by decide +kernel
theorem dX6_amount_120 : decode cX6_amount 120 = .ok (.invokevirtual 67, 3) := by decide +kernel
theorem dX6_amount_123 : decode cX6_amount 123 = .ok (.ifCond .eq 7, 3) := by decide +kernel
theorem dX6_amount_126 : decode cX6_amount 126 = .ok (.iconst 0, 1) := by decide +kernel
theorem dX6_amount_127 : decode cX6_amount 127 = .ok (.goto 5, 3) := by decide +kernel
theorem dX6_amount_130 : decode cX6_amount 130 = .ok (.iload 5, 2) := by decide +kernel
theorem dX6_amount_132 : decode cX6_amount 132 = .ok (.ireturn, 1) := by decide +kernel
theorem dX6_amount_133 : decode cX6_amount 133 = .ok (.iload 4, 2) := by decide +kernel
theorem dX6_amount_135 : decode cX6_amount 135 = .ok (.iconst 2, 1) := by decide +kernel
theorem dX6_amount_136 : decode cX6_amount 136 = .ok (.if_icmp .ne 8, 3) := by decide +kernel
theorem dX6_amount_139 : decode cX6_amount 139 = .ok (.iload 7, 2) := by decide +kernel
theorem dX6_amount_141 : decode cX6_amount 141 = .ok (.goto 25, 3) := by decide +kernel
theorem dX6_amount_144 : decode cX6_amount 144 = .ok (.iload 4, 2) := by decide +kernel
theorem dX6_amount_146 : decode cX6_amount 146 = .ok (.iconst 4, 1) := by decide +kernel
theorem dX6_amount_147 : decode cX6_amount 147 = .ok (.if_icmp .ne 17, 3) := by decide +kernel
theorem dX6_amount_150 : decode cX6_amount 150 = .ok (.iload 7, 2) := by decide +kernel
theorem dX6_amount_152 : decode cX6_amount 152 = .ok (.ifCond .le 8, 3) := by decide +kernel
theorem dX6_amount_155 : decode cX6_amount 155 = .ok (.iload 7, 2) := by decide +kernel
theorem dX6_amount_157 : decode cX6_amount 157 = .ok (.goto 9, 3) := by decide +kernel
theorem dX6_amount_160 : decode cX6_amount 160 = .ok (.iconst 0, 1) := by decide +kernel
theorem dX6_amount_161 : decode cX6_amount 161 = .ok (.goto 5, 3) := by decide +kernel
theorem dX6_amount_164 : decode cX6_amount 164 = .ok (.iload 5, 2) := by decide +kernel
theorem dX6_amount_166 : decode cX6_amount 166 = .ok (.ireturn, 1) := by decide +kernel
theorem dX6_pulled_0 : decode cX6_pulled 0 = .ok (.aload_n 0, 1) := by decide +kernel
theorem dX6_pulled_1 : decode cX6_pulled 1 = .ok (.getfield 7, 3) := by decide +kernel
theorem dX6_pulled_4 : decode cX6_pulled 4 = .ok (.iconst 4, 1) := by decide +kernel
theorem dX6_pulled_5 : decode cX6_pulled 5 = .ok (.iaload, 1) := by decide +kernel
theorem dX6_pulled_6 : decode cX6_pulled 6 = .ok (.iload_n 2, 1) := by decide +kernel
theorem dX6_pulled_7 : decode cX6_pulled 7 = .ok (.ishr, 1) := by decide +kernel
theorem dX6_pulled_8 : decode cX6_pulled 8 = .ok (.iconst 1, 1) := by decide +kernel
theorem dX6_pulled_9 : decode cX6_pulled 9 = .ok (.iand, 1) := by decide +kernel
theorem dX6_pulled_10 : decode cX6_pulled 10 = .ok (.iconst 1, 1) := by decide +kernel
theorem dX6_pulled_11 : decode cX6_pulled 11 = .ok (.if_icmp .ne 14, 3) := by decide +kernel
theorem dX6_pulled_14 : decode cX6_pulled 14 = .ok (.aload_n 0, 1) := by decide +kernel
theorem dX6_pulled_15 : decode cX6_pulled 15 = .ok (.iload_n 1, 1) := by decide +kernel
theorem dX6_pulled_16 : decode cX6_pulled 16 = .ok (.iload_n 2, 1) := by decide +kernel
theorem dX6_pulled_17 : decode cX6_pulled 17 = .ok (.invokevirtual 67, 3) := by decide +kernel
theorem dX6_pulled_20 : decode cX6_pulled 20 = .ok (.ifCond .eq 5, 3) := by decide +kernel
theorem dX6_pulled_23 : decode cX6_pulled 23 = .ok (.iload_n 1, 1) := by decide +kernel
theorem dX6_pulled_24 : decode cX6_pulled 24 = .ok (.ireturn, 1) := by decide +kernel
theorem dX6_pulled_25 : decode cX6_pulled 25 = .ok (.iload_n 1, 1) := by decide +kernel
theorem dX6_pulled_26 : decode cX6_pulled 26 = .ok (.iload_n 2, 1) := by decide +kernel
theorem dX6_pulled_27 : decode cX6_pulled 27 = .ok (.invokestatic 64, 3) := by decide +kernel
theorem dX6_pulled_30 : decode cX6_pulled 30 = .ok (.iconst 2, 1) := by decide +kernel
theorem dX6_pulled_31 : decode cX6_pulled 31 = .ok (.if_icmp .ge 7, 3) := by decide +kernel
theorem dX6_pulled_34 : decode cX6_pulled 34 = .ok (.iconst 1, 1) := by decide +kernel
theorem dX6_pulled_35 : decode cX6_pulled 35 = .ok (.goto 4, 3) := by decide +kernel
theorem dX6_pulled_38 : decode cX6_pulled 38 = .ok (.iconst 0, 1) := by decide +kernel
theorem dX6_pulled_39 : decode cX6_pulled 39 = .ok (.istore 4, 2) := by decide +kernel
theorem dX6_pulled_41 : decode cX6_pulled 41 = .ok (.iload_n 1, 1) := by decide +kernel
theorem dX6_pulled_42 : decode cX6_pulled 42 = .ok (.iload 4, 2) := by decide +kernel
theorem dX6_pulled_44 : decode cX6_pulled 44 = .ok (.ifCond .eq 10, 3) := by decide +kernel
theorem dX6_pulled_47 : decode cX6_pulled 47 = .ok (.iload_n 2, 1) := by decide +kernel
theorem dX6_pulled_48 : decode cX6_pulled 48 = .ok (.invokestatic 60, 3) := by decide +kernel
theorem dX6_pulled_51 : decode cX6_pulled 51 = .ok (.goto 10, 3) := by decide +kernel
theorem dX6_pulled_54 : decode cX6_pulled 54 = .ok (.bipush (-2), 2) := by decide +kernel
theorem dX6_pulled_56 : decode cX6_pulled 56 = .ok (.iload_n 2, 1) := by decide +kernel
theorem dX6_pulled_57 : decode cX6_pulled 57 = .ok (.invokestatic 60, 3) := by decide +kernel
theorem dX6_pulled_60 : decode cX6_pulled 60 = .ok (.imul, 1) := by decide +kernel
theorem dX6_pulled_61 : decode cX6_pulled 61 = .ok (.iadd, 1) := by decide +kernel
theorem dX6_pulled_62 : decode cX6_pulled 62 = .ok (.istore 5, 2) := by decide +kernel
theorem dX6_pulled_64 : decode cX6_pulled 64 = .ok (.iconst 0, 1) := by decide +kernel
theorem dX6_pulled_65 : decode cX6_pulled 65 = .ok (.istore 6, 2) := by decide +kernel
theorem dX6_pulled_67 : decode cX6_pulled 67 = .ok (.iload 6, 2) := by decide +kernel
theorem dX6_pulled_69 : decode cX6_pulled 69 = .ok (.aload_n 0, 1) := by decide +kernel
theorem dX6_pulled_70 : decode cX6_pulled 70 = .ok (.getfield 7, 3) := by decide +kernel
theorem dX6_pulled_73 : decode cX6_pulled 73 = .ok (.iconst 1, 1) := by decide +kernel
theorem dX6_pulled_74 : decode cX6_pulled 74 = .ok (.iaload, 1) := by decide +kernel
theorem dX6_pulled_75 : decode cX6_pulled 75 = .ok (.if_icmp .ge 114, 3) := by decide +kernel
theorem dX6_pulled_78 : decode cX6_pulled 78 = .ok (.iload_n 3, 1) := by decide +kernel
theorem dX6_pulled_79 : decode cX6_pulled 79 = .ok (.iload 6, 2) := by decide +kernel
theorem dX6_pulled_81 : decode cX6_pulled 81 = .ok (.ishr, 1) := by decide +kernel
theorem dX6_pulled_82 : decode cX6_pulled 82 = .ok (.iconst 1, 1) := by decide +kernel
theorem dX6_pulled_83 : decode cX6_pulled 83 = .ok (.iand, 1) := by decide +kernel
theorem dX6_pulled_84 : decode cX6_pulled 84 = .ok (.iconst 1, 1) := by decide +kernel
theorem dX6_pulled_85 : decode cX6_pulled 85 = .ok (.if_icmp .ne 98, 3) := by decide +kernel
theorem dX6_pulled_88 : decode cX6_pulled 88 = .ok (.aload_n 0, 1) := by decide +kernel
theorem dX6_pulled_89 : decode cX6_pulled 89 = .ok (.getfield 7, 3) := by decide +kernel
theorem dX6_pulled_92 : decode cX6_pulled 92 = .ok (.bipush 16, 2) := by decide +kernel
theorem dX6_pulled_94 : decode cX6_pulled 94 = .ok (.iconst 4, 1) := by decide +kernel
theorem dX6_pulled_95 : decode cX6_pulled 95 = .ok (.iload 6, 2) := by decide +kernel
theorem dX6_pulled_97 : decode cX6_pulled 97 = .ok (.imul, 1) := by decide +kernel
theorem dX6_pulled_98 : decode cX6_pulled 98 = .ok (.iadd, 1) := by decide +kernel
theorem dX6_pulled_99 : decode cX6_pulled 99 = .ok (.iaload, 1) := by decide +kernel
theorem dX6_pulled_100 : decode cX6_pulled 100 = .ok (.iload_n 2, 1) := by decide +kernel
theorem dX6_pulled_101 : decode cX6_pulled 101 = .ok (.if_icmp .ne 82, 3) := by decide +kernel
theorem dX6_pulled_104 : decode cX6_pulled 104 = .ok (.aload_n 0, 1) := by decide +kernel
theorem dX6_pulled_105 : decode cX6_pulled 105 = .ok (.getfield 7, 3) := by decide +kernel
theorem dX6_pulled_108 : decode cX6_pulled 108 = .ok (.bipush 16, 2) := by decide +kernel
theorem dX6_pulled_110 : decode cX6_pulled 110 = .ok (.iconst 4, 1) := by decide +kernel
theorem dX6_pulled_111 : decode cX6_pulled 111 = .ok (.iload 6, 2) := by decide +kernel
theorem dX6_pulled_113 : decode cX6_pulled 113 = .ok (.imul, 1) := by decide +kernel
theorem dX6_pulled_114 : decode cX6_pulled 114 = .ok (.iadd, 1) := by decide +kernel
theorem dX6_pulled_115 : decode cX6_pulled 115 = .ok (.iconst 1, 1) := by decide +kernel
theorem dX6_pulled_116 : decode cX6_pulled 116 = .ok (.iadd, 1) := by decide +kernel
theorem dX6_pulled_117 : decode cX6_pulled 117 = .ok (.iaload, 1) := by decide +kernel
theorem dX6_pulled_118 : decode cX6_pulled 118 = .ok (.istore 7, 2) := by decide +kernel
theorem dX6_pulled_120 : decode cX6_pulled 120 = .ok (.iload 5, 2) := by decide +kernel
theorem dX6_pulled_122 : decode cX6_pulled 122 = .ok (.iload 7, 2) := by decide +kernel
theorem dX6_pulled_124 : decode cX6_pulled 124 = .ok (.invokestatic 64, 3) := by decide +kernel
theorem dX6_pulled_127 : decode cX6_pulled 127 = .ok (.istore 8, 2) := by decide +kernel
theorem dX6_pulled_129 : decode cX6_pulled 129 = .ok (.iload 8, 2) := by decide +kernel
theorem dX6_pulled_131 : decode cX6_pulled 131 = .ok (.aload_n 0, 1) := by decide +kernel
theorem dX6_pulled_132 : decode cX6_pulled 132 = .ok (.iload 6, 2) := by decide +kernel
theorem dX6_pulled_134 : decode cX6_pulled 134 = .ok (.iload 5, 2) := by decide +kernel
theorem dX6_pulled_136 : decode cX6_pulled 136 = .ok (.iload 4, 2) := by decide +kernel
theorem dX6_pulled_138 : decode cX6_pulled 138 = .ok (.invokevirtual 71, 3) := by decide +kernel
theorem dX6_pulled_141 : decode cX6_pulled 141 = .ok (.iadd, 1) := by decide +kernel
theorem dX6_pulled_142 : decode cX6_pulled 142 = .ok (.istore 9, 2) := by decide +kernel
theorem dX6_pulled_144 : decode cX6_pulled 144 = .ok (.iload 9, 2) := by decide +kernel
theorem dX6_pulled_146 : decode cX6_pulled 146 = .ok (.ifCond .ge 7, 3) := by decide +kernel
theorem dX6_pulled_149 : decode cX6_pulled 149 = .ok (.iconst 0, 1) := by decide +kernel
theorem dX6_pulled_150 : decode cX6_pulled 150 = .ok (.goto 15, 3) := by decide +kernel
theorem dX6_pulled_153 : decode cX6_pulled 153 = .ok (.iload 9, 2) := by decide +kernel
theorem dX6_pulled_155 : decode cX6_pulled 155 = .ok (.iconst 2, 1) := by decide +kernel
theorem dX6_pulled_156 : decode cX6_pulled 156 = .ok (.if_icmp .le 7, 3) := by decide +kernel
theorem dX6_pulled_159 : decode cX6_pulled 159 = .ok (.iconst 2, 1) := by decide +kernel
theorem dX6_pulled_160 : decode cX6_pulled 160 = .ok (.goto 5, 3) := by decide +kernel
theorem dX6_pulled_163 : decode cX6_pulled 163 = .ok (.iload 9, 2) := by decide +kernel
theorem dX6_pulled_165 : decode cX6_pulled 165 = .ok (.istore 9, 2) := by decide +kernel
theorem dX6_pulled_167 : decode cX6_pulled 167 = .ok (.iload 5, 2) := by decide +kernel
theorem dX6_pulled_169 : decode cX6_pulled 169 = .ok (.iload 9, 2) := by decide +kernel
theorem dX6_pulled_171 : decode cX6_pulled 171 = .ok (.iload 8, 2) := by decide +kernel
theorem dX6_pulled_173 : decode cX6_pulled 173 = .ok (.isub, 1) := by decide +kernel
theorem dX6_pulled_174 : decode cX6_pulled 174 = .ok (.iload 7, 2) := by decide +kernel
theorem dX6_pulled_176 : decode cX6_pulled 176 = .ok (.invokestatic 60, 3) := by decide +kernel
theorem dX6_pulled_179 : decode cX6_pulled 179 = .ok (.imul, 1) := by decide +kernel
theorem dX6_pulled_180 : decode cX6_pulled 180 = .ok (.iadd, 1) := by decide +kernel
theorem dX6_pulled_181 : decode cX6_pulled 181 = .ok (.istore 5, 2) := by decide +kernel
theorem dX6_pulled_183 : decode cX6_pulled 183 = .ok (.iinc 6 1, 3) := by decide +kernel
theorem dX6_pulled_186 : decode cX6_pulled 186 = .ok (.goto (-119), 3) := by decide +kernel
theorem dX6_pulled_189 : decode cX6_pulled 189 = .ok (.iload 5, 2) := by decide +kernel
theorem dX6_pulled_191 : decode cX6_pulled 191 = .ok (.ireturn, 1) := by decide +kernel
theorem dX6_allCords_0 : decode cX6_allCords 0 = .ok (.iconst 1, 1) := by decide +kernel
theorem dX6_allCords_1 : decode cX6_allCords 1 = .ok (.aload_n 0, 1) := by decide +kernel
theorem dX6_allCords_2 : decode cX6_allCords 2 = .ok (.getfield 7, 3) := by decide +kernel
theorem dX6_allCords_5 : decode cX6_allCords 5 = .ok (.iconst 1, 1) := by decide +kernel
theorem dX6_allCords_6 : decode cX6_allCords 6 = .ok (.iaload, 1) := by decide +kernel
theorem dX6_allCords_7 : decode cX6_allCords 7 = .ok (.ishl, 1) := by decide +kernel
theorem dX6_allCords_8 : decode cX6_allCords 8 = .ok (.iconst 1, 1) := by decide +kernel
theorem dX6_allCords_9 : decode cX6_allCords 9 = .ok (.isub, 1) := by decide +kernel
theorem dX6_allCords_10 : decode cX6_allCords 10 = .ok (.ireturn, 1) := by decide +kernel
theorem dX6_wall_0 : decode cX6_wall 0 = .ok (.iload_n 1, 1) := by decide +kernel
theorem dX6_wall_1 : decode cX6_wall 1 = .ok (.i2l, 1) := by decide +kernel
theorem dX6_wall_2 : decode cX6_wall 2 = .ok (.ldc2_w 75, 3) := by decide +kernel
theorem dX6_wall_5 : decode cX6_wall 5 = .ok (.ldc2_w 77, 3) := by decide +kernel
theorem dX6_wall_8 : decode cX6_wall 8 = .ok (.invokestatic 56, 3) := by decide +kernel
theorem dX6_wall_11 : decode cX6_wall 11 = .ok (.ifCond .ne 8, 3) := by decide +kernel
theorem dX6_wall_14 : decode cX6_wall 14 = .ok (.aload_n 0, 1) := by decide +kernel
theorem dX6_wall_15 : decode cX6_wall 15 = .ok (.invokevirtual 79, 3) := by decide +kernel
theorem dX6_wall_18 : decode cX6_wall 18 = .ok (.ireturn, 1) := by decide +kernel
theorem dX6_wall_19 : decode cX6_wall 19 = .ok (.aload_n 0, 1) := by decide +kernel
theorem dX6_wall_20 : decode cX6_wall 20 = .ok (.getfield 7, 3) := by decide +kernel
theorem dX6_wall_23 : decode cX6_wall 23 = .ok (.iconst 0, 1) := by decide +kernel
theorem dX6_wall_24 : decode cX6_wall 24 = .ok (.iaload, 1) := by decide +kernel
theorem dX6_wall_25 : decode cX6_wall 25 = .ok (.istore_n 2, 1) := by decide +kernel
theorem dX6_wall_26 : decode cX6_wall 26 = .ok (.aload_n 0, 1) := by decide +kernel
theorem dX6_wall_27 : decode cX6_wall 27 = .ok (.iload_n 1, 1) := by decide +kernel
theorem dX6_wall_28 : decode cX6_wall 28 = .ok (.invokevirtual 44, 3) := by decide +kernel
theorem dX6_wall_31 : decode cX6_wall 31 = .ok (.iload_n 2, 1) := by decide +kernel
theorem dX6_wall_32 : decode cX6_wall 32 = .ok (.ireturn, 1) := by decide +kernel
theorem dX6_ties_0 : decode cX6_ties 0 = .ok (.bipush 16, 2) := by decide +kernel
theorem dX6_ties_2 : decode cX6_ties 2 = .ok (.iconst 4, 1) := by decide +kernel
theorem dX6_ties_3 : decode cX6_ties 3 = .ok (.aload_n 0, 1) := by decide +kernel
theorem dX6_ties_4 : decode cX6_ties 4 = .ok (.getfield 7, 3) := by decide +kernel
theorem dX6_ties_7 : decode cX6_ties 7 = .ok (.iconst 1, 1) := by decide +kernel
theorem dX6_ties_8 : decode cX6_ties 8 = .ok (.iaload, 1) := by decide +kernel
theorem dX6_ties_9 : decode cX6_ties 9 = .ok (.imul, 1) := by decide +kernel
theorem dX6_ties_10 : decode cX6_ties 10 = .ok (.iadd, 1) := by decide +kernel
theorem dX6_ties_11 : decode cX6_ties 11 = .ok (.istore 5, 2) := by decide +kernel
theorem dX6_ties_13 : decode cX6_ties 13 = .ok (.aload_n 0, 1) := by decide +kernel
theorem dX6_ties_14 : decode cX6_ties 14 = .ok (.getfield 7, 3) := by decide +kernel
theorem dX6_ties_17 : decode cX6_ties 17 = .ok (.iload 5, 2) := by decide +kernel
theorem dX6_ties_19 : decode cX6_ties 19 = .ok (.iload_n 1, 1) := by decide +kernel
theorem dX6_ties_20 : decode cX6_ties 20 = .ok (.iastore, 1) := by decide +kernel
theorem dX6_ties_21 : decode cX6_ties 21 = .ok (.aload_n 0, 1) := by decide +kernel
theorem dX6_ties_22 : decode cX6_ties 22 = .ok (.getfield 7, 3) := by decide +kernel
theorem dX6_ties_25 : decode cX6_ties 25 = .ok (.iload 5, 2) := by decide +kernel
theorem dX6_ties_27 : decode cX6_ties 27 = .ok (.iconst 1, 1) := by decide +kernel
theorem dX6_ties_28 : decode cX6_ties 28 = .ok (.iadd, 1) := by decide +kernel
theorem dX6_ties_29 : decode cX6_ties 29 = .ok (.iload_n 2, 1) := by decide +kernel
theorem dX6_ties_30 : decode cX6_ties 30 = .ok (.iastore, 1) := by decide +kernel
theorem dX6_ties_31 : decode cX6_ties 31 = .ok (.aload_n 0, 1) := by decide +kernel
theorem dX6_ties_32 : decode cX6_ties 32 = .ok (.getfield 7, 3) := by decide +kernel
theorem dX6_ties_35 : decode cX6_ties 35 = .ok (.iload 5, 2) := by decide +kernel
theorem dX6_ties_37 : decode cX6_ties 37 = .ok (.iconst 2, 1) := by decide +kernel
theorem dX6_ties_38 : decode cX6_ties 38 = .ok (.iadd, 1) := by decide +kernel
theorem dX6_ties_39 : decode cX6_ties 39 = .ok (.iload_n 3, 1) := by decide +kernel
theorem dX6_ties_40 : decode cX6_ties 40 = .ok (.iastore, 1) := by decide +kernel
theorem dX6_ties_41 : decode cX6_ties 41 = .ok (.aload_n 0, 1) := by decide +kernel
theorem dX6_ties_42 : decode cX6_ties 42 = .ok (.getfield 7, 3) := by decide +kernel
theorem dX6_ties_45 : decode cX6_ties 45 = .ok (.iload 5, 2) := by decide +kernel
theorem dX6_ties_47 : decode cX6_ties 47 = .ok (.iconst 3, 1) := by decide +kernel
theorem dX6_ties_48 : decode cX6_ties 48 = .ok (.iadd, 1) := by decide +kernel
theorem dX6_ties_49 : decode cX6_ties 49 = .ok (.iload 4, 2) := by decide +kernel
theorem dX6_ties_51 : decode cX6_ties 51 = .ok (.iastore, 1) := by decide +kernel
theorem dX6_ties_52 : decode cX6_ties 52 = .ok (.aload_n 0, 1) := by decide +kernel
theorem dX6_ties_53 : decode cX6_ties 53 = .ok (.getfield 7, 3) := by decide +kernel
theorem dX6_ties_56 : decode cX6_ties 56 = .ok (.iconst 1, 1) := by decide +kernel
theorem dX6_ties_57 : decode cX6_ties 57 = .ok (.dup2, 1) := by decide +kernel
theorem dX6_ties_58 : decode cX6_ties 58 = .ok (.iaload, 1) := by decide +kernel
theorem dX6_ties_59 : decode cX6_ties 59 = .ok (.iconst 1, 1) := by decide +kernel
theorem dX6_ties_60 : decode cX6_ties 60 = .ok (.iadd, 1) := by decide +kernel
theorem dX6_ties_61 : decode cX6_ties 61 = .ok (.iastore, 1) := by decide +kernel
theorem dX6_ties_62 : decode cX6_ties 62 = .ok (.return_, 1) := by decide +kernel
theorem dX6_cord_0 : decode cX6_cord 0 = .ok (.aload_n 0, 1) := by decide +kernel
theorem dX6_cord_1 : decode cX6_cord 1 = .ok (.iload_n 1, 1) := by decide +kernel
theorem dX6_cord_2 : decode cX6_cord 2 = .ok (.invokevirtual 83, 3) := by decide +kernel
theorem dX6_cord_5 : decode cX6_cord 5 = .ok (.ifCond .eq 48, 3) := by decide +kernel
theorem dX6_cord_8 : decode cX6_cord 8 = .ok (.aload_n 0, 1) := by decide +kernel
theorem dX6_cord_9 : decode cX6_cord 9 = .ok (.iload_n 2, 1) := by decide +kernel
theorem dX6_cord_10 : decode cX6_cord 10 = .ok (.invokevirtual 83, 3) := by decide +kernel
theorem dX6_cord_13 : decode cX6_cord 13 = .ok (.ifCond .eq 40, 3) := by decide +kernel
theorem dX6_cord_16 : decode cX6_cord 16 = .ok (.iload_n 1, 1) := by decide +kernel
theorem dX6_cord_17 : decode cX6_cord 17 = .ok (.iload_n 2, 1) := by decide +kernel
theorem dX6_cord_18 : decode cX6_cord 18 = .ok (.if_icmp .eq 35, 3) := by decide +kernel
theorem dX6_cord_21 : decode cX6_cord 21 = .ok (.iload_n 3, 1) := by decide +kernel
theorem dX6_cord_22 : decode cX6_cord 22 = .ok (.i2l, 1) := by decide +kernel
theorem dX6_cord_23 : decode cX6_cord 23 = .ok (.lconst 0, 1) := by decide +kernel
theorem dX6_cord_24 : decode cX6_cord 24 = .ok (.ldc2_w 87, 3) := by decide +kernel
theorem dX6_cord_27 : decode cX6_cord 27 = .ok (.invokestatic 56, 3) := by decide +kernel
theorem dX6_cord_30 : decode cX6_cord 30 = .ok (.ifCond .eq 23, 3) := by decide +kernel
theorem dX6_cord_33 : decode cX6_cord 33 = .ok (.iload 4, 2) := by decide +kernel
theorem dX6_cord_35 : decode cX6_cord 35 = .ok (.i2l, 1) := by decide +kernel
theorem dX6_cord_36 : decode cX6_cord 36 = .ok (.ldc2_w 89, 3) := by decide +kernel
theorem dX6_cord_39 : decode cX6_cord 39 = .ok (.ldc2_w 75, 3) := by decide +kernel
theorem dX6_cord_42 : decode cX6_cord 42 = .ok (.invokestatic 56, 3) := by decide +kernel
theorem dX6_cord_45 : decode cX6_cord 45 = .ok (.ifCond .eq 8, 3) := by decide +kernel
theorem dX6_cord_48 : decode cX6_cord 48 = .ok (.iload 4, 2) := by decide +kernel
theorem dX6_cord_50 : decode cX6_cord 50 = .ok (.ifCond .ne 8, 3) := by decide +kernel
theorem dX6_cord_53 : decode cX6_cord 53 = .ok (.aload_n 0, 1) := by decide +kernel
theorem dX6_cord_54 : decode cX6_cord 54 = .ok (.invokevirtual 79, 3) := by decide +kernel
theorem dX6_cord_57 : decode cX6_cord 57 = .ok (.ireturn, 1) := by decide +kernel
theorem dX6_cord_58 : decode cX6_cord 58 = .ok (.aload_n 0, 1) := by decide +kernel
theorem dX6_cord_59 : decode cX6_cord 59 = .ok (.getfield 7, 3) := by decide +kernel
theorem dX6_cord_62 : decode cX6_cord 62 = .ok (.iconst 1, 1) := by decide +kernel
theorem dX6_cord_63 : decode cX6_cord 63 = .ok (.iaload, 1) := by decide +kernel
theorem dX6_cord_64 : decode cX6_cord 64 = .ok (.bipush 10, 2) := by decide +kernel
theorem dX6_cord_66 : decode cX6_cord 66 = .ok (.if_icmp .ne 8, 3) := by decide +kernel
theorem dX6_cord_69 : decode cX6_cord 69 = .ok (.aload_n 0, 1) := by decide +kernel
theorem dX6_cord_70 : decode cX6_cord 70 = .ok (.invokevirtual 91, 3) := by decide +kernel
theorem dX6_cord_73 : decode cX6_cord 73 = .ok (.ireturn, 1) := by decide +kernel
theorem dX6_cord_74 : decode cX6_cord 74 = .ok (.aload_n 0, 1) := by decide +kernel
theorem dX6_cord_75 : decode cX6_cord 75 = .ok (.iload_n 1, 1) := by decide +kernel
theorem dX6_cord_76 : decode cX6_cord 76 = .ok (.iload_n 2, 1) := by decide +kernel
theorem dX6_cord_77 : decode cX6_cord 77 = .ok (.iload_n 3, 1) := by decide +kernel
theorem dX6_cord_78 : decode cX6_cord 78 = .ok (.iload 4, 2) := by decide +kernel
theorem dX6_cord_80 : decode cX6_cord 80 = .ok (.invokevirtual 94, 3) := by decide +kernel
theorem dX6_cord_83 : decode cX6_cord 83 = .ok (.aload_n 0, 1) := by decide +kernel
theorem dX6_cord_84 : decode cX6_cord 84 = .ok (.getfield 7, 3) := by decide +kernel
theorem dX6_cord_87 : decode cX6_cord 87 = .ok (.iconst 1, 1) := by decide +kernel
theorem dX6_cord_88 : decode cX6_cord 88 = .ok (.iaload, 1) := by decide +kernel
theorem dX6_cord_89 : decode cX6_cord 89 = .ok (.iconst 1, 1) := by decide +kernel
theorem dX6_cord_90 : decode cX6_cord 90 = .ok (.isub, 1) := by decide +kernel
theorem dX6_cord_91 : decode cX6_cord 91 = .ok (.ireturn, 1) := by decide +kernel
theorem dX6_caught_0 : decode cX6_caught 0 = .ok (.aload_n 0, 1) := by decide +kernel
theorem dX6_caught_1 : decode cX6_caught 1 = .ok (.iload_n 1, 1) := by decide +kernel
theorem dX6_caught_2 : decode cX6_caught 2 = .ok (.invokevirtual 83, 3) := by decide +kernel
theorem dX6_caught_5 : decode cX6_caught 5 = .ok (.ifCond .ne 8, 3) := by decide +kernel
theorem dX6_caught_8 : decode cX6_caught 8 = .ok (.aload_n 0, 1) := by decide +kernel
theorem dX6_caught_9 : decode cX6_caught 9 = .ok (.invokevirtual 79, 3) := by decide +kernel
theorem dX6_caught_12 : decode cX6_caught 12 = .ok (.ireturn, 1) := by decide +kernel
theorem dX6_caught_13 : decode cX6_caught 13 = .ok (.aload_n 0, 1) := by decide +kernel
theorem dX6_caught_14 : decode cX6_caught 14 = .ok (.getfield 7, 3) := by decide +kernel
theorem dX6_caught_17 : decode cX6_caught 17 = .ok (.iconst 4, 1) := by decide +kernel
theorem dX6_caught_18 : decode cX6_caught 18 = .ok (.iaload, 1) := by decide +kernel
theorem dX6_caught_19 : decode cX6_caught 19 = .ok (.iload_n 1, 1) := by decide +kernel
theorem dX6_caught_20 : decode cX6_caught 20 = .ok (.ishr, 1) := by decide +kernel
theorem dX6_caught_21 : decode cX6_caught 21 = .ok (.iconst 1, 1) := by decide +kernel
theorem dX6_caught_22 : decode cX6_caught 22 = .ok (.iand, 1) := by decide +kernel
theorem dX6_caught_23 : decode cX6_caught 23 = .ok (.iconst 1, 1) := by decide +kernel
theorem dX6_caught_24 : decode cX6_caught 24 = .ok (.if_icmp .ne 7, 3) := by decide +kernel
theorem dX6_caught_27 : decode cX6_caught 27 = .ok (.iconst 1, 1) := by decide +kernel
theorem dX6_caught_28 : decode cX6_caught 28 = .ok (.goto 4, 3) := by decide +kernel
theorem dX6_caught_31 : decode cX6_caught 31 = .ok (.iconst 0, 1) := by decide +kernel
theorem dX6_caught_32 : decode cX6_caught 32 = .ok (.iload_n 2, 1) := by decide +kernel
theorem dX6_caught_33 : decode cX6_caught 33 = .ok (.if_icmp .ne 8, 3) := by decide +kernel
theorem dX6_caught_36 : decode cX6_caught 36 = .ok (.aload_n 0, 1) := by decide +kernel
theorem dX6_caught_37 : decode cX6_caught 37 = .ok (.invokevirtual 98, 3) := by decide +kernel
theorem dX6_caught_40 : decode cX6_caught 40 = .ok (.ireturn, 1) := by decide +kernel
theorem dX6_caught_41 : decode cX6_caught 41 = .ok (.aload_n 0, 1) := by decide +kernel
theorem dX6_caught_42 : decode cX6_caught 42 = .ok (.getfield 7, 3) := by decide +kernel
theorem dX6_caught_45 : decode cX6_caught 45 = .ok (.iconst 4, 1) := by decide +kernel
theorem dX6_caught_46 : decode cX6_caught 46 = .ok (.dup2, 1) := by decide +kernel
theorem dX6_caught_47 : decode cX6_caught 47 = .ok (.iaload, 1) := by decide +kernel
theorem dX6_caught_48 : decode cX6_caught 48 = .ok (.iconst 1, 1) := by decide +kernel
theorem dX6_caught_49 : decode cX6_caught 49 = .ok (.iload_n 1, 1) := by decide +kernel
theorem dX6_caught_50 : decode cX6_caught 50 = .ok (.ishl, 1) := by decide +kernel
theorem dX6_caught_51 : decode cX6_caught 51 = .ok (.ixor, 1) := by decide +kernel
theorem dX6_caught_52 : decode cX6_caught 52 = .ok (.iastore, 1) := by decide +kernel
theorem dX6_caught_53 : decode cX6_caught 53 = .ok (.iconst 1, 1) := by decide +kernel
theorem dX6_caught_54 : decode cX6_caught 54 = .ok (.ireturn, 1) := by decide +kernel
theorem dX6_good_0 : decode cX6_good 0 = .ok (.aload_n 0, 1) := by decide +kernel
theorem dX6_good_1 : decode cX6_good 1 = .ok (.iload_n 1, 1) := by decide +kernel
theorem dX6_good_2 : decode cX6_good 2 = .ok (.invokevirtual 83, 3) := by decide +kernel
theorem dX6_good_5 : decode cX6_good 5 = .ok (.ifCond .eq 15, 3) := by decide +kernel
theorem dX6_good_8 : decode cX6_good 8 = .ok (.iload_n 2, 1) := by decide +kernel
theorem dX6_good_9 : decode cX6_good 9 = .ok (.i2l, 1) := by decide +kernel
theorem dX6_good_10 : decode cX6_good 10 = .ok (.lconst 0, 1) := by decide +kernel
theorem dX6_good_11 : decode cX6_good 11 = .ok (.ldc2_w 101, 3) := by decide +kernel
theorem dX6_good_14 : decode cX6_good 14 = .ok (.invokestatic 56, 3) := by decide +kernel
theorem dX6_good_17 : decode cX6_good 17 = .ok (.ifCond .ne 8, 3) := by decide +kernel
theorem dX6_good_20 : decode cX6_good 20 = .ok (.aload_n 0, 1) := by decide +kernel
theorem dX6_good_21 : decode cX6_good 21 = .ok (.invokevirtual 79, 3) := by decide +kernel
theorem dX6_good_24 : decode cX6_good 24 = .ok (.ireturn, 1) := by decide +kernel
theorem dX6_good_25 : decode cX6_good 25 = .ok (.aload_n 0, 1) := by decide +kernel
theorem dX6_good_26 : decode cX6_good 26 = .ok (.getfield 7, 3) := by decide +kernel
theorem dX6_good_29 : decode cX6_good 29 = .ok (.bipush 9, 2) := by decide +kernel
theorem dX6_good_31 : decode cX6_good 31 = .ok (.iload_n 1, 1) := by decide +kernel
theorem dX6_good_32 : decode cX6_good 32 = .ok (.iadd, 1) := by decide +kernel
theorem dX6_good_33 : decode cX6_good 33 = .ok (.iaload, 1) := by decide +kernel
theorem dX6_good_34 : decode cX6_good 34 = .ok (.istore_n 3, 1) := by decide +kernel
theorem dX6_good_35 : decode cX6_good 35 = .ok (.aload_n 0, 1) := by decide +kernel
theorem dX6_good_36 : decode cX6_good 36 = .ok (.getfield 7, 3) := by decide +kernel
theorem dX6_good_39 : decode cX6_good 39 = .ok (.bipush 9, 2) := by decide +kernel
theorem dX6_good_41 : decode cX6_good 41 = .ok (.iload_n 1, 1) := by decide +kernel
theorem dX6_good_42 : decode cX6_good 42 = .ok (.iadd, 1) := by decide +kernel
theorem dX6_good_43 : decode cX6_good 43 = .ok (.iload_n 2, 1) := by decide +kernel
theorem dX6_good_44 : decode cX6_good 44 = .ok (.iastore, 1) := by decide +kernel
theorem dX6_good_45 : decode cX6_good 45 = .ok (.iload_n 3, 1) := by decide +kernel
theorem dX6_good_46 : decode cX6_good 46 = .ok (.ireturn, 1) := by decide +kernel
theorem dX6_put_0 : decode cX6_put 0 = .ok (.iload_n 1, 1) := by decide +kernel
theorem dX6_put_1 : decode cX6_put 1 = .ok (.i2l, 1) := by decide +kernel
theorem dX6_put_2 : decode cX6_put 2 = .ok (.lconst 0, 1) := by decide +kernel
theorem dX6_put_3 : decode cX6_put 3 = .ok (.lconst 1, 1) := by decide +kernel
theorem dX6_put_4 : decode cX6_put 4 = .ok (.invokestatic 56, 3) := by decide +kernel
theorem dX6_put_7 : decode cX6_put 7 = .ok (.ifCond .eq 15, 3) := by decide +kernel
theorem dX6_put_10 : decode cX6_put 10 = .ok (.iload_n 2, 1) := by decide +kernel
theorem dX6_put_11 : decode cX6_put 11 = .ok (.i2l, 1) := by decide +kernel
theorem dX6_put_12 : decode cX6_put 12 = .ok (.lconst 0, 1) := by decide +kernel
theorem dX6_put_13 : decode cX6_put 13 = .ok (.ldc2_w 103, 3) := by decide +kernel
theorem dX6_put_16 : decode cX6_put 16 = .ok (.invokestatic 56, 3) := by decide +kernel
theorem dX6_put_19 : decode cX6_put 19 = .ok (.ifCond .ne 8, 3) := by decide +kernel
theorem dX6_put_22 : decode cX6_put 22 = .ok (.aload_n 0, 1) := by decide +kernel
theorem dX6_put_23 : decode cX6_put 23 = .ok (.invokevirtual 79, 3) := by decide +kernel
theorem dX6_put_26 : decode cX6_put 26 = .ok (.ireturn, 1) := by decide +kernel
theorem dX6_put_27 : decode cX6_put 27 = .ok (.aload_n 0, 1) := by decide +kernel
theorem dX6_put_28 : decode cX6_put 28 = .ok (.getfield 7, 3) := by decide +kernel
theorem dX6_put_31 : decode cX6_put 31 = .ok (.iconst 5, 1) := by decide +kernel
theorem dX6_put_32 : decode cX6_put 32 = .ok (.iload_n 1, 1) := by decide +kernel
theorem dX6_put_33 : decode cX6_put 33 = .ok (.iadd, 1) := by decide +kernel
theorem dX6_put_34 : decode cX6_put 34 = .ok (.iaload, 1) := by decide +kernel
theorem dX6_put_35 : decode cX6_put 35 = .ok (.istore_n 3, 1) := by decide +kernel
theorem dX6_put_36 : decode cX6_put 36 = .ok (.aload_n 0, 1) := by decide +kernel
theorem dX6_put_37 : decode cX6_put 37 = .ok (.getfield 7, 3) := by decide +kernel
theorem dX6_put_40 : decode cX6_put 40 = .ok (.iconst 5, 1) := by decide +kernel
theorem dX6_put_41 : decode cX6_put 41 = .ok (.iload_n 1, 1) := by decide +kernel
theorem dX6_put_42 : decode cX6_put 42 = .ok (.iadd, 1) := by decide +kernel
theorem dX6_put_43 : decode cX6_put 43 = .ok (.iload_n 2, 1) := by decide +kernel
theorem dX6_put_44 : decode cX6_put 44 = .ok (.iastore, 1) := by decide +kernel
theorem dX6_put_45 : decode cX6_put 45 = .ok (.iload_n 3, 1) := by decide +kernel
theorem dX6_put_46 : decode cX6_put 46 = .ok (.ireturn, 1) := by decide +kernel
theorem dX6_order_0 : decode cX6_order 0 = .ok (.iload_n 1, 1) := by decide +kernel
theorem dX6_order_1 : decode cX6_order 1 = .ok (.i2l, 1) := by decide +kernel
theorem dX6_order_2 : decode cX6_order 2 = .ok (.lconst 0, 1) := by decide +kernel
theorem dX6_order_3 : decode cX6_order 3 = .ok (.ldc2_w 101, 3) := by decide +kernel
theorem dX6_order_6 : decode cX6_order 6 = .ok (.invokestatic 56, 3) := by decide +kernel
theorem dX6_order_9 : decode cX6_order 9 = .ok (.ifCond .ne 8, 3) := by decide +kernel
theorem dX6_order_12 : decode cX6_order 12 = .ok (.aload_n 0, 1) := by decide +kernel
theorem dX6_order_13 : decode cX6_order 13 = .ok (.invokevirtual 79, 3) := by decide +kernel
theorem dX6_order_16 : decode cX6_order 16 = .ok (.ireturn, 1) := by decide +kernel
theorem dX6_order_17 : decode cX6_order 17 = .ok (.aload_n 0, 1) := by decide +kernel
theorem dX6_order_18 : decode cX6_order 18 = .ok (.getfield 7, 3) := by decide +kernel
theorem dX6_order_21 : decode cX6_order 21 = .ok (.iconst 2, 1) := by decide +kernel
theorem dX6_order_22 : decode cX6_order 22 = .ok (.iaload, 1) := by decide +kernel
theorem dX6_order_23 : decode cX6_order 23 = .ok (.bipush 6, 2) := by decide +kernel
theorem dX6_order_25 : decode cX6_order 25 = .ok (.if_icmp .ne 8, 3) := by decide +kernel
theorem dX6_order_28 : decode cX6_order 28 = .ok (.aload_n 0, 1) := by decide +kernel
theorem dX6_order_29 : decode cX6_order 29 = .ok (.invokevirtual 91, 3) := by decide +kernel
theorem dX6_order_32 : decode cX6_order 32 = .ok (.ireturn, 1) := by decide +kernel
theorem dX6_order_33 : decode cX6_order 33 = .ok (.aload_n 0, 1) := by decide +kernel
theorem dX6_order_34 : decode cX6_order 34 = .ok (.getfield 7, 3) := by decide +kernel
theorem dX6_order_37 : decode cX6_order 37 = .ok (.bipush 56, 2) := by decide +kernel
theorem dX6_order_39 : decode cX6_order 39 = .ok (.aload_n 0, 1) := by decide +kernel
theorem dX6_order_40 : decode cX6_order 40 = .ok (.getfield 7, 3) := by decide +kernel
theorem dX6_order_43 : decode cX6_order 43 = .ok (.iconst 2, 1) := by decide +kernel
theorem dX6_order_44 : decode cX6_order 44 = .ok (.iaload, 1) := by decide +kernel
theorem dX6_order_45 : decode cX6_order 45 = .ok (.iadd, 1) := by decide +kernel
theorem dX6_order_46 : decode cX6_order 46 = .ok (.iload_n 1, 1) := by decide +kernel
theorem dX6_order_47 : decode cX6_order 47 = .ok (.iastore, 1) := by decide +kernel
theorem dX6_order_48 : decode cX6_order 48 = .ok (.aload_n 0, 1) := by decide +kernel
theorem dX6_order_49 : decode cX6_order 49 = .ok (.getfield 7, 3) := by decide +kernel
theorem dX6_order_52 : decode cX6_order 52 = .ok (.iconst 2, 1) := by decide +kernel
theorem dX6_order_53 : decode cX6_order 53 = .ok (.dup2, 1) := by decide +kernel
theorem dX6_order_54 : decode cX6_order 54 = .ok (.iaload, 1) := by decide +kernel
theorem dX6_order_55 : decode cX6_order 55 = .ok (.iconst 1, 1) := by decide +kernel
theorem dX6_order_56 : decode cX6_order 56 = .ok (.iadd, 1) := by decide +kernel
theorem dX6_order_57 : decode cX6_order 57 = .ok (.iastore, 1) := by decide +kernel
theorem dX6_order_58 : decode cX6_order 58 = .ok (.aload_n 0, 1) := by decide +kernel
theorem dX6_order_59 : decode cX6_order 59 = .ok (.getfield 7, 3) := by decide +kernel
theorem dX6_order_62 : decode cX6_order 62 = .ok (.iconst 2, 1) := by decide +kernel
theorem dX6_order_63 : decode cX6_order 63 = .ok (.iaload, 1) := by decide +kernel
theorem dX6_order_64 : decode cX6_order 64 = .ok (.iconst 1, 1) := by decide +kernel
theorem dX6_order_65 : decode cX6_order 65 = .ok (.isub, 1) := by decide +kernel
theorem dX6_order_66 : decode cX6_order 66 = .ok (.ireturn, 1) := by decide +kernel
theorem dX6_type_0 : decode cX6_type 0 = .ok (.iload_n 3, 1) := by decide +kernel
theorem dX6_type_1 : decode cX6_type 1 = .ok (.i2l, 1) := by decide +kernel
theorem dX6_type_2 : decode cX6_type 2 = .ok (.lconst 1, 1) := by decide +kernel
theorem dX6_type_3 : decode cX6_type 3 = .ok (.ldc2_w 105, 3) := by decide +kernel
theorem dX6_type_6 : decode cX6_type 6 = .ok (.invokestatic 56, 3) := by decide +kernel
theorem dX6_type_9 : decode cX6_type 9 = .ok (.ifCond .ne 8, 3) := by decide +kernel
theorem dX6_type_12 : decode cX6_type 12 = .ok (.aload_n 0, 1) := by decide +kernel
theorem dX6_type_13 : decode cX6_type 13 = .ok (.invokevirtual 79, 3) := by decide +kernel
theorem dX6_type_16 : decode cX6_type 16 = .ok (.ireturn, 1) := by decide +kernel
theorem dX6_type_17 : decode cX6_type 17 = .ok (.aload_n 0, 1) := by decide +kernel
theorem dX6_type_18 : decode cX6_type 18 = .ok (.getfield 107, 3) := by decide +kernel
theorem dX6_type_21 : decode cX6_type 21 = .ok (.iload_n 3, 1) := by decide +kernel
theorem dX6_type_22 : decode cX6_type 22 = .ok (.iadd, 1) := by decide +kernel
theorem dX6_type_23 : decode cX6_type 23 = .ok (.sipush 200, 3) := by decide +kernel
theorem dX6_type_26 : decode cX6_type 26 = .ok (.if_icmp .le 8, 3) := by decide +kernel
theorem dX6_type_29 : decode cX6_type 29 = .ok (.aload_n 0, 1) := by decide +kernel
theorem dX6_type_30 : decode cX6_type 30 = .ok (.invokevirtual 91, 3) := by decide +kernel
theorem dX6_type_33 : decode cX6_type 33 = .ok (.ireturn, 1) := by decide +kernel
theorem dX6_type_34 : decode cX6_type 34 = .ok (.iload_n 3, 1) := by decide +kernel
theorem dX6_type_35 : decode cX6_type 35 = .ok (.iconst 1, 1) := by decide +kernel
theorem dX6_type_36 : decode cX6_type 36 = .ok (.isub, 1) := by decide +kernel
theorem dX6_type_37 : decode cX6_type 37 = .ok (.istore 4, 2) := by decide +kernel
theorem dX6_type_39 : decode cX6_type 39 = .ok (.iload 4, 2) := by decide +kernel
theorem dX6_type_41 : decode cX6_type 41 = .ok (.ifCond .lt 40, 3) := by decide +kernel
theorem dX6_type_44 : decode cX6_type 44 = .ok (.aload_n 0, 1) := by decide +kernel
theorem dX6_type_45 : decode cX6_type 45 = .ok (.getfield 26, 3) := by decide +kernel
theorem dX6_type_48 : decode cX6_type 48 = .ok (.aload_n 0, 1) := by decide +kernel
theorem dX6_type_49 : decode cX6_type 49 = .ok (.getfield 107, 3) := by decide +kernel
theorem dX6_type_52 : decode cX6_type 52 = .ok (.lload_n 1, 1) := by decide +kernel
theorem dX6_type_53 : decode cX6_type 53 = .ok (.bipush 8, 2) := by decide +kernel
theorem dX6_type_55 : decode cX6_type 55 = .ok (.iload 4, 2) := by decide +kernel
theorem dX6_type_57 : decode cX6_type 57 = .ok (.imul, 1) := by decide +kernel
theorem dX6_type_58 : decode cX6_type 58 = .ok (.lshr, 1) := by decide +kernel
theorem dX6_type_59 : decode cX6_type 59 = .ok (.ldc2_w 111, 3) := by decide +kernel
theorem dX6_type_62 : decode cX6_type 62 = .ok (.land, 1) := by decide +kernel
theorem dX6_type_63 : decode cX6_type 63 = .ok (.l2i, 1) := by decide +kernel
theorem dX6_type_64 : decode cX6_type 64 = .ok (.iastore, 1) := by decide +kernel
theorem dX6_type_65 : decode cX6_type 65 = .ok (.aload_n 0, 1) := by decide +kernel
theorem dX6_type_66 : decode cX6_type 66 = .ok (.dup, 1) := by decide +kernel
theorem dX6_type_67 : decode cX6_type 67 = .ok (.getfield 107, 3) := by decide +kernel
theorem dX6_type_70 : decode cX6_type 70 = .ok (.iconst 1, 1) := by decide +kernel
theorem dX6_type_71 : decode cX6_type 71 = .ok (.iadd, 1) := by decide +kernel
theorem dX6_type_72 : decode cX6_type 72 = .ok (.putfield 107, 3) := by decide +kernel
theorem dX6_type_75 : decode cX6_type 75 = .ok (.iinc 4 (-1), 3) := by decide +kernel
theorem dX6_type_78 : decode cX6_type 78 = .ok (.goto (-39), 3) := by decide +kernel
theorem dX6_type_81 : decode cX6_type 81 = .ok (.aload_n 0, 1) := by decide +kernel
theorem dX6_type_82 : decode cX6_type 82 = .ok (.getfield 107, 3) := by decide +kernel
theorem dX6_type_85 : decode cX6_type 85 = .ok (.ireturn, 1) := by decide +kernel
theorem dX6_clear_0 : decode cX6_clear 0 = .ok (.aload_n 0, 1) := by decide +kernel
theorem dX6_clear_1 : decode cX6_clear 1 = .ok (.getfield 107, 3) := by decide +kernel
theorem dX6_clear_4 : decode cX6_clear 4 = .ok (.istore_n 1, 1) := by decide +kernel
theorem dX6_clear_5 : decode cX6_clear 5 = .ok (.aload_n 0, 1) := by decide +kernel
theorem dX6_clear_6 : decode cX6_clear 6 = .ok (.iconst 0, 1) := by decide +kernel
theorem dX6_clear_7 : decode cX6_clear 7 = .ok (.putfield 107, 3) := by decide +kernel
theorem dX6_clear_10 : decode cX6_clear 10 = .ok (.iload_n 1, 1) := by decide +kernel
theorem dX6_clear_11 : decode cX6_clear 11 = .ok (.ireturn, 1) := by decide +kernel
theorem dX6_isAt_0 : decode cX6_isAt 0 = .ok (.aload_n 0, 1) := by decide +kernel
theorem dX6_isAt_1 : decode cX6_isAt 1 = .ok (.getfield 113, 3) := by decide +kernel
theorem dX6_isAt_4 : decode cX6_isAt 4 = .ok (.aload_n 0, 1) := by decide +kernel
theorem dX6_isAt_5 : decode cX6_isAt 5 = .ok (.getfield 107, 3) := by decide +kernel
theorem dX6_isAt_8 : decode cX6_isAt 8 = .ok (.if_icmp .ge 27, 3) := by decide +kernel
theorem dX6_isAt_11 : decode cX6_isAt 11 = .ok (.aload_n 0, 1) := by decide +kernel
theorem dX6_isAt_12 : decode cX6_isAt 12 = .ok (.getfield 26, 3) := by decide +kernel
theorem dX6_isAt_15 : decode cX6_isAt 15 = .ok (.aload_n 0, 1) := by decide +kernel
theorem dX6_isAt_16 : decode cX6_isAt 16 = .ok (.getfield 113, 3) := by decide +kernel
theorem dX6_isAt_19 : decode cX6_isAt 19 = .ok (.iaload, 1) := by decide +kernel
theorem dX6_isAt_20 : decode cX6_isAt 20 = .ok (.i2l, 1) := by decide +kernel
theorem dX6_isAt_21 : decode cX6_isAt 21 = .ok (.iload_n 1, 1) := by decide +kernel
theorem dX6_isAt_22 : decode cX6_isAt 22 = .ok (.i2l, 1) := by decide +kernel
theorem dX6_isAt_23 : decode cX6_isAt 23 = .ok (.iload_n 2, 1) := by decide +kernel
theorem dX6_isAt_24 : decode cX6_isAt 24 = .ok (.i2l, 1) := by decide +kernel
theorem dX6_isAt_25 : decode cX6_isAt 25 = .ok (.invokestatic 56, 3) := by decide +kernel
theorem dX6_isAt_28 : decode cX6_isAt 28 = .ok (.ifCond .eq 7, 3) := by decide +kernel
theorem dX6_isAt_31 : decode cX6_isAt 31 = .ok (.iconst 1, 1) := by decide +kernel
theorem dX6_isAt_32 : decode cX6_isAt 32 = .ok (.goto 4, 3) := by decide +kernel
theorem dX6_isAt_35 : decode cX6_isAt 35 = .ok (.iconst 0, 1) := by decide +kernel
theorem dX6_isAt_36 : decode cX6_isAt 36 = .ok (.ireturn, 1) := by decide +kernel
theorem dX6_verbOf_0 : decode cX6_verbOf 0 = .ok (.lload_n 0, 1) := by decide +kernel
theorem dX6_verbOf_1 : decode cX6_verbOf 1 = .ok (.ldc2_w 116, 3) := by decide +kernel
theorem dX6_verbOf_4 : decode cX6_verbOf 4 = .ok (.lcmp, 1) := by decide +kernel
theorem dX6_verbOf_5 : decode cX6_verbOf 5 = .ok (.ifCond .ne 7, 3) := by decide +kernel
theorem dX6_verbOf_8 : decode cX6_verbOf 8 = .ok (.iconst 0, 1) := by decide +kernel
theorem dX6_verbOf_9 : decode cX6_verbOf 9 = .ok (.goto 28, 3) := by decide +kernel
theorem dX6_verbOf_12 : decode cX6_verbOf 12 = .ok (.lload_n 0, 1) := by decide +kernel
theorem dX6_verbOf_13 : decode cX6_verbOf 13 = .ok (.ldc2_w 118, 3) := by decide +kernel
theorem dX6_verbOf_16 : decode cX6_verbOf 16 = .ok (.lcmp, 1) := by decide +kernel
theorem dX6_verbOf_17 : decode cX6_verbOf 17 = .ok (.ifCond .ne 7, 3) := by decide +kernel
theorem dX6_verbOf_20 : decode cX6_verbOf 20 = .ok (.iconst 1, 1) := by decide +kernel
theorem dX6_verbOf_21 : decode cX6_verbOf 21 = .ok (.goto 16, 3) := by decide +kernel
theorem dX6_verbOf_24 : decode cX6_verbOf 24 = .ok (.lload_n 0, 1) := by decide +kernel
theorem dX6_verbOf_25 : decode cX6_verbOf 25 = .ok (.ldc2_w 120, 3) := by decide +kernel
theorem dX6_verbOf_28 : decode cX6_verbOf 28 = .ok (.lcmp, 1) := by decide +kernel
theorem dX6_verbOf_29 : decode cX6_verbOf 29 = .ok (.ifCond .ne 7, 3) := by decide +kernel
theorem dX6_verbOf_32 : decode cX6_verbOf 32 = .ok (.iconst 2, 1) := by decide +kernel
theorem dX6_verbOf_33 : decode cX6_verbOf 33 = .ok (.goto 4, 3) := by decide +kernel
theorem dX6_verbOf_36 : decode cX6_verbOf 36 = .ok (.iconst (-1), 1) := by decide +kernel
theorem dX6_verbOf_37 : decode cX6_verbOf 37 = .ok (.istore_n 2, 1) := by decide +kernel
theorem dX6_verbOf_38 : decode cX6_verbOf 38 = .ok (.lload_n 0, 1) := by decide +kernel
theorem dX6_verbOf_39 : decode cX6_verbOf 39 = .ok (.ldc2_w 122, 3) := by decide +kernel
theorem dX6_verbOf_42 : decode cX6_verbOf 42 = .ok (.lcmp, 1) := by decide +kernel
theorem dX6_verbOf_43 : decode cX6_verbOf 43 = .ok (.ifCond .ne 7, 3) := by decide +kernel
theorem dX6_verbOf_46 : decode cX6_verbOf 46 = .ok (.iconst 3, 1) := by decide +kernel
theorem dX6_verbOf_47 : decode cX6_verbOf 47 = .ok (.goto 16, 3) := by decide +kernel
theorem dX6_verbOf_50 : decode cX6_verbOf 50 = .ok (.lload_n 0, 1) := by decide +kernel
theorem dX6_verbOf_51 : decode cX6_verbOf 51 = .ok (.ldc2_w 124, 3) := by decide +kernel
theorem dX6_verbOf_54 : decode cX6_verbOf 54 = .ok (.lcmp, 1) := by decide +kernel
theorem dX6_verbOf_55 : decode cX6_verbOf 55 = .ok (.ifCond .ne 7, 3) := by decide +kernel
theorem dX6_verbOf_58 : decode cX6_verbOf 58 = .ok (.iconst 4, 1) := by decide +kernel
theorem dX6_verbOf_59 : decode cX6_verbOf 59 = .ok (.goto 4, 3) := by decide +kernel
theorem dX6_verbOf_62 : decode cX6_verbOf 62 = .ok (.iconst (-1), 1) := by decide +kernel
theorem dX6_verbOf_63 : decode cX6_verbOf 63 = .ok (.istore_n 3, 1) := by decide +kernel
theorem dX6_verbOf_64 : decode cX6_verbOf 64 = .ok (.iload_n 2, 1) := by decide +kernel
theorem dX6_verbOf_65 : decode cX6_verbOf 65 = .ok (.iconst (-1), 1) := by decide +kernel
theorem dX6_verbOf_66 : decode cX6_verbOf 66 = .ok (.if_icmp .eq 7, 3) := by decide +kernel
theorem dX6_verbOf_69 : decode cX6_verbOf 69 = .ok (.iload_n 2, 1) := by decide +kernel
theorem dX6_verbOf_70 : decode cX6_verbOf 70 = .ok (.goto 4, 3) := by decide +kernel
theorem dX6_verbOf_73 : decode cX6_verbOf 73 = .ok (.iload_n 3, 1) := by decide +kernel
theorem dX6_verbOf_74 : decode cX6_verbOf 74 = .ok (.ireturn, 1) := by decide +kernel
theorem dX6_scans_0 : decode cX6_scans 0 = .ok (.aload_n 0, 1) := by decide +kernel
theorem dX6_scans_1 : decode cX6_scans 1 = .ok (.bipush 32, 2) := by decide +kernel
theorem dX6_scans_3 : decode cX6_scans 3 = .ok (.bipush 32, 2) := by decide +kernel
theorem dX6_scans_5 : decode cX6_scans 5 = .ok (.invokevirtual 126, 3) := by decide +kernel
theorem dX6_scans_8 : decode cX6_scans 8 = .ok (.ifCond .eq 16, 3) := by decide +kernel
theorem dX6_scans_11 : decode cX6_scans 11 = .ok (.aload_n 0, 1) := by decide +kernel
theorem dX6_scans_12 : decode cX6_scans 12 = .ok (.dup, 1) := by decide +kernel
theorem dX6_scans_13 : decode cX6_scans 13 = .ok (.getfield 113, 3) := by decide +kernel
theorem dX6_scans_16 : decode cX6_scans 16 = .ok (.iconst 1, 1) := by decide +kernel
theorem dX6_scans_17 : decode cX6_scans 17 = .ok (.iadd, 1) := by decide +kernel
theorem dX6_scans_18 : decode cX6_scans 18 = .ok (.putfield 113, 3) := by decide +kernel
theorem dX6_scans_21 : decode cX6_scans 21 = .ok (.goto (-21), 3) := by decide +kernel
theorem dX6_scans_24 : decode cX6_scans 24 = .ok (.aload_n 0, 1) := by decide +kernel
theorem dX6_scans_25 : decode cX6_scans 25 = .ok (.aload_n 0, 1) := by decide +kernel
theorem dX6_scans_26 : decode cX6_scans 26 = .ok (.getfield 113, 3) := by decide +kernel
theorem dX6_scans_29 : decode cX6_scans 29 = .ok (.putfield 129, 3) := by decide +kernel
theorem dX6_scans_32 : decode cX6_scans 32 = .ok (.aload_n 0, 1) := by decide +kernel
theorem dX6_scans_33 : decode cX6_scans 33 = .ok (.getfield 113, 3) := by decide +kernel
theorem dX6_scans_36 : decode cX6_scans 36 = .ok (.aload_n 0, 1) := by decide +kernel
theorem dX6_scans_37 : decode cX6_scans 37 = .ok (.getfield 107, 3) := by decide +kernel
theorem dX6_scans_40 : decode cX6_scans 40 = .ok (.if_icmp .ne 9, 3) := by decide +kernel
theorem dX6_scans_43 : decode cX6_scans 43 = .ok (.aload_n 0, 1) := by decide +kernel
theorem dX6_scans_44 : decode cX6_scans 44 = .ok (.iconst 0, 1) := by decide +kernel
theorem dX6_scans_45 : decode cX6_scans 45 = .ok (.putfield 132, 3) := by decide +kernel
theorem dX6_scans_48 : decode cX6_scans 48 = .ok (.return_, 1) := by decide +kernel
theorem dX6_scans_49 : decode cX6_scans 49 = .ok (.aload_n 0, 1) := by decide +kernel
theorem dX6_scans_50 : decode cX6_scans 50 = .ok (.bipush 97, 2) := by decide +kernel
theorem dX6_scans_52 : decode cX6_scans 52 = .ok (.bipush 122, 2) := by decide +kernel
theorem dX6_scans_54 : decode cX6_scans 54 = .ok (.invokevirtual 126, 3) := by decide +kernel
theorem dX6_scans_57 : decode cX6_scans 57 = .ok (.ifCond .eq 107, 3) := by decide +kernel
theorem dX6_scans_60 : decode cX6_scans 60 = .ok (.lconst 0, 1) := by decide +kernel
theorem dX6_scans_61 : decode cX6_scans 61 = .ok (.lstore_n 1, 1) := by decide +kernel
theorem dX6_scans_62 : decode cX6_scans 62 = .ok (.aload_n 0, 1) := by decide +kernel
theorem dX6_scans_63 : decode cX6_scans 63 = .ok (.bipush 97, 2) := by decide +kernel
theorem dX6_scans_65 : decode cX6_scans 65 = .ok (.bipush 122, 2) := by decide +kernel
theorem dX6_scans_67 : decode cX6_scans 67 = .ok (.invokevirtual 126, 3) := by decide +kernel
theorem dX6_scans_70 : decode cX6_scans 70 = .ok (.ifCond .eq 57, 3) := by decide +kernel
theorem dX6_scans_73 : decode cX6_scans 73 = .ok (.aload_n 0, 1) := by decide +kernel
theorem dX6_scans_74 : decode cX6_scans 74 = .ok (.getfield 113, 3) := by decide +kernel
theorem dX6_scans_77 : decode cX6_scans 77 = .ok (.aload_n 0, 1) := by decide +kernel
theorem dX6_scans_78 : decode cX6_scans 78 = .ok (.getfield 129, 3) := by decide +kernel
theorem dX6_scans_81 : decode cX6_scans 81 = .ok (.isub, 1) := by decide +kernel
theorem dX6_scans_82 : decode cX6_scans 82 = .ok (.bipush 7, 2) := by decide +kernel
theorem dX6_scans_84 : decode cX6_scans 84 = .ok (.if_icmp .le 7, 3) := by decide +kernel
theorem dX6_scans_87 : decode cX6_scans 87 = .ok (.lconst 0, 1) := by decide +kernel
theorem dX6_scans_88 : decode cX6_scans 88 = .ok (.goto 25, 3) := by decide +kernel
theorem dX6_scans_91 : decode cX6_scans 91 = .ok (.ldc2_w 135, 3) := by decide +kernel
theorem dX6_scans_94 : decode cX6_scans 94 = .ok (.lload_n 1, 1) := by decide +kernel
theorem dX6_scans_95 : decode cX6_scans 95 = .ok (.lmul, 1) := by decide +kernel
theorem dX6_scans_96 : decode cX6_scans 96 = .ok (.aload_n 0, 1) := by decide +kernel
theorem dX6_scans_97 : decode cX6_scans 97 = .ok (.getfield 26, 3) := by decide +kernel
theorem dX6_scans_100 : decode cX6_scans 100 = .ok (.aload_n 0, 1) := by decide +kernel
theorem dX6_scans_101 : decode cX6_scans 101 = .ok (.getfield 113, 3) := by decide +kernel
theorem dX6_scans_104 : decode cX6_scans 104 = .ok (.iaload, 1) := by decide +kernel
theorem dX6_scans_105 : decode cX6_scans 105 = .ok (.i2l, 1) := by decide +kernel
theorem dX6_scans_106 : decode cX6_scans 106 = .ok (.ladd, 1) := by decide +kernel
theorem dX6_scans_107 : decode cX6_scans 107 = .ok (.ldc2_w 137, 3) := by decide +kernel
theorem dX6_scans_110 : decode cX6_scans 110 = .ok (.lsub, 1) := by decide +kernel
theorem dX6_scans_111 : decode cX6_scans 111 = .ok (.lconst 1, 1) := by decide +kernel
theorem dX6_scans_112 : decode cX6_scans 112 = .ok (.ladd, 1) := by decide +kernel
theorem dX6_scans_113 : decode cX6_scans 113 = .ok (.lstore_n 1, 1) := by decide +kernel
theorem dX6_scans_114 : decode cX6_scans 114 = .ok (.aload_n 0, 1) := by decide +kernel
theorem dX6_scans_115 : decode cX6_scans 115 = .ok (.dup, 1) := by decide +kernel
theorem dX6_scans_116 : decode cX6_scans 116 = .ok (.getfield 113, 3) := by decide +kernel
theorem dX6_scans_119 : decode cX6_scans 119 = .ok (.iconst 1, 1) := by decide +kernel
theorem dX6_scans_120 : decode cX6_scans 120 = .ok (.iadd, 1) := by decide +kernel
theorem dX6_scans_121 : decode cX6_scans 121 = .ok (.putfield 113, 3) := by decide +kernel
theorem dX6_scans_124 : decode cX6_scans 124 = .ok (.goto (-62), 3) := by decide +kernel
theorem dX6_scans_127 : decode cX6_scans 127 = .ok (.aload_n 0, 1) := by decide +kernel
theorem dX6_scans_128 : decode cX6_scans 128 = .ok (.aload_n 0, 1) := by decide +kernel
theorem dX6_scans_129 : decode cX6_scans 129 = .ok (.getfield 113, 3) := by decide +kernel
theorem dX6_scans_132 : decode cX6_scans 132 = .ok (.aload_n 0, 1) := by decide +kernel
theorem dX6_scans_133 : decode cX6_scans 133 = .ok (.getfield 129, 3) := by decide +kernel
theorem dX6_scans_136 : decode cX6_scans 136 = .ok (.isub, 1) := by decide +kernel
theorem dX6_scans_137 : decode cX6_scans 137 = .ok (.bipush 7, 2) := by decide +kernel
theorem dX6_scans_139 : decode cX6_scans 139 = .ok (.if_icmp .gt 11, 3) := by decide +kernel
theorem dX6_scans_142 : decode cX6_scans 142 = .ok (.lload_n 1, 1) := by decide +kernel
theorem dX6_scans_143 : decode cX6_scans 143 = .ok (.invokestatic 139, 3) := by decide +kernel
theorem dX6_scans_146 : decode cX6_scans 146 = .ok (.iconst (-1), 1) := by decide +kernel
theorem dX6_scans_147 : decode cX6_scans 147 = .ok (.if_icmp .ne 7, 3) := by decide +kernel
theorem dX6_scans_150 : decode cX6_scans 150 = .ok (.iconst 1, 1) := by decide +kernel
theorem dX6_scans_151 : decode cX6_scans 151 = .ok (.goto 9, 3) := by decide +kernel
theorem dX6_scans_154 : decode cX6_scans 154 = .ok (.iconst 5, 1) := by decide +kernel
theorem dX6_scans_155 : decode cX6_scans 155 = .ok (.lload_n 1, 1) := by decide +kernel
theorem dX6_scans_156 : decode cX6_scans 156 = .ok (.invokestatic 139, 3) := by decide +kernel
theorem dX6_scans_159 : decode cX6_scans 159 = .ok (.iadd, 1) := by decide +kernel
theorem dX6_scans_160 : decode cX6_scans 160 = .ok (.putfield 132, 3) := by decide +kernel
theorem dX6_scans_163 : decode cX6_scans 163 = .ok (.return_, 1) := by decide +kernel
theorem dX6_scans_164 : decode cX6_scans 164 = .ok (.aload_n 0, 1) := by decide +kernel
theorem dX6_scans_165 : decode cX6_scans 165 = .ok (.bipush 48, 2) := by decide +kernel
theorem dX6_scans_167 : decode cX6_scans 167 = .ok (.bipush 57, 2) := by decide +kernel
theorem dX6_scans_169 : decode cX6_scans 169 = .ok (.invokevirtual 126, 3) := by decide +kernel
theorem dX6_scans_172 : decode cX6_scans 172 = .ok (.ifCond .eq 64, 3) := by decide +kernel
theorem dX6_scans_175 : decode cX6_scans 175 = .ok (.aload_n 0, 1) := by decide +kernel
theorem dX6_scans_176 : decode cX6_scans 176 = .ok (.aload_n 0, 1) := by decide +kernel
theorem dX6_scans_177 : decode cX6_scans 177 = .ok (.getfield 26, 3) := by decide +kernel
theorem dX6_scans_180 : decode cX6_scans 180 = .ok (.aload_n 0, 1) := by decide +kernel
theorem dX6_scans_181 : decode cX6_scans 181 = .ok (.getfield 113, 3) := by decide +kernel
theorem dX6_scans_184 : decode cX6_scans 184 = .ok (.iaload, 1) := by decide +kernel
theorem dX6_scans_185 : decode cX6_scans 185 = .ok (.bipush 48, 2) := by decide +kernel
theorem dX6_scans_187 : decode cX6_scans 187 = .ok (.isub, 1) := by decide +kernel
theorem dX6_scans_188 : decode cX6_scans 188 = .ok (.putfield 143, 3) := by decide +kernel
theorem dX6_scans_191 : decode cX6_scans 191 = .ok (.aload_n 0, 1) := by decide +kernel
theorem dX6_scans_192 : decode cX6_scans 192 = .ok (.iconst 2, 1) := by decide +kernel
theorem dX6_scans_193 : decode cX6_scans 193 = .ok (.putfield 132, 3) := by decide +kernel
theorem dX6_scans_196 : decode cX6_scans 196 = .ok (.aload_n 0, 1) := by decide +kernel
theorem dX6_scans_197 : decode cX6_scans 197 = .ok (.dup, 1) := by decide +kernel
theorem dX6_scans_198 : decode cX6_scans 198 = .ok (.getfield 113, 3) := by decide +kernel
theorem dX6_scans_201 : decode cX6_scans 201 = .ok (.iconst 1, 1) := by decide +kernel
theorem dX6_scans_202 : decode cX6_scans 202 = .ok (.iadd, 1) := by decide +kernel
theorem dX6_scans_203 : decode cX6_scans 203 = .ok (.putfield 113, 3) := by decide +kernel
theorem dX6_scans_206 : decode cX6_scans 206 = .ok (.aload_n 0, 1) := by decide +kernel
theorem dX6_scans_207 : decode cX6_scans 207 = .ok (.bipush 48, 2) := by decide +kernel
theorem dX6_scans_209 : decode cX6_scans 209 = .ok (.bipush 57, 2) := by decide +kernel
theorem dX6_scans_211 : decode cX6_scans 211 = .ok (.invokevirtual 126, 3) := by decide +kernel
theorem dX6_scans_214 : decode cX6_scans 214 = .ok (.ifCond .eq 21, 3) := by decide +kernel
theorem dX6_scans_217 : decode cX6_scans 217 = .ok (.aload_n 0, 1) := by decide +kernel
theorem dX6_scans_218 : decode cX6_scans 218 = .ok (.iconst 1, 1) := by decide +kernel
theorem dX6_scans_219 : decode cX6_scans 219 = .ok (.putfield 132, 3) := by decide +kernel
theorem dX6_scans_222 : decode cX6_scans 222 = .ok (.aload_n 0, 1) := by decide +kernel
theorem dX6_scans_223 : decode cX6_scans 223 = .ok (.dup, 1) := by decide +kernel
theorem dX6_scans_224 : decode cX6_scans 224 = .ok (.getfield 113, 3) := by decide +kernel
theorem dX6_scans_227 : decode cX6_scans 227 = .ok (.iconst 1, 1) := by decide +kernel
theorem dX6_scans_228 : decode cX6_scans 228 = .ok (.iadd, 1) := by decide +kernel
theorem dX6_scans_229 : decode cX6_scans 229 = .ok (.putfield 113, 3) := by decide +kernel
theorem dX6_scans_232 : decode cX6_scans 232 = .ok (.goto (-26), 3) := by decide +kernel
theorem dX6_scans_235 : decode cX6_scans 235 = .ok (.return_, 1) := by decide +kernel
theorem dX6_scans_236 : decode cX6_scans 236 = .ok (.aload_n 0, 1) := by decide +kernel
theorem dX6_scans_237 : decode cX6_scans 237 = .ok (.aload_n 0, 1) := by decide +kernel
theorem dX6_scans_238 : decode cX6_scans 238 = .ok (.bipush 59, 2) := by decide +kernel
theorem dX6_scans_240 : decode cX6_scans 240 = .ok (.bipush 59, 2) := by decide +kernel
theorem dX6_scans_242 : decode cX6_scans 242 = .ok (.invokevirtual 126, 3) := by decide +kernel
theorem dX6_scans_245 : decode cX6_scans 245 = .ok (.ifCond .eq 7, 3) := by decide +kernel
theorem dX6_scans_248 : decode cX6_scans 248 = .ok (.iconst 3, 1) := by decide +kernel
theorem dX6_scans_249 : decode cX6_scans 249 = .ok (.goto 19, 3) := by decide +kernel
theorem dX6_scans_252 : decode cX6_scans 252 = .ok (.aload_n 0, 1) := by decide +kernel
theorem dX6_scans_253 : decode cX6_scans 253 = .ok (.bipush 45, 2) := by decide +kernel
theorem dX6_scans_255 : decode cX6_scans 255 = .ok (.bipush 45, 2) := by decide +kernel
theorem dX6_scans_257 : decode cX6_scans 257 = .ok (.invokevirtual 126, 3) := by decide +kernel
theorem dX6_scans_260 : decode cX6_scans 260 = .ok (.ifCond .eq 7, 3) := by decide +kernel
theorem dX6_scans_263 : decode cX6_scans 263 = .ok (.iconst 4, 1) := by decide +kernel
theorem dX6_scans_264 : decode cX6_scans 264 = .ok (.goto 4, 3) := by decide +kernel
theorem dX6_scans_267 : decode cX6_scans 267 = .ok (.iconst 1, 1) := by decide +kernel
theorem dX6_scans_268 : decode cX6_scans 268 = .ok (.putfield 132, 3) := by decide +kernel
theorem dX6_scans_271 : decode cX6_scans 271 = .ok (.aload_n 0, 1) := by decide +kernel
theorem dX6_scans_272 : decode cX6_scans 272 = .ok (.dup, 1) := by decide +kernel
theorem dX6_scans_273 : decode cX6_scans 273 = .ok (.getfield 113, 3) := by decide +kernel
theorem dX6_scans_276 : decode cX6_scans 276 = .ok (.iconst 1, 1) := by decide +kernel
theorem dX6_scans_277 : decode cX6_scans 277 = .ok (.iadd, 1) := by decide +kernel
theorem dX6_scans_278 : decode cX6_scans 278 = .ok (.putfield 113, 3) := by decide +kernel
theorem dX6_scans_281 : decode cX6_scans 281 = .ok (.return_, 1) := by decide +kernel
theorem dX6_reads_0 : decode cX6_reads 0 = .ok (.aload_n 0, 1) := by decide +kernel
theorem dX6_reads_1 : decode cX6_reads 1 = .ok (.iconst 0, 1) := by decide +kernel
theorem dX6_reads_2 : decode cX6_reads 2 = .ok (.putfield 113, 3) := by decide +kernel
theorem dX6_reads_5 : decode cX6_reads 5 = .ok (.aload_n 0, 1) := by decide +kernel
theorem dX6_reads_6 : decode cX6_reads 6 = .ok (.iconst 0, 1) := by decide +kernel
theorem dX6_reads_7 : decode cX6_reads 7 = .ok (.putfield 146, 3) := by decide +kernel
theorem dX6_reads_10 : decode cX6_reads 10 = .ok (.aload_n 0, 1) := by decide +kernel
theorem dX6_reads_11 : decode cX6_reads 11 = .ok (.invokevirtual 149, 3) := by decide +kernel
theorem dX6_reads_14 : decode cX6_reads 14 = .ok (.aload_n 0, 1) := by decide +kernel
theorem dX6_reads_15 : decode cX6_reads 15 = .ok (.getfield 132, 3) := by decide +kernel
theorem dX6_reads_18 : decode cX6_reads 18 = .ok (.ifCond .ne 10, 3) := by decide +kernel
theorem dX6_reads_21 : decode cX6_reads 21 = .ok (.aload_n 0, 1) := by decide +kernel
theorem dX6_reads_22 : decode cX6_reads 22 = .ok (.getfield 146, 3) := by decide +kernel
theorem dX6_reads_25 : decode cX6_reads 25 = .ok (.ifCond .ne 196, 3) := by decide +kernel
theorem dX6_reads_28 : decode cX6_reads 28 = .ok (.aload_n 0, 1) := by decide +kernel
theorem dX6_reads_29 : decode cX6_reads 29 = .ok (.getfield 132, 3) := by decide +kernel
theorem dX6_reads_32 : decode cX6_reads 32 = .ok (.iconst 5, 1) := by decide +kernel
theorem dX6_reads_33 : decode cX6_reads 33 = .ok (.isub, 1) := by decide +kernel
theorem dX6_reads_34 : decode cX6_reads 34 = .ok (.istore_n 1, 1) := by decide +kernel
theorem dX6_reads_35 : decode cX6_reads 35 = .ok (.iload_n 1, 1) := by decide +kernel
theorem dX6_reads_36 : decode cX6_reads 36 = .ok (.ifCond .lt 27, 3) := by decide +kernel
theorem dX6_reads_39 : decode cX6_reads 39 = .ok (.iload_n 1, 1) := by decide +kernel
theorem dX6_reads_40 : decode cX6_reads 40 = .ok (.ifCond .ne 7, 3) := by decide +kernel
theorem dX6_reads_43 : decode cX6_reads 43 = .ok (.iconst 1, 1) := by decide +kernel
theorem dX6_reads_44 : decode cX6_reads 44 = .ok (.goto 4, 3) := by decide +kernel
theorem dX6_reads_47 : decode cX6_reads 47 = .ok (.iconst 0, 1) := by decide +kernel
theorem dX6_reads_48 : decode cX6_reads 48 = .ok (.aload_n 0, 1) := by decide +kernel
theorem dX6_reads_49 : decode cX6_reads 49 = .ok (.getfield 146, 3) := by decide +kernel
theorem dX6_reads_52 : decode cX6_reads 52 = .ok (.ifCond .ne 7, 3) := by decide +kernel
theorem dX6_reads_55 : decode cX6_reads 55 = .ok (.iconst 1, 1) := by decide +kernel
theorem dX6_reads_56 : decode cX6_reads 56 = .ok (.goto 4, 3) := by decide +kernel
theorem dX6_reads_59 : decode cX6_reads 59 = .ok (.iconst 0, 1) := by decide +kernel
theorem dX6_reads_60 : decode cX6_reads 60 = .ok (.if_icmp .eq 5, 3) := by decide +kernel
theorem dX6_reads_63 : decode cX6_reads 63 = .ok (.iconst 0, 1) := by decide +kernel
theorem dX6_reads_64 : decode cX6_reads 64 = .ok (.ireturn, 1) := by decide +kernel
theorem dX6_reads_65 : decode cX6_reads 65 = .ok (.aload_n 0, 1) := by decide +kernel
theorem dX6_reads_66 : decode cX6_reads 66 = .ok (.getfield 29, 3) := by decide +kernel
theorem dX6_reads_69 : decode cX6_reads 69 = .ok (.iconst 5, 1) := by decide +kernel
theorem dX6_reads_70 : decode cX6_reads 70 = .ok (.aload_n 0, 1) := by decide +kernel
theorem dX6_reads_71 : decode cX6_reads 71 = .ok (.getfield 146, 3) := by decide +kernel
theorem dX6_reads_74 : decode cX6_reads 74 = .ok (.imul, 1) := by decide +kernel
theorem dX6_reads_75 : decode cX6_reads 75 = .ok (.iload_n 1, 1) := by decide +kernel
theorem dX6_reads_76 : decode cX6_reads 76 = .ok (.iastore, 1) := by decide +kernel
theorem dX6_reads_77 : decode cX6_reads 77 = .ok (.aload_n 0, 1) := by decide +kernel
theorem dX6_reads_78 : decode cX6_reads 78 = .ok (.invokevirtual 149, 3) := by decide +kernel
theorem dX6_reads_81 : decode cX6_reads 81 = .ok (.iload_n 1, 1) := by decide +kernel
theorem dX6_reads_82 : decode cX6_reads 82 = .ok (.iconst 1, 1) := by decide +kernel
theorem dX6_reads_83 : decode cX6_reads 83 = .ok (.if_icmp .ne 7, 3) := by decide +kernel
theorem dX6_reads_86 : decode cX6_reads 86 = .ok (.iconst 4, 1) := by decide +kernel
theorem dX6_reads_87 : decode cX6_reads 87 = .ok (.goto 13, 3) := by decide +kernel
theorem dX6_reads_90 : decode cX6_reads 90 = .ok (.iload_n 1, 1) := by decide +kernel
theorem dX6_reads_91 : decode cX6_reads 91 = .ok (.iconst 3, 1) := by decide +kernel
theorem dX6_reads_92 : decode cX6_reads 92 = .ok (.if_icmp .ne 7, 3) := by decide +kernel
theorem dX6_reads_95 : decode cX6_reads 95 = .ok (.iconst 2, 1) := by decide +kernel
theorem dX6_reads_96 : decode cX6_reads 96 = .ok (.goto 4, 3) := by decide +kernel
theorem dX6_reads_99 : decode cX6_reads 99 = .ok (.iconst 1, 1) := by decide +kernel
theorem dX6_reads_100 : decode cX6_reads 100 = .ok (.istore_n 2, 1) := by decide +kernel
theorem dX6_reads_101 : decode cX6_reads 101 = .ok (.iconst 0, 1) := by decide +kernel
theorem dX6_reads_102 : decode cX6_reads 102 = .ok (.istore_n 3, 1) := by decide +kernel
theorem dX6_reads_103 : decode cX6_reads 103 = .ok (.iload_n 3, 1) := by decide +kernel
theorem dX6_reads_104 : decode cX6_reads 104 = .ok (.iload_n 2, 1) := by decide +kernel
theorem dX6_reads_105 : decode cX6_reads 105 = .ok (.if_icmp .ge 89, 3) := by decide +kernel
theorem dX6_reads_108 : decode cX6_reads 108 = .ok (.iload_n 1, 1) := by decide +kernel
theorem dX6_reads_109 : decode cX6_reads 109 = .ok (.iconst 1, 1) := by decide +kernel
theorem dX6_reads_110 : decode cX6_reads 110 = .ok (.if_icmp .ne 20, 3) := by decide +kernel
theorem dX6_reads_113 : decode cX6_reads 113 = .ok (.iload_n 3, 1) := by decide +kernel
theorem dX6_reads_114 : decode cX6_reads 114 = .ok (.iconst 3, 1) := by decide +kernel
theorem dX6_reads_115 : decode cX6_reads 115 = .ok (.if_icmp .ne 15, 3) := by decide +kernel
theorem dX6_reads_118 : decode cX6_reads 118 = .ok (.aload_n 0, 1) := by decide +kernel
theorem dX6_reads_119 : decode cX6_reads 119 = .ok (.getfield 132, 3) := by decide +kernel
theorem dX6_reads_122 : decode cX6_reads 122 = .ok (.iconst 4, 1) := by decide +kernel
theorem dX6_reads_123 : decode cX6_reads 123 = .ok (.if_icmp .ne 7, 3) := by decide +kernel
theorem dX6_reads_126 : decode cX6_reads 126 = .ok (.iconst 1, 1) := by decide +kernel
theorem dX6_reads_127 : decode cX6_reads 127 = .ok (.goto 4, 3) := by decide +kernel
theorem dX6_reads_130 : decode cX6_reads 130 = .ok (.iconst 0, 1) := by decide +kernel
theorem dX6_reads_131 : decode cX6_reads 131 = .ok (.istore 4, 2) := by decide +kernel
theorem dX6_reads_133 : decode cX6_reads 133 = .ok (.iload 4, 2) := by decide +kernel
theorem dX6_reads_135 : decode cX6_reads 135 = .ok (.ifCond .eq 7, 3) := by decide +kernel
theorem dX6_reads_138 : decode cX6_reads 138 = .ok (.aload_n 0, 1) := by decide +kernel
theorem dX6_reads_139 : decode cX6_reads 139 = .ok (.invokevirtual 149, 3) := by decide +kernel
theorem dX6_reads_142 : decode cX6_reads 142 = .ok (.aload_n 0, 1) := by decide +kernel
theorem dX6_reads_143 : decode cX6_reads 143 = .ok (.getfield 132, 3) := by decide +kernel
theorem dX6_reads_146 : decode cX6_reads 146 = .ok (.iconst 2, 1) := by decide +kernel
theorem dX6_reads_147 : decode cX6_reads 147 = .ok (.if_icmp .eq 5, 3) := by decide +kernel
theorem dX6_reads_150 : decode cX6_reads 150 = .ok (.iconst 0, 1) := by decide +kernel
theorem dX6_reads_151 : decode cX6_reads 151 = .ok (.ireturn, 1) := by decide +kernel
theorem dX6_reads_152 : decode cX6_reads 152 = .ok (.aload_n 0, 1) := by decide +kernel
theorem dX6_reads_153 : decode cX6_reads 153 = .ok (.getfield 29, 3) := by decide +kernel
theorem dX6_reads_156 : decode cX6_reads 156 = .ok (.iconst 5, 1) := by decide +kernel
theorem dX6_reads_157 : decode cX6_reads 157 = .ok (.aload_n 0, 1) := by decide +kernel
theorem dX6_reads_158 : decode cX6_reads 158 = .ok (.getfield 146, 3) := by decide +kernel
theorem dX6_reads_161 : decode cX6_reads 161 = .ok (.imul, 1) := by decide +kernel
theorem dX6_reads_162 : decode cX6_reads 162 = .ok (.iconst 1, 1) := by decide +kernel
theorem dX6_reads_163 : decode cX6_reads 163 = .ok (.iadd, 1) := by decide +kernel
theorem dX6_reads_164 : decode cX6_reads 164 = .ok (.iload_n 3, 1) := by decide +kernel
theorem dX6_reads_165 : decode cX6_reads 165 = .ok (.iadd, 1) := by decide +kernel
theorem dX6_reads_166 : decode cX6_reads 166 = .ok (.iload 4, 2) := by decide +kernel
theorem dX6_reads_168 : decode cX6_reads 168 = .ok (.ifCond .eq 11, 3) := by decide +kernel
theorem dX6_reads_171 : decode cX6_reads 171 = .ok (.aload_n 0, 1) := by decide +kernel
theorem dX6_reads_172 : decode cX6_reads 172 = .ok (.getfield 143, 3) := by decide +kernel
theorem dX6_reads_175 : decode cX6_reads 175 = .ok (.ineg, 1) := by decide +kernel
theorem dX6_reads_176 : decode cX6_reads 176 = .ok (.goto 7, 3) := by decide +kernel
theorem dX6_reads_179 : decode cX6_reads 179 = .ok (.aload_n 0, 1) := by decide +kernel
theorem dX6_reads_180 : decode cX6_reads 180 = .ok (.getfield 143, 3) := by decide +kernel
theorem dX6_reads_183 : decode cX6_reads 183 = .ok (.iastore, 1) := by decide +kernel
theorem dX6_reads_184 : decode cX6_reads 184 = .ok (.aload_n 0, 1) := by decide +kernel
theorem dX6_reads_185 : decode cX6_reads 185 = .ok (.invokevirtual 149, 3) := by decide +kernel
theorem dX6_reads_188 : decode cX6_reads 188 = .ok (.iinc 3 1, 3) := by decide +kernel
theorem dX6_reads_191 : decode cX6_reads 191 = .ok (.goto (-88), 3) := by decide +kernel
theorem dX6_reads_194 : decode cX6_reads 194 = .ok (.aload_n 0, 1) := by decide +kernel
theorem dX6_reads_195 : decode cX6_reads 195 = .ok (.getfield 132, 3) := by decide +kernel
theorem dX6_reads_198 : decode cX6_reads 198 = .ok (.iconst 3, 1) := by decide +kernel
theorem dX6_reads_199 : decode cX6_reads 199 = .ok (.if_icmp .eq 5, 3) := by decide +kernel
theorem dX6_reads_202 : decode cX6_reads 202 = .ok (.iconst 0, 1) := by decide +kernel
theorem dX6_reads_203 : decode cX6_reads 203 = .ok (.ireturn, 1) := by decide +kernel
theorem dX6_reads_204 : decode cX6_reads 204 = .ok (.aload_n 0, 1) := by decide +kernel
theorem dX6_reads_205 : decode cX6_reads 205 = .ok (.dup, 1) := by decide +kernel
theorem dX6_reads_206 : decode cX6_reads 206 = .ok (.getfield 146, 3) := by decide +kernel
theorem dX6_reads_209 : decode cX6_reads 209 = .ok (.iconst 1, 1) := by decide +kernel
theorem dX6_reads_210 : decode cX6_reads 210 = .ok (.iadd, 1) := by decide +kernel
theorem dX6_reads_211 : decode cX6_reads 211 = .ok (.putfield 146, 3) := by decide +kernel
theorem dX6_reads_214 : decode cX6_reads 214 = .ok (.aload_n 0, 1) := by decide +kernel
theorem dX6_reads_215 : decode cX6_reads 215 = .ok (.invokevirtual 149, 3) := by decide +kernel
theorem dX6_reads_218 : decode cX6_reads 218 = .ok (.goto (-204), 3) := by decide +kernel
theorem dX6_reads_221 : decode cX6_reads 221 = .ok (.iconst 1, 1) := by decide +kernel
theorem dX6_reads_222 : decode cX6_reads 222 = .ok (.ireturn, 1) := by decide +kernel
theorem dX6_tellsItem_0 : decode cX6_tellsItem 0 = .ok (.aload_n 0, 1) := by decide +kernel
theorem dX6_tellsItem_1 : decode cX6_tellsItem 1 = .ok (.getfield 29, 3) := by decide +kernel
theorem dX6_tellsItem_4 : decode cX6_tellsItem 4 = .ok (.iconst 5, 1) := by decide +kernel
theorem dX6_tellsItem_5 : decode cX6_tellsItem 5 = .ok (.iload_n 1, 1) := by decide +kernel
theorem dX6_tellsItem_6 : decode cX6_tellsItem 6 = .ok (.imul, 1) := by decide +kernel
theorem dX6_tellsItem_7 : decode cX6_tellsItem 7 = .ok (.iconst 1, 1) := by decide +kernel
theorem dX6_tellsItem_8 : decode cX6_tellsItem 8 = .ok (.iadd, 1) := by decide +kernel
theorem dX6_tellsItem_9 : decode cX6_tellsItem 9 = .ok (.iaload, 1) := by decide +kernel
theorem dX6_tellsItem_10 : decode cX6_tellsItem 10 = .ok (.istore_n 2, 1) := by decide +kernel
theorem dX6_tellsItem_11 : decode cX6_tellsItem 11 = .ok (.aload_n 0, 1) := by decide +kernel
theorem dX6_tellsItem_12 : decode cX6_tellsItem 12 = .ok (.getfield 29, 3) := by decide +kernel
theorem dX6_tellsItem_15 : decode cX6_tellsItem 15 = .ok (.iconst 5, 1) := by decide +kernel
theorem dX6_tellsItem_16 : decode cX6_tellsItem 16 = .ok (.iload_n 1, 1) := by decide +kernel
theorem dX6_tellsItem_17 : decode cX6_tellsItem 17 = .ok (.imul, 1) := by decide +kernel
theorem dX6_tellsItem_18 : decode cX6_tellsItem 18 = .ok (.iconst 2, 1) := by decide +kernel
theorem dX6_tellsItem_19 : decode cX6_tellsItem 19 = .ok (.iadd, 1) := by decide +kernel
theorem dX6_tellsItem_20 : decode cX6_tellsItem 20 = .ok (.iaload, 1) := by decide +kernel
theorem dX6_tellsItem_21 : decode cX6_tellsItem 21 = .ok (.istore_n 3, 1) := by decide +kernel
theorem dX6_tellsItem_22 : decode cX6_tellsItem 22 = .ok (.aload_n 0, 1) := by decide +kernel
theorem dX6_tellsItem_23 : decode cX6_tellsItem 23 = .ok (.getfield 29, 3) := by decide +kernel
theorem dX6_tellsItem_26 : decode cX6_tellsItem 26 = .ok (.iconst 5, 1) := by decide +kernel
theorem dX6_tellsItem_27 : decode cX6_tellsItem 27 = .ok (.iload_n 1, 1) := by decide +kernel
theorem dX6_tellsItem_28 : decode cX6_tellsItem 28 = .ok (.imul, 1) := by decide +kernel
theorem dX6_tellsItem_29 : decode cX6_tellsItem 29 = .ok (.iaload, 1) := by decide +kernel
theorem dX6_tellsItem_30 : decode cX6_tellsItem 30 = .ok (.istore 4, 2) := by decide +kernel
theorem dX6_tellsItem_32 : decode cX6_tellsItem 32 = .ok (.iload 4, 2) := by decide +kernel
theorem dX6_tellsItem_34 : decode cX6_tellsItem 34 = .ok (.ifCond .ne 11, 3) := by decide +kernel
theorem dX6_tellsItem_37 : decode cX6_tellsItem 37 = .ok (.aload_n 0, 1) := by decide +kernel
theorem dX6_tellsItem_38 : decode cX6_tellsItem 38 = .ok (.iload_n 2, 1) := by decide +kernel
theorem dX6_tellsItem_39 : decode cX6_tellsItem 39 = .ok (.invokevirtual 152, 3) := by decide +kernel
theorem dX6_tellsItem_42 : decode cX6_tellsItem 42 = .ok (.goto 73, 3) := by decide +kernel
theorem dX6_tellsItem_45 : decode cX6_tellsItem 45 = .ok (.iload 4, 2) := by decide +kernel
theorem dX6_tellsItem_47 : decode cX6_tellsItem 47 = .ok (.iconst 1, 1) := by decide +kernel
theorem dX6_tellsItem_48 : decode cX6_tellsItem 48 = .ok (.if_icmp .ne 32, 3) := by decide +kernel
theorem dX6_tellsItem_51 : decode cX6_tellsItem 51 = .ok (.aload_n 0, 1) := by decide +kernel
theorem dX6_tellsItem_52 : decode cX6_tellsItem 52 = .ok (.iload_n 2, 1) := by decide +kernel
theorem dX6_tellsItem_53 : decode cX6_tellsItem 53 = .ok (.iload_n 3, 1) := by decide +kernel
theorem dX6_tellsItem_54 : decode cX6_tellsItem 54 = .ok (.aload_n 0, 1) := by decide +kernel
theorem dX6_tellsItem_55 : decode cX6_tellsItem 55 = .ok (.getfield 29, 3) := by decide +kernel
theorem dX6_tellsItem_58 : decode cX6_tellsItem 58 = .ok (.iconst 5, 1) := by decide +kernel
theorem dX6_tellsItem_59 : decode cX6_tellsItem 59 = .ok (.iload_n 1, 1) := by decide +kernel
theorem dX6_tellsItem_60 : decode cX6_tellsItem 60 = .ok (.imul, 1) := by decide +kernel
theorem dX6_tellsItem_61 : decode cX6_tellsItem 61 = .ok (.iconst 3, 1) := by decide +kernel
theorem dX6_tellsItem_62 : decode cX6_tellsItem 62 = .ok (.iadd, 1) := by decide +kernel
theorem dX6_tellsItem_63 : decode cX6_tellsItem 63 = .ok (.iaload, 1) := by decide +kernel
theorem dX6_tellsItem_64 : decode cX6_tellsItem 64 = .ok (.aload_n 0, 1) := by decide +kernel
theorem dX6_tellsItem_65 : decode cX6_tellsItem 65 = .ok (.getfield 29, 3) := by decide +kernel
theorem dX6_tellsItem_68 : decode cX6_tellsItem 68 = .ok (.iconst 5, 1) := by decide +kernel
theorem dX6_tellsItem_69 : decode cX6_tellsItem 69 = .ok (.iload_n 1, 1) := by decide +kernel
theorem dX6_tellsItem_70 : decode cX6_tellsItem 70 = .ok (.imul, 1) := by decide +kernel
theorem dX6_tellsItem_71 : decode cX6_tellsItem 71 = .ok (.iconst 4, 1) := by decide +kernel
theorem dX6_tellsItem_72 : decode cX6_tellsItem 72 = .ok (.iadd, 1) := by decide +kernel
theorem dX6_tellsItem_73 : decode cX6_tellsItem 73 = .ok (.iaload, 1) := by decide +kernel
theorem dX6_tellsItem_74 : decode cX6_tellsItem 74 = .ok (.invokevirtual 155, 3) := by decide +kernel
theorem dX6_tellsItem_77 : decode cX6_tellsItem 77 = .ok (.goto 38, 3) := by decide +kernel
theorem dX6_tellsItem_80 : decode cX6_tellsItem 80 = .ok (.iload 4, 2) := by decide +kernel
theorem dX6_tellsItem_82 : decode cX6_tellsItem 82 = .ok (.iconst 2, 1) := by decide +kernel
theorem dX6_tellsItem_83 : decode cX6_tellsItem 83 = .ok (.if_icmp .ne 12, 3) := by decide +kernel
theorem dX6_tellsItem_86 : decode cX6_tellsItem 86 = .ok (.aload_n 0, 1) := by decide +kernel
theorem dX6_tellsItem_87 : decode cX6_tellsItem 87 = .ok (.iload_n 2, 1) := by decide +kernel
theorem dX6_tellsItem_88 : decode cX6_tellsItem 88 = .ok (.iconst 1, 1) := by decide +kernel
theorem dX6_tellsItem_89 : decode cX6_tellsItem 89 = .ok (.invokevirtual 159, 3) := by decide +kernel
theorem dX6_tellsItem_92 : decode cX6_tellsItem 92 = .ok (.goto 23, 3) := by decide +kernel
theorem dX6_tellsItem_95 : decode cX6_tellsItem 95 = .ok (.iload 4, 2) := by decide +kernel
theorem dX6_tellsItem_97 : decode cX6_tellsItem 97 = .ok (.iconst 3, 1) := by decide +kernel
theorem dX6_tellsItem_98 : decode cX6_tellsItem 98 = .ok (.if_icmp .ne 12, 3) := by decide +kernel
theorem dX6_tellsItem_101 : decode cX6_tellsItem 101 = .ok (.aload_n 0, 1) := by decide +kernel
theorem dX6_tellsItem_102 : decode cX6_tellsItem 102 = .ok (.iload_n 2, 1) := by decide +kernel
theorem dX6_tellsItem_103 : decode cX6_tellsItem 103 = .ok (.iload_n 3, 1) := by decide +kernel
theorem dX6_tellsItem_104 : decode cX6_tellsItem 104 = .ok (.invokevirtual 163, 3) := by decide +kernel
theorem dX6_tellsItem_107 : decode cX6_tellsItem 107 = .ok (.goto 8, 3) := by decide +kernel
theorem dX6_tellsItem_110 : decode cX6_tellsItem 110 = .ok (.aload_n 0, 1) := by decide +kernel
theorem dX6_tellsItem_111 : decode cX6_tellsItem 111 = .ok (.iload_n 2, 1) := by decide +kernel
theorem dX6_tellsItem_112 : decode cX6_tellsItem 112 = .ok (.invokevirtual 166, 3) := by decide +kernel
theorem dX6_tellsItem_115 : decode cX6_tellsItem 115 = .ok (.istore 5, 2) := by decide +kernel
theorem dX6_tellsItem_117 : decode cX6_tellsItem 117 = .ok (.iload 5, 2) := by decide +kernel
theorem dX6_tellsItem_119 : decode cX6_tellsItem 119 = .ok (.ifCond .lt 7, 3) := by decide +kernel
theorem dX6_tellsItem_122 : decode cX6_tellsItem 122 = .ok (.iconst 1, 1) := by decide +kernel
theorem dX6_tellsItem_123 : decode cX6_tellsItem 123 = .ok (.goto 4, 3) := by decide +kernel
theorem dX6_tellsItem_126 : decode cX6_tellsItem 126 = .ok (.iconst 0, 1) := by decide +kernel
theorem dX6_tellsItem_127 : decode cX6_tellsItem 127 = .ok (.ireturn, 1) := by decide +kernel
theorem dX6_read_0 : decode cX6_read 0 = .ok (.aload_n 0, 1) := by decide +kernel
theorem dX6_read_1 : decode cX6_read 1 = .ok (.invokevirtual 169, 3) := by decide +kernel
theorem dX6_read_4 : decode cX6_read 4 = .ok (.ifCond .ne 11, 3) := by decide +kernel
theorem dX6_read_7 : decode cX6_read 7 = .ok (.bipush (-10), 2) := by decide +kernel
theorem dX6_read_9 : decode cX6_read 9 = .ok (.aload_n 0, 1) := by decide +kernel
theorem dX6_read_10 : decode cX6_read 10 = .ok (.getfield 129, 3) := by decide +kernel
theorem dX6_read_13 : decode cX6_read 13 = .ok (.isub, 1) := by decide +kernel
theorem dX6_read_14 : decode cX6_read 14 = .ok (.ireturn, 1) := by decide +kernel
theorem dX6_read_15 : decode cX6_read 15 = .ok (.iconst 0, 1) := by decide +kernel
theorem dX6_read_16 : decode cX6_read 16 = .ok (.istore_n 1, 1) := by decide +kernel
theorem dX6_read_17 : decode cX6_read 17 = .ok (.iload_n 1, 1) := by decide +kernel
theorem dX6_read_18 : decode cX6_read 18 = .ok (.bipush 98, 2) := by decide +kernel
theorem dX6_read_20 : decode cX6_read 20 = .ok (.if_icmp .ge 21, 3) := by decide +kernel
theorem dX6_read_23 : decode cX6_read 23 = .ok (.aload_n 0, 1) := by decide +kernel
theorem dX6_read_24 : decode cX6_read 24 = .ok (.getfield 20, 3) := by decide +kernel
theorem dX6_read_27 : decode cX6_read 27 = .ok (.iload_n 1, 1) := by decide +kernel
theorem dX6_read_28 : decode cX6_read 28 = .ok (.aload_n 0, 1) := by decide +kernel
theorem dX6_read_29 : decode cX6_read 29 = .ok (.getfield 7, 3) := by decide +kernel
theorem dX6_read_32 : decode cX6_read 32 = .ok (.iload_n 1, 1) := by decide +kernel
theorem dX6_read_33 : decode cX6_read 33 = .ok (.iaload, 1) := by decide +kernel
theorem dX6_read_34 : decode cX6_read 34 = .ok (.iastore, 1) := by decide +kernel
theorem dX6_read_35 : decode cX6_read 35 = .ok (.iinc 1 1, 3) := by decide +kernel
theorem dX6_read_38 : decode cX6_read 38 = .ok (.goto (-21), 3) := by decide +kernel
theorem dX6_read_41 : decode cX6_read 41 = .ok (.aload_n 0, 1) := by decide +kernel
theorem dX6_read_42 : decode cX6_read 42 = .ok (.iconst 1, 1) := by decide +kernel
theorem dX6_read_43 : decode cX6_read 43 = .ok (.putfield 48, 3) := by decide +kernel
theorem dX6_read_46 : decode cX6_read 46 = .ok (.iconst 0, 1) := by decide +kernel
theorem dX6_read_47 : decode cX6_read 47 = .ok (.istore_n 1, 1) := by decide +kernel
theorem dX6_read_48 : decode cX6_read 48 = .ok (.iload_n 1, 1) := by decide +kernel
theorem dX6_read_49 : decode cX6_read 49 = .ok (.aload_n 0, 1) := by decide +kernel
theorem dX6_read_50 : decode cX6_read 50 = .ok (.getfield 146, 3) := by decide +kernel
theorem dX6_read_53 : decode cX6_read 53 = .ok (.if_icmp .ge 17, 3) := by decide +kernel
theorem dX6_read_56 : decode cX6_read 56 = .ok (.aload_n 0, 1) := by decide +kernel
theorem dX6_read_57 : decode cX6_read 57 = .ok (.iload_n 1, 1) := by decide +kernel
theorem dX6_read_58 : decode cX6_read 58 = .ok (.invokevirtual 173, 3) := by decide +kernel
theorem dX6_read_61 : decode cX6_read 61 = .ok (.ifCond .eq 9, 3) := by decide +kernel
theorem dX6_read_64 : decode cX6_read 64 = .ok (.iinc 1 1, 3) := by decide +kernel
theorem dX6_read_67 : decode cX6_read 67 = .ok (.goto (-19), 3) := by decide +kernel
theorem dX6_read_70 : decode cX6_read 70 = .ok (.aload_n 0, 1) := by decide +kernel
theorem dX6_read_71 : decode cX6_read 71 = .ok (.iconst 0, 1) := by decide +kernel
theorem dX6_read_72 : decode cX6_read 72 = .ok (.putfield 48, 3) := by decide +kernel
theorem dX6_read_75 : decode cX6_read 75 = .ok (.iload_n 1, 1) := by decide +kernel
theorem dX6_read_76 : decode cX6_read 76 = .ok (.aload_n 0, 1) := by decide +kernel
theorem dX6_read_77 : decode cX6_read 77 = .ok (.getfield 146, 3) := by decide +kernel
theorem dX6_read_80 : decode cX6_read 80 = .ok (.if_icmp .ne 8, 3) := by decide +kernel
theorem dX6_read_83 : decode cX6_read 83 = .ok (.aload_n 0, 1) := by decide +kernel
theorem dX6_read_84 : decode cX6_read 84 = .ok (.getfield 146, 3) := by decide +kernel
theorem dX6_read_87 : decode cX6_read 87 = .ok (.ireturn, 1) := by decide +kernel
theorem dX6_read_88 : decode cX6_read 88 = .ok (.iconst 0, 1) := by decide +kernel
theorem dX6_read_89 : decode cX6_read 89 = .ok (.istore_n 2, 1) := by decide +kernel
theorem dX6_read_90 : decode cX6_read 90 = .ok (.iload_n 2, 1) := by decide +kernel
theorem dX6_read_91 : decode cX6_read 91 = .ok (.bipush 98, 2) := by decide +kernel
theorem dX6_read_93 : decode cX6_read 93 = .ok (.if_icmp .ge 21, 3) := by decide +kernel
theorem dX6_read_96 : decode cX6_read 96 = .ok (.aload_n 0, 1) := by decide +kernel
theorem dX6_read_97 : decode cX6_read 97 = .ok (.getfield 7, 3) := by decide +kernel
theorem dX6_read_100 : decode cX6_read 100 = .ok (.iload_n 2, 1) := by decide +kernel
theorem dX6_read_101 : decode cX6_read 101 = .ok (.aload_n 0, 1) := by decide +kernel
theorem dX6_read_102 : decode cX6_read 102 = .ok (.getfield 20, 3) := by decide +kernel
theorem dX6_read_105 : decode cX6_read 105 = .ok (.iload_n 2, 1) := by decide +kernel
theorem dX6_read_106 : decode cX6_read 106 = .ok (.iaload, 1) := by decide +kernel
theorem dX6_read_107 : decode cX6_read 107 = .ok (.iastore, 1) := by decide +kernel
theorem dX6_read_108 : decode cX6_read 108 = .ok (.iinc 2 1, 3) := by decide +kernel
theorem dX6_read_111 : decode cX6_read 111 = .ok (.goto (-21), 3) := by decide +kernel
theorem dX6_read_114 : decode cX6_read 114 = .ok (.sipush (-1000), 3) := by decide +kernel
theorem dX6_read_117 : decode cX6_read 117 = .ok (.iload_n 1, 1) := by decide +kernel
theorem dX6_read_118 : decode cX6_read 118 = .ok (.isub, 1) := by decide +kernel
theorem dX6_read_119 : decode cX6_read 119 = .ok (.ireturn, 1) := by decide +kernel
theorem dX6_pull_0 : decode cX6_pull 0 = .ok (.aload_n 0, 1) := by decide +kernel
theorem dX6_pull_1 : decode cX6_pull 1 = .ok (.iload_n 1, 1) := by decide +kernel
theorem dX6_pull_2 : decode cX6_pull 2 = .ok (.invokevirtual 83, 3) := by decide +kernel
theorem dX6_pull_5 : decode cX6_pull 5 = .ok (.ifCond .ne 8, 3) := by decide +kernel
theorem dX6_pull_8 : decode cX6_pull 8 = .ok (.aload_n 0, 1) := by decide +kernel
theorem dX6_pull_9 : decode cX6_pull 9 = .ok (.invokevirtual 79, 3) := by decide +kernel
theorem dX6_pull_12 : decode cX6_pull 12 = .ok (.ireturn, 1) := by decide +kernel
theorem dX6_pull_13 : decode cX6_pull 13 = .ok (.aload_n 0, 1) := by decide +kernel
theorem dX6_pull_14 : decode cX6_pull 14 = .ok (.getfield 7, 3) := by decide +kernel
theorem dX6_pull_17 : decode cX6_pull 17 = .ok (.bipush 8, 2) := by decide +kernel
theorem dX6_pull_19 : decode cX6_pull 19 = .ok (.iaload, 1) := by decide +kernel
theorem dX6_pull_20 : decode cX6_pull 20 = .ok (.bipush 20, 2) := by decide +kernel
theorem dX6_pull_22 : decode cX6_pull 22 = .ok (.if_icmp .ne 48, 3) := by decide +kernel
theorem dX6_pull_25 : decode cX6_pull 25 = .ok (.iconst 1, 1) := by decide +kernel
theorem dX6_pull_26 : decode cX6_pull 26 = .ok (.istore_n 2, 1) := by decide +kernel
theorem dX6_pull_27 : decode cX6_pull 27 = .ok (.iload_n 2, 1) := by decide +kernel
theorem dX6_pull_28 : decode cX6_pull 28 = .ok (.bipush 20, 2) := by decide +kernel
theorem dX6_pull_30 : decode cX6_pull 30 = .ok (.if_icmp .ge 29, 3) := by decide +kernel
theorem dX6_pull_33 : decode cX6_pull 33 = .ok (.aload_n 0, 1) := by decide +kernel
theorem dX6_pull_34 : decode cX6_pull 34 = .ok (.getfield 7, 3) := by decide +kernel
theorem dX6_pull_37 : decode cX6_pull 37 = .ok (.bipush 78, 2) := by decide +kernel
theorem dX6_pull_39 : decode cX6_pull 39 = .ok (.iload_n 2, 1) := by decide +kernel
theorem dX6_pull_40 : decode cX6_pull 40 = .ok (.iadd, 1) := by decide +kernel
theorem dX6_pull_41 : decode cX6_pull 41 = .ok (.iconst 1, 1) := by decide +kernel
theorem dX6_pull_42 : decode cX6_pull 42 = .ok (.isub, 1) := by decide +kernel
theorem dX6_pull_43 : decode cX6_pull 43 = .ok (.aload_n 0, 1) := by decide +kernel
theorem dX6_pull_44 : decode cX6_pull 44 = .ok (.getfield 7, 3) := by decide +kernel
theorem dX6_pull_47 : decode cX6_pull 47 = .ok (.bipush 78, 2) := by decide +kernel
theorem dX6_pull_49 : decode cX6_pull 49 = .ok (.iload_n 2, 1) := by decide +kernel
theorem dX6_pull_50 : decode cX6_pull 50 = .ok (.iadd, 1) := by decide +kernel
theorem dX6_pull_51 : decode cX6_pull 51 = .ok (.iaload, 1) := by decide +kernel
theorem dX6_pull_52 : decode cX6_pull 52 = .ok (.iastore, 1) := by decide +kernel
theorem dX6_pull_53 : decode cX6_pull 53 = .ok (.iinc 2 1, 3) := by decide +kernel
theorem dX6_pull_56 : decode cX6_pull 56 = .ok (.goto (-29), 3) := by decide +kernel
theorem dX6_pull_59 : decode cX6_pull 59 = .ok (.aload_n 0, 1) := by decide +kernel
theorem dX6_pull_60 : decode cX6_pull 60 = .ok (.getfield 7, 3) := by decide +kernel
theorem dX6_pull_63 : decode cX6_pull 63 = .ok (.bipush 8, 2) := by decide +kernel
theorem dX6_pull_65 : decode cX6_pull 65 = .ok (.dup2, 1) := by decide +kernel
theorem dX6_pull_66 : decode cX6_pull 66 = .ok (.iaload, 1) := by decide +kernel
theorem dX6_pull_67 : decode cX6_pull 67 = .ok (.iconst 1, 1) := by decide +kernel
theorem dX6_pull_68 : decode cX6_pull 68 = .ok (.isub, 1) := by decide +kernel
theorem dX6_pull_69 : decode cX6_pull 69 = .ok (.iastore, 1) := by decide +kernel
theorem dX6_pull_70 : decode cX6_pull 70 = .ok (.aload_n 0, 1) := by decide +kernel
theorem dX6_pull_71 : decode cX6_pull 71 = .ok (.getfield 7, 3) := by decide +kernel
theorem dX6_pull_74 : decode cX6_pull 74 = .ok (.bipush 78, 2) := by decide +kernel
theorem dX6_pull_76 : decode cX6_pull 76 = .ok (.aload_n 0, 1) := by decide +kernel
theorem dX6_pull_77 : decode cX6_pull 77 = .ok (.getfield 7, 3) := by decide +kernel
theorem dX6_pull_80 : decode cX6_pull 80 = .ok (.bipush 8, 2) := by decide +kernel
theorem dX6_pull_82 : decode cX6_pull 82 = .ok (.iaload, 1) := by decide +kernel
theorem dX6_pull_83 : decode cX6_pull 83 = .ok (.iadd, 1) := by decide +kernel
theorem dX6_pull_84 : decode cX6_pull 84 = .ok (.aload_n 0, 1) := by decide +kernel
theorem dX6_pull_85 : decode cX6_pull 85 = .ok (.getfield 7, 3) := by decide +kernel
theorem dX6_pull_88 : decode cX6_pull 88 = .ok (.bipush 7, 2) := by decide +kernel
theorem dX6_pull_90 : decode cX6_pull 90 = .ok (.iaload, 1) := by decide +kernel
theorem dX6_pull_91 : decode cX6_pull 91 = .ok (.iastore, 1) := by decide +kernel
theorem dX6_pull_92 : decode cX6_pull 92 = .ok (.aload_n 0, 1) := by decide +kernel
theorem dX6_pull_93 : decode cX6_pull 93 = .ok (.getfield 7, 3) := by decide +kernel
theorem dX6_pull_96 : decode cX6_pull 96 = .ok (.bipush 8, 2) := by decide +kernel
theorem dX6_pull_98 : decode cX6_pull 98 = .ok (.dup2, 1) := by decide +kernel
theorem dX6_pull_99 : decode cX6_pull 99 = .ok (.iaload, 1) := by decide +kernel
theorem dX6_pull_100 : decode cX6_pull 100 = .ok (.iconst 1, 1) := by decide +kernel
theorem dX6_pull_101 : decode cX6_pull 101 = .ok (.iadd, 1) := by decide +kernel
theorem dX6_pull_102 : decode cX6_pull 102 = .ok (.iastore, 1) := by decide +kernel
theorem dX6_pull_103 : decode cX6_pull 103 = .ok (.aload_n 0, 1) := by decide +kernel
theorem dX6_pull_104 : decode cX6_pull 104 = .ok (.getfield 7, 3) := by decide +kernel
theorem dX6_pull_107 : decode cX6_pull 107 = .ok (.bipush 7, 2) := by decide +kernel
theorem dX6_pull_109 : decode cX6_pull 109 = .ok (.aload_n 0, 1) := by decide +kernel
theorem dX6_pull_110 : decode cX6_pull 110 = .ok (.aload_n 0, 1) := by decide +kernel
theorem dX6_pull_111 : decode cX6_pull 111 = .ok (.getfield 7, 3) := by decide +kernel
theorem dX6_pull_114 : decode cX6_pull 114 = .ok (.bipush 7, 2) := by decide +kernel
theorem dX6_pull_116 : decode cX6_pull 116 = .ok (.iaload, 1) := by decide +kernel
theorem dX6_pull_117 : decode cX6_pull 117 = .ok (.iload_n 1, 1) := by decide +kernel
theorem dX6_pull_118 : decode cX6_pull 118 = .ok (.aload_n 0, 1) := by decide +kernel
theorem dX6_pull_119 : decode cX6_pull 119 = .ok (.invokevirtual 176, 3) := by decide +kernel
theorem dX6_pull_122 : decode cX6_pull 122 = .ok (.invokevirtual 179, 3) := by decide +kernel
theorem dX6_pull_125 : decode cX6_pull 125 = .ok (.iastore, 1) := by decide +kernel
theorem dX6_pull_126 : decode cX6_pull 126 = .ok (.aload_n 0, 1) := by decide +kernel
theorem dX6_pull_127 : decode cX6_pull 127 = .ok (.getfield 7, 3) := by decide +kernel
theorem dX6_pull_130 : decode cX6_pull 130 = .ok (.bipush 7, 2) := by decide +kernel
theorem dX6_pull_132 : decode cX6_pull 132 = .ok (.iaload, 1) := by decide +kernel
theorem dX6_pull_133 : decode cX6_pull 133 = .ok (.ireturn, 1) := by decide +kernel
theorem dX6_undo_0 : decode cX6_undo 0 = .ok (.aload_n 0, 1) := by decide +kernel
theorem dX6_undo_1 : decode cX6_undo 1 = .ok (.getfield 7, 3) := by decide +kernel
theorem dX6_undo_4 : decode cX6_undo 4 = .ok (.bipush 8, 2) := by decide +kernel
theorem dX6_undo_6 : decode cX6_undo 6 = .ok (.iaload, 1) := by decide +kernel
theorem dX6_undo_7 : decode cX6_undo 7 = .ok (.ifCond .ne 8, 3) := by decide +kernel
theorem dX6_undo_10 : decode cX6_undo 10 = .ok (.aload_n 0, 1) := by decide +kernel
theorem dX6_undo_11 : decode cX6_undo 11 = .ok (.invokevirtual 98, 3) := by decide +kernel
theorem dX6_undo_14 : decode cX6_undo 14 = .ok (.ireturn, 1) := by decide +kernel
theorem dX6_undo_15 : decode cX6_undo 15 = .ok (.aload_n 0, 1) := by decide +kernel
theorem dX6_undo_16 : decode cX6_undo 16 = .ok (.getfield 7, 3) := by decide +kernel
theorem dX6_undo_19 : decode cX6_undo 19 = .ok (.bipush 8, 2) := by decide +kernel
theorem dX6_undo_21 : decode cX6_undo 21 = .ok (.dup2, 1) := by decide +kernel
theorem dX6_undo_22 : decode cX6_undo 22 = .ok (.iaload, 1) := by decide +kernel
theorem dX6_undo_23 : decode cX6_undo 23 = .ok (.iconst 1, 1) := by decide +kernel
theorem dX6_undo_24 : decode cX6_undo 24 = .ok (.isub, 1) := by decide +kernel
theorem dX6_undo_25 : decode cX6_undo 25 = .ok (.iastore, 1) := by decide +kernel
theorem dX6_undo_26 : decode cX6_undo 26 = .ok (.aload_n 0, 1) := by decide +kernel
theorem dX6_undo_27 : decode cX6_undo 27 = .ok (.getfield 7, 3) := by decide +kernel
theorem dX6_undo_30 : decode cX6_undo 30 = .ok (.bipush 7, 2) := by decide +kernel
theorem dX6_undo_32 : decode cX6_undo 32 = .ok (.aload_n 0, 1) := by decide +kernel
theorem dX6_undo_33 : decode cX6_undo 33 = .ok (.getfield 7, 3) := by decide +kernel
theorem dX6_undo_36 : decode cX6_undo 36 = .ok (.bipush 78, 2) := by decide +kernel
theorem dX6_undo_38 : decode cX6_undo 38 = .ok (.aload_n 0, 1) := by decide +kernel
theorem dX6_undo_39 : decode cX6_undo 39 = .ok (.getfield 7, 3) := by decide +kernel
theorem dX6_undo_42 : decode cX6_undo 42 = .ok (.bipush 8, 2) := by decide +kernel
theorem dX6_undo_44 : decode cX6_undo 44 = .ok (.iaload, 1) := by decide +kernel
theorem dX6_undo_45 : decode cX6_undo 45 = .ok (.iadd, 1) := by decide +kernel
theorem dX6_undo_46 : decode cX6_undo 46 = .ok (.iaload, 1) := by decide +kernel
theorem dX6_undo_47 : decode cX6_undo 47 = .ok (.iastore, 1) := by decide +kernel
theorem dX6_undo_48 : decode cX6_undo 48 = .ok (.aload_n 0, 1) := by decide +kernel
theorem dX6_undo_49 : decode cX6_undo 49 = .ok (.getfield 7, 3) := by decide +kernel
theorem dX6_undo_52 : decode cX6_undo 52 = .ok (.bipush 7, 2) := by decide +kernel
theorem dX6_undo_54 : decode cX6_undo 54 = .ok (.iaload, 1) := by decide +kernel
theorem dX6_undo_55 : decode cX6_undo 55 = .ok (.ireturn, 1) := by decide +kernel
theorem dX6_isState_0 : decode cX6_isState 0 = .ok (.iload_n 1, 1) := by decide +kernel
theorem dX6_isState_1 : decode cX6_isState 1 = .ok (.i2l, 1) := by decide +kernel
theorem dX6_isState_2 : decode cX6_isState 2 = .ok (.lconst 0, 1) := by decide +kernel
theorem dX6_isState_3 : decode cX6_isState 3 = .ok (.aload_n 0, 1) := by decide +kernel
theorem dX6_isState_4 : decode cX6_isState 4 = .ok (.invokevirtual 183, 3) := by decide +kernel
theorem dX6_isState_7 : decode cX6_isState 7 = .ok (.iconst 1, 1) := by decide +kernel
theorem dX6_isState_8 : decode cX6_isState 8 = .ok (.isub, 1) := by decide +kernel
theorem dX6_isState_9 : decode cX6_isState 9 = .ok (.i2l, 1) := by decide +kernel
theorem dX6_isState_10 : decode cX6_isState 10 = .ok (.invokestatic 56, 3) := by decide +kernel
theorem dX6_isState_13 : decode cX6_isState 13 = .ok (.ireturn, 1) := by decide +kernel
theorem dX6_behind_0 : decode cX6_behind 0 = .ok (.aload_n 0, 1) := by decide +kernel
theorem dX6_behind_1 : decode cX6_behind 1 = .ok (.iload_n 1, 1) := by decide +kernel
theorem dX6_behind_2 : decode cX6_behind 2 = .ok (.invokevirtual 186, 3) := by decide +kernel
theorem dX6_behind_5 : decode cX6_behind 5 = .ok (.ifCond .eq 24, 3) := by decide +kernel
theorem dX6_behind_8 : decode cX6_behind 8 = .ok (.aload_n 0, 1) := by decide +kernel
theorem dX6_behind_9 : decode cX6_behind 9 = .ok (.iload_n 2, 1) := by decide +kernel
theorem dX6_behind_10 : decode cX6_behind 10 = .ok (.invokevirtual 83, 3) := by decide +kernel
theorem dX6_behind_13 : decode cX6_behind 13 = .ok (.ifCond .eq 16, 3) := by decide +kernel
theorem dX6_behind_16 : decode cX6_behind 16 = .ok (.aload_n 0, 1) := by decide +kernel
theorem dX6_behind_17 : decode cX6_behind 17 = .ok (.iload_n 1, 1) := by decide +kernel
theorem dX6_behind_18 : decode cX6_behind 18 = .ok (.iload_n 2, 1) := by decide +kernel
theorem dX6_behind_19 : decode cX6_behind 19 = .ok (.aload_n 0, 1) := by decide +kernel
theorem dX6_behind_20 : decode cX6_behind 20 = .ok (.invokevirtual 176, 3) := by decide +kernel
theorem dX6_behind_23 : decode cX6_behind 23 = .ok (.invokevirtual 179, 3) := by decide +kernel
theorem dX6_behind_26 : decode cX6_behind 26 = .ok (.goto 7, 3) := by decide +kernel
theorem dX6_behind_29 : decode cX6_behind 29 = .ok (.aload_n 0, 1) := by decide +kernel
theorem dX6_behind_30 : decode cX6_behind 30 = .ok (.invokevirtual 79, 3) := by decide +kernel
theorem dX6_behind_33 : decode cX6_behind 33 = .ok (.ireturn, 1) := by decide +kernel
theorem dX6_out_0 : decode cX6_out 0 = .ok (.aload_n 0, 1) := by decide +kernel
theorem dX6_out_1 : decode cX6_out 1 = .ok (.iload_n 1, 1) := by decide +kernel
theorem dX6_out_2 : decode cX6_out 2 = .ok (.invokevirtual 83, 3) := by decide +kernel
theorem dX6_out_5 : decode cX6_out 5 = .ok (.ifCond .eq 17, 3) := by decide +kernel
theorem dX6_out_8 : decode cX6_out 8 = .ok (.aload_n 0, 1) := by decide +kernel
theorem dX6_out_9 : decode cX6_out 9 = .ok (.getfield 7, 3) := by decide +kernel
theorem dX6_out_12 : decode cX6_out 12 = .ok (.bipush 7, 2) := by decide +kernel
theorem dX6_out_14 : decode cX6_out 14 = .ok (.iaload, 1) := by decide +kernel
theorem dX6_out_15 : decode cX6_out 15 = .ok (.iload_n 1, 1) := by decide +kernel
theorem dX6_out_16 : decode cX6_out 16 = .ok (.invokestatic 64, 3) := by decide +kernel
theorem dX6_out_19 : decode cX6_out 19 = .ok (.goto 7, 3) := by decide +kernel
theorem dX6_out_22 : decode cX6_out 22 = .ok (.aload_n 0, 1) := by decide +kernel
theorem dX6_out_23 : decode cX6_out 23 = .ok (.invokevirtual 79, 3) := by decide +kernel
theorem dX6_out_26 : decode cX6_out 26 = .ok (.ireturn, 1) := by decide +kernel
theorem dX6_lays_0 : decode cX6_lays 0 = .ok (.iconst 0, 1) := by decide +kernel
theorem dX6_lays_1 : decode cX6_lays 1 = .ok (.istore_n 1, 1) := by decide +kernel
theorem dX6_lays_2 : decode cX6_lays 2 = .ok (.iload_n 1, 1) := by decide +kernel
theorem dX6_lays_3 : decode cX6_lays 3 = .ok (.aload_n 0, 1) := by decide +kernel
theorem dX6_lays_4 : decode cX6_lays 4 = .ok (.invokevirtual 183, 3) := by decide +kernel
theorem dX6_lays_7 : decode cX6_lays 7 = .ok (.if_icmp .ge 48, 3) := by decide +kernel
theorem dX6_lays_10 : decode cX6_lays 10 = .ok (.iconst 0, 1) := by decide +kernel
theorem dX6_lays_11 : decode cX6_lays 11 = .ok (.istore_n 2, 1) := by decide +kernel
theorem dX6_lays_12 : decode cX6_lays 12 = .ok (.iload_n 2, 1) := by decide +kernel
theorem dX6_lays_13 : decode cX6_lays 13 = .ok (.aload_n 0, 1) := by decide +kernel
theorem dX6_lays_14 : decode cX6_lays 14 = .ok (.getfield 7, 3) := by decide +kernel
theorem dX6_lays_17 : decode cX6_lays 17 = .ok (.iconst 0, 1) := by decide +kernel
theorem dX6_lays_18 : decode cX6_lays 18 = .ok (.iaload, 1) := by decide +kernel
theorem dX6_lays_19 : decode cX6_lays 19 = .ok (.if_icmp .ge 30, 3) := by decide +kernel
theorem dX6_lays_22 : decode cX6_lays 22 = .ok (.aload_n 0, 1) := by decide +kernel
theorem dX6_lays_23 : decode cX6_lays 23 = .ok (.getfield 32, 3) := by decide +kernel
theorem dX6_lays_26 : decode cX6_lays 26 = .ok (.bipush 7, 2) := by decide +kernel
theorem dX6_lays_28 : decode cX6_lays 28 = .ok (.iload_n 1, 1) := by decide +kernel
theorem dX6_lays_29 : decode cX6_lays 29 = .ok (.imul, 1) := by decide +kernel
theorem dX6_lays_30 : decode cX6_lays 30 = .ok (.iload_n 2, 1) := by decide +kernel
theorem dX6_lays_31 : decode cX6_lays 31 = .ok (.iadd, 1) := by decide +kernel
theorem dX6_lays_32 : decode cX6_lays 32 = .ok (.aload_n 0, 1) := by decide +kernel
theorem dX6_lays_33 : decode cX6_lays 33 = .ok (.iload_n 1, 1) := by decide +kernel
theorem dX6_lays_34 : decode cX6_lays 34 = .ok (.iload_n 2, 1) := by decide +kernel
theorem dX6_lays_35 : decode cX6_lays 35 = .ok (.aload_n 0, 1) := by decide +kernel
theorem dX6_lays_36 : decode cX6_lays 36 = .ok (.invokevirtual 176, 3) := by decide +kernel
theorem dX6_lays_39 : decode cX6_lays 39 = .ok (.invokevirtual 179, 3) := by decide +kernel
theorem dX6_lays_42 : decode cX6_lays 42 = .ok (.iastore, 1) := by decide +kernel
theorem dX6_lays_43 : decode cX6_lays 43 = .ok (.iinc 2 1, 3) := by decide +kernel
theorem dX6_lays_46 : decode cX6_lays 46 = .ok (.goto (-34), 3) := by decide +kernel
theorem dX6_lays_49 : decode cX6_lays 49 = .ok (.iinc 1 1, 3) := by decide +kernel
theorem dX6_lays_52 : decode cX6_lays 52 = .ok (.goto (-50), 3) := by decide +kernel
theorem dX6_lays_55 : decode cX6_lays 55 = .ok (.return_, 1) := by decide +kernel
theorem dX6_isDanger_0 : decode cX6_isDanger 0 = .ok (.iconst 0, 1) := by decide +kernel
theorem dX6_isDanger_1 : decode cX6_isDanger 1 = .ok (.istore_n 2, 1) := by decide +kernel
theorem dX6_isDanger_2 : decode cX6_isDanger 2 = .ok (.iconst 0, 1) := by decide +kernel
theorem dX6_isDanger_3 : decode cX6_isDanger 3 = .ok (.istore_n 3, 1) := by decide +kernel
theorem dX6_isDanger_4 : decode cX6_isDanger 4 = .ok (.iload_n 3, 1) := by decide +kernel
theorem dX6_isDanger_5 : decode cX6_isDanger 5 = .ok (.aload_n 0, 1) := by decide +kernel
theorem dX6_isDanger_6 : decode cX6_isDanger 6 = .ok (.getfield 7, 3) := by decide +kernel
theorem dX6_isDanger_9 : decode cX6_isDanger 9 = .ok (.iconst 0, 1) := by decide +kernel
theorem dX6_isDanger_10 : decode cX6_isDanger 10 = .ok (.iaload, 1) := by decide +kernel
theorem dX6_isDanger_11 : decode cX6_isDanger 11 = .ok (.if_icmp .ge 172, 3) := by decide +kernel
theorem dX6_isDanger_14 : decode cX6_isDanger 14 = .ok (.iload_n 1, 1) := by decide +kernel
theorem dX6_isDanger_15 : decode cX6_isDanger 15 = .ok (.iload_n 3, 1) := by decide +kernel
theorem dX6_isDanger_16 : decode cX6_isDanger 16 = .ok (.invokestatic 64, 3) := by decide +kernel
theorem dX6_isDanger_19 : decode cX6_isDanger 19 = .ok (.iconst 2, 1) := by decide +kernel
theorem dX6_isDanger_20 : decode cX6_isDanger 20 = .ok (.if_icmp .ne 29, 3) := by decide +kernel
theorem dX6_isDanger_23 : decode cX6_isDanger 23 = .ok (.aload_n 0, 1) := by decide +kernel
theorem dX6_isDanger_24 : decode cX6_isDanger 24 = .ok (.getfield 7, 3) := by decide +kernel
theorem dX6_isDanger_27 : decode cX6_isDanger 27 = .ok (.iconst 5, 1) := by decide +kernel
theorem dX6_isDanger_28 : decode cX6_isDanger 28 = .ok (.iaload, 1) := by decide +kernel
theorem dX6_isDanger_29 : decode cX6_isDanger 29 = .ok (.aload_n 0, 1) := by decide +kernel
theorem dX6_isDanger_30 : decode cX6_isDanger 30 = .ok (.getfield 7, 3) := by decide +kernel
theorem dX6_isDanger_33 : decode cX6_isDanger 33 = .ok (.bipush 9, 2) := by decide +kernel
theorem dX6_isDanger_35 : decode cX6_isDanger 35 = .ok (.iload_n 3, 1) := by decide +kernel
theorem dX6_isDanger_36 : decode cX6_isDanger 36 = .ok (.iadd, 1) := by decide +kernel
theorem dX6_isDanger_37 : decode cX6_isDanger 37 = .ok (.iaload, 1) := by decide +kernel
theorem dX6_isDanger_38 : decode cX6_isDanger 38 = .ok (.ishr, 1) := by decide +kernel
theorem dX6_isDanger_39 : decode cX6_isDanger 39 = .ok (.iconst 1, 1) := by decide +kernel
theorem dX6_isDanger_40 : decode cX6_isDanger 40 = .ok (.iand, 1) := by decide +kernel
theorem dX6_isDanger_41 : decode cX6_isDanger 41 = .ok (.iconst 1, 1) := by decide +kernel
theorem dX6_isDanger_42 : decode cX6_isDanger 42 = .ok (.if_icmp .ne 7, 3) := by decide +kernel
theorem dX6_isDanger_45 : decode cX6_isDanger 45 = .ok (.iconst 1, 1) := by decide +kernel
theorem dX6_isDanger_46 : decode cX6_isDanger 46 = .ok (.goto 4, 3) := by decide +kernel
theorem dX6_isDanger_49 : decode cX6_isDanger 49 = .ok (.iconst 0, 1) := by decide +kernel
theorem dX6_isDanger_50 : decode cX6_isDanger 50 = .ok (.istore 4, 2) := by decide +kernel
theorem dX6_isDanger_52 : decode cX6_isDanger 52 = .ok (.iload_n 3, 1) := by decide +kernel
theorem dX6_isDanger_53 : decode cX6_isDanger 53 = .ok (.ifCond .le 42, 3) := by decide +kernel
theorem dX6_isDanger_56 : decode cX6_isDanger 56 = .ok (.iload_n 1, 1) := by decide +kernel
theorem dX6_isDanger_57 : decode cX6_isDanger 57 = .ok (.iload_n 3, 1) := by decide +kernel
theorem dX6_isDanger_58 : decode cX6_isDanger 58 = .ok (.iconst 1, 1) := by decide +kernel
theorem dX6_isDanger_59 : decode cX6_isDanger 59 = .ok (.isub, 1) := by decide +kernel
theorem dX6_isDanger_60 : decode cX6_isDanger 60 = .ok (.invokestatic 64, 3) := by decide +kernel
theorem dX6_isDanger_63 : decode cX6_isDanger 63 = .ok (.ifCond .le 32, 3) := by decide +kernel
theorem dX6_isDanger_66 : decode cX6_isDanger 66 = .ok (.aload_n 0, 1) := by decide +kernel
theorem dX6_isDanger_67 : decode cX6_isDanger 67 = .ok (.getfield 7, 3) := by decide +kernel
theorem dX6_isDanger_70 : decode cX6_isDanger 70 = .ok (.bipush 6, 2) := by decide +kernel
theorem dX6_isDanger_72 : decode cX6_isDanger 72 = .ok (.iaload, 1) := by decide +kernel
theorem dX6_isDanger_73 : decode cX6_isDanger 73 = .ok (.aload_n 0, 1) := by decide +kernel
theorem dX6_isDanger_74 : decode cX6_isDanger 74 = .ok (.getfield 7, 3) := by decide +kernel
theorem dX6_isDanger_77 : decode cX6_isDanger 77 = .ok (.bipush 9, 2) := by decide +kernel
theorem dX6_isDanger_79 : decode cX6_isDanger 79 = .ok (.iload_n 3, 1) := by decide +kernel
theorem dX6_isDanger_80 : decode cX6_isDanger 80 = .ok (.iadd, 1) := by decide +kernel
theorem dX6_isDanger_81 : decode cX6_isDanger 81 = .ok (.iconst 1, 1) := by decide +kernel
theorem dX6_isDanger_82 : decode cX6_isDanger 82 = .ok (.isub, 1) := by decide +kernel
theorem dX6_isDanger_83 : decode cX6_isDanger 83 = .ok (.iaload, 1) := by decide +kernel
theorem dX6_isDanger_84 : decode cX6_isDanger 84 = .ok (.ishr, 1) := by decide +kernel
theorem dX6_isDanger_85 : decode cX6_isDanger 85 = .ok (.iconst 1, 1) := by decide +kernel
theorem dX6_isDanger_86 : decode cX6_isDanger 86 = .ok (.iand, 1) := by decide +kernel
theorem dX6_isDanger_87 : decode cX6_isDanger 87 = .ok (.iconst 1, 1) := by decide +kernel
theorem dX6_isDanger_88 : decode cX6_isDanger 88 = .ok (.if_icmp .ne 7, 3) := by decide +kernel
theorem dX6_isDanger_91 : decode cX6_isDanger 91 = .ok (.iconst 1, 1) := by decide +kernel
theorem dX6_isDanger_92 : decode cX6_isDanger 92 = .ok (.goto 4, 3) := by decide +kernel
theorem dX6_isDanger_95 : decode cX6_isDanger 95 = .ok (.iconst 0, 1) := by decide +kernel
theorem dX6_isDanger_96 : decode cX6_isDanger 96 = .ok (.istore 5, 2) := by decide +kernel
theorem dX6_isDanger_98 : decode cX6_isDanger 98 = .ok (.iload_n 3, 1) := by decide +kernel
theorem dX6_isDanger_99 : decode cX6_isDanger 99 = .ok (.iconst 1, 1) := by decide +kernel
theorem dX6_isDanger_100 : decode cX6_isDanger 100 = .ok (.iadd, 1) := by decide +kernel
theorem dX6_isDanger_101 : decode cX6_isDanger 101 = .ok (.aload_n 0, 1) := by decide +kernel
theorem dX6_isDanger_102 : decode cX6_isDanger 102 = .ok (.getfield 7, 3) := by decide +kernel
theorem dX6_isDanger_105 : decode cX6_isDanger 105 = .ok (.iconst 0, 1) := by decide +kernel
theorem dX6_isDanger_106 : decode cX6_isDanger 106 = .ok (.iaload, 1) := by decide +kernel
theorem dX6_isDanger_107 : decode cX6_isDanger 107 = .ok (.if_icmp .ge 42, 3) := by decide +kernel
theorem dX6_isDanger_110 : decode cX6_isDanger 110 = .ok (.iload_n 1, 1) := by decide +kernel
theorem dX6_isDanger_111 : decode cX6_isDanger 111 = .ok (.iload_n 3, 1) := by decide +kernel
theorem dX6_isDanger_112 : decode cX6_isDanger 112 = .ok (.iconst 1, 1) := by decide +kernel
theorem dX6_isDanger_113 : decode cX6_isDanger 113 = .ok (.iadd, 1) := by decide +kernel
theorem dX6_isDanger_114 : decode cX6_isDanger 114 = .ok (.invokestatic 64, 3) := by decide +kernel
theorem dX6_isDanger_117 : decode cX6_isDanger 117 = .ok (.ifCond .le 32, 3) := by decide +kernel
theorem dX6_isDanger_120 : decode cX6_isDanger 120 = .ok (.aload_n 0, 1) := by decide +kernel
theorem dX6_isDanger_121 : decode cX6_isDanger 121 = .ok (.getfield 7, 3) := by decide +kernel
theorem dX6_isDanger_124 : decode cX6_isDanger 124 = .ok (.bipush 6, 2) := by decide +kernel
theorem dX6_isDanger_126 : decode cX6_isDanger 126 = .ok (.iaload, 1) := by decide +kernel
theorem dX6_isDanger_127 : decode cX6_isDanger 127 = .ok (.aload_n 0, 1) := by decide +kernel
theorem dX6_isDanger_128 : decode cX6_isDanger 128 = .ok (.getfield 7, 3) := by decide +kernel
theorem dX6_isDanger_131 : decode cX6_isDanger 131 = .ok (.bipush 9, 2) := by decide +kernel
theorem dX6_isDanger_133 : decode cX6_isDanger 133 = .ok (.iload_n 3, 1) := by decide +kernel
theorem dX6_isDanger_134 : decode cX6_isDanger 134 = .ok (.iadd, 1) := by decide +kernel
theorem dX6_isDanger_135 : decode cX6_isDanger 135 = .ok (.iconst 1, 1) := by decide +kernel
theorem dX6_isDanger_136 : decode cX6_isDanger 136 = .ok (.iadd, 1) := by decide +kernel
theorem dX6_isDanger_137 : decode cX6_isDanger 137 = .ok (.iaload, 1) := by decide +kernel
theorem dX6_isDanger_138 : decode cX6_isDanger 138 = .ok (.ishr, 1) := by decide +kernel
theorem dX6_isDanger_139 : decode cX6_isDanger 139 = .ok (.iconst 1, 1) := by decide +kernel
theorem dX6_isDanger_140 : decode cX6_isDanger 140 = .ok (.iand, 1) := by decide +kernel
theorem dX6_isDanger_141 : decode cX6_isDanger 141 = .ok (.iconst 1, 1) := by decide +kernel
theorem dX6_isDanger_142 : decode cX6_isDanger 142 = .ok (.if_icmp .ne 7, 3) := by decide +kernel
theorem dX6_isDanger_145 : decode cX6_isDanger 145 = .ok (.iconst 1, 1) := by decide +kernel
theorem dX6_isDanger_146 : decode cX6_isDanger 146 = .ok (.goto 4, 3) := by decide +kernel
theorem dX6_isDanger_149 : decode cX6_isDanger 149 = .ok (.iconst 0, 1) := by decide +kernel
theorem dX6_isDanger_150 : decode cX6_isDanger 150 = .ok (.istore 6, 2) := by decide +kernel
theorem dX6_isDanger_152 : decode cX6_isDanger 152 = .ok (.iload_n 2, 1) := by decide +kernel
theorem dX6_isDanger_153 : decode cX6_isDanger 153 = .ok (.ifCond .ne 18, 3) := by decide +kernel
theorem dX6_isDanger_156 : decode cX6_isDanger 156 = .ok (.iload 4, 2) := by decide +kernel
theorem dX6_isDanger_158 : decode cX6_isDanger 158 = .ok (.ifCond .eq 17, 3) := by decide +kernel
theorem dX6_isDanger_161 : decode cX6_isDanger 161 = .ok (.iload 5, 2) := by decide +kernel
theorem dX6_isDanger_163 : decode cX6_isDanger 163 = .ok (.ifCond .ne 8, 3) := by decide +kernel
theorem dX6_isDanger_166 : decode cX6_isDanger 166 = .ok (.iload 6, 2) := by decide +kernel
theorem dX6_isDanger_168 : decode cX6_isDanger 168 = .ok (.ifCond .eq 7, 3) := by decide +kernel
theorem dX6_isDanger_171 : decode cX6_isDanger 171 = .ok (.iconst 1, 1) := by decide +kernel
theorem dX6_isDanger_172 : decode cX6_isDanger 172 = .ok (.goto 4, 3) := by decide +kernel
theorem dX6_isDanger_175 : decode cX6_isDanger 175 = .ok (.iconst 0, 1) := by decide +kernel
theorem dX6_isDanger_176 : decode cX6_isDanger 176 = .ok (.istore_n 2, 1) := by decide +kernel
theorem dX6_isDanger_177 : decode cX6_isDanger 177 = .ok (.iinc 3 1, 3) := by decide +kernel
theorem dX6_isDanger_180 : decode cX6_isDanger 180 = .ok (.goto (-176), 3) := by decide +kernel
theorem dX6_isDanger_183 : decode cX6_isDanger 183 = .ok (.iload_n 2, 1) := by decide +kernel
theorem dX6_isDanger_184 : decode cX6_isDanger 184 = .ok (.ireturn, 1) := by decide +kernel
theorem dX6_isEnd_0 : decode cX6_isEnd 0 = .ok (.iconst 1, 1) := by decide +kernel
theorem dX6_isEnd_1 : decode cX6_isEnd 1 = .ok (.istore 4, 2) := by decide +kernel
theorem dX6_isEnd_3 : decode cX6_isEnd 3 = .ok (.iconst 0, 1) := by decide +kernel
theorem dX6_isEnd_4 : decode cX6_isEnd 4 = .ok (.istore 5, 2) := by decide +kernel
theorem dX6_isEnd_6 : decode cX6_isEnd 6 = .ok (.iload 5, 2) := by decide +kernel
theorem dX6_isEnd_8 : decode cX6_isEnd 8 = .ok (.aload_n 0, 1) := by decide +kernel
theorem dX6_isEnd_9 : decode cX6_isEnd 9 = .ok (.getfield 7, 3) := by decide +kernel
theorem dX6_isEnd_12 : decode cX6_isEnd 12 = .ok (.iconst 0, 1) := by decide +kernel
theorem dX6_isEnd_13 : decode cX6_isEnd 13 = .ok (.iaload, 1) := by decide +kernel
theorem dX6_isEnd_14 : decode cX6_isEnd 14 = .ok (.if_icmp .ge 58, 3) := by decide +kernel
theorem dX6_isEnd_17 : decode cX6_isEnd 17 = .ok (.iload 4, 2) := by decide +kernel
theorem dX6_isEnd_19 : decode cX6_isEnd 19 = .ok (.ifCond .eq 44, 3) := by decide +kernel
theorem dX6_isEnd_22 : decode cX6_isEnd 22 = .ok (.iload_n 2, 1) := by decide +kernel
theorem dX6_isEnd_23 : decode cX6_isEnd 23 = .ok (.iload 5, 2) := by decide +kernel
theorem dX6_isEnd_25 : decode cX6_isEnd 25 = .ok (.ishr, 1) := by decide +kernel
theorem dX6_isEnd_26 : decode cX6_isEnd 26 = .ok (.iconst 1, 1) := by decide +kernel
theorem dX6_isEnd_27 : decode cX6_isEnd 27 = .ok (.iand, 1) := by decide +kernel
theorem dX6_isEnd_28 : decode cX6_isEnd 28 = .ok (.ifCond .eq 13, 3) := by decide +kernel
theorem dX6_isEnd_31 : decode cX6_isEnd 31 = .ok (.iload_n 1, 1) := by decide +kernel
theorem dX6_isEnd_32 : decode cX6_isEnd 32 = .ok (.iload 5, 2) := by decide +kernel
theorem dX6_isEnd_34 : decode cX6_isEnd 34 = .ok (.invokestatic 64, 3) := by decide +kernel
theorem dX6_isEnd_37 : decode cX6_isEnd 37 = .ok (.iconst 2, 1) := by decide +kernel
theorem dX6_isEnd_38 : decode cX6_isEnd 38 = .ok (.if_icmp .ne 25, 3) := by decide +kernel
theorem dX6_isEnd_41 : decode cX6_isEnd 41 = .ok (.iload_n 3, 1) := by decide +kernel
theorem dX6_isEnd_42 : decode cX6_isEnd 42 = .ok (.iload 5, 2) := by decide +kernel
theorem dX6_isEnd_44 : decode cX6_isEnd 44 = .ok (.ishr, 1) := by decide +kernel
theorem dX6_isEnd_45 : decode cX6_isEnd 45 = .ok (.iconst 1, 1) := by decide +kernel
theorem dX6_isEnd_46 : decode cX6_isEnd 46 = .ok (.iand, 1) := by decide +kernel
theorem dX6_isEnd_47 : decode cX6_isEnd 47 = .ok (.ifCond .eq 12, 3) := by decide +kernel
theorem dX6_isEnd_50 : decode cX6_isEnd 50 = .ok (.iload_n 1, 1) := by decide +kernel
theorem dX6_isEnd_51 : decode cX6_isEnd 51 = .ok (.iload 5, 2) := by decide +kernel
theorem dX6_isEnd_53 : decode cX6_isEnd 53 = .ok (.invokestatic 64, 3) := by decide +kernel
theorem dX6_isEnd_56 : decode cX6_isEnd 56 = .ok (.ifCond .ne 7, 3) := by decide +kernel
theorem dX6_isEnd_59 : decode cX6_isEnd 59 = .ok (.iconst 1, 1) := by decide +kernel
theorem dX6_isEnd_60 : decode cX6_isEnd 60 = .ok (.goto 4, 3) := by decide +kernel
theorem dX6_isEnd_63 : decode cX6_isEnd 63 = .ok (.iconst 0, 1) := by decide +kernel
theorem dX6_isEnd_64 : decode cX6_isEnd 64 = .ok (.istore 4, 2) := by decide +kernel
theorem dX6_isEnd_66 : decode cX6_isEnd 66 = .ok (.iinc 5 1, 3) := by decide +kernel
theorem dX6_isEnd_69 : decode cX6_isEnd 69 = .ok (.goto (-63), 3) := by decide +kernel
theorem dX6_isEnd_72 : decode cX6_isEnd 72 = .ok (.iload 4, 2) := by decide +kernel
theorem dX6_isEnd_74 : decode cX6_isEnd 74 = .ok (.ireturn, 1) := by decide +kernel
theorem dX6_reckons_0 : decode cX6_reckons 0 = .ok (.iconst 0, 1) := by decide +kernel
theorem dX6_reckons_1 : decode cX6_reckons 1 = .ok (.istore 4, 2) := by decide +kernel
theorem dX6_reckons_3 : decode cX6_reckons 3 = .ok (.iload 4, 2) := by decide +kernel
theorem dX6_reckons_5 : decode cX6_reckons 5 = .ok (.aload_n 0, 1) := by decide +kernel
theorem dX6_reckons_6 : decode cX6_reckons 6 = .ok (.invokevirtual 183, 3) := by decide +kernel
theorem dX6_reckons_9 : decode cX6_reckons 9 = .ok (.if_icmp .ge 50, 3) := by decide +kernel
theorem dX6_reckons_12 : decode cX6_reckons 12 = .ok (.aload_n 0, 1) := by decide +kernel
theorem dX6_reckons_13 : decode cX6_reckons 13 = .ok (.getfield 35, 3) := by decide +kernel
theorem dX6_reckons_16 : decode cX6_reckons 16 = .ok (.iload 4, 2) := by decide +kernel
theorem dX6_reckons_18 : decode cX6_reckons 18 = .ok (.iload_n 3, 1) := by decide +kernel
theorem dX6_reckons_19 : decode cX6_reckons 19 = .ok (.ifCond .eq 17, 3) := by decide +kernel
theorem dX6_reckons_22 : decode cX6_reckons 22 = .ok (.aload_n 0, 1) := by decide +kernel
theorem dX6_reckons_23 : decode cX6_reckons 23 = .ok (.iload 4, 2) := by decide +kernel
theorem dX6_reckons_25 : decode cX6_reckons 25 = .ok (.invokevirtual 189, 3) := by decide +kernel
theorem dX6_reckons_28 : decode cX6_reckons 28 = .ok (.ifCond .eq 8, 3) := by decide +kernel
theorem dX6_reckons_31 : decode cX6_reckons 31 = .ok (.bipush (-2), 2) := by decide +kernel
theorem dX6_reckons_33 : decode cX6_reckons 33 = .ok (.goto 19, 3) := by decide +kernel
theorem dX6_reckons_36 : decode cX6_reckons 36 = .ok (.aload_n 0, 1) := by decide +kernel
theorem dX6_reckons_37 : decode cX6_reckons 37 = .ok (.iload 4, 2) := by decide +kernel
theorem dX6_reckons_39 : decode cX6_reckons 39 = .ok (.iload_n 1, 1) := by decide +kernel
theorem dX6_reckons_40 : decode cX6_reckons 40 = .ok (.iload_n 2, 1) := by decide +kernel
theorem dX6_reckons_41 : decode cX6_reckons 41 = .ok (.invokevirtual 192, 3) := by decide +kernel
theorem dX6_reckons_44 : decode cX6_reckons 44 = .ok (.ifCond .eq 7, 3) := by decide +kernel
theorem dX6_reckons_47 : decode cX6_reckons 47 = .ok (.iconst 0, 1) := by decide +kernel
theorem dX6_reckons_48 : decode cX6_reckons 48 = .ok (.goto 4, 3) := by decide +kernel
theorem dX6_reckons_51 : decode cX6_reckons 51 = .ok (.iconst (-1), 1) := by decide +kernel
theorem dX6_reckons_52 : decode cX6_reckons 52 = .ok (.iastore, 1) := by decide +kernel
theorem dX6_reckons_53 : decode cX6_reckons 53 = .ok (.iinc 4 1, 3) := by decide +kernel
theorem dX6_reckons_56 : decode cX6_reckons 56 = .ok (.goto (-53), 3) := by decide +kernel
theorem dX6_reckons_59 : decode cX6_reckons 59 = .ok (.iconst 1, 1) := by decide +kernel
theorem dX6_reckons_60 : decode cX6_reckons 60 = .ok (.istore 4, 2) := by decide +kernel
theorem dX6_reckons_62 : decode cX6_reckons 62 = .ok (.iconst 0, 1) := by decide +kernel
theorem dX6_reckons_63 : decode cX6_reckons 63 = .ok (.istore 5, 2) := by decide +kernel
theorem dX6_reckons_65 : decode cX6_reckons 65 = .ok (.iload 4, 2) := by decide +kernel
theorem dX6_reckons_67 : decode cX6_reckons 67 = .ok (.ifCond .eq 98, 3) := by decide +kernel
theorem dX6_reckons_70 : decode cX6_reckons 70 = .ok (.iconst 0, 1) := by decide +kernel
theorem dX6_reckons_71 : decode cX6_reckons 71 = .ok (.istore 4, 2) := by decide +kernel
theorem dX6_reckons_73 : decode cX6_reckons 73 = .ok (.iconst 0, 1) := by decide +kernel
theorem dX6_reckons_74 : decode cX6_reckons 74 = .ok (.istore 6, 2) := by decide +kernel
theorem dX6_reckons_76 : decode cX6_reckons 76 = .ok (.iload 6, 2) := by decide +kernel
theorem dX6_reckons_78 : decode cX6_reckons 78 = .ok (.aload_n 0, 1) := by decide +kernel
theorem dX6_reckons_79 : decode cX6_reckons 79 = .ok (.invokevirtual 183, 3) := by decide +kernel
theorem dX6_reckons_82 : decode cX6_reckons 82 = .ok (.if_icmp .ge 77, 3) := by decide +kernel
theorem dX6_reckons_85 : decode cX6_reckons 85 = .ok (.iconst 0, 1) := by decide +kernel
theorem dX6_reckons_86 : decode cX6_reckons 86 = .ok (.istore 7, 2) := by decide +kernel
theorem dX6_reckons_88 : decode cX6_reckons 88 = .ok (.iload 7, 2) := by decide +kernel
theorem dX6_reckons_90 : decode cX6_reckons 90 = .ok (.aload_n 0, 1) := by decide +kernel
theorem dX6_reckons_91 : decode cX6_reckons 91 = .ok (.getfield 7, 3) := by decide +kernel
theorem dX6_reckons_94 : decode cX6_reckons 94 = .ok (.iconst 0, 1) := by decide +kernel
theorem dX6_reckons_95 : decode cX6_reckons 95 = .ok (.iaload, 1) := by decide +kernel
theorem dX6_reckons_96 : decode cX6_reckons 96 = .ok (.if_icmp .ge 57, 3) := by decide +kernel
theorem dX6_reckons_99 : decode cX6_reckons 99 = .ok (.aload_n 0, 1) := by decide +kernel
theorem dX6_reckons_100 : decode cX6_reckons 100 = .ok (.getfield 35, 3) := by decide +kernel
theorem dX6_reckons_103 : decode cX6_reckons 103 = .ok (.iload 6, 2) := by decide +kernel
theorem dX6_reckons_105 : decode cX6_reckons 105 = .ok (.iaload, 1) := by decide +kernel
theorem dX6_reckons_106 : decode cX6_reckons 106 = .ok (.iconst (-1), 1) := by decide +kernel
theorem dX6_reckons_107 : decode cX6_reckons 107 = .ok (.if_icmp .ne 46, 3) := by decide +kernel
theorem dX6_reckons_110 : decode cX6_reckons 110 = .ok (.aload_n 0, 1) := by decide +kernel
theorem dX6_reckons_111 : decode cX6_reckons 111 = .ok (.getfield 35, 3) := by decide +kernel
theorem dX6_reckons_114 : decode cX6_reckons 114 = .ok (.aload_n 0, 1) := by decide +kernel
theorem dX6_reckons_115 : decode cX6_reckons 115 = .ok (.getfield 32, 3) := by decide +kernel
theorem dX6_reckons_118 : decode cX6_reckons 118 = .ok (.bipush 7, 2) := by decide +kernel
theorem dX6_reckons_120 : decode cX6_reckons 120 = .ok (.iload 6, 2) := by decide +kernel
theorem dX6_reckons_122 : decode cX6_reckons 122 = .ok (.imul, 1) := by decide +kernel
theorem dX6_reckons_123 : decode cX6_reckons 123 = .ok (.iload 7, 2) := by decide +kernel
theorem dX6_reckons_125 : decode cX6_reckons 125 = .ok (.iadd, 1) := by decide +kernel
theorem dX6_reckons_126 : decode cX6_reckons 126 = .ok (.iaload, 1) := by decide +kernel
theorem dX6_reckons_127 : decode cX6_reckons 127 = .ok (.iaload, 1) := by decide +kernel
theorem dX6_reckons_128 : decode cX6_reckons 128 = .ok (.iload 5, 2) := by decide +kernel
theorem dX6_reckons_130 : decode cX6_reckons 130 = .ok (.if_icmp .ne 17, 3) := by decide +kernel
theorem dX6_reckons_133 : decode cX6_reckons 133 = .ok (.aload_n 0, 1) := by decide +kernel
theorem dX6_reckons_134 : decode cX6_reckons 134 = .ok (.getfield 35, 3) := by decide +kernel
theorem dX6_reckons_137 : decode cX6_reckons 137 = .ok (.iload 6, 2) := by decide +kernel
theorem dX6_reckons_139 : decode cX6_reckons 139 = .ok (.iload 5, 2) := by decide +kernel
theorem dX6_reckons_141 : decode cX6_reckons 141 = .ok (.iconst 1, 1) := by decide +kernel
theorem dX6_reckons_142 : decode cX6_reckons 142 = .ok (.iadd, 1) := by decide +kernel
theorem dX6_reckons_143 : decode cX6_reckons 143 = .ok (.iastore, 1) := by decide +kernel
theorem dX6_reckons_144 : decode cX6_reckons 144 = .ok (.iconst 1, 1) := by decide +kernel
theorem dX6_reckons_145 : decode cX6_reckons 145 = .ok (.istore 4, 2) := by decide +kernel
theorem dX6_reckons_147 : decode cX6_reckons 147 = .ok (.iinc 7 1, 3) := by decide +kernel
theorem dX6_reckons_150 : decode cX6_reckons 150 = .ok (.goto (-62), 3) := by decide +kernel
theorem dX6_reckons_153 : decode cX6_reckons 153 = .ok (.iinc 6 1, 3) := by decide +kernel
theorem dX6_reckons_156 : decode cX6_reckons 156 = .ok (.goto (-80), 3) := by decide +kernel
theorem dX6_reckons_159 : decode cX6_reckons 159 = .ok (.iinc 5 1, 3) := by decide +kernel
theorem dX6_reckons_162 : decode cX6_reckons 162 = .ok (.goto (-97), 3) := by decide +kernel
theorem dX6_reckons_165 : decode cX6_reckons 165 = .ok (.return_, 1) := by decide +kernel
theorem dX6_next_0 : decode cX6_next 0 = .ok (.iconst 0, 1) := by decide +kernel
theorem dX6_next_1 : decode cX6_next 1 = .ok (.istore_n 2, 1) := by decide +kernel
theorem dX6_next_2 : decode cX6_next 2 = .ok (.aload_n 0, 1) := by decide +kernel
theorem dX6_next_3 : decode cX6_next 3 = .ok (.getfield 35, 3) := by decide +kernel
theorem dX6_next_6 : decode cX6_next 6 = .ok (.aload_n 0, 1) := by decide +kernel
theorem dX6_next_7 : decode cX6_next 7 = .ok (.getfield 32, 3) := by decide +kernel
theorem dX6_next_10 : decode cX6_next 10 = .ok (.bipush 7, 2) := by decide +kernel
theorem dX6_next_12 : decode cX6_next 12 = .ok (.iload_n 1, 1) := by decide +kernel
theorem dX6_next_13 : decode cX6_next 13 = .ok (.imul, 1) := by decide +kernel
theorem dX6_next_14 : decode cX6_next 14 = .ok (.iload_n 2, 1) := by decide +kernel
theorem dX6_next_15 : decode cX6_next 15 = .ok (.iadd, 1) := by decide +kernel
theorem dX6_next_16 : decode cX6_next 16 = .ok (.iaload, 1) := by decide +kernel
theorem dX6_next_17 : decode cX6_next 17 = .ok (.iaload, 1) := by decide +kernel
theorem dX6_next_18 : decode cX6_next 18 = .ok (.aload_n 0, 1) := by decide +kernel
theorem dX6_next_19 : decode cX6_next 19 = .ok (.getfield 35, 3) := by decide +kernel
theorem dX6_next_22 : decode cX6_next 22 = .ok (.iload_n 1, 1) := by decide +kernel
theorem dX6_next_23 : decode cX6_next 23 = .ok (.iaload, 1) := by decide +kernel
theorem dX6_next_24 : decode cX6_next 24 = .ok (.iconst 1, 1) := by decide +kernel
theorem dX6_next_25 : decode cX6_next 25 = .ok (.isub, 1) := by decide +kernel
theorem dX6_next_26 : decode cX6_next 26 = .ok (.if_icmp .eq 9, 3) := by decide +kernel
theorem dX6_next_29 : decode cX6_next 29 = .ok (.iinc 2 1, 3) := by decide +kernel
theorem dX6_next_32 : decode cX6_next 32 = .ok (.goto (-30), 3) := by decide +kernel
theorem dX6_next_35 : decode cX6_next 35 = .ok (.iload_n 2, 1) := by decide +kernel
theorem dX6_next_36 : decode cX6_next 36 = .ok (.ireturn, 1) := by decide +kernel
theorem dX6_rows_0 : decode cX6_rows 0 = .ok (.iconst 1, 1) := by decide +kernel
theorem dX6_rows_1 : decode cX6_rows 1 = .ok (.aload_n 0, 1) := by decide +kernel
theorem dX6_rows_2 : decode cX6_rows 2 = .ok (.getfield 7, 3) := by decide +kernel
theorem dX6_rows_5 : decode cX6_rows 5 = .ok (.iconst 0, 1) := by decide +kernel
theorem dX6_rows_6 : decode cX6_rows 6 = .ok (.iaload, 1) := by decide +kernel
theorem dX6_rows_7 : decode cX6_rows 7 = .ok (.ishl, 1) := by decide +kernel
theorem dX6_rows_8 : decode cX6_rows 8 = .ok (.iconst 1, 1) := by decide +kernel
theorem dX6_rows_9 : decode cX6_rows 9 = .ok (.isub, 1) := by decide +kernel
theorem dX6_rows_10 : decode cX6_rows 10 = .ok (.istore 5, 2) := by decide +kernel
theorem dX6_rows_12 : decode cX6_rows 12 = .ok (.iload_n 1, 1) := by decide +kernel
theorem dX6_rows_13 : decode cX6_rows 13 = .ok (.i2l, 1) := by decide +kernel
theorem dX6_rows_14 : decode cX6_rows 14 = .ok (.lconst 0, 1) := by decide +kernel
theorem dX6_rows_15 : decode cX6_rows 15 = .ok (.iload 5, 2) := by decide +kernel
theorem dX6_rows_17 : decode cX6_rows 17 = .ok (.i2l, 1) := by decide +kernel
theorem dX6_rows_18 : decode cX6_rows 18 = .ok (.invokestatic 56, 3) := by decide +kernel
theorem dX6_rows_21 : decode cX6_rows 21 = .ok (.ifCond .eq 26, 3) := by decide +kernel
theorem dX6_rows_24 : decode cX6_rows 24 = .ok (.iload_n 2, 1) := by decide +kernel
theorem dX6_rows_25 : decode cX6_rows 25 = .ok (.i2l, 1) := by decide +kernel
theorem dX6_rows_26 : decode cX6_rows 26 = .ok (.lconst 0, 1) := by decide +kernel
theorem dX6_rows_27 : decode cX6_rows 27 = .ok (.iload 5, 2) := by decide +kernel
theorem dX6_rows_29 : decode cX6_rows 29 = .ok (.i2l, 1) := by decide +kernel
theorem dX6_rows_30 : decode cX6_rows 30 = .ok (.invokestatic 56, 3) := by decide +kernel
theorem dX6_rows_33 : decode cX6_rows 33 = .ok (.ifCond .eq 14, 3) := by decide +kernel
theorem dX6_rows_36 : decode cX6_rows 36 = .ok (.iload_n 1, 1) := by decide +kernel
theorem dX6_rows_37 : decode cX6_rows 37 = .ok (.iload_n 2, 1) := by decide +kernel
theorem dX6_rows_38 : decode cX6_rows 38 = .ok (.iand, 1) := by decide +kernel
theorem dX6_rows_39 : decode cX6_rows 39 = .ok (.ifCond .ne 8, 3) := by decide +kernel
theorem dX6_rows_42 : decode cX6_rows 42 = .ok (.iload_n 3, 1) := by decide +kernel
theorem dX6_rows_43 : decode cX6_rows 43 = .ok (.iconst (-1), 1) := by decide +kernel
theorem dX6_rows_44 : decode cX6_rows 44 = .ok (.if_icmp .ge 11, 3) := by decide +kernel
theorem dX6_rows_47 : decode cX6_rows 47 = .ok (.aload_n 0, 1) := by decide +kernel
theorem dX6_rows_48 : decode cX6_rows 48 = .ok (.iconst 0, 1) := by decide +kernel
theorem dX6_rows_49 : decode cX6_rows 49 = .ok (.bipush (-10), 2) := by decide +kernel
theorem dX6_rows_51 : decode cX6_rows 51 = .ok (.invokevirtual 52, 3) := by decide +kernel
theorem dX6_rows_54 : decode cX6_rows 54 = .ok (.ireturn, 1) := by decide +kernel
theorem dX6_rows_55 : decode cX6_rows 55 = .ok (.aload_n 0, 1) := by decide +kernel
theorem dX6_rows_56 : decode cX6_rows 56 = .ok (.invokevirtual 196, 3) := by decide +kernel
theorem dX6_rows_59 : decode cX6_rows 59 = .ok (.aload_n 0, 1) := by decide +kernel
theorem dX6_rows_60 : decode cX6_rows 60 = .ok (.iload_n 1, 1) := by decide +kernel
theorem dX6_rows_61 : decode cX6_rows 61 = .ok (.iload_n 2, 1) := by decide +kernel
theorem dX6_rows_62 : decode cX6_rows 62 = .ok (.iload 4, 2) := by decide +kernel
theorem dX6_rows_64 : decode cX6_rows 64 = .ok (.invokevirtual 199, 3) := by decide +kernel
theorem dX6_rows_67 : decode cX6_rows 67 = .ok (.aload_n 0, 1) := by decide +kernel
theorem dX6_rows_68 : decode cX6_rows 68 = .ok (.getfield 7, 3) := by decide +kernel
theorem dX6_rows_71 : decode cX6_rows 71 = .ok (.bipush 7, 2) := by decide +kernel
theorem dX6_rows_73 : decode cX6_rows 73 = .ok (.iaload, 1) := by decide +kernel
theorem dX6_rows_74 : decode cX6_rows 74 = .ok (.istore 6, 2) := by decide +kernel
theorem dX6_rows_76 : decode cX6_rows 76 = .ok (.aload_n 0, 1) := by decide +kernel
theorem dX6_rows_77 : decode cX6_rows 77 = .ok (.getfield 35, 3) := by decide +kernel
theorem dX6_rows_80 : decode cX6_rows 80 = .ok (.iload 6, 2) := by decide +kernel
theorem dX6_rows_82 : decode cX6_rows 82 = .ok (.iaload, 1) := by decide +kernel
theorem dX6_rows_83 : decode cX6_rows 83 = .ok (.istore 7, 2) := by decide +kernel
theorem dX6_rows_85 : decode cX6_rows 85 = .ok (.iload 7, 2) := by decide +kernel
theorem dX6_rows_87 : decode cX6_rows 87 = .ok (.ifCond .ge 5, 3) := by decide +kernel
theorem dX6_rows_90 : decode cX6_rows 90 = .ok (.iconst (-1), 1) := by decide +kernel
theorem dX6_rows_91 : decode cX6_rows 91 = .ok (.ireturn, 1) := by decide +kernel
theorem dX6_rows_92 : decode cX6_rows 92 = .ok (.iload_n 3, 1) := by decide +kernel
theorem dX6_rows_93 : decode cX6_rows 93 = .ok (.iconst (-1), 1) := by decide +kernel
theorem dX6_rows_94 : decode cX6_rows 94 = .ok (.if_icmp .eq 9, 3) := by decide +kernel
theorem dX6_rows_97 : decode cX6_rows 97 = .ok (.iload_n 3, 1) := by decide +kernel
theorem dX6_rows_98 : decode cX6_rows 98 = .ok (.iload 7, 2) := by decide +kernel
theorem dX6_rows_100 : decode cX6_rows 100 = .ok (.if_icmp .lt 16, 3) := by decide +kernel
theorem dX6_rows_103 : decode cX6_rows 103 = .ok (.iload_n 3, 1) := by decide +kernel
theorem dX6_rows_104 : decode cX6_rows 104 = .ok (.iconst (-1), 1) := by decide +kernel
theorem dX6_rows_105 : decode cX6_rows 105 = .ok (.if_icmp .ne 8, 3) := by decide +kernel
theorem dX6_rows_108 : decode cX6_rows 108 = .ok (.iload 7, 2) := by decide +kernel
theorem dX6_rows_110 : decode cX6_rows 110 = .ok (.goto 5, 3) := by decide +kernel
theorem dX6_rows_113 : decode cX6_rows 113 = .ok (.bipush (-5), 2) := by decide +kernel
theorem dX6_rows_115 : decode cX6_rows 115 = .ok (.ireturn, 1) := by decide +kernel
theorem dX6_rows_116 : decode cX6_rows 116 = .ok (.iconst 0, 1) := by decide +kernel
theorem dX6_rows_117 : decode cX6_rows 117 = .ok (.istore 8, 2) := by decide +kernel
theorem dX6_rows_119 : decode cX6_rows 119 = .ok (.iload 8, 2) := by decide +kernel
theorem dX6_rows_121 : decode cX6_rows 121 = .ok (.iload_n 3, 1) := by decide +kernel
theorem dX6_rows_122 : decode cX6_rows 122 = .ok (.if_icmp .ge 28, 3) := by decide +kernel
theorem dX6_rows_125 : decode cX6_rows 125 = .ok (.aload_n 0, 1) := by decide +kernel
theorem dX6_rows_126 : decode cX6_rows 126 = .ok (.getfield 32, 3) := by decide +kernel
theorem dX6_rows_129 : decode cX6_rows 129 = .ok (.bipush 7, 2) := by decide +kernel
theorem dX6_rows_131 : decode cX6_rows 131 = .ok (.iload 6, 2) := by decide +kernel
theorem dX6_rows_133 : decode cX6_rows 133 = .ok (.imul, 1) := by decide +kernel
theorem dX6_rows_134 : decode cX6_rows 134 = .ok (.aload_n 0, 1) := by decide +kernel
theorem dX6_rows_135 : decode cX6_rows 135 = .ok (.iload 6, 2) := by decide +kernel
theorem dX6_rows_137 : decode cX6_rows 137 = .ok (.invokevirtual 203, 3) := by decide +kernel
theorem dX6_rows_140 : decode cX6_rows 140 = .ok (.iadd, 1) := by decide +kernel
theorem dX6_rows_141 : decode cX6_rows 141 = .ok (.iaload, 1) := by decide +kernel
theorem dX6_rows_142 : decode cX6_rows 142 = .ok (.istore 6, 2) := by decide +kernel
theorem dX6_rows_144 : decode cX6_rows 144 = .ok (.iinc 8 1, 3) := by decide +kernel
theorem dX6_rows_147 : decode cX6_rows 147 = .ok (.goto (-28), 3) := by decide +kernel
theorem dX6_rows_150 : decode cX6_rows 150 = .ok (.aload_n 0, 1) := by decide +kernel
theorem dX6_rows_151 : decode cX6_rows 151 = .ok (.iload 6, 2) := by decide +kernel
theorem dX6_rows_153 : decode cX6_rows 153 = .ok (.invokevirtual 203, 3) := by decide +kernel
theorem dX6_rows_156 : decode cX6_rows 156 = .ok (.ireturn, 1) := by decide +kernel
theorem dX6_pulls_0 : decode cX6_pulls 0 = .ok (.aload_n 0, 1) := by decide +kernel
theorem dX6_pulls_1 : decode cX6_pulls 1 = .ok (.iload_n 1, 1) := by decide +kernel
theorem dX6_pulls_2 : decode cX6_pulls 2 = .ok (.iload_n 2, 1) := by decide +kernel
theorem dX6_pulls_3 : decode cX6_pulls 3 = .ok (.iload_n 3, 1) := by decide +kernel
theorem dX6_pulls_4 : decode cX6_pulls 4 = .ok (.iconst 0, 1) := by decide +kernel
theorem dX6_pulls_5 : decode cX6_pulls 5 = .ok (.invokevirtual 206, 3) := by decide +kernel
theorem dX6_pulls_8 : decode cX6_pulls 8 = .ok (.ireturn, 1) := by decide +kernel
theorem dX6_safe_0 : decode cX6_safe 0 = .ok (.aload_n 0, 1) := by decide +kernel
theorem dX6_safe_1 : decode cX6_safe 1 = .ok (.iload_n 1, 1) := by decide +kernel
theorem dX6_safe_2 : decode cX6_safe 2 = .ok (.iload_n 2, 1) := by decide +kernel
theorem dX6_safe_3 : decode cX6_safe 3 = .ok (.iload_n 3, 1) := by decide +kernel
theorem dX6_safe_4 : decode cX6_safe 4 = .ok (.iconst 1, 1) := by decide +kernel
theorem dX6_safe_5 : decode cX6_safe 5 = .ok (.invokevirtual 206, 3) := by decide +kernel
theorem dX6_safe_8 : decode cX6_safe 8 = .ok (.ireturn, 1) := by decide +kernel
theorem dX6_goes_0 : decode cX6_goes 0 = .ok (.iconst 0, 1) := by decide +kernel
theorem dX6_goes_1 : decode cX6_goes 1 = .ok (.istore_n 2, 1) := by decide +kernel
theorem dX6_goes_2 : decode cX6_goes 2 = .ok (.iload_n 2, 1) := by decide +kernel
theorem dX6_goes_3 : decode cX6_goes 3 = .ok (.aload_n 0, 1) := by decide +kernel
theorem dX6_goes_4 : decode cX6_goes 4 = .ok (.invokevirtual 183, 3) := by decide +kernel
theorem dX6_goes_7 : decode cX6_goes 7 = .ok (.if_icmp .ge 31, 3) := by decide +kernel
theorem dX6_goes_10 : decode cX6_goes 10 = .ok (.aload_n 0, 1) := by decide +kernel
theorem dX6_goes_11 : decode cX6_goes 11 = .ok (.getfield 38, 3) := by decide +kernel
theorem dX6_goes_14 : decode cX6_goes 14 = .ok (.iload_n 2, 1) := by decide +kernel
theorem dX6_goes_15 : decode cX6_goes 15 = .ok (.iload_n 2, 1) := by decide +kernel
theorem dX6_goes_16 : decode cX6_goes 16 = .ok (.aload_n 0, 1) := by decide +kernel
theorem dX6_goes_17 : decode cX6_goes 17 = .ok (.getfield 7, 3) := by decide +kernel
theorem dX6_goes_20 : decode cX6_goes 20 = .ok (.bipush 7, 2) := by decide +kernel
theorem dX6_goes_22 : decode cX6_goes 22 = .ok (.iaload, 1) := by decide +kernel
theorem dX6_goes_23 : decode cX6_goes 23 = .ok (.if_icmp .ne 7, 3) := by decide +kernel
theorem dX6_goes_26 : decode cX6_goes 26 = .ok (.iconst 1, 1) := by decide +kernel
theorem dX6_goes_27 : decode cX6_goes 27 = .ok (.goto 4, 3) := by decide +kernel
theorem dX6_goes_30 : decode cX6_goes 30 = .ok (.iconst 0, 1) := by decide +kernel
theorem dX6_goes_31 : decode cX6_goes 31 = .ok (.bastore, 1) := by decide +kernel
theorem dX6_goes_32 : decode cX6_goes 32 = .ok (.iinc 2 1, 3) := by decide +kernel
theorem dX6_goes_35 : decode cX6_goes 35 = .ok (.goto (-33), 3) := by decide +kernel
theorem dX6_goes_38 : decode cX6_goes 38 = .ok (.aload_n 0, 1) := by decide +kernel
theorem dX6_goes_39 : decode cX6_goes 39 = .ok (.getfield 41, 3) := by decide +kernel
theorem dX6_goes_42 : decode cX6_goes 42 = .ok (.iconst 0, 1) := by decide +kernel
theorem dX6_goes_43 : decode cX6_goes 43 = .ok (.aload_n 0, 1) := by decide +kernel
theorem dX6_goes_44 : decode cX6_goes 44 = .ok (.getfield 7, 3) := by decide +kernel
theorem dX6_goes_47 : decode cX6_goes 47 = .ok (.bipush 7, 2) := by decide +kernel
theorem dX6_goes_49 : decode cX6_goes 49 = .ok (.iaload, 1) := by decide +kernel
theorem dX6_goes_50 : decode cX6_goes 50 = .ok (.iastore, 1) := by decide +kernel
theorem dX6_goes_51 : decode cX6_goes 51 = .ok (.aload_n 0, 1) := by decide +kernel
theorem dX6_goes_52 : decode cX6_goes 52 = .ok (.iconst 1, 1) := by decide +kernel
theorem dX6_goes_53 : decode cX6_goes 53 = .ok (.putfield 210, 3) := by decide +kernel
theorem dX6_goes_56 : decode cX6_goes 56 = .ok (.iconst 0, 1) := by decide +kernel
theorem dX6_goes_57 : decode cX6_goes 57 = .ok (.istore_n 2, 1) := by decide +kernel
theorem dX6_goes_58 : decode cX6_goes 58 = .ok (.iload_n 2, 1) := by decide +kernel
theorem dX6_goes_59 : decode cX6_goes 59 = .ok (.aload_n 0, 1) := by decide +kernel
theorem dX6_goes_60 : decode cX6_goes 60 = .ok (.getfield 210, 3) := by decide +kernel
theorem dX6_goes_63 : decode cX6_goes 63 = .ok (.if_icmp .ge 80, 3) := by decide +kernel
theorem dX6_goes_66 : decode cX6_goes 66 = .ok (.iconst 0, 1) := by decide +kernel
theorem dX6_goes_67 : decode cX6_goes 67 = .ok (.istore_n 3, 1) := by decide +kernel
theorem dX6_goes_68 : decode cX6_goes 68 = .ok (.iload_n 3, 1) := by decide +kernel
theorem dX6_goes_69 : decode cX6_goes 69 = .ok (.aload_n 0, 1) := by decide +kernel
theorem dX6_goes_70 : decode cX6_goes 70 = .ok (.getfield 7, 3) := by decide +kernel
theorem dX6_goes_73 : decode cX6_goes 73 = .ok (.iconst 0, 1) := by decide +kernel
theorem dX6_goes_74 : decode cX6_goes 74 = .ok (.iaload, 1) := by decide +kernel
theorem dX6_goes_75 : decode cX6_goes 75 = .ok (.if_icmp .ge 62, 3) := by decide +kernel
theorem dX6_goes_78 : decode cX6_goes 78 = .ok (.aload_n 0, 1) := by decide +kernel
theorem dX6_goes_79 : decode cX6_goes 79 = .ok (.aload_n 0, 1) := by decide +kernel
theorem dX6_goes_80 : decode cX6_goes 80 = .ok (.getfield 41, 3) := by decide +kernel
theorem dX6_goes_83 : decode cX6_goes 83 = .ok (.iload_n 2, 1) := by decide +kernel
theorem dX6_goes_84 : decode cX6_goes 84 = .ok (.iaload, 1) := by decide +kernel
theorem dX6_goes_85 : decode cX6_goes 85 = .ok (.iload_n 3, 1) := by decide +kernel
theorem dX6_goes_86 : decode cX6_goes 86 = .ok (.iload_n 1, 1) := by decide +kernel
theorem dX6_goes_87 : decode cX6_goes 87 = .ok (.invokevirtual 179, 3) := by decide +kernel
theorem dX6_goes_90 : decode cX6_goes 90 = .ok (.istore 4, 2) := by decide +kernel
theorem dX6_goes_92 : decode cX6_goes 92 = .ok (.aload_n 0, 1) := by decide +kernel
theorem dX6_goes_93 : decode cX6_goes 93 = .ok (.getfield 38, 3) := by decide +kernel
theorem dX6_goes_96 : decode cX6_goes 96 = .ok (.iload 4, 2) := by decide +kernel
theorem dX6_goes_98 : decode cX6_goes 98 = .ok (.baload, 1) := by decide +kernel
theorem dX6_goes_99 : decode cX6_goes 99 = .ok (.ifCond .ne 32, 3) := by decide +kernel
theorem dX6_goes_102 : decode cX6_goes 102 = .ok (.aload_n 0, 1) := by decide +kernel
theorem dX6_goes_103 : decode cX6_goes 103 = .ok (.getfield 38, 3) := by decide +kernel
theorem dX6_goes_106 : decode cX6_goes 106 = .ok (.iload 4, 2) := by decide +kernel
theorem dX6_goes_108 : decode cX6_goes 108 = .ok (.iconst 1, 1) := by decide +kernel
theorem dX6_goes_109 : decode cX6_goes 109 = .ok (.bastore, 1) := by decide +kernel
theorem dX6_goes_110 : decode cX6_goes 110 = .ok (.aload_n 0, 1) := by decide +kernel
theorem dX6_goes_111 : decode cX6_goes 111 = .ok (.getfield 41, 3) := by decide +kernel
theorem dX6_goes_114 : decode cX6_goes 114 = .ok (.aload_n 0, 1) := by decide +kernel
theorem dX6_goes_115 : decode cX6_goes 115 = .ok (.getfield 210, 3) := by decide +kernel
theorem dX6_goes_118 : decode cX6_goes 118 = .ok (.iload 4, 2) := by decide +kernel
theorem dX6_goes_120 : decode cX6_goes 120 = .ok (.iastore, 1) := by decide +kernel
theorem dX6_goes_121 : decode cX6_goes 121 = .ok (.aload_n 0, 1) := by decide +kernel
theorem dX6_goes_122 : decode cX6_goes 122 = .ok (.dup, 1) := by decide +kernel
theorem dX6_goes_123 : decode cX6_goes 123 = .ok (.getfield 210, 3) := by decide +kernel
theorem dX6_goes_126 : decode cX6_goes 126 = .ok (.iconst 1, 1) := by decide +kernel
theorem dX6_goes_127 : decode cX6_goes 127 = .ok (.iadd, 1) := by decide +kernel
theorem dX6_goes_128 : decode cX6_goes 128 = .ok (.putfield 210, 3) := by decide +kernel
theorem dX6_goes_131 : decode cX6_goes 131 = .ok (.iinc 3 1, 3) := by decide +kernel
theorem dX6_goes_134 : decode cX6_goes 134 = .ok (.goto (-66), 3) := by decide +kernel
theorem dX6_goes_137 : decode cX6_goes 137 = .ok (.iinc 2 1, 3) := by decide +kernel
theorem dX6_goes_140 : decode cX6_goes 140 = .ok (.goto (-82), 3) := by decide +kernel
theorem dX6_goes_143 : decode cX6_goes 143 = .ok (.return_, 1) := by decide +kernel
theorem dX6_reach_0 : decode cX6_reach 0 = .ok (.iload_n 1, 1) := by decide +kernel
theorem dX6_reach_1 : decode cX6_reach 1 = .ok (.i2l, 1) := by decide +kernel
theorem dX6_reach_2 : decode cX6_reach 2 = .ok (.lconst 0, 1) := by decide +kernel
theorem dX6_reach_3 : decode cX6_reach 3 = .ok (.ldc2_w 75, 3) := by decide +kernel
theorem dX6_reach_6 : decode cX6_reach 6 = .ok (.invokestatic 56, 3) := by decide +kernel
theorem dX6_reach_9 : decode cX6_reach 9 = .ok (.ifCond .ne 8, 3) := by decide +kernel
theorem dX6_reach_12 : decode cX6_reach 12 = .ok (.aload_n 0, 1) := by decide +kernel
theorem dX6_reach_13 : decode cX6_reach 13 = .ok (.invokevirtual 79, 3) := by decide +kernel
theorem dX6_reach_16 : decode cX6_reach 16 = .ok (.ireturn, 1) := by decide +kernel
theorem dX6_reach_17 : decode cX6_reach 17 = .ok (.aload_n 0, 1) := by decide +kernel
theorem dX6_reach_18 : decode cX6_reach 18 = .ok (.aload_n 0, 1) := by decide +kernel
theorem dX6_reach_19 : decode cX6_reach 19 = .ok (.invokevirtual 176, 3) := by decide +kernel
theorem dX6_reach_22 : decode cX6_reach 22 = .ok (.invokevirtual 213, 3) := by decide +kernel
theorem dX6_reach_25 : decode cX6_reach 25 = .ok (.iconst 0, 1) := by decide +kernel
theorem dX6_reach_26 : decode cX6_reach 26 = .ok (.istore_n 2, 1) := by decide +kernel
theorem dX6_reach_27 : decode cX6_reach 27 = .ok (.iconst (-1), 1) := by decide +kernel
theorem dX6_reach_28 : decode cX6_reach 28 = .ok (.istore_n 3, 1) := by decide +kernel
theorem dX6_reach_29 : decode cX6_reach 29 = .ok (.iconst 0, 1) := by decide +kernel
theorem dX6_reach_30 : decode cX6_reach 30 = .ok (.istore 4, 2) := by decide +kernel
theorem dX6_reach_32 : decode cX6_reach 32 = .ok (.iload 4, 2) := by decide +kernel
theorem dX6_reach_34 : decode cX6_reach 34 = .ok (.aload_n 0, 1) := by decide +kernel
theorem dX6_reach_35 : decode cX6_reach 35 = .ok (.getfield 210, 3) := by decide +kernel
theorem dX6_reach_38 : decode cX6_reach 38 = .ok (.if_icmp .ge 117, 3) := by decide +kernel
theorem dX6_reach_41 : decode cX6_reach 41 = .ok (.iconst 1, 1) := by decide +kernel
theorem dX6_reach_42 : decode cX6_reach 42 = .ok (.istore 5, 2) := by decide +kernel
theorem dX6_reach_44 : decode cX6_reach 44 = .ok (.iconst 0, 1) := by decide +kernel
theorem dX6_reach_45 : decode cX6_reach 45 = .ok (.istore 6, 2) := by decide +kernel
theorem dX6_reach_47 : decode cX6_reach 47 = .ok (.iload 6, 2) := by decide +kernel
theorem dX6_reach_49 : decode cX6_reach 49 = .ok (.aload_n 0, 1) := by decide +kernel
theorem dX6_reach_50 : decode cX6_reach 50 = .ok (.getfield 7, 3) := by decide +kernel
theorem dX6_reach_53 : decode cX6_reach 53 = .ok (.iconst 0, 1) := by decide +kernel
theorem dX6_reach_54 : decode cX6_reach 54 = .ok (.iaload, 1) := by decide +kernel
theorem dX6_reach_55 : decode cX6_reach 55 = .ok (.if_icmp .ge 48, 3) := by decide +kernel
theorem dX6_reach_58 : decode cX6_reach 58 = .ok (.iload 5, 2) := by decide +kernel
theorem dX6_reach_60 : decode cX6_reach 60 = .ok (.ifCond .eq 34, 3) := by decide +kernel
theorem dX6_reach_63 : decode cX6_reach 63 = .ok (.aload_n 0, 1) := by decide +kernel
theorem dX6_reach_64 : decode cX6_reach 64 = .ok (.aload_n 0, 1) := by decide +kernel
theorem dX6_reach_65 : decode cX6_reach 65 = .ok (.getfield 41, 3) := by decide +kernel
theorem dX6_reach_68 : decode cX6_reach 68 = .ok (.iload 4, 2) := by decide +kernel
theorem dX6_reach_70 : decode cX6_reach 70 = .ok (.iaload, 1) := by decide +kernel
theorem dX6_reach_71 : decode cX6_reach 71 = .ok (.iload 6, 2) := by decide +kernel
theorem dX6_reach_73 : decode cX6_reach 73 = .ok (.aload_n 0, 1) := by decide +kernel
theorem dX6_reach_74 : decode cX6_reach 74 = .ok (.invokevirtual 176, 3) := by decide +kernel
theorem dX6_reach_77 : decode cX6_reach 77 = .ok (.invokevirtual 179, 3) := by decide +kernel
theorem dX6_reach_80 : decode cX6_reach 80 = .ok (.aload_n 0, 1) := by decide +kernel
theorem dX6_reach_81 : decode cX6_reach 81 = .ok (.getfield 41, 3) := by decide +kernel
theorem dX6_reach_84 : decode cX6_reach 84 = .ok (.iload 4, 2) := by decide +kernel
theorem dX6_reach_86 : decode cX6_reach 86 = .ok (.iaload, 1) := by decide +kernel
theorem dX6_reach_87 : decode cX6_reach 87 = .ok (.if_icmp .ne 7, 3) := by decide +kernel
theorem dX6_reach_90 : decode cX6_reach 90 = .ok (.iconst 1, 1) := by decide +kernel
theorem dX6_reach_91 : decode cX6_reach 91 = .ok (.goto 4, 3) := by decide +kernel
theorem dX6_reach_94 : decode cX6_reach 94 = .ok (.iconst 0, 1) := by decide +kernel
theorem dX6_reach_95 : decode cX6_reach 95 = .ok (.istore 5, 2) := by decide +kernel
theorem dX6_reach_97 : decode cX6_reach 97 = .ok (.iinc 6 1, 3) := by decide +kernel
theorem dX6_reach_100 : decode cX6_reach 100 = .ok (.goto (-53), 3) := by decide +kernel
theorem dX6_reach_103 : decode cX6_reach 103 = .ok (.iload_n 2, 1) := by decide +kernel
theorem dX6_reach_104 : decode cX6_reach 104 = .ok (.iload 5, 2) := by decide +kernel
theorem dX6_reach_106 : decode cX6_reach 106 = .ok (.ifCond .eq 7, 3) := by decide +kernel
theorem dX6_reach_109 : decode cX6_reach 109 = .ok (.iconst 1, 1) := by decide +kernel
theorem dX6_reach_110 : decode cX6_reach 110 = .ok (.goto 4, 3) := by decide +kernel
theorem dX6_reach_113 : decode cX6_reach 113 = .ok (.iconst 0, 1) := by decide +kernel
theorem dX6_reach_114 : decode cX6_reach 114 = .ok (.iadd, 1) := by decide +kernel
theorem dX6_reach_115 : decode cX6_reach 115 = .ok (.istore_n 2, 1) := by decide +kernel
theorem dX6_reach_116 : decode cX6_reach 116 = .ok (.iload 5, 2) := by decide +kernel
theorem dX6_reach_118 : decode cX6_reach 118 = .ok (.ifCond .eq 29, 3) := by decide +kernel
theorem dX6_reach_121 : decode cX6_reach 121 = .ok (.iload_n 3, 1) := by decide +kernel
theorem dX6_reach_122 : decode cX6_reach 122 = .ok (.iconst (-1), 1) := by decide +kernel
theorem dX6_reach_123 : decode cX6_reach 123 = .ok (.if_icmp .eq 14, 3) := by decide +kernel
theorem dX6_reach_126 : decode cX6_reach 126 = .ok (.aload_n 0, 1) := by decide +kernel
theorem dX6_reach_127 : decode cX6_reach 127 = .ok (.getfield 41, 3) := by decide +kernel
theorem dX6_reach_130 : decode cX6_reach 130 = .ok (.iload 4, 2) := by decide +kernel
theorem dX6_reach_132 : decode cX6_reach 132 = .ok (.iaload, 1) := by decide +kernel
theorem dX6_reach_133 : decode cX6_reach 133 = .ok (.iload_n 3, 1) := by decide +kernel
theorem dX6_reach_134 : decode cX6_reach 134 = .ok (.if_icmp .ge 13, 3) := by decide +kernel
theorem dX6_reach_137 : decode cX6_reach 137 = .ok (.aload_n 0, 1) := by decide +kernel
theorem dX6_reach_138 : decode cX6_reach 138 = .ok (.getfield 41, 3) := by decide +kernel
theorem dX6_reach_141 : decode cX6_reach 141 = .ok (.iload 4, 2) := by decide +kernel
theorem dX6_reach_143 : decode cX6_reach 143 = .ok (.iaload, 1) := by decide +kernel
theorem dX6_reach_144 : decode cX6_reach 144 = .ok (.goto 4, 3) := by decide +kernel
theorem dX6_reach_147 : decode cX6_reach 147 = .ok (.iload_n 3, 1) := by decide +kernel
theorem dX6_reach_148 : decode cX6_reach 148 = .ok (.istore_n 3, 1) := by decide +kernel
theorem dX6_reach_149 : decode cX6_reach 149 = .ok (.iinc 4 1, 3) := by decide +kernel
theorem dX6_reach_152 : decode cX6_reach 152 = .ok (.goto (-120), 3) := by decide +kernel
theorem dX6_reach_155 : decode cX6_reach 155 = .ok (.iload_n 1, 1) := by decide +kernel
theorem dX6_reach_156 : decode cX6_reach 156 = .ok (.ifCond .ne 10, 3) := by decide +kernel
theorem dX6_reach_159 : decode cX6_reach 159 = .ok (.aload_n 0, 1) := by decide +kernel
theorem dX6_reach_160 : decode cX6_reach 160 = .ok (.getfield 210, 3) := by decide +kernel
theorem dX6_reach_163 : decode cX6_reach 163 = .ok (.goto 13, 3) := by decide +kernel
theorem dX6_reach_166 : decode cX6_reach 166 = .ok (.iload_n 1, 1) := by decide +kernel
theorem dX6_reach_167 : decode cX6_reach 167 = .ok (.iconst 1, 1) := by decide +kernel
theorem dX6_reach_168 : decode cX6_reach 168 = .ok (.if_icmp .ne 7, 3) := by decide +kernel
theorem dX6_reach_171 : decode cX6_reach 171 = .ok (.iload_n 2, 1) := by decide +kernel
theorem dX6_reach_172 : decode cX6_reach 172 = .ok (.goto 4, 3) := by decide +kernel
theorem dX6_reach_175 : decode cX6_reach 175 = .ok (.iload_n 3, 1) := by decide +kernel
theorem dX6_reach_176 : decode cX6_reach 176 = .ok (.ireturn, 1) := by decide +kernel
theorem dX6_sumBy_0 : decode cX6_sumBy 0 = .ok (.iconst 0, 1) := by decide +kernel
theorem dX6_sumBy_1 : decode cX6_sumBy 1 = .ok (.istore_n 3, 1) := by decide +kernel
theorem dX6_sumBy_2 : decode cX6_sumBy 2 = .ok (.iconst 0, 1) := by decide +kernel
theorem dX6_sumBy_3 : decode cX6_sumBy 3 = .ok (.istore 4, 2) := by decide +kernel
theorem dX6_sumBy_5 : decode cX6_sumBy 5 = .ok (.iload 4, 2) := by decide +kernel
theorem dX6_sumBy_7 : decode cX6_sumBy 7 = .ok (.aload_n 0, 1) := by decide +kernel
theorem dX6_sumBy_8 : decode cX6_sumBy 8 = .ok (.getfield 7, 3) := by decide +kernel
theorem dX6_sumBy_11 : decode cX6_sumBy 11 = .ok (.iconst 0, 1) := by decide +kernel
theorem dX6_sumBy_12 : decode cX6_sumBy 12 = .ok (.iaload, 1) := by decide +kernel
theorem dX6_sumBy_13 : decode cX6_sumBy 13 = .ok (.if_icmp .ge 25, 3) := by decide +kernel
theorem dX6_sumBy_16 : decode cX6_sumBy 16 = .ok (.iload_n 3, 1) := by decide +kernel
theorem dX6_sumBy_17 : decode cX6_sumBy 17 = .ok (.iload_n 1, 1) := by decide +kernel
theorem dX6_sumBy_18 : decode cX6_sumBy 18 = .ok (.iload 4, 2) := by decide +kernel
theorem dX6_sumBy_20 : decode cX6_sumBy 20 = .ok (.invokestatic 64, 3) := by decide +kernel
theorem dX6_sumBy_23 : decode cX6_sumBy 23 = .ok (.iload_n 2, 1) := by decide +kernel
theorem dX6_sumBy_24 : decode cX6_sumBy 24 = .ok (.iload 4, 2) := by decide +kernel
theorem dX6_sumBy_26 : decode cX6_sumBy 26 = .ok (.invokestatic 64, 3) := by decide +kernel
theorem dX6_sumBy_29 : decode cX6_sumBy 29 = .ok (.imul, 1) := by decide +kernel
theorem dX6_sumBy_30 : decode cX6_sumBy 30 = .ok (.iadd, 1) := by decide +kernel
theorem dX6_sumBy_31 : decode cX6_sumBy 31 = .ok (.istore_n 3, 1) := by decide +kernel
theorem dX6_sumBy_32 : decode cX6_sumBy 32 = .ok (.iinc 4 1, 3) := by decide +kernel
theorem dX6_sumBy_35 : decode cX6_sumBy 35 = .ok (.goto (-30), 3) := by decide +kernel
theorem dX6_sumBy_38 : decode cX6_sumBy 38 = .ok (.iload_n 3, 1) := by decide +kernel
theorem dX6_sumBy_39 : decode cX6_sumBy 39 = .ok (.iconst 3, 1) := by decide +kernel
theorem dX6_sumBy_40 : decode cX6_sumBy 40 = .ok (.irem, 1) := by decide +kernel
theorem dX6_sumBy_41 : decode cX6_sumBy 41 = .ok (.ireturn, 1) := by decide +kernel
theorem dX6_kept_0 : decode cX6_kept 0 = .ok (.aload_n 0, 1) := by decide +kernel
theorem dX6_kept_1 : decode cX6_kept 1 = .ok (.aload_n 0, 1) := by decide +kernel
theorem dX6_kept_2 : decode cX6_kept 2 = .ok (.invokevirtual 176, 3) := by decide +kernel
theorem dX6_kept_5 : decode cX6_kept 5 = .ok (.invokevirtual 213, 3) := by decide +kernel
theorem dX6_kept_8 : decode cX6_kept 8 = .ok (.iconst 1, 1) := by decide +kernel
theorem dX6_kept_9 : decode cX6_kept 9 = .ok (.istore_n 1, 1) := by decide +kernel
theorem dX6_kept_10 : decode cX6_kept 10 = .ok (.iload_n 1, 1) := by decide +kernel
theorem dX6_kept_11 : decode cX6_kept 11 = .ok (.aload_n 0, 1) := by decide +kernel
theorem dX6_kept_12 : decode cX6_kept 12 = .ok (.invokevirtual 183, 3) := by decide +kernel
theorem dX6_kept_15 : decode cX6_kept 15 = .ok (.if_icmp .ge 68, 3) := by decide +kernel
theorem dX6_kept_18 : decode cX6_kept 18 = .ok (.iconst 1, 1) := by decide +kernel
theorem dX6_kept_19 : decode cX6_kept 19 = .ok (.istore_n 2, 1) := by decide +kernel
theorem dX6_kept_20 : decode cX6_kept 20 = .ok (.iconst 1, 1) := by decide +kernel
theorem dX6_kept_21 : decode cX6_kept 21 = .ok (.istore_n 3, 1) := by decide +kernel
theorem dX6_kept_22 : decode cX6_kept 22 = .ok (.iload_n 3, 1) := by decide +kernel
theorem dX6_kept_23 : decode cX6_kept 23 = .ok (.aload_n 0, 1) := by decide +kernel
theorem dX6_kept_24 : decode cX6_kept 24 = .ok (.getfield 210, 3) := by decide +kernel
theorem dX6_kept_27 : decode cX6_kept 27 = .ok (.if_icmp .ge 44, 3) := by decide +kernel
theorem dX6_kept_30 : decode cX6_kept 30 = .ok (.iload_n 2, 1) := by decide +kernel
theorem dX6_kept_31 : decode cX6_kept 31 = .ok (.ifCond .eq 40, 3) := by decide +kernel
theorem dX6_kept_34 : decode cX6_kept 34 = .ok (.aload_n 0, 1) := by decide +kernel
theorem dX6_kept_35 : decode cX6_kept 35 = .ok (.iload_n 1, 1) := by decide +kernel
theorem dX6_kept_36 : decode cX6_kept 36 = .ok (.aload_n 0, 1) := by decide +kernel
theorem dX6_kept_37 : decode cX6_kept 37 = .ok (.getfield 41, 3) := by decide +kernel
theorem dX6_kept_40 : decode cX6_kept 40 = .ok (.iload_n 3, 1) := by decide +kernel
theorem dX6_kept_41 : decode cX6_kept 41 = .ok (.iaload, 1) := by decide +kernel
theorem dX6_kept_42 : decode cX6_kept 42 = .ok (.invokevirtual 216, 3) := by decide +kernel
theorem dX6_kept_45 : decode cX6_kept 45 = .ok (.aload_n 0, 1) := by decide +kernel
theorem dX6_kept_46 : decode cX6_kept 46 = .ok (.iload_n 1, 1) := by decide +kernel
theorem dX6_kept_47 : decode cX6_kept 47 = .ok (.aload_n 0, 1) := by decide +kernel
theorem dX6_kept_48 : decode cX6_kept 48 = .ok (.getfield 41, 3) := by decide +kernel
theorem dX6_kept_51 : decode cX6_kept 51 = .ok (.iconst 0, 1) := by decide +kernel
theorem dX6_kept_52 : decode cX6_kept 52 = .ok (.iaload, 1) := by decide +kernel
theorem dX6_kept_53 : decode cX6_kept 53 = .ok (.invokevirtual 216, 3) := by decide +kernel
theorem dX6_kept_56 : decode cX6_kept 56 = .ok (.if_icmp .ne 7, 3) := by decide +kernel
theorem dX6_kept_59 : decode cX6_kept 59 = .ok (.iconst 1, 1) := by decide +kernel
theorem dX6_kept_60 : decode cX6_kept 60 = .ok (.goto 4, 3) := by decide +kernel
theorem dX6_kept_63 : decode cX6_kept 63 = .ok (.iconst 0, 1) := by decide +kernel
theorem dX6_kept_64 : decode cX6_kept 64 = .ok (.istore_n 2, 1) := by decide +kernel
theorem dX6_kept_65 : decode cX6_kept 65 = .ok (.iinc 3 1, 3) := by decide +kernel
theorem dX6_kept_68 : decode cX6_kept 68 = .ok (.goto (-46), 3) := by decide +kernel
theorem dX6_kept_71 : decode cX6_kept 71 = .ok (.iload_n 2, 1) := by decide +kernel
theorem dX6_kept_72 : decode cX6_kept 72 = .ok (.ifCond .eq 5, 3) := by decide +kernel
theorem dX6_kept_75 : decode cX6_kept 75 = .ok (.iload_n 1, 1) := by decide +kernel
theorem dX6_kept_76 : decode cX6_kept 76 = .ok (.ireturn, 1) := by decide +kernel
theorem dX6_kept_77 : decode cX6_kept 77 = .ok (.iinc 1 1, 3) := by decide +kernel
theorem dX6_kept_80 : decode cX6_kept 80 = .ok (.goto (-70), 3) := by decide +kernel
theorem dX6_kept_83 : decode cX6_kept 83 = .ok (.iconst (-1), 1) := by decide +kernel
theorem dX6_kept_84 : decode cX6_kept 84 = .ok (.ireturn, 1) := by decide +kernel
theorem dX6_cut_0 : decode cX6_cut 0 = .ok (.aload_n 0, 1) := by decide +kernel
theorem dX6_cut_1 : decode cX6_cut 1 = .ok (.aload_n 0, 1) := by decide +kernel
theorem dX6_cut_2 : decode cX6_cut 2 = .ok (.invokevirtual 176, 3) := by decide +kernel
theorem dX6_cut_5 : decode cX6_cut 5 = .ok (.invokevirtual 213, 3) := by decide +kernel
theorem dX6_cut_8 : decode cX6_cut 8 = .ok (.aload_n 0, 1) := by decide +kernel
theorem dX6_cut_9 : decode cX6_cut 9 = .ok (.getfield 210, 3) := by decide +kernel
theorem dX6_cut_12 : decode cX6_cut 12 = .ok (.istore_n 1, 1) := by decide +kernel
theorem dX6_cut_13 : decode cX6_cut 13 = .ok (.iconst (-1), 1) := by decide +kernel
theorem dX6_cut_14 : decode cX6_cut 14 = .ok (.istore_n 2, 1) := by decide +kernel
theorem dX6_cut_15 : decode cX6_cut 15 = .ok (.iconst 0, 1) := by decide +kernel
theorem dX6_cut_16 : decode cX6_cut 16 = .ok (.istore_n 3, 1) := by decide +kernel
theorem dX6_cut_17 : decode cX6_cut 17 = .ok (.iload_n 3, 1) := by decide +kernel
theorem dX6_cut_18 : decode cX6_cut 18 = .ok (.aload_n 0, 1) := by decide +kernel
theorem dX6_cut_19 : decode cX6_cut 19 = .ok (.getfield 7, 3) := by decide +kernel
theorem dX6_cut_22 : decode cX6_cut 22 = .ok (.iconst 1, 1) := by decide +kernel
theorem dX6_cut_23 : decode cX6_cut 23 = .ok (.iaload, 1) := by decide +kernel
theorem dX6_cut_24 : decode cX6_cut 24 = .ok (.if_icmp .ge 54, 3) := by decide +kernel
theorem dX6_cut_27 : decode cX6_cut 27 = .ok (.aload_n 0, 1) := by decide +kernel
theorem dX6_cut_28 : decode cX6_cut 28 = .ok (.aload_n 0, 1) := by decide +kernel
theorem dX6_cut_29 : decode cX6_cut 29 = .ok (.invokevirtual 176, 3) := by decide +kernel
theorem dX6_cut_32 : decode cX6_cut 32 = .ok (.iconst 1, 1) := by decide +kernel
theorem dX6_cut_33 : decode cX6_cut 33 = .ok (.iload_n 3, 1) := by decide +kernel
theorem dX6_cut_34 : decode cX6_cut 34 = .ok (.ishl, 1) := by decide +kernel
theorem dX6_cut_35 : decode cX6_cut 35 = .ok (.iconst (-1), 1) := by decide +kernel
theorem dX6_cut_36 : decode cX6_cut 36 = .ok (.ixor, 1) := by decide +kernel
theorem dX6_cut_37 : decode cX6_cut 37 = .ok (.iand, 1) := by decide +kernel
theorem dX6_cut_38 : decode cX6_cut 38 = .ok (.invokevirtual 213, 3) := by decide +kernel
theorem dX6_cut_41 : decode cX6_cut 41 = .ok (.aload_n 0, 1) := by decide +kernel
theorem dX6_cut_42 : decode cX6_cut 42 = .ok (.getfield 210, 3) := by decide +kernel
theorem dX6_cut_45 : decode cX6_cut 45 = .ok (.iload_n 1, 1) := by decide +kernel
theorem dX6_cut_46 : decode cX6_cut 46 = .ok (.if_icmp .le 7, 3) := by decide +kernel
theorem dX6_cut_49 : decode cX6_cut 49 = .ok (.iload_n 3, 1) := by decide +kernel
theorem dX6_cut_50 : decode cX6_cut 50 = .ok (.goto 4, 3) := by decide +kernel
theorem dX6_cut_53 : decode cX6_cut 53 = .ok (.iload_n 2, 1) := by decide +kernel
theorem dX6_cut_54 : decode cX6_cut 54 = .ok (.istore_n 2, 1) := by decide +kernel
theorem dX6_cut_55 : decode cX6_cut 55 = .ok (.aload_n 0, 1) := by decide +kernel
theorem dX6_cut_56 : decode cX6_cut 56 = .ok (.getfield 210, 3) := by decide +kernel
theorem dX6_cut_59 : decode cX6_cut 59 = .ok (.iload_n 1, 1) := by decide +kernel
theorem dX6_cut_60 : decode cX6_cut 60 = .ok (.if_icmp .le 10, 3) := by decide +kernel
theorem dX6_cut_63 : decode cX6_cut 63 = .ok (.aload_n 0, 1) := by decide +kernel
theorem dX6_cut_64 : decode cX6_cut 64 = .ok (.getfield 210, 3) := by decide +kernel
theorem dX6_cut_67 : decode cX6_cut 67 = .ok (.goto 4, 3) := by decide +kernel
theorem dX6_cut_70 : decode cX6_cut 70 = .ok (.iload_n 1, 1) := by decide +kernel
theorem dX6_cut_71 : decode cX6_cut 71 = .ok (.istore_n 1, 1) := by decide +kernel
theorem dX6_cut_72 : decode cX6_cut 72 = .ok (.iinc 3 1, 3) := by decide +kernel
theorem dX6_cut_75 : decode cX6_cut 75 = .ok (.goto (-58), 3) := by decide +kernel
theorem dX6_cut_78 : decode cX6_cut 78 = .ok (.iload_n 2, 1) := by decide +kernel
theorem dX6_cut_79 : decode cX6_cut 79 = .ok (.ireturn, 1) := by decide +kernel
theorem dX6_opens_0 : decode cX6_opens 0 = .ok (.aload_n 0, 1) := by decide +kernel
theorem dX6_opens_1 : decode cX6_opens 1 = .ok (.aload_n 0, 1) := by decide +kernel
theorem dX6_opens_2 : decode cX6_opens 2 = .ok (.invokevirtual 176, 3) := by decide +kernel
theorem dX6_opens_5 : decode cX6_opens 5 = .ok (.invokevirtual 213, 3) := by decide +kernel
theorem dX6_opens_8 : decode cX6_opens 8 = .ok (.iconst 0, 1) := by decide +kernel
theorem dX6_opens_9 : decode cX6_opens 9 = .ok (.istore_n 1, 1) := by decide +kernel
theorem dX6_opens_10 : decode cX6_opens 10 = .ok (.iconst 0, 1) := by decide +kernel
theorem dX6_opens_11 : decode cX6_opens 11 = .ok (.istore_n 2, 1) := by decide +kernel
theorem dX6_opens_12 : decode cX6_opens 12 = .ok (.iload_n 2, 1) := by decide +kernel
theorem dX6_opens_13 : decode cX6_opens 13 = .ok (.aload_n 0, 1) := by decide +kernel
theorem dX6_opens_14 : decode cX6_opens 14 = .ok (.getfield 7, 3) := by decide +kernel
theorem dX6_opens_17 : decode cX6_opens 17 = .ok (.iconst 0, 1) := by decide +kernel
theorem dX6_opens_18 : decode cX6_opens 18 = .ok (.iaload, 1) := by decide +kernel
theorem dX6_opens_19 : decode cX6_opens 19 = .ok (.if_icmp .ge 66, 3) := by decide +kernel
theorem dX6_opens_22 : decode cX6_opens 22 = .ok (.iconst 0, 1) := by decide +kernel
theorem dX6_opens_23 : decode cX6_opens 23 = .ok (.istore_n 3, 1) := by decide +kernel
theorem dX6_opens_24 : decode cX6_opens 24 = .ok (.iconst 0, 1) := by decide +kernel
theorem dX6_opens_25 : decode cX6_opens 25 = .ok (.istore 4, 2) := by decide +kernel
theorem dX6_opens_27 : decode cX6_opens 27 = .ok (.iload 4, 2) := by decide +kernel
theorem dX6_opens_29 : decode cX6_opens 29 = .ok (.aload_n 0, 1) := by decide +kernel
theorem dX6_opens_30 : decode cX6_opens 30 = .ok (.getfield 210, 3) := by decide +kernel
theorem dX6_opens_33 : decode cX6_opens 33 = .ok (.if_icmp .ge 34, 3) := by decide +kernel
theorem dX6_opens_36 : decode cX6_opens 36 = .ok (.iload_n 3, 1) := by decide +kernel
theorem dX6_opens_37 : decode cX6_opens 37 = .ok (.ifCond .ne 18, 3) := by decide +kernel
theorem dX6_opens_40 : decode cX6_opens 40 = .ok (.aload_n 0, 1) := by decide +kernel
theorem dX6_opens_41 : decode cX6_opens 41 = .ok (.getfield 41, 3) := by decide +kernel
theorem dX6_opens_44 : decode cX6_opens 44 = .ok (.iload 4, 2) := by decide +kernel
theorem dX6_opens_46 : decode cX6_opens 46 = .ok (.iaload, 1) := by decide +kernel
theorem dX6_opens_47 : decode cX6_opens 47 = .ok (.iload_n 2, 1) := by decide +kernel
theorem dX6_opens_48 : decode cX6_opens 48 = .ok (.invokestatic 64, 3) := by decide +kernel
theorem dX6_opens_51 : decode cX6_opens 51 = .ok (.iconst 2, 1) := by decide +kernel
theorem dX6_opens_52 : decode cX6_opens 52 = .ok (.if_icmp .ne 7, 3) := by decide +kernel
theorem dX6_opens_55 : decode cX6_opens 55 = .ok (.iconst 1, 1) := by decide +kernel
theorem dX6_opens_56 : decode cX6_opens 56 = .ok (.goto 4, 3) := by decide +kernel
theorem dX6_opens_59 : decode cX6_opens 59 = .ok (.iconst 0, 1) := by decide +kernel
theorem dX6_opens_60 : decode cX6_opens 60 = .ok (.istore_n 3, 1) := by decide +kernel
theorem dX6_opens_61 : decode cX6_opens 61 = .ok (.iinc 4 1, 3) := by decide +kernel
theorem dX6_opens_64 : decode cX6_opens 64 = .ok (.goto (-37), 3) := by decide +kernel
theorem dX6_opens_67 : decode cX6_opens 67 = .ok (.iload_n 1, 1) := by decide +kernel
theorem dX6_opens_68 : decode cX6_opens 68 = .ok (.iload_n 3, 1) := by decide +kernel
theorem dX6_opens_69 : decode cX6_opens 69 = .ok (.ifCond .eq 7, 3) := by decide +kernel
theorem dX6_opens_72 : decode cX6_opens 72 = .ok (.iconst 1, 1) := by decide +kernel
theorem dX6_opens_73 : decode cX6_opens 73 = .ok (.goto 4, 3) := by decide +kernel
theorem dX6_opens_76 : decode cX6_opens 76 = .ok (.iconst 0, 1) := by decide +kernel
theorem dX6_opens_77 : decode cX6_opens 77 = .ok (.iadd, 1) := by decide +kernel
theorem dX6_opens_78 : decode cX6_opens 78 = .ok (.istore_n 1, 1) := by decide +kernel
theorem dX6_opens_79 : decode cX6_opens 79 = .ok (.iinc 2 1, 3) := by decide +kernel
theorem dX6_opens_82 : decode cX6_opens 82 = .ok (.goto (-70), 3) := by decide +kernel
theorem dX6_opens_85 : decode cX6_opens 85 = .ok (.iload_n 1, 1) := by decide +kernel
theorem dX6_opens_86 : decode cX6_opens 86 = .ok (.ireturn, 1) := by decide +kernel
theorem dX6_tie_0 : decode cX6_tie 0 = .ok (.aload_n 0, 1) := by decide +kernel
theorem dX6_tie_1 : decode cX6_tie 1 = .ok (.invokevirtual 219, 3) := by decide +kernel
theorem dX6_tie_4 : decode cX6_tie 4 = .ok (.istore_n 1, 1) := by decide +kernel
theorem dX6_tie_5 : decode cX6_tie 5 = .ok (.iconst (-1), 1) := by decide +kernel
theorem dX6_tie_6 : decode cX6_tie 6 = .ok (.istore_n 2, 1) := by decide +kernel
theorem dX6_tie_7 : decode cX6_tie 7 = .ok (.iconst 0, 1) := by decide +kernel
theorem dX6_tie_8 : decode cX6_tie 8 = .ok (.istore_n 3, 1) := by decide +kernel
theorem dX6_tie_9 : decode cX6_tie 9 = .ok (.iload_n 3, 1) := by decide +kernel
theorem dX6_tie_10 : decode cX6_tie 10 = .ok (.aload_n 0, 1) := by decide +kernel
theorem dX6_tie_11 : decode cX6_tie 11 = .ok (.getfield 7, 3) := by decide +kernel
theorem dX6_tie_14 : decode cX6_tie 14 = .ok (.iconst 0, 1) := by decide +kernel
theorem dX6_tie_15 : decode cX6_tie 15 = .ok (.iaload, 1) := by decide +kernel
theorem dX6_tie_16 : decode cX6_tie 16 = .ok (.if_icmp .ge 132, 3) := by decide +kernel
theorem dX6_tie_19 : decode cX6_tie 19 = .ok (.aload_n 0, 1) := by decide +kernel
theorem dX6_tie_20 : decode cX6_tie 20 = .ok (.getfield 7, 3) := by decide +kernel
theorem dX6_tie_23 : decode cX6_tie 23 = .ok (.iconst 1, 1) := by decide +kernel
theorem dX6_tie_24 : decode cX6_tie 24 = .ok (.iaload, 1) := by decide +kernel
theorem dX6_tie_25 : decode cX6_tie 25 = .ok (.bipush 10, 2) := by decide +kernel
theorem dX6_tie_27 : decode cX6_tie 27 = .ok (.if_icmp .ge 121, 3) := by decide +kernel
theorem dX6_tie_30 : decode cX6_tie 30 = .ok (.iconst 0, 1) := by decide +kernel
theorem dX6_tie_31 : decode cX6_tie 31 = .ok (.istore 4, 2) := by decide +kernel
theorem dX6_tie_33 : decode cX6_tie 33 = .ok (.iload 4, 2) := by decide +kernel
theorem dX6_tie_35 : decode cX6_tie 35 = .ok (.aload_n 0, 1) := by decide +kernel
theorem dX6_tie_36 : decode cX6_tie 36 = .ok (.getfield 7, 3) := by decide +kernel
theorem dX6_tie_39 : decode cX6_tie 39 = .ok (.iconst 0, 1) := by decide +kernel
theorem dX6_tie_40 : decode cX6_tie 40 = .ok (.iaload, 1) := by decide +kernel
theorem dX6_tie_41 : decode cX6_tie 41 = .ok (.if_icmp .ge 101, 3) := by decide +kernel
theorem dX6_tie_44 : decode cX6_tie 44 = .ok (.iconst 1, 1) := by decide +kernel
theorem dX6_tie_45 : decode cX6_tie 45 = .ok (.istore 5, 2) := by decide +kernel
theorem dX6_tie_47 : decode cX6_tie 47 = .ok (.iload 5, 2) := by decide +kernel
theorem dX6_tie_49 : decode cX6_tie 49 = .ok (.ifCond .lt 87, 3) := by decide +kernel
theorem dX6_tie_52 : decode cX6_tie 52 = .ok (.iload_n 3, 1) := by decide +kernel
theorem dX6_tie_53 : decode cX6_tie 53 = .ok (.iload 4, 2) := by decide +kernel
theorem dX6_tie_55 : decode cX6_tie 55 = .ok (.if_icmp .eq 81, 3) := by decide +kernel
theorem dX6_tie_58 : decode cX6_tie 58 = .ok (.aload_n 0, 1) := by decide +kernel
theorem dX6_tie_59 : decode cX6_tie 59 = .ok (.iload_n 3, 1) := by decide +kernel
theorem dX6_tie_60 : decode cX6_tie 60 = .ok (.iload 4, 2) := by decide +kernel
theorem dX6_tie_62 : decode cX6_tie 62 = .ok (.iconst 0, 1) := by decide +kernel
theorem dX6_tie_63 : decode cX6_tie 63 = .ok (.iload 5, 2) := by decide +kernel
theorem dX6_tie_65 : decode cX6_tie 65 = .ok (.iconst 1, 1) := by decide +kernel
theorem dX6_tie_66 : decode cX6_tie 66 = .ok (.if_icmp .ne 7, 3) := by decide +kernel
theorem dX6_tie_69 : decode cX6_tie 69 = .ok (.iconst 1, 1) := by decide +kernel
theorem dX6_tie_70 : decode cX6_tie 70 = .ok (.goto 4, 3) := by decide +kernel
theorem dX6_tie_73 : decode cX6_tie 73 = .ok (.iconst (-1), 1) := by decide +kernel
theorem dX6_tie_74 : decode cX6_tie 74 = .ok (.invokevirtual 94, 3) := by decide +kernel
theorem dX6_tie_77 : decode cX6_tie 77 = .ok (.aload_n 0, 1) := by decide +kernel
theorem dX6_tie_78 : decode cX6_tie 78 = .ok (.invokevirtual 219, 3) := by decide +kernel
theorem dX6_tie_81 : decode cX6_tie 81 = .ok (.istore 6, 2) := by decide +kernel
theorem dX6_tie_83 : decode cX6_tie 83 = .ok (.aload_n 0, 1) := by decide +kernel
theorem dX6_tie_84 : decode cX6_tie 84 = .ok (.getfield 7, 3) := by decide +kernel
theorem dX6_tie_87 : decode cX6_tie 87 = .ok (.iconst 1, 1) := by decide +kernel
theorem dX6_tie_88 : decode cX6_tie 88 = .ok (.dup2, 1) := by decide +kernel
theorem dX6_tie_89 : decode cX6_tie 89 = .ok (.iaload, 1) := by decide +kernel
theorem dX6_tie_90 : decode cX6_tie 90 = .ok (.iconst 1, 1) := by decide +kernel
theorem dX6_tie_91 : decode cX6_tie 91 = .ok (.isub, 1) := by decide +kernel
theorem dX6_tie_92 : decode cX6_tie 92 = .ok (.iastore, 1) := by decide +kernel
theorem dX6_tie_93 : decode cX6_tie 93 = .ok (.iload 6, 2) := by decide +kernel
theorem dX6_tie_95 : decode cX6_tie 95 = .ok (.iload_n 1, 1) := by decide +kernel
theorem dX6_tie_96 : decode cX6_tie 96 = .ok (.if_icmp .le 19, 3) := by decide +kernel
theorem dX6_tie_99 : decode cX6_tie 99 = .ok (.bipush 100, 2) := by decide +kernel
theorem dX6_tie_101 : decode cX6_tie 101 = .ok (.iload_n 3, 1) := by decide +kernel
theorem dX6_tie_102 : decode cX6_tie 102 = .ok (.imul, 1) := by decide +kernel
theorem dX6_tie_103 : decode cX6_tie 103 = .ok (.bipush 10, 2) := by decide +kernel
theorem dX6_tie_105 : decode cX6_tie 105 = .ok (.iload 4, 2) := by decide +kernel
theorem dX6_tie_107 : decode cX6_tie 107 = .ok (.imul, 1) := by decide +kernel
theorem dX6_tie_108 : decode cX6_tie 108 = .ok (.iadd, 1) := by decide +kernel
theorem dX6_tie_109 : decode cX6_tie 109 = .ok (.iload 5, 2) := by decide +kernel
theorem dX6_tie_111 : decode cX6_tie 111 = .ok (.iadd, 1) := by decide +kernel
theorem dX6_tie_112 : decode cX6_tie 112 = .ok (.goto 4, 3) := by decide +kernel
theorem dX6_tie_115 : decode cX6_tie 115 = .ok (.iload_n 2, 1) := by decide +kernel
theorem dX6_tie_116 : decode cX6_tie 116 = .ok (.istore_n 2, 1) := by decide +kernel
theorem dX6_tie_117 : decode cX6_tie 117 = .ok (.iload 6, 2) := by decide +kernel
theorem dX6_tie_119 : decode cX6_tie 119 = .ok (.iload_n 1, 1) := by decide +kernel
theorem dX6_tie_120 : decode cX6_tie 120 = .ok (.if_icmp .le 8, 3) := by decide +kernel
theorem dX6_tie_123 : decode cX6_tie 123 = .ok (.iload 6, 2) := by decide +kernel
theorem dX6_tie_125 : decode cX6_tie 125 = .ok (.goto 4, 3) := by decide +kernel
theorem dX6_tie_128 : decode cX6_tie 128 = .ok (.iload_n 1, 1) := by decide +kernel
theorem dX6_tie_129 : decode cX6_tie 129 = .ok (.istore_n 1, 1) := by decide +kernel
theorem dX6_tie_130 : decode cX6_tie 130 = .ok (.iinc 5 (-1), 3) := by decide +kernel
theorem dX6_tie_133 : decode cX6_tie 133 = .ok (.goto (-86), 3) := by decide +kernel
theorem dX6_tie_136 : decode cX6_tie 136 = .ok (.iinc 4 1, 3) := by decide +kernel
theorem dX6_tie_139 : decode cX6_tie 139 = .ok (.goto (-106), 3) := by decide +kernel
theorem dX6_tie_142 : decode cX6_tie 142 = .ok (.iinc 3 1, 3) := by decide +kernel
theorem dX6_tie_145 : decode cX6_tie 145 = .ok (.goto (-136), 3) := by decide +kernel
theorem dX6_tie_148 : decode cX6_tie 148 = .ok (.iload_n 2, 1) := by decide +kernel
theorem dX6_tie_149 : decode cX6_tie 149 = .ok (.ireturn, 1) := by decide +kernel
theorem dX6_days_0 : decode cX6_days 0 = .ok (.iconst 0, 1) := by decide +kernel
theorem dX6_days_1 : decode cX6_days 1 = .ok (.istore_n 1, 1) := by decide +kernel
theorem dX6_days_2 : decode cX6_days 2 = .ok (.iconst 0, 1) := by decide +kernel
theorem dX6_days_3 : decode cX6_days 3 = .ok (.istore_n 2, 1) := by decide +kernel
theorem dX6_days_4 : decode cX6_days 4 = .ok (.aload_n 0, 1) := by decide +kernel
theorem dX6_days_5 : decode cX6_days 5 = .ok (.iconst 0, 1) := by decide +kernel
theorem dX6_days_6 : decode cX6_days 6 = .ok (.putfield 222, 3) := by decide +kernel
theorem dX6_days_9 : decode cX6_days 9 = .ok (.iconst 1, 1) := by decide +kernel
theorem dX6_days_10 : decode cX6_days 10 = .ok (.istore_n 3, 1) := by decide +kernel
theorem dX6_days_11 : decode cX6_days 11 = .ok (.iload_n 3, 1) := by decide +kernel
theorem dX6_days_12 : decode cX6_days 12 = .ok (.ifCond .eq 187, 3) := by decide +kernel
theorem dX6_days_15 : decode cX6_days 15 = .ok (.aload_n 0, 1) := by decide +kernel
theorem dX6_days_16 : decode cX6_days 16 = .ok (.getfield 222, 3) := by decide +kernel
theorem dX6_days_19 : decode cX6_days 19 = .ok (.aload_n 0, 1) := by decide +kernel
theorem dX6_days_20 : decode cX6_days 20 = .ok (.getfield 7, 3) := by decide +kernel
theorem dX6_days_23 : decode cX6_days 23 = .ok (.iconst 2, 1) := by decide +kernel
theorem dX6_days_24 : decode cX6_days 24 = .ok (.iaload, 1) := by decide +kernel
theorem dX6_days_25 : decode cX6_days 25 = .ok (.if_icmp .ge 174, 3) := by decide +kernel
theorem dX6_days_28 : decode cX6_days 28 = .ok (.iconst (-1), 1) := by decide +kernel
theorem dX6_days_29 : decode cX6_days 29 = .ok (.istore 4, 2) := by decide +kernel
theorem dX6_days_31 : decode cX6_days 31 = .ok (.iconst (-1), 1) := by decide +kernel
theorem dX6_days_32 : decode cX6_days 32 = .ok (.istore 5, 2) := by decide +kernel
theorem dX6_days_34 : decode cX6_days 34 = .ok (.iconst 0, 1) := by decide +kernel
theorem dX6_days_35 : decode cX6_days 35 = .ok (.istore 6, 2) := by decide +kernel
theorem dX6_days_37 : decode cX6_days 37 = .ok (.iload 6, 2) := by decide +kernel
theorem dX6_days_39 : decode cX6_days 39 = .ok (.aload_n 0, 1) := by decide +kernel
theorem dX6_days_40 : decode cX6_days 40 = .ok (.getfield 7, 3) := by decide +kernel
theorem dX6_days_43 : decode cX6_days 43 = .ok (.iconst 0, 1) := by decide +kernel
theorem dX6_days_44 : decode cX6_days 44 = .ok (.iaload, 1) := by decide +kernel
theorem dX6_days_45 : decode cX6_days 45 = .ok (.if_icmp .ge 82, 3) := by decide +kernel
theorem dX6_days_48 : decode cX6_days 48 = .ok (.aload_n 0, 1) := by decide +kernel
theorem dX6_days_49 : decode cX6_days 49 = .ok (.getfield 7, 3) := by decide +kernel
theorem dX6_days_52 : decode cX6_days 52 = .ok (.bipush 9, 2) := by decide +kernel
theorem dX6_days_54 : decode cX6_days 54 = .ok (.iload 6, 2) := by decide +kernel
theorem dX6_days_56 : decode cX6_days 56 = .ok (.iadd, 1) := by decide +kernel
theorem dX6_days_57 : decode cX6_days 57 = .ok (.iaload, 1) := by decide +kernel
theorem dX6_days_58 : decode cX6_days 58 = .ok (.aload_n 0, 1) := by decide +kernel
theorem dX6_days_59 : decode cX6_days 59 = .ok (.getfield 7, 3) := by decide +kernel
theorem dX6_days_62 : decode cX6_days 62 = .ok (.bipush 56, 2) := by decide +kernel
theorem dX6_days_64 : decode cX6_days 64 = .ok (.aload_n 0, 1) := by decide +kernel
theorem dX6_days_65 : decode cX6_days 65 = .ok (.getfield 222, 3) := by decide +kernel
theorem dX6_days_68 : decode cX6_days 68 = .ok (.iadd, 1) := by decide +kernel
theorem dX6_days_69 : decode cX6_days 69 = .ok (.iaload, 1) := by decide +kernel
theorem dX6_days_70 : decode cX6_days 70 = .ok (.if_icmp .ne 51, 3) := by decide +kernel
theorem dX6_days_73 : decode cX6_days 73 = .ok (.aload_n 0, 1) := by decide +kernel
theorem dX6_days_74 : decode cX6_days 74 = .ok (.iconst 1, 1) := by decide +kernel
theorem dX6_days_75 : decode cX6_days 75 = .ok (.iload 6, 2) := by decide +kernel
theorem dX6_days_77 : decode cX6_days 77 = .ok (.ishl, 1) := by decide +kernel
theorem dX6_days_78 : decode cX6_days 78 = .ok (.iconst 0, 1) := by decide +kernel
theorem dX6_days_79 : decode cX6_days 79 = .ok (.iconst 0, 1) := by decide +kernel
theorem dX6_days_80 : decode cX6_days 80 = .ok (.invokevirtual 199, 3) := by decide +kernel
theorem dX6_days_83 : decode cX6_days 83 = .ok (.aload_n 0, 1) := by decide +kernel
theorem dX6_days_84 : decode cX6_days 84 = .ok (.getfield 35, 3) := by decide +kernel
theorem dX6_days_87 : decode cX6_days 87 = .ok (.iload_n 1, 1) := by decide +kernel
theorem dX6_days_88 : decode cX6_days 88 = .ok (.iaload, 1) := by decide +kernel
theorem dX6_days_89 : decode cX6_days 89 = .ok (.ifCond .lt 32, 3) := by decide +kernel
theorem dX6_days_92 : decode cX6_days 92 = .ok (.iload 5, 2) := by decide +kernel
theorem dX6_days_94 : decode cX6_days 94 = .ok (.iconst (-1), 1) := by decide +kernel
theorem dX6_days_95 : decode cX6_days 95 = .ok (.if_icmp .eq 14, 3) := by decide +kernel
theorem dX6_days_98 : decode cX6_days 98 = .ok (.aload_n 0, 1) := by decide +kernel
theorem dX6_days_99 : decode cX6_days 99 = .ok (.getfield 35, 3) := by decide +kernel
theorem dX6_days_102 : decode cX6_days 102 = .ok (.iload_n 1, 1) := by decide +kernel
theorem dX6_days_103 : decode cX6_days 103 = .ok (.iaload, 1) := by decide +kernel
theorem dX6_days_104 : decode cX6_days 104 = .ok (.iload 5, 2) := by decide +kernel
theorem dX6_days_106 : decode cX6_days 106 = .ok (.if_icmp .ge 15, 3) := by decide +kernel
theorem dX6_days_109 : decode cX6_days 109 = .ok (.aload_n 0, 1) := by decide +kernel
theorem dX6_days_110 : decode cX6_days 110 = .ok (.getfield 35, 3) := by decide +kernel
theorem dX6_days_113 : decode cX6_days 113 = .ok (.iload_n 1, 1) := by decide +kernel
theorem dX6_days_114 : decode cX6_days 114 = .ok (.iaload, 1) := by decide +kernel
theorem dX6_days_115 : decode cX6_days 115 = .ok (.istore 5, 2) := by decide +kernel
theorem dX6_days_117 : decode cX6_days 117 = .ok (.iload 6, 2) := by decide +kernel
theorem dX6_days_119 : decode cX6_days 119 = .ok (.istore 4, 2) := by decide +kernel
theorem dX6_days_121 : decode cX6_days 121 = .ok (.iinc 6 1, 3) := by decide +kernel
theorem dX6_days_124 : decode cX6_days 124 = .ok (.goto (-87), 3) := by decide +kernel
theorem dX6_days_127 : decode cX6_days 127 = .ok (.iload 4, 2) := by decide +kernel
theorem dX6_days_129 : decode cX6_days 129 = .ok (.iconst (-1), 1) := by decide +kernel
theorem dX6_days_130 : decode cX6_days 130 = .ok (.if_icmp .eq 7, 3) := by decide +kernel
theorem dX6_days_133 : decode cX6_days 133 = .ok (.iconst 1, 1) := by decide +kernel
theorem dX6_days_134 : decode cX6_days 134 = .ok (.goto 4, 3) := by decide +kernel
theorem dX6_days_137 : decode cX6_days 137 = .ok (.iconst 0, 1) := by decide +kernel
theorem dX6_days_138 : decode cX6_days 138 = .ok (.istore_n 3, 1) := by decide +kernel
theorem dX6_days_139 : decode cX6_days 139 = .ok (.iload_n 3, 1) := by decide +kernel
theorem dX6_days_140 : decode cX6_days 140 = .ok (.ifCond .eq 56, 3) := by decide +kernel
theorem dX6_days_143 : decode cX6_days 143 = .ok (.aload_n 0, 1) := by decide +kernel
theorem dX6_days_144 : decode cX6_days 144 = .ok (.iconst 1, 1) := by decide +kernel
theorem dX6_days_145 : decode cX6_days 145 = .ok (.iload 4, 2) := by decide +kernel
theorem dX6_days_147 : decode cX6_days 147 = .ok (.ishl, 1) := by decide +kernel
theorem dX6_days_148 : decode cX6_days 148 = .ok (.iconst 0, 1) := by decide +kernel
theorem dX6_days_149 : decode cX6_days 149 = .ok (.iconst 0, 1) := by decide +kernel
theorem dX6_days_150 : decode cX6_days 150 = .ok (.invokevirtual 199, 3) := by decide +kernel
theorem dX6_days_153 : decode cX6_days 153 = .ok (.iload_n 2, 1) := by decide +kernel
theorem dX6_days_154 : decode cX6_days 154 = .ok (.iload 5, 2) := by decide +kernel
theorem dX6_days_156 : decode cX6_days 156 = .ok (.iadd, 1) := by decide +kernel
theorem dX6_days_157 : decode cX6_days 157 = .ok (.istore_n 2, 1) := by decide +kernel
theorem dX6_days_158 : decode cX6_days 158 = .ok (.aload_n 0, 1) := by decide +kernel
theorem dX6_days_159 : decode cX6_days 159 = .ok (.getfield 35, 3) := by decide +kernel
theorem dX6_days_162 : decode cX6_days 162 = .ok (.iload_n 1, 1) := by decide +kernel
theorem dX6_days_163 : decode cX6_days 163 = .ok (.iaload, 1) := by decide +kernel
theorem dX6_days_164 : decode cX6_days 164 = .ok (.ifCond .le 22, 3) := by decide +kernel
theorem dX6_days_167 : decode cX6_days 167 = .ok (.aload_n 0, 1) := by decide +kernel
theorem dX6_days_168 : decode cX6_days 168 = .ok (.getfield 32, 3) := by decide +kernel
theorem dX6_days_171 : decode cX6_days 171 = .ok (.bipush 7, 2) := by decide +kernel
theorem dX6_days_173 : decode cX6_days 173 = .ok (.iload_n 1, 1) := by decide +kernel
theorem dX6_days_174 : decode cX6_days 174 = .ok (.imul, 1) := by decide +kernel
theorem dX6_days_175 : decode cX6_days 175 = .ok (.aload_n 0, 1) := by decide +kernel
theorem dX6_days_176 : decode cX6_days 176 = .ok (.iload_n 1, 1) := by decide +kernel
theorem dX6_days_177 : decode cX6_days 177 = .ok (.invokevirtual 203, 3) := by decide +kernel
theorem dX6_days_180 : decode cX6_days 180 = .ok (.iadd, 1) := by decide +kernel
theorem dX6_days_181 : decode cX6_days 181 = .ok (.iaload, 1) := by decide +kernel
theorem dX6_days_182 : decode cX6_days 182 = .ok (.istore_n 1, 1) := by decide +kernel
theorem dX6_days_183 : decode cX6_days 183 = .ok (.goto (-25), 3) := by decide +kernel
theorem dX6_days_186 : decode cX6_days 186 = .ok (.aload_n 0, 1) := by decide +kernel
theorem dX6_days_187 : decode cX6_days 187 = .ok (.dup, 1) := by decide +kernel
theorem dX6_days_188 : decode cX6_days 188 = .ok (.getfield 222, 3) := by decide +kernel
theorem dX6_days_191 : decode cX6_days 191 = .ok (.iconst 1, 1) := by decide +kernel
theorem dX6_days_192 : decode cX6_days 192 = .ok (.iadd, 1) := by decide +kernel
theorem dX6_days_193 : decode cX6_days 193 = .ok (.putfield 222, 3) := by decide +kernel
theorem dX6_days_196 : decode cX6_days 196 = .ok (.goto (-185), 3) := by decide +kernel
theorem dX6_days_199 : decode cX6_days 199 = .ok (.iload_n 2, 1) := by decide +kernel
theorem dX6_days_200 : decode cX6_days 200 = .ok (.ireturn, 1) := by decide +kernel
theorem dX6_day_0 : decode cX6_day 0 = .ok (.iload_n 1, 1) := by decide +kernel
theorem dX6_day_1 : decode cX6_day 1 = .ok (.i2l, 1) := by decide +kernel
theorem dX6_day_2 : decode cX6_day 2 = .ok (.lconst 0, 1) := by decide +kernel
theorem dX6_day_3 : decode cX6_day 3 = .ok (.lconst 1, 1) := by decide +kernel
theorem dX6_day_4 : decode cX6_day 4 = .ok (.invokestatic 56, 3) := by decide +kernel
theorem dX6_day_7 : decode cX6_day 7 = .ok (.ifCond .ne 8, 3) := by decide +kernel
theorem dX6_day_10 : decode cX6_day 10 = .ok (.aload_n 0, 1) := by decide +kernel
theorem dX6_day_11 : decode cX6_day 11 = .ok (.invokevirtual 79, 3) := by decide +kernel
theorem dX6_day_14 : decode cX6_day 14 = .ok (.ireturn, 1) := by decide +kernel
theorem dX6_day_15 : decode cX6_day 15 = .ok (.aload_n 0, 1) := by decide +kernel
theorem dX6_day_16 : decode cX6_day 16 = .ok (.invokevirtual 196, 3) := by decide +kernel
theorem dX6_day_19 : decode cX6_day 19 = .ok (.aload_n 0, 1) := by decide +kernel
theorem dX6_day_20 : decode cX6_day 20 = .ok (.invokevirtual 225, 3) := by decide +kernel
theorem dX6_day_23 : decode cX6_day 23 = .ok (.istore_n 2, 1) := by decide +kernel
theorem dX6_day_24 : decode cX6_day 24 = .ok (.iload_n 1, 1) := by decide +kernel
theorem dX6_day_25 : decode cX6_day 25 = .ok (.ifCond .ne 7, 3) := by decide +kernel
theorem dX6_day_28 : decode cX6_day 28 = .ok (.iload_n 2, 1) := by decide +kernel
theorem dX6_day_29 : decode cX6_day 29 = .ok (.goto 7, 3) := by decide +kernel
theorem dX6_day_32 : decode cX6_day 32 = .ok (.aload_n 0, 1) := by decide +kernel
theorem dX6_day_33 : decode cX6_day 33 = .ok (.getfield 222, 3) := by decide +kernel
theorem dX6_day_36 : decode cX6_day 36 = .ok (.ireturn, 1) := by decide +kernel
theorem dX6_swaps_0 : decode cX6_swaps 0 = .ok (.aload_n 0, 1) := by decide +kernel
theorem dX6_swaps_1 : decode cX6_swaps 1 = .ok (.getfield 7, 3) := by decide +kernel
theorem dX6_swaps_4 : decode cX6_swaps 4 = .ok (.bipush 9, 2) := by decide +kernel
theorem dX6_swaps_6 : decode cX6_swaps 6 = .ok (.iload_n 1, 1) := by decide +kernel
theorem dX6_swaps_7 : decode cX6_swaps 7 = .ok (.iadd, 1) := by decide +kernel
theorem dX6_swaps_8 : decode cX6_swaps 8 = .ok (.iaload, 1) := by decide +kernel
theorem dX6_swaps_9 : decode cX6_swaps 9 = .ok (.istore_n 3, 1) := by decide +kernel
theorem dX6_swaps_10 : decode cX6_swaps 10 = .ok (.aload_n 0, 1) := by decide +kernel
theorem dX6_swaps_11 : decode cX6_swaps 11 = .ok (.getfield 7, 3) := by decide +kernel
theorem dX6_swaps_14 : decode cX6_swaps 14 = .ok (.bipush 9, 2) := by decide +kernel
theorem dX6_swaps_16 : decode cX6_swaps 16 = .ok (.iload_n 1, 1) := by decide +kernel
theorem dX6_swaps_17 : decode cX6_swaps 17 = .ok (.iadd, 1) := by decide +kernel
theorem dX6_swaps_18 : decode cX6_swaps 18 = .ok (.aload_n 0, 1) := by decide +kernel
theorem dX6_swaps_19 : decode cX6_swaps 19 = .ok (.getfield 7, 3) := by decide +kernel
theorem dX6_swaps_22 : decode cX6_swaps 22 = .ok (.bipush 9, 2) := by decide +kernel
theorem dX6_swaps_24 : decode cX6_swaps 24 = .ok (.iload_n 2, 1) := by decide +kernel
theorem dX6_swaps_25 : decode cX6_swaps 25 = .ok (.iadd, 1) := by decide +kernel
theorem dX6_swaps_26 : decode cX6_swaps 26 = .ok (.iaload, 1) := by decide +kernel
theorem dX6_swaps_27 : decode cX6_swaps 27 = .ok (.iastore, 1) := by decide +kernel
theorem dX6_swaps_28 : decode cX6_swaps 28 = .ok (.aload_n 0, 1) := by decide +kernel
theorem dX6_swaps_29 : decode cX6_swaps 29 = .ok (.getfield 7, 3) := by decide +kernel
theorem dX6_swaps_32 : decode cX6_swaps 32 = .ok (.bipush 9, 2) := by decide +kernel
theorem dX6_swaps_34 : decode cX6_swaps 34 = .ok (.iload_n 2, 1) := by decide +kernel
theorem dX6_swaps_35 : decode cX6_swaps 35 = .ok (.iadd, 1) := by decide +kernel
theorem dX6_swaps_36 : decode cX6_swaps 36 = .ok (.iload_n 3, 1) := by decide +kernel
theorem dX6_swaps_37 : decode cX6_swaps 37 = .ok (.iastore, 1) := by decide +kernel
theorem dX6_swaps_38 : decode cX6_swaps 38 = .ok (.return_, 1) := by decide +kernel
theorem dX6_laid_0 : decode cX6_laid 0 = .ok (.aload_n 0, 1) := by decide +kernel
theorem dX6_laid_1 : decode cX6_laid 1 = .ok (.invokevirtual 196, 3) := by decide +kernel
theorem dX6_laid_4 : decode cX6_laid 4 = .ok (.aload_n 0, 1) := by decide +kernel
theorem dX6_laid_5 : decode cX6_laid 5 = .ok (.invokevirtual 225, 3) := by decide +kernel
theorem dX6_laid_8 : decode cX6_laid 8 = .ok (.istore_n 1, 1) := by decide +kernel
theorem dX6_laid_9 : decode cX6_laid 9 = .ok (.aload_n 0, 1) := by decide +kernel
theorem dX6_laid_10 : decode cX6_laid 10 = .ok (.getfield 222, 3) := by decide +kernel
theorem dX6_laid_13 : decode cX6_laid 13 = .ok (.istore_n 2, 1) := by decide +kernel
theorem dX6_laid_14 : decode cX6_laid 14 = .ok (.iconst (-1), 1) := by decide +kernel
theorem dX6_laid_15 : decode cX6_laid 15 = .ok (.istore_n 3, 1) := by decide +kernel
theorem dX6_laid_16 : decode cX6_laid 16 = .ok (.iconst 0, 1) := by decide +kernel
theorem dX6_laid_17 : decode cX6_laid 17 = .ok (.istore 4, 2) := by decide +kernel
theorem dX6_laid_19 : decode cX6_laid 19 = .ok (.iload 4, 2) := by decide +kernel
theorem dX6_laid_21 : decode cX6_laid 21 = .ok (.aload_n 0, 1) := by decide +kernel
theorem dX6_laid_22 : decode cX6_laid 22 = .ok (.getfield 7, 3) := by decide +kernel
theorem dX6_laid_25 : decode cX6_laid 25 = .ok (.iconst 0, 1) := by decide +kernel
theorem dX6_laid_26 : decode cX6_laid 26 = .ok (.iaload, 1) := by decide +kernel
theorem dX6_laid_27 : decode cX6_laid 27 = .ok (.if_icmp .ge 127, 3) := by decide +kernel
theorem dX6_laid_30 : decode cX6_laid 30 = .ok (.iload 4, 2) := by decide +kernel
theorem dX6_laid_32 : decode cX6_laid 32 = .ok (.iconst 1, 1) := by decide +kernel
theorem dX6_laid_33 : decode cX6_laid 33 = .ok (.iadd, 1) := by decide +kernel
theorem dX6_laid_34 : decode cX6_laid 34 = .ok (.istore 5, 2) := by decide +kernel
theorem dX6_laid_36 : decode cX6_laid 36 = .ok (.iload 5, 2) := by decide +kernel
theorem dX6_laid_38 : decode cX6_laid 38 = .ok (.aload_n 0, 1) := by decide +kernel
theorem dX6_laid_39 : decode cX6_laid 39 = .ok (.getfield 7, 3) := by decide +kernel
theorem dX6_laid_42 : decode cX6_laid 42 = .ok (.iconst 0, 1) := by decide +kernel
theorem dX6_laid_43 : decode cX6_laid 43 = .ok (.iaload, 1) := by decide +kernel
theorem dX6_laid_44 : decode cX6_laid 44 = .ok (.if_icmp .ge 104, 3) := by decide +kernel
theorem dX6_laid_47 : decode cX6_laid 47 = .ok (.aload_n 0, 1) := by decide +kernel
theorem dX6_laid_48 : decode cX6_laid 48 = .ok (.iload 4, 2) := by decide +kernel
theorem dX6_laid_50 : decode cX6_laid 50 = .ok (.iload 5, 2) := by decide +kernel
theorem dX6_laid_52 : decode cX6_laid 52 = .ok (.invokevirtual 228, 3) := by decide +kernel
theorem dX6_laid_55 : decode cX6_laid 55 = .ok (.aload_n 0, 1) := by decide +kernel
theorem dX6_laid_56 : decode cX6_laid 56 = .ok (.invokevirtual 225, 3) := by decide +kernel
theorem dX6_laid_59 : decode cX6_laid 59 = .ok (.istore 6, 2) := by decide +kernel
theorem dX6_laid_61 : decode cX6_laid 61 = .ok (.aload_n 0, 1) := by decide +kernel
theorem dX6_laid_62 : decode cX6_laid 62 = .ok (.iload 4, 2) := by decide +kernel
theorem dX6_laid_64 : decode cX6_laid 64 = .ok (.iload 5, 2) := by decide +kernel
theorem dX6_laid_66 : decode cX6_laid 66 = .ok (.invokevirtual 228, 3) := by decide +kernel
theorem dX6_laid_69 : decode cX6_laid 69 = .ok (.aload_n 0, 1) := by decide +kernel
theorem dX6_laid_70 : decode cX6_laid 70 = .ok (.getfield 222, 3) := by decide +kernel
theorem dX6_laid_73 : decode cX6_laid 73 = .ok (.iload_n 2, 1) := by decide +kernel
theorem dX6_laid_74 : decode cX6_laid 74 = .ok (.if_icmp .gt 17, 3) := by decide +kernel
theorem dX6_laid_77 : decode cX6_laid 77 = .ok (.aload_n 0, 1) := by decide +kernel
theorem dX6_laid_78 : decode cX6_laid 78 = .ok (.getfield 222, 3) := by decide +kernel
theorem dX6_laid_81 : decode cX6_laid 81 = .ok (.iload_n 2, 1) := by decide +kernel
theorem dX6_laid_82 : decode cX6_laid 82 = .ok (.if_icmp .ne 13, 3) := by decide +kernel
theorem dX6_laid_85 : decode cX6_laid 85 = .ok (.iload 6, 2) := by decide +kernel
theorem dX6_laid_87 : decode cX6_laid 87 = .ok (.iload_n 1, 1) := by decide +kernel
theorem dX6_laid_88 : decode cX6_laid 88 = .ok (.if_icmp .ge 7, 3) := by decide +kernel
theorem dX6_laid_91 : decode cX6_laid 91 = .ok (.iconst 1, 1) := by decide +kernel
theorem dX6_laid_92 : decode cX6_laid 92 = .ok (.goto 4, 3) := by decide +kernel
theorem dX6_laid_95 : decode cX6_laid 95 = .ok (.iconst 0, 1) := by decide +kernel
theorem dX6_laid_96 : decode cX6_laid 96 = .ok (.istore 7, 2) := by decide +kernel
theorem dX6_laid_98 : decode cX6_laid 98 = .ok (.iload 7, 2) := by decide +kernel
theorem dX6_laid_100 : decode cX6_laid 100 = .ok (.ifCond .eq 14, 3) := by decide +kernel
theorem dX6_laid_103 : decode cX6_laid 103 = .ok (.bipush 10, 2) := by decide +kernel
theorem dX6_laid_105 : decode cX6_laid 105 = .ok (.iload 4, 2) := by decide +kernel
theorem dX6_laid_107 : decode cX6_laid 107 = .ok (.imul, 1) := by decide +kernel
theorem dX6_laid_108 : decode cX6_laid 108 = .ok (.iload 5, 2) := by decide +kernel
theorem dX6_laid_110 : decode cX6_laid 110 = .ok (.iadd, 1) := by decide +kernel
theorem dX6_laid_111 : decode cX6_laid 111 = .ok (.goto 4, 3) := by decide +kernel
theorem dX6_laid_114 : decode cX6_laid 114 = .ok (.iload_n 3, 1) := by decide +kernel
theorem dX6_laid_115 : decode cX6_laid 115 = .ok (.istore_n 3, 1) := by decide +kernel
theorem dX6_laid_116 : decode cX6_laid 116 = .ok (.iload 7, 2) := by decide +kernel
theorem dX6_laid_118 : decode cX6_laid 118 = .ok (.ifCond .eq 8, 3) := by decide +kernel
theorem dX6_laid_121 : decode cX6_laid 121 = .ok (.iload 6, 2) := by decide +kernel
theorem dX6_laid_123 : decode cX6_laid 123 = .ok (.goto 4, 3) := by decide +kernel
theorem dX6_laid_126 : decode cX6_laid 126 = .ok (.iload_n 1, 1) := by decide +kernel
theorem dX6_laid_127 : decode cX6_laid 127 = .ok (.istore_n 1, 1) := by decide +kernel
theorem dX6_laid_128 : decode cX6_laid 128 = .ok (.iload 7, 2) := by decide +kernel
theorem dX6_laid_130 : decode cX6_laid 130 = .ok (.ifCond .eq 10, 3) := by decide +kernel
theorem dX6_laid_133 : decode cX6_laid 133 = .ok (.aload_n 0, 1) := by decide +kernel
theorem dX6_laid_134 : decode cX6_laid 134 = .ok (.getfield 222, 3) := by decide +kernel
theorem dX6_laid_137 : decode cX6_laid 137 = .ok (.goto 4, 3) := by decide +kernel
theorem dX6_laid_140 : decode cX6_laid 140 = .ok (.iload_n 2, 1) := by decide +kernel
theorem dX6_laid_141 : decode cX6_laid 141 = .ok (.istore_n 2, 1) := by decide +kernel
theorem dX6_laid_142 : decode cX6_laid 142 = .ok (.iinc 5 1, 3) := by decide +kernel
theorem dX6_laid_145 : decode cX6_laid 145 = .ok (.goto (-109), 3) := by decide +kernel
theorem dX6_laid_148 : decode cX6_laid 148 = .ok (.iinc 4 1, 3) := by decide +kernel
theorem dX6_laid_151 : decode cX6_laid 151 = .ok (.goto (-132), 3) := by decide +kernel
theorem dX6_laid_154 : decode cX6_laid 154 = .ok (.iload_n 3, 1) := by decide +kernel
theorem dX6_laid_155 : decode cX6_laid 155 = .ok (.ireturn, 1) := by decide +kernel
theorem dX6_danger_0 : decode cX6_danger 0 = .ok (.aload_n 0, 1) := by decide +kernel
theorem dX6_danger_1 : decode cX6_danger 1 = .ok (.iload_n 1, 1) := by decide +kernel
theorem dX6_danger_2 : decode cX6_danger 2 = .ok (.invokevirtual 186, 3) := by decide +kernel
theorem dX6_danger_5 : decode cX6_danger 5 = .ok (.ifCond .ne 10, 3) := by decide +kernel
theorem dX6_danger_8 : decode cX6_danger 8 = .ok (.aload_n 0, 1) := by decide +kernel
theorem dX6_danger_9 : decode cX6_danger 9 = .ok (.invokevirtual 79, 3) := by decide +kernel
theorem dX6_danger_12 : decode cX6_danger 12 = .ok (.goto 16, 3) := by decide +kernel
theorem dX6_danger_15 : decode cX6_danger 15 = .ok (.aload_n 0, 1) := by decide +kernel
theorem dX6_danger_16 : decode cX6_danger 16 = .ok (.iload_n 1, 1) := by decide +kernel
theorem dX6_danger_17 : decode cX6_danger 17 = .ok (.invokevirtual 189, 3) := by decide +kernel
theorem dX6_danger_20 : decode cX6_danger 20 = .ok (.ifCond .eq 7, 3) := by decide +kernel
theorem dX6_danger_23 : decode cX6_danger 23 = .ok (.iconst 1, 1) := by decide +kernel
theorem dX6_danger_24 : decode cX6_danger 24 = .ok (.goto 4, 3) := by decide +kernel
theorem dX6_danger_27 : decode cX6_danger 27 = .ok (.iconst 0, 1) := by decide +kernel
theorem dX6_danger_28 : decode cX6_danger 28 = .ok (.ireturn, 1) := by decide +kernel
theorem dX6_sight_0 : decode cX6_sight 0 = .ok (.aload_n 0, 1) := by decide +kernel
theorem dX6_sight_1 : decode cX6_sight 1 = .ok (.iload_n 1, 1) := by decide +kernel
theorem dX6_sight_2 : decode cX6_sight 2 = .ok (.invokevirtual 83, 3) := by decide +kernel
theorem dX6_sight_5 : decode cX6_sight 5 = .ok (.ifCond .eq 11, 3) := by decide +kernel
theorem dX6_sight_8 : decode cX6_sight 8 = .ok (.aload_n 0, 1) := by decide +kernel
theorem dX6_sight_9 : decode cX6_sight 9 = .ok (.iload_n 2, 1) := by decide +kernel
theorem dX6_sight_10 : decode cX6_sight 10 = .ok (.invokevirtual 186, 3) := by decide +kernel
theorem dX6_sight_13 : decode cX6_sight 13 = .ok (.ifCond .ne 8, 3) := by decide +kernel
theorem dX6_sight_16 : decode cX6_sight 16 = .ok (.aload_n 0, 1) := by decide +kernel
theorem dX6_sight_17 : decode cX6_sight 17 = .ok (.invokevirtual 79, 3) := by decide +kernel
theorem dX6_sight_20 : decode cX6_sight 20 = .ok (.ireturn, 1) := by decide +kernel
theorem dX6_sight_21 : decode cX6_sight 21 = .ok (.aload_n 0, 1) := by decide +kernel
theorem dX6_sight_22 : decode cX6_sight 22 = .ok (.getfield 7, 3) := by decide +kernel
theorem dX6_sight_25 : decode cX6_sight 25 = .ok (.iconst 3, 1) := by decide +kernel
theorem dX6_sight_26 : decode cX6_sight 26 = .ok (.iaload, 1) := by decide +kernel
theorem dX6_sight_27 : decode cX6_sight 27 = .ok (.bipush 8, 2) := by decide +kernel
theorem dX6_sight_29 : decode cX6_sight 29 = .ok (.if_icmp .ne 8, 3) := by decide +kernel
theorem dX6_sight_32 : decode cX6_sight 32 = .ok (.aload_n 0, 1) := by decide +kernel
theorem dX6_sight_33 : decode cX6_sight 33 = .ok (.invokevirtual 91, 3) := by decide +kernel
theorem dX6_sight_36 : decode cX6_sight 36 = .ok (.ireturn, 1) := by decide +kernel
theorem dX6_sight_37 : decode cX6_sight 37 = .ok (.aload_n 0, 1) := by decide +kernel
theorem dX6_sight_38 : decode cX6_sight 38 = .ok (.getfield 7, 3) := by decide +kernel
theorem dX6_sight_41 : decode cX6_sight 41 = .ok (.bipush 62, 2) := by decide +kernel
theorem dX6_sight_43 : decode cX6_sight 43 = .ok (.iconst 2, 1) := by decide +kernel
theorem dX6_sight_44 : decode cX6_sight 44 = .ok (.aload_n 0, 1) := by decide +kernel
theorem dX6_sight_45 : decode cX6_sight 45 = .ok (.getfield 7, 3) := by decide +kernel
theorem dX6_sight_48 : decode cX6_sight 48 = .ok (.iconst 3, 1) := by decide +kernel
theorem dX6_sight_49 : decode cX6_sight 49 = .ok (.iaload, 1) := by decide +kernel
theorem dX6_sight_50 : decode cX6_sight 50 = .ok (.imul, 1) := by decide +kernel
theorem dX6_sight_51 : decode cX6_sight 51 = .ok (.iadd, 1) := by decide +kernel
theorem dX6_sight_52 : decode cX6_sight 52 = .ok (.iload_n 1, 1) := by decide +kernel
theorem dX6_sight_53 : decode cX6_sight 53 = .ok (.iastore, 1) := by decide +kernel
theorem dX6_sight_54 : decode cX6_sight 54 = .ok (.aload_n 0, 1) := by decide +kernel
theorem dX6_sight_55 : decode cX6_sight 55 = .ok (.getfield 7, 3) := by decide +kernel
theorem dX6_sight_58 : decode cX6_sight 58 = .ok (.bipush 62, 2) := by decide +kernel
theorem dX6_sight_60 : decode cX6_sight 60 = .ok (.iconst 2, 1) := by decide +kernel
theorem dX6_sight_61 : decode cX6_sight 61 = .ok (.aload_n 0, 1) := by decide +kernel
theorem dX6_sight_62 : decode cX6_sight 62 = .ok (.getfield 7, 3) := by decide +kernel
theorem dX6_sight_65 : decode cX6_sight 65 = .ok (.iconst 3, 1) := by decide +kernel
theorem dX6_sight_66 : decode cX6_sight 66 = .ok (.iaload, 1) := by decide +kernel
theorem dX6_sight_67 : decode cX6_sight 67 = .ok (.imul, 1) := by decide +kernel
theorem dX6_sight_68 : decode cX6_sight 68 = .ok (.iadd, 1) := by decide +kernel
theorem dX6_sight_69 : decode cX6_sight 69 = .ok (.iconst 1, 1) := by decide +kernel
theorem dX6_sight_70 : decode cX6_sight 70 = .ok (.iadd, 1) := by decide +kernel
theorem dX6_sight_71 : decode cX6_sight 71 = .ok (.iload_n 2, 1) := by decide +kernel
theorem dX6_sight_72 : decode cX6_sight 72 = .ok (.iastore, 1) := by decide +kernel
theorem dX6_sight_73 : decode cX6_sight 73 = .ok (.aload_n 0, 1) := by decide +kernel
theorem dX6_sight_74 : decode cX6_sight 74 = .ok (.getfield 7, 3) := by decide +kernel
theorem dX6_sight_77 : decode cX6_sight 77 = .ok (.iconst 3, 1) := by decide +kernel
theorem dX6_sight_78 : decode cX6_sight 78 = .ok (.dup2, 1) := by decide +kernel
theorem dX6_sight_79 : decode cX6_sight 79 = .ok (.iaload, 1) := by decide +kernel
theorem dX6_sight_80 : decode cX6_sight 80 = .ok (.iconst 1, 1) := by decide +kernel
theorem dX6_sight_81 : decode cX6_sight 81 = .ok (.iadd, 1) := by decide +kernel
theorem dX6_sight_82 : decode cX6_sight 82 = .ok (.iastore, 1) := by decide +kernel
theorem dX6_sight_83 : decode cX6_sight 83 = .ok (.aload_n 0, 1) := by decide +kernel
theorem dX6_sight_84 : decode cX6_sight 84 = .ok (.getfield 7, 3) := by decide +kernel
theorem dX6_sight_87 : decode cX6_sight 87 = .ok (.iconst 3, 1) := by decide +kernel
theorem dX6_sight_88 : decode cX6_sight 88 = .ok (.iaload, 1) := by decide +kernel
theorem dX6_sight_89 : decode cX6_sight 89 = .ok (.iconst 1, 1) := by decide +kernel
theorem dX6_sight_90 : decode cX6_sight 90 = .ok (.isub, 1) := by decide +kernel
theorem dX6_sight_91 : decode cX6_sight 91 = .ok (.ireturn, 1) := by decide +kernel
theorem dX6_none_0 : decode cX6_none 0 = .ok (.iload_n 1, 1) := by decide +kernel
theorem dX6_none_1 : decode cX6_none 1 = .ok (.i2l, 1) := by decide +kernel
theorem dX6_none_2 : decode cX6_none 2 = .ok (.lconst 0, 1) := by decide +kernel
theorem dX6_none_3 : decode cX6_none 3 = .ok (.lconst 1, 1) := by decide +kernel
theorem dX6_none_4 : decode cX6_none 4 = .ok (.invokestatic 56, 3) := by decide +kernel
theorem dX6_none_7 : decode cX6_none 7 = .ok (.ifCond .ne 8, 3) := by decide +kernel
theorem dX6_none_10 : decode cX6_none 10 = .ok (.aload_n 0, 1) := by decide +kernel
theorem dX6_none_11 : decode cX6_none 11 = .ok (.invokevirtual 79, 3) := by decide +kernel
theorem dX6_none_14 : decode cX6_none 14 = .ok (.ireturn, 1) := by decide +kernel
theorem dX6_none_15 : decode cX6_none 15 = .ok (.aload_n 0, 1) := by decide +kernel
theorem dX6_none_16 : decode cX6_none 16 = .ok (.getfield 7, 3) := by decide +kernel
theorem dX6_none_19 : decode cX6_none 19 = .ok (.iconst 2, 1) := by decide +kernel
theorem dX6_none_20 : decode cX6_none 20 = .ok (.iload_n 1, 1) := by decide +kernel
theorem dX6_none_21 : decode cX6_none 21 = .ok (.iadd, 1) := by decide +kernel
theorem dX6_none_22 : decode cX6_none 22 = .ok (.iaload, 1) := by decide +kernel
theorem dX6_none_23 : decode cX6_none 23 = .ok (.istore_n 2, 1) := by decide +kernel
theorem dX6_none_24 : decode cX6_none 24 = .ok (.aload_n 0, 1) := by decide +kernel
theorem dX6_none_25 : decode cX6_none 25 = .ok (.getfield 7, 3) := by decide +kernel
theorem dX6_none_28 : decode cX6_none 28 = .ok (.iconst 2, 1) := by decide +kernel
theorem dX6_none_29 : decode cX6_none 29 = .ok (.iload_n 1, 1) := by decide +kernel
theorem dX6_none_30 : decode cX6_none 30 = .ok (.iadd, 1) := by decide +kernel
theorem dX6_none_31 : decode cX6_none 31 = .ok (.iconst 0, 1) := by decide +kernel
theorem dX6_none_32 : decode cX6_none 32 = .ok (.iastore, 1) := by decide +kernel
theorem dX6_none_33 : decode cX6_none 33 = .ok (.iload_n 2, 1) := by decide +kernel
theorem dX6_none_34 : decode cX6_none 34 = .ok (.ireturn, 1) := by decide +kernel
theorem dX6_fits_0 : decode cX6_fits 0 = .ok (.iload_n 1, 1) := by decide +kernel
theorem dX6_fits_1 : decode cX6_fits 1 = .ok (.i2l, 1) := by decide +kernel
theorem dX6_fits_2 : decode cX6_fits 2 = .ok (.lconst 0, 1) := by decide +kernel
theorem dX6_fits_3 : decode cX6_fits 3 = .ok (.lconst 1, 1) := by decide +kernel
theorem dX6_fits_4 : decode cX6_fits 4 = .ok (.invokestatic 56, 3) := by decide +kernel
theorem dX6_fits_7 : decode cX6_fits 7 = .ok (.ifCond .ne 8, 3) := by decide +kernel
theorem dX6_fits_10 : decode cX6_fits 10 = .ok (.aload_n 0, 1) := by decide +kernel
theorem dX6_fits_11 : decode cX6_fits 11 = .ok (.invokevirtual 79, 3) := by decide +kernel
theorem dX6_fits_14 : decode cX6_fits 14 = .ok (.ireturn, 1) := by decide +kernel
theorem dX6_fits_15 : decode cX6_fits 15 = .ok (.iconst 0, 1) := by decide +kernel
theorem dX6_fits_16 : decode cX6_fits 16 = .ok (.istore_n 2, 1) := by decide +kernel
theorem dX6_fits_17 : decode cX6_fits 17 = .ok (.iconst (-1), 1) := by decide +kernel
theorem dX6_fits_18 : decode cX6_fits 18 = .ok (.istore_n 3, 1) := by decide +kernel
theorem dX6_fits_19 : decode cX6_fits 19 = .ok (.iconst 0, 1) := by decide +kernel
theorem dX6_fits_20 : decode cX6_fits 20 = .ok (.istore 4, 2) := by decide +kernel
theorem dX6_fits_22 : decode cX6_fits 22 = .ok (.iload 4, 2) := by decide +kernel
theorem dX6_fits_24 : decode cX6_fits 24 = .ok (.aload_n 0, 1) := by decide +kernel
theorem dX6_fits_25 : decode cX6_fits 25 = .ok (.invokevirtual 176, 3) := by decide +kernel
theorem dX6_fits_28 : decode cX6_fits 28 = .ok (.if_icmp .gt 122, 3) := by decide +kernel
theorem dX6_fits_31 : decode cX6_fits 31 = .ok (.iconst 1, 1) := by decide +kernel
theorem dX6_fits_32 : decode cX6_fits 32 = .ok (.istore 5, 2) := by decide +kernel
theorem dX6_fits_34 : decode cX6_fits 34 = .ok (.iconst 0, 1) := by decide +kernel
theorem dX6_fits_35 : decode cX6_fits 35 = .ok (.istore 6, 2) := by decide +kernel
theorem dX6_fits_37 : decode cX6_fits 37 = .ok (.iconst 0, 1) := by decide +kernel
theorem dX6_fits_38 : decode cX6_fits 38 = .ok (.istore 7, 2) := by decide +kernel
theorem dX6_fits_40 : decode cX6_fits 40 = .ok (.iload 7, 2) := by decide +kernel
theorem dX6_fits_42 : decode cX6_fits 42 = .ok (.aload_n 0, 1) := by decide +kernel
theorem dX6_fits_43 : decode cX6_fits 43 = .ok (.getfield 7, 3) := by decide +kernel
theorem dX6_fits_46 : decode cX6_fits 46 = .ok (.iconst 3, 1) := by decide +kernel
theorem dX6_fits_47 : decode cX6_fits 47 = .ok (.iaload, 1) := by decide +kernel
theorem dX6_fits_48 : decode cX6_fits 48 = .ok (.if_icmp .ge 66, 3) := by decide +kernel
theorem dX6_fits_51 : decode cX6_fits 51 = .ok (.iload 5, 2) := by decide +kernel
theorem dX6_fits_53 : decode cX6_fits 53 = .ok (.ifCond .eq 61, 3) := by decide +kernel
theorem dX6_fits_56 : decode cX6_fits 56 = .ok (.aload_n 0, 1) := by decide +kernel
theorem dX6_fits_57 : decode cX6_fits 57 = .ok (.getfield 7, 3) := by decide +kernel
theorem dX6_fits_60 : decode cX6_fits 60 = .ok (.bipush 62, 2) := by decide +kernel
theorem dX6_fits_62 : decode cX6_fits 62 = .ok (.iconst 2, 1) := by decide +kernel
theorem dX6_fits_63 : decode cX6_fits 63 = .ok (.iload 7, 2) := by decide +kernel
theorem dX6_fits_65 : decode cX6_fits 65 = .ok (.imul, 1) := by decide +kernel
theorem dX6_fits_66 : decode cX6_fits 66 = .ok (.iadd, 1) := by decide +kernel
theorem dX6_fits_67 : decode cX6_fits 67 = .ok (.iconst 1, 1) := by decide +kernel
theorem dX6_fits_68 : decode cX6_fits 68 = .ok (.iadd, 1) := by decide +kernel
theorem dX6_fits_69 : decode cX6_fits 69 = .ok (.iaload, 1) := by decide +kernel
theorem dX6_fits_70 : decode cX6_fits 70 = .ok (.istore 8, 2) := by decide +kernel
theorem dX6_fits_72 : decode cX6_fits 72 = .ok (.aload_n 0, 1) := by decide +kernel
theorem dX6_fits_73 : decode cX6_fits 73 = .ok (.iload 6, 2) := by decide +kernel
theorem dX6_fits_75 : decode cX6_fits 75 = .ok (.aload_n 0, 1) := by decide +kernel
theorem dX6_fits_76 : decode cX6_fits 76 = .ok (.getfield 7, 3) := by decide +kernel
theorem dX6_fits_79 : decode cX6_fits 79 = .ok (.bipush 62, 2) := by decide +kernel
theorem dX6_fits_81 : decode cX6_fits 81 = .ok (.iconst 2, 1) := by decide +kernel
theorem dX6_fits_82 : decode cX6_fits 82 = .ok (.iload 7, 2) := by decide +kernel
theorem dX6_fits_84 : decode cX6_fits 84 = .ok (.imul, 1) := by decide +kernel
theorem dX6_fits_85 : decode cX6_fits 85 = .ok (.iadd, 1) := by decide +kernel
theorem dX6_fits_86 : decode cX6_fits 86 = .ok (.iaload, 1) := by decide +kernel
theorem dX6_fits_87 : decode cX6_fits 87 = .ok (.iload 4, 2) := by decide +kernel
theorem dX6_fits_89 : decode cX6_fits 89 = .ok (.invokevirtual 179, 3) := by decide +kernel
theorem dX6_fits_92 : decode cX6_fits 92 = .ok (.iload 8, 2) := by decide +kernel
theorem dX6_fits_94 : decode cX6_fits 94 = .ok (.if_icmp .ne 7, 3) := by decide +kernel
theorem dX6_fits_97 : decode cX6_fits 97 = .ok (.iconst 1, 1) := by decide +kernel
theorem dX6_fits_98 : decode cX6_fits 98 = .ok (.goto 4, 3) := by decide +kernel
theorem dX6_fits_101 : decode cX6_fits 101 = .ok (.iconst 0, 1) := by decide +kernel
theorem dX6_fits_102 : decode cX6_fits 102 = .ok (.istore 5, 2) := by decide +kernel
theorem dX6_fits_104 : decode cX6_fits 104 = .ok (.iload 8, 2) := by decide +kernel
theorem dX6_fits_106 : decode cX6_fits 106 = .ok (.istore 6, 2) := by decide +kernel
theorem dX6_fits_108 : decode cX6_fits 108 = .ok (.iinc 7 1, 3) := by decide +kernel
theorem dX6_fits_111 : decode cX6_fits 111 = .ok (.goto (-71), 3) := by decide +kernel
theorem dX6_fits_114 : decode cX6_fits 114 = .ok (.iload_n 2, 1) := by decide +kernel
theorem dX6_fits_115 : decode cX6_fits 115 = .ok (.iload 5, 2) := by decide +kernel
theorem dX6_fits_117 : decode cX6_fits 117 = .ok (.ifCond .eq 7, 3) := by decide +kernel
theorem dX6_fits_120 : decode cX6_fits 120 = .ok (.iconst 1, 1) := by decide +kernel
theorem dX6_fits_121 : decode cX6_fits 121 = .ok (.goto 4, 3) := by decide +kernel
theorem dX6_fits_124 : decode cX6_fits 124 = .ok (.iconst 0, 1) := by decide +kernel
theorem dX6_fits_125 : decode cX6_fits 125 = .ok (.iadd, 1) := by decide +kernel
theorem dX6_fits_126 : decode cX6_fits 126 = .ok (.istore_n 2, 1) := by decide +kernel
theorem dX6_fits_127 : decode cX6_fits 127 = .ok (.iload 5, 2) := by decide +kernel
theorem dX6_fits_129 : decode cX6_fits 129 = .ok (.ifCond .eq 13, 3) := by decide +kernel
theorem dX6_fits_132 : decode cX6_fits 132 = .ok (.iload_n 3, 1) := by decide +kernel
theorem dX6_fits_133 : decode cX6_fits 133 = .ok (.iconst (-1), 1) := by decide +kernel
theorem dX6_fits_134 : decode cX6_fits 134 = .ok (.if_icmp .ne 8, 3) := by decide +kernel
theorem dX6_fits_137 : decode cX6_fits 137 = .ok (.iload 4, 2) := by decide +kernel
theorem dX6_fits_139 : decode cX6_fits 139 = .ok (.goto 4, 3) := by decide +kernel
theorem dX6_fits_142 : decode cX6_fits 142 = .ok (.iload_n 3, 1) := by decide +kernel
theorem dX6_fits_143 : decode cX6_fits 143 = .ok (.istore_n 3, 1) := by decide +kernel
theorem dX6_fits_144 : decode cX6_fits 144 = .ok (.iinc 4 1, 3) := by decide +kernel
theorem dX6_fits_147 : decode cX6_fits 147 = .ok (.goto (-125), 3) := by decide +kernel
theorem dX6_fits_150 : decode cX6_fits 150 = .ok (.iload_n 1, 1) := by decide +kernel
theorem dX6_fits_151 : decode cX6_fits 151 = .ok (.ifCond .ne 7, 3) := by decide +kernel
theorem dX6_fits_154 : decode cX6_fits 154 = .ok (.iload_n 2, 1) := by decide +kernel
theorem dX6_fits_155 : decode cX6_fits 155 = .ok (.goto 16, 3) := by decide +kernel
theorem dX6_fits_158 : decode cX6_fits 158 = .ok (.iload_n 3, 1) := by decide +kernel
theorem dX6_fits_159 : decode cX6_fits 159 = .ok (.iconst (-1), 1) := by decide +kernel
theorem dX6_fits_160 : decode cX6_fits 160 = .ok (.if_icmp .ne 10, 3) := by decide +kernel
theorem dX6_fits_163 : decode cX6_fits 163 = .ok (.aload_n 0, 1) := by decide +kernel
theorem dX6_fits_164 : decode cX6_fits 164 = .ok (.invokevirtual 98, 3) := by decide +kernel
theorem dX6_fits_167 : decode cX6_fits 167 = .ok (.goto 4, 3) := by decide +kernel
theorem dX6_fits_170 : decode cX6_fits 170 = .ok (.iload_n 3, 1) := by decide +kernel
theorem dX6_fits_171 : decode cX6_fits 171 = .ok (.ireturn, 1) := by decide +kernel
theorem dX6_image_0 : decode cX6_image 0 = .ok (.iload_n 1, 1) := by decide +kernel
theorem dX6_image_1 : decode cX6_image 1 = .ok (.i2l, 1) := by decide +kernel
theorem dX6_image_2 : decode cX6_image 2 = .ok (.lconst 0, 1) := by decide +kernel
theorem dX6_image_3 : decode cX6_image 3 = .ok (.lconst 1, 1) := by decide +kernel
theorem dX6_image_4 : decode cX6_image 4 = .ok (.invokestatic 56, 3) := by decide +kernel
theorem dX6_image_7 : decode cX6_image 7 = .ok (.ifCond .ne 8, 3) := by decide +kernel
theorem dX6_image_10 : decode cX6_image 10 = .ok (.aload_n 0, 1) := by decide +kernel
theorem dX6_image_11 : decode cX6_image 11 = .ok (.invokevirtual 79, 3) := by decide +kernel
theorem dX6_image_14 : decode cX6_image 14 = .ok (.ireturn, 1) := by decide +kernel
theorem dX6_image_15 : decode cX6_image 15 = .ok (.iconst 0, 1) := by decide +kernel
theorem dX6_image_16 : decode cX6_image 16 = .ok (.istore_n 2, 1) := by decide +kernel
theorem dX6_image_17 : decode cX6_image 17 = .ok (.iload_n 2, 1) := by decide +kernel
theorem dX6_image_18 : decode cX6_image 18 = .ok (.bipush 98, 2) := by decide +kernel
theorem dX6_image_20 : decode cX6_image 20 = .ok (.if_icmp .ge 26, 3) := by decide +kernel
theorem dX6_image_23 : decode cX6_image 23 = .ok (.aload_n 0, 1) := by decide +kernel
theorem dX6_image_24 : decode cX6_image 24 = .ok (.getfield 13, 3) := by decide +kernel
theorem dX6_image_27 : decode cX6_image 27 = .ok (.bipush 98, 2) := by decide +kernel
theorem dX6_image_29 : decode cX6_image 29 = .ok (.iload_n 1, 1) := by decide +kernel
theorem dX6_image_30 : decode cX6_image 30 = .ok (.imul, 1) := by decide +kernel
theorem dX6_image_31 : decode cX6_image 31 = .ok (.iload_n 2, 1) := by decide +kernel
theorem dX6_image_32 : decode cX6_image 32 = .ok (.iadd, 1) := by decide +kernel
theorem dX6_image_33 : decode cX6_image 33 = .ok (.aload_n 0, 1) := by decide +kernel
theorem dX6_image_34 : decode cX6_image 34 = .ok (.getfield 7, 3) := by decide +kernel
theorem dX6_image_37 : decode cX6_image 37 = .ok (.iload_n 2, 1) := by decide +kernel
theorem dX6_image_38 : decode cX6_image 38 = .ok (.iaload, 1) := by decide +kernel
theorem dX6_image_39 : decode cX6_image 39 = .ok (.iastore, 1) := by decide +kernel
theorem dX6_image_40 : decode cX6_image 40 = .ok (.iinc 2 1, 3) := by decide +kernel
theorem dX6_image_43 : decode cX6_image 43 = .ok (.goto (-26), 3) := by decide +kernel
theorem dX6_image_46 : decode cX6_image 46 = .ok (.aload_n 0, 1) := by decide +kernel
theorem dX6_image_47 : decode cX6_image 47 = .ok (.getfield 16, 3) := by decide +kernel
theorem dX6_image_50 : decode cX6_image 50 = .ok (.iload_n 1, 1) := by decide +kernel
theorem dX6_image_51 : decode cX6_image 51 = .ok (.iconst 1, 1) := by decide +kernel
theorem dX6_image_52 : decode cX6_image 52 = .ok (.bastore, 1) := by decide +kernel
theorem dX6_image_53 : decode cX6_image 53 = .ok (.iconst 1, 1) := by decide +kernel
theorem dX6_image_54 : decode cX6_image 54 = .ok (.ireturn, 1) := by decide +kernel
theorem dX6_from_0 : decode cX6_from 0 = .ok (.iload_n 1, 1) := by decide +kernel
theorem dX6_from_1 : decode cX6_from 1 = .ok (.i2l, 1) := by decide +kernel
theorem dX6_from_2 : decode cX6_from 2 = .ok (.lconst 0, 1) := by decide +kernel
theorem dX6_from_3 : decode cX6_from 3 = .ok (.lconst 1, 1) := by decide +kernel
theorem dX6_from_4 : decode cX6_from 4 = .ok (.invokestatic 56, 3) := by decide +kernel
theorem dX6_from_7 : decode cX6_from 7 = .ok (.ifCond .ne 8, 3) := by decide +kernel
theorem dX6_from_10 : decode cX6_from 10 = .ok (.aload_n 0, 1) := by decide +kernel
theorem dX6_from_11 : decode cX6_from 11 = .ok (.invokevirtual 79, 3) := by decide +kernel
theorem dX6_from_14 : decode cX6_from 14 = .ok (.ireturn, 1) := by decide +kernel
theorem dX6_from_15 : decode cX6_from 15 = .ok (.aload_n 0, 1) := by decide +kernel
theorem dX6_from_16 : decode cX6_from 16 = .ok (.getfield 16, 3) := by decide +kernel
theorem dX6_from_19 : decode cX6_from 19 = .ok (.iload_n 1, 1) := by decide +kernel
theorem dX6_from_20 : decode cX6_from 20 = .ok (.baload, 1) := by decide +kernel
theorem dX6_from_21 : decode cX6_from 21 = .ok (.ifCond .ne 8, 3) := by decide +kernel
theorem dX6_from_24 : decode cX6_from 24 = .ok (.aload_n 0, 1) := by decide +kernel
theorem dX6_from_25 : decode cX6_from 25 = .ok (.invokevirtual 98, 3) := by decide +kernel
theorem dX6_from_28 : decode cX6_from 28 = .ok (.ireturn, 1) := by decide +kernel
theorem dX6_from_29 : decode cX6_from 29 = .ok (.iconst 0, 1) := by decide +kernel
theorem dX6_from_30 : decode cX6_from 30 = .ok (.istore_n 2, 1) := by decide +kernel
theorem dX6_from_31 : decode cX6_from 31 = .ok (.iload_n 2, 1) := by decide +kernel
theorem dX6_from_32 : decode cX6_from 32 = .ok (.bipush 98, 2) := by decide +kernel
theorem dX6_from_34 : decode cX6_from 34 = .ok (.if_icmp .ge 26, 3) := by decide +kernel
theorem dX6_from_37 : decode cX6_from 37 = .ok (.aload_n 0, 1) := by decide +kernel
theorem dX6_from_38 : decode cX6_from 38 = .ok (.getfield 7, 3) := by decide +kernel
theorem dX6_from_41 : decode cX6_from 41 = .ok (.iload_n 2, 1) := by decide +kernel
theorem dX6_from_42 : decode cX6_from 42 = .ok (.aload_n 0, 1) := by decide +kernel
theorem dX6_from_43 : decode cX6_from 43 = .ok (.getfield 13, 3) := by decide +kernel
theorem dX6_from_46 : decode cX6_from 46 = .ok (.bipush 98, 2) := by decide +kernel
theorem dX6_from_48 : decode cX6_from 48 = .ok (.iload_n 1, 1) := by decide +kernel
theorem dX6_from_49 : decode cX6_from 49 = .ok (.imul, 1) := by decide +kernel
theorem dX6_from_50 : decode cX6_from 50 = .ok (.iload_n 2, 1) := by decide +kernel
theorem dX6_from_51 : decode cX6_from 51 = .ok (.iadd, 1) := by decide +kernel
theorem dX6_from_52 : decode cX6_from 52 = .ok (.iaload, 1) := by decide +kernel
theorem dX6_from_53 : decode cX6_from 53 = .ok (.iastore, 1) := by decide +kernel
theorem dX6_from_54 : decode cX6_from 54 = .ok (.iinc 2 1, 3) := by decide +kernel
theorem dX6_from_57 : decode cX6_from 57 = .ok (.goto (-26), 3) := by decide +kernel
theorem dX6_from_60 : decode cX6_from 60 = .ok (.iconst 1, 1) := by decide +kernel
theorem dX6_from_61 : decode cX6_from 61 = .ok (.ireturn, 1) := by decide +kernel
theorem dX6_status_0 : decode cX6_status 0 = .ok (.iload_n 1, 1) := by decide +kernel
theorem dX6_status_1 : decode cX6_status 1 = .ok (.i2l, 1) := by decide +kernel
theorem dX6_status_2 : decode cX6_status 2 = .ok (.lconst 0, 1) := by decide +kernel
theorem dX6_status_3 : decode cX6_status 3 = .ok (.ldc2_w 75, 3) := by decide +kernel
theorem dX6_status_6 : decode cX6_status 6 = .ok (.invokestatic 56, 3) := by decide +kernel
theorem dX6_status_9 : decode cX6_status 9 = .ok (.ifCond .eq 12, 3) := by decide +kernel
theorem dX6_status_12 : decode cX6_status 12 = .ok (.aload_n 0, 1) := by decide +kernel
theorem dX6_status_13 : decode cX6_status 13 = .ok (.getfield 23, 3) := by decide +kernel
theorem dX6_status_16 : decode cX6_status 16 = .ok (.iload_n 1, 1) := by decide +kernel
theorem dX6_status_17 : decode cX6_status 17 = .ok (.iaload, 1) := by decide +kernel
theorem dX6_status_18 : decode cX6_status 18 = .ok (.goto 9, 3) := by decide +kernel
theorem dX6_status_21 : decode cX6_status 21 = .ok (.aload_n 0, 1) := by decide +kernel
theorem dX6_status_22 : decode cX6_status 22 = .ok (.iconst 0, 1) := by decide +kernel
theorem dX6_status_23 : decode cX6_status 23 = .ok (.iconst (-1), 1) := by decide +kernel
theorem dX6_status_24 : decode cX6_status 24 = .ok (.invokevirtual 52, 3) := by decide +kernel
theorem dX6_status_27 : decode cX6_status 27 = .ok (.ireturn, 1) := by decide +kernel
theorem dX6_countOf_0 : decode cX6_countOf 0 = .ok (.iload_n 1, 1) := by decide +kernel
theorem dX6_countOf_1 : decode cX6_countOf 1 = .ok (.iconst 4, 1) := by decide +kernel
theorem dX6_countOf_2 : decode cX6_countOf 2 = .ok (.if_icmp .ge 12, 3) := by decide +kernel
theorem dX6_countOf_5 : decode cX6_countOf 5 = .ok (.aload_n 0, 1) := by decide +kernel
theorem dX6_countOf_6 : decode cX6_countOf 6 = .ok (.getfield 7, 3) := by decide +kernel
theorem dX6_countOf_9 : decode cX6_countOf 9 = .ok (.iload_n 1, 1) := by decide +kernel
theorem dX6_countOf_10 : decode cX6_countOf 10 = .ok (.iaload, 1) := by decide +kernel
theorem dX6_countOf_11 : decode cX6_countOf 11 = .ok (.goto 37, 3) := by decide +kernel
theorem dX6_countOf_14 : decode cX6_countOf 14 = .ok (.iload_n 1, 1) := by decide +kernel
theorem dX6_countOf_15 : decode cX6_countOf 15 = .ok (.iconst 4, 1) := by decide +kernel
theorem dX6_countOf_16 : decode cX6_countOf 16 = .ok (.if_icmp .ne 10, 3) := by decide +kernel
theorem dX6_countOf_19 : decode cX6_countOf 19 = .ok (.aload_n 0, 1) := by decide +kernel
theorem dX6_countOf_20 : decode cX6_countOf 20 = .ok (.getfield 107, 3) := by decide +kernel
theorem dX6_countOf_23 : decode cX6_countOf 23 = .ok (.goto 25, 3) := by decide +kernel
theorem dX6_countOf_26 : decode cX6_countOf 26 = .ok (.iload_n 1, 1) := by decide +kernel
theorem dX6_countOf_27 : decode cX6_countOf 27 = .ok (.iconst 5, 1) := by decide +kernel
theorem dX6_countOf_28 : decode cX6_countOf 28 = .ok (.if_icmp .ne 13, 3) := by decide +kernel
theorem dX6_countOf_31 : decode cX6_countOf 31 = .ok (.aload_n 0, 1) := by decide +kernel
theorem dX6_countOf_32 : decode cX6_countOf 32 = .ok (.getfield 7, 3) := by decide +kernel
theorem dX6_countOf_35 : decode cX6_countOf 35 = .ok (.bipush 8, 2) := by decide +kernel
theorem dX6_countOf_37 : decode cX6_countOf 37 = .ok (.iaload, 1) := by decide +kernel
theorem dX6_countOf_38 : decode cX6_countOf 38 = .ok (.goto 10, 3) := by decide +kernel
theorem dX6_countOf_41 : decode cX6_countOf 41 = .ok (.aload_n 0, 1) := by decide +kernel
theorem dX6_countOf_42 : decode cX6_countOf 42 = .ok (.getfield 7, 3) := by decide +kernel
theorem dX6_countOf_45 : decode cX6_countOf 45 = .ok (.bipush 7, 2) := by decide +kernel
theorem dX6_countOf_47 : decode cX6_countOf 47 = .ok (.iaload, 1) := by decide +kernel
theorem dX6_countOf_48 : decode cX6_countOf 48 = .ok (.ireturn, 1) := by decide +kernel
theorem dX6_count_0 : decode cX6_count 0 = .ok (.iload_n 1, 1) := by decide +kernel
theorem dX6_count_1 : decode cX6_count 1 = .ok (.i2l, 1) := by decide +kernel
theorem dX6_count_2 : decode cX6_count 2 = .ok (.lconst 0, 1) := by decide +kernel
theorem dX6_count_3 : decode cX6_count 3 = .ok (.ldc2_w 101, 3) := by decide +kernel
theorem dX6_count_6 : decode cX6_count 6 = .ok (.invokestatic 56, 3) := by decide +kernel
theorem dX6_count_9 : decode cX6_count 9 = .ok (.ifCond .eq 11, 3) := by decide +kernel
theorem dX6_count_12 : decode cX6_count 12 = .ok (.aload_n 0, 1) := by decide +kernel
theorem dX6_count_13 : decode cX6_count 13 = .ok (.iload_n 1, 1) := by decide +kernel
theorem dX6_count_14 : decode cX6_count 14 = .ok (.invokevirtual 232, 3) := by decide +kernel
theorem dX6_count_17 : decode cX6_count 17 = .ok (.goto 7, 3) := by decide +kernel
theorem dX6_count_20 : decode cX6_count 20 = .ok (.aload_n 0, 1) := by decide +kernel
theorem dX6_count_21 : decode cX6_count 21 = .ok (.invokevirtual 79, 3) := by decide +kernel
theorem dX6_count_24 : decode cX6_count 24 = .ok (.ireturn, 1) := by decide +kernel
theorem dX6_mixed_0 : decode cX6_mixed 0 = .ok (.lload_n 1, 1) := by decide +kernel
theorem dX6_mixed_1 : decode cX6_mixed 1 = .ok (.lstore 5, 2) := by decide +kernel
theorem dX6_mixed_3 : decode cX6_mixed 3 = .ok (.iconst 0, 1) := by decide +kernel
theorem dX6_mixed_4 : decode cX6_mixed 4 = .ok (.istore 7, 2) := by decide +kernel
theorem dX6_mixed_6 : decode cX6_mixed 6 = .ok (.iload 7, 2) := by decide +kernel
theorem dX6_mixed_8 : decode cX6_mixed 8 = .ok (.iload 4, 2) := by decide +kernel
theorem dX6_mixed_10 : decode cX6_mixed 10 = .ok (.if_icmp .ge 28, 3) := by decide +kernel
theorem dX6_mixed_13 : decode cX6_mixed 13 = .ok (.ldc2_w 235, 3) := by decide +kernel
theorem dX6_mixed_16 : decode cX6_mixed 16 = .ok (.lload 5, 2) := by decide +kernel
theorem dX6_mixed_18 : decode cX6_mixed 18 = .ok (.lmul, 1) := by decide +kernel
theorem dX6_mixed_19 : decode cX6_mixed 19 = .ok (.aload_n 0, 1) := by decide +kernel
theorem dX6_mixed_20 : decode cX6_mixed 20 = .ok (.getfield 7, 3) := by decide +kernel
theorem dX6_mixed_23 : decode cX6_mixed 23 = .ok (.iload_n 3, 1) := by decide +kernel
theorem dX6_mixed_24 : decode cX6_mixed 24 = .ok (.iload 7, 2) := by decide +kernel
theorem dX6_mixed_26 : decode cX6_mixed 26 = .ok (.iadd, 1) := by decide +kernel
theorem dX6_mixed_27 : decode cX6_mixed 27 = .ok (.iaload, 1) := by decide +kernel
theorem dX6_mixed_28 : decode cX6_mixed 28 = .ok (.i2l, 1) := by decide +kernel
theorem dX6_mixed_29 : decode cX6_mixed 29 = .ok (.ladd, 1) := by decide +kernel
theorem dX6_mixed_30 : decode cX6_mixed 30 = .ok (.lstore 5, 2) := by decide +kernel
theorem dX6_mixed_32 : decode cX6_mixed 32 = .ok (.iinc 7 1, 3) := by decide +kernel
theorem dX6_mixed_35 : decode cX6_mixed 35 = .ok (.goto (-29), 3) := by decide +kernel
theorem dX6_mixed_38 : decode cX6_mixed 38 = .ok (.lload 5, 2) := by decide +kernel
theorem dX6_mixed_40 : decode cX6_mixed 40 = .ok (.lreturn, 1) := by decide +kernel
theorem dX6_digest_0 : decode cX6_digest 0 = .ok (.ldc2_w 237, 3) := by decide +kernel
theorem dX6_digest_3 : decode cX6_digest 3 = .ok (.lstore_n 1, 1) := by decide +kernel
theorem dX6_digest_4 : decode cX6_digest 4 = .ok (.iconst 0, 1) := by decide +kernel
theorem dX6_digest_5 : decode cX6_digest 5 = .ok (.istore_n 3, 1) := by decide +kernel
theorem dX6_digest_6 : decode cX6_digest 6 = .ok (.iload_n 3, 1) := by decide +kernel
theorem dX6_digest_7 : decode cX6_digest 7 = .ok (.bipush 7, 2) := by decide +kernel
theorem dX6_digest_9 : decode cX6_digest 9 = .ok (.if_icmp .ge 22, 3) := by decide +kernel
theorem dX6_digest_12 : decode cX6_digest 12 = .ok (.ldc2_w 235, 3) := by decide +kernel
theorem dX6_digest_15 : decode cX6_digest 15 = .ok (.lload_n 1, 1) := by decide +kernel
theorem dX6_digest_16 : decode cX6_digest 16 = .ok (.lmul, 1) := by decide +kernel
theorem dX6_digest_17 : decode cX6_digest 17 = .ok (.aload_n 0, 1) := by decide +kernel
theorem dX6_digest_18 : decode cX6_digest 18 = .ok (.iload_n 3, 1) := by decide +kernel
theorem dX6_digest_19 : decode cX6_digest 19 = .ok (.invokevirtual 232, 3) := by decide +kernel
theorem dX6_digest_22 : decode cX6_digest 22 = .ok (.i2l, 1) := by decide +kernel
theorem dX6_digest_23 : decode cX6_digest 23 = .ok (.ladd, 1) := by decide +kernel
theorem dX6_digest_24 : decode cX6_digest 24 = .ok (.lstore_n 1, 1) := by decide +kernel
theorem dX6_digest_25 : decode cX6_digest 25 = .ok (.iinc 3 1, 3) := by decide +kernel
theorem dX6_digest_28 : decode cX6_digest 28 = .ok (.goto (-22), 3) := by decide +kernel
theorem dX6_digest_31 : decode cX6_digest 31 = .ok (.iconst 0, 1) := by decide +kernel
theorem dX6_digest_32 : decode cX6_digest 32 = .ok (.istore_n 3, 1) := by decide +kernel
theorem dX6_digest_33 : decode cX6_digest 33 = .ok (.iload_n 3, 1) := by decide +kernel
theorem dX6_digest_34 : decode cX6_digest 34 = .ok (.aload_n 0, 1) := by decide +kernel
theorem dX6_digest_35 : decode cX6_digest 35 = .ok (.getfield 7, 3) := by decide +kernel
theorem dX6_digest_38 : decode cX6_digest 38 = .ok (.iconst 0, 1) := by decide +kernel
theorem dX6_digest_39 : decode cX6_digest 39 = .ok (.iaload, 1) := by decide +kernel
theorem dX6_digest_40 : decode cX6_digest 40 = .ok (.if_icmp .ge 42, 3) := by decide +kernel
theorem dX6_digest_43 : decode cX6_digest 43 = .ok (.ldc2_w 235, 3) := by decide +kernel
theorem dX6_digest_46 : decode cX6_digest 46 = .ok (.ldc2_w 235, 3) := by decide +kernel
theorem dX6_digest_49 : decode cX6_digest 49 = .ok (.lload_n 1, 1) := by decide +kernel
theorem dX6_digest_50 : decode cX6_digest 50 = .ok (.lmul, 1) := by decide +kernel
theorem dX6_digest_51 : decode cX6_digest 51 = .ok (.aload_n 0, 1) := by decide +kernel
theorem dX6_digest_52 : decode cX6_digest 52 = .ok (.getfield 7, 3) := by decide +kernel
theorem dX6_digest_55 : decode cX6_digest 55 = .ok (.iconst 4, 1) := by decide +kernel
theorem dX6_digest_56 : decode cX6_digest 56 = .ok (.iaload, 1) := by decide +kernel
theorem dX6_digest_57 : decode cX6_digest 57 = .ok (.iload_n 3, 1) := by decide +kernel
theorem dX6_digest_58 : decode cX6_digest 58 = .ok (.ishr, 1) := by decide +kernel
theorem dX6_digest_59 : decode cX6_digest 59 = .ok (.iconst 1, 1) := by decide +kernel
theorem dX6_digest_60 : decode cX6_digest 60 = .ok (.iand, 1) := by decide +kernel
theorem dX6_digest_61 : decode cX6_digest 61 = .ok (.i2l, 1) := by decide +kernel
theorem dX6_digest_62 : decode cX6_digest 62 = .ok (.ladd, 1) := by decide +kernel
theorem dX6_digest_63 : decode cX6_digest 63 = .ok (.lmul, 1) := by decide +kernel
theorem dX6_digest_64 : decode cX6_digest 64 = .ok (.aload_n 0, 1) := by decide +kernel
theorem dX6_digest_65 : decode cX6_digest 65 = .ok (.getfield 7, 3) := by decide +kernel
theorem dX6_digest_68 : decode cX6_digest 68 = .ok (.bipush 9, 2) := by decide +kernel
theorem dX6_digest_70 : decode cX6_digest 70 = .ok (.iload_n 3, 1) := by decide +kernel
theorem dX6_digest_71 : decode cX6_digest 71 = .ok (.iadd, 1) := by decide +kernel
theorem dX6_digest_72 : decode cX6_digest 72 = .ok (.iaload, 1) := by decide +kernel
theorem dX6_digest_73 : decode cX6_digest 73 = .ok (.i2l, 1) := by decide +kernel
theorem dX6_digest_74 : decode cX6_digest 74 = .ok (.ladd, 1) := by decide +kernel
theorem dX6_digest_75 : decode cX6_digest 75 = .ok (.lstore_n 1, 1) := by decide +kernel
theorem dX6_digest_76 : decode cX6_digest 76 = .ok (.iinc 3 1, 3) := by decide +kernel
theorem dX6_digest_79 : decode cX6_digest 79 = .ok (.goto (-46), 3) := by decide +kernel
theorem dX6_digest_82 : decode cX6_digest 82 = .ok (.aload_n 0, 1) := by decide +kernel
theorem dX6_digest_83 : decode cX6_digest 83 = .ok (.lload_n 1, 1) := by decide +kernel
theorem dX6_digest_84 : decode cX6_digest 84 = .ok (.bipush 16, 2) := by decide +kernel
theorem dX6_digest_86 : decode cX6_digest 86 = .ok (.iconst 4, 1) := by decide +kernel
theorem dX6_digest_87 : decode cX6_digest 87 = .ok (.aload_n 0, 1) := by decide +kernel
theorem dX6_digest_88 : decode cX6_digest 88 = .ok (.getfield 7, 3) := by decide +kernel
theorem dX6_digest_91 : decode cX6_digest 91 = .ok (.iconst 1, 1) := by decide +kernel
theorem dX6_digest_92 : decode cX6_digest 92 = .ok (.iaload, 1) := by decide +kernel
theorem dX6_digest_93 : decode cX6_digest 93 = .ok (.imul, 1) := by decide +kernel
theorem dX6_digest_94 : decode cX6_digest 94 = .ok (.invokevirtual 239, 3) := by decide +kernel
theorem dX6_digest_97 : decode cX6_digest 97 = .ok (.lstore_n 1, 1) := by decide +kernel
theorem dX6_digest_98 : decode cX6_digest 98 = .ok (.aload_n 0, 1) := by decide +kernel
theorem dX6_digest_99 : decode cX6_digest 99 = .ok (.lload_n 1, 1) := by decide +kernel
theorem dX6_digest_100 : decode cX6_digest 100 = .ok (.iconst 5, 1) := by decide +kernel
theorem dX6_digest_101 : decode cX6_digest 101 = .ok (.iconst 2, 1) := by decide +kernel
theorem dX6_digest_102 : decode cX6_digest 102 = .ok (.invokevirtual 239, 3) := by decide +kernel
theorem dX6_digest_105 : decode cX6_digest 105 = .ok (.lstore_n 1, 1) := by decide +kernel
theorem dX6_digest_106 : decode cX6_digest 106 = .ok (.aload_n 0, 1) := by decide +kernel
theorem dX6_digest_107 : decode cX6_digest 107 = .ok (.lload_n 1, 1) := by decide +kernel
theorem dX6_digest_108 : decode cX6_digest 108 = .ok (.bipush 56, 2) := by decide +kernel
theorem dX6_digest_110 : decode cX6_digest 110 = .ok (.aload_n 0, 1) := by decide +kernel
theorem dX6_digest_111 : decode cX6_digest 111 = .ok (.getfield 7, 3) := by decide +kernel
theorem dX6_digest_114 : decode cX6_digest 114 = .ok (.iconst 2, 1) := by decide +kernel
theorem dX6_digest_115 : decode cX6_digest 115 = .ok (.iaload, 1) := by decide +kernel
theorem dX6_digest_116 : decode cX6_digest 116 = .ok (.invokevirtual 239, 3) := by decide +kernel
theorem dX6_digest_119 : decode cX6_digest 119 = .ok (.lstore_n 1, 1) := by decide +kernel
theorem dX6_digest_120 : decode cX6_digest 120 = .ok (.aload_n 0, 1) := by decide +kernel
theorem dX6_digest_121 : decode cX6_digest 121 = .ok (.lload_n 1, 1) := by decide +kernel
theorem dX6_digest_122 : decode cX6_digest 122 = .ok (.bipush 62, 2) := by decide +kernel
theorem dX6_digest_124 : decode cX6_digest 124 = .ok (.iconst 2, 1) := by decide +kernel
theorem dX6_digest_125 : decode cX6_digest 125 = .ok (.aload_n 0, 1) := by decide +kernel
theorem dX6_digest_126 : decode cX6_digest 126 = .ok (.getfield 7, 3) := by decide +kernel
theorem dX6_digest_129 : decode cX6_digest 129 = .ok (.iconst 3, 1) := by decide +kernel
theorem dX6_digest_130 : decode cX6_digest 130 = .ok (.iaload, 1) := by decide +kernel
theorem dX6_digest_131 : decode cX6_digest 131 = .ok (.imul, 1) := by decide +kernel
theorem dX6_digest_132 : decode cX6_digest 132 = .ok (.invokevirtual 239, 3) := by decide +kernel
theorem dX6_digest_135 : decode cX6_digest 135 = .ok (.lreturn, 1) := by decide +kernel
