theorem dX3_init_0 : decode cX3_init 0 = .ok (.aload_n 0, 1) := by decide +kernel
theorem dX3_init_1 : decode cX3_init 1 = .ok (.invokespecial 3, 3) := by decide +kernel
theorem dX3_init_4 : decode cX3_init 4 = .ok (.aload_n 0, 1) := by decide +kernel
theorem dX3_init_5 : decode cX3_init 5 = .ok (.new 9, 3) := by decide +kernel
theorem dX3_init_8 : decode cX3_init 8 = .ok (.dup, 1) := by decide +kernel
theorem dX3_init_9 : decode cX3_init 9 = .ok (.sipush 15309, 3) := by decide +kernel
theorem dX3_init_12 : decode cX3_init 12 = .ok (.invokespecial 11, 3) := by decide +kernel
theorem dX3_init_15 : decode cX3_init 15 = .ok (.putfield 14, 3) := by decide +kernel
theorem dX3_init_18 : decode cX3_init 18 = .ok (.aload_n 0, 1) := by decide +kernel
theorem dX3_init_19 : decode cX3_init 19 = .ok (.new 9, 3) := by decide +kernel
theorem dX3_init_22 : decode cX3_init 22 = .ok (.dup, 1) := by decide +kernel
theorem dX3_init_23 : decode cX3_init 23 = .ok (.sipush 2187, 3) := by decide +kernel
theorem dX3_init_26 : decode cX3_init 26 = .ok (.invokespecial 11, 3) := by decide +kernel
theorem dX3_init_29 : decode cX3_init 29 = .ok (.putfield 20, 3) := by decide +kernel
theorem dX3_init_32 : decode cX3_init 32 = .ok (.aload_n 0, 1) := by decide +kernel
theorem dX3_init_33 : decode cX3_init 33 = .ok (.new 9, 3) := by decide +kernel
theorem dX3_init_36 : decode cX3_init 36 = .ok (.dup, 1) := by decide +kernel
theorem dX3_init_37 : decode cX3_init 37 = .ok (.sipush 2187, 3) := by decide +kernel
theorem dX3_init_40 : decode cX3_init 40 = .ok (.invokespecial 11, 3) := by decide +kernel
theorem dX3_init_43 : decode cX3_init 43 = .ok (.putfield 23, 3) := by decide +kernel
theorem dX3_init_46 : decode cX3_init 46 = .ok (.aload_n 0, 1) := by decide +kernel
theorem dX3_init_47 : decode cX3_init 47 = .ok (.new 9, 3) := by decide +kernel
theorem dX3_init_50 : decode cX3_init 50 = .ok (.dup, 1) := by decide +kernel
theorem dX3_init_51 : decode cX3_init 51 = .ok (.sipush 2187, 3) := by decide +kernel
theorem dX3_init_54 : decode cX3_init 54 = .ok (.invokespecial 11, 3) := by decide +kernel
theorem dX3_init_57 : decode cX3_init 57 = .ok (.putfield 26, 3) := by decide +kernel
theorem dX3_init_60 : decode cX3_init 60 = .ok (.aload_n 0, 1) := by decide +kernel
theorem dX3_init_61 : decode cX3_init 61 = .ok (.new 9, 3) := by decide +kernel
theorem dX3_init_64 : decode cX3_init 64 = .ok (.dup, 1) := by decide +kernel
theorem dX3_init_65 : decode cX3_init 65 = .ok (.sipush 2187, 3) := by decide +kernel
theorem dX3_init_68 : decode cX3_init 68 = .ok (.invokespecial 11, 3) := by decide +kernel
theorem dX3_init_71 : decode cX3_init 71 = .ok (.putfield 29, 3) := by decide +kernel
theorem dX3_init_74 : decode cX3_init 74 = .ok (.aload_n 0, 1) := by decide +kernel
theorem dX3_init_75 : decode cX3_init 75 = .ok (.iconst 0, 1) := by decide +kernel
theorem dX3_init_76 : decode cX3_init 76 = .ok (.putfield 32, 3) := by decide +kernel
theorem dX3_init_79 : decode cX3_init 79 = .ok (.aload_n 0, 1) := by decide +kernel
theorem dX3_init_80 : decode cX3_init 80 = .ok (.iconst 0, 1) := by decide +kernel
theorem dX3_init_81 : decode cX3_init 81 = .ok (.putfield 36, 3) := by decide +kernel
theorem dX3_init_84 : decode cX3_init 84 = .ok (.aload_n 0, 1) := by decide +kernel
theorem dX3_init_85 : decode cX3_init 85 = .ok (.iconst 0, 1) := by decide +kernel
theorem dX3_init_86 : decode cX3_init 86 = .ok (.putfield 40, 3) := by decide +kernel
theorem dX3_init_89 : decode cX3_init 89 = .ok (.aload_n 0, 1) := by decide +kernel
theorem dX3_init_90 : decode cX3_init 90 = .ok (.iconst (-1), 1) := by decide +kernel
theorem dX3_init_91 : decode cX3_init 91 = .ok (.putfield 43, 3) := by decide +kernel
theorem dX3_init_94 : decode cX3_init 94 = .ok (.aload_n 0, 1) := by decide +kernel
theorem dX3_init_95 : decode cX3_init 95 = .ok (.iconst (-1), 1) := by decide +kernel
theorem dX3_init_96 : decode cX3_init 96 = .ok (.putfield 46, 3) := by decide +kernel
theorem dX3_init_99 : decode cX3_init 99 = .ok (.aload_n 0, 1) := by decide +kernel
theorem dX3_init_100 : decode cX3_init 100 = .ok (.iconst 0, 1) := by decide +kernel
theorem dX3_init_101 : decode cX3_init 101 = .ok (.putfield 49, 3) := by decide +kernel
theorem dX3_init_104 : decode cX3_init 104 = .ok (.aload_n 0, 1) := by decide +kernel
theorem dX3_init_105 : decode cX3_init 105 = .ok (.getfield 14, 3) := by decide +kernel
theorem dX3_init_108 : decode cX3_init 108 = .ok (.sipush 15309, 3) := by decide +kernel
theorem dX3_init_111 : decode cX3_init 111 = .ok (.iconst 0, 1) := by decide +kernel
theorem dX3_init_112 : decode cX3_init 112 = .ok (.invokevirtual 52, 3) := by decide +kernel
theorem dX3_init_115 : decode cX3_init 115 = .ok (.aload_n 0, 1) := by decide +kernel
theorem dX3_init_116 : decode cX3_init 116 = .ok (.getfield 23, 3) := by decide +kernel
theorem dX3_init_119 : decode cX3_init 119 = .ok (.sipush 2187, 3) := by decide +kernel
theorem dX3_init_122 : decode cX3_init 122 = .ok (.iconst 0, 1) := by decide +kernel
theorem dX3_init_123 : decode cX3_init 123 = .ok (.invokevirtual 52, 3) := by decide +kernel
theorem dX3_init_126 : decode cX3_init 126 = .ok (.aload_n 0, 1) := by decide +kernel
theorem dX3_init_127 : decode cX3_init 127 = .ok (.getfield 26, 3) := by decide +kernel
theorem dX3_init_130 : decode cX3_init 130 = .ok (.sipush 2187, 3) := by decide +kernel
theorem dX3_init_133 : decode cX3_init 133 = .ok (.iconst 0, 1) := by decide +kernel
theorem dX3_init_134 : decode cX3_init 134 = .ok (.invokevirtual 52, 3) := by decide +kernel
theorem dX3_init_137 : decode cX3_init 137 = .ok (.return_, 1) := by decide +kernel
theorem dX3_learn_0 : decode cX3_learn 0 = .ok (.aload_n 0, 1) := by decide +kernel
theorem dX3_learn_1 : decode cX3_learn 1 = .ok (.getfield 32, 3) := by decide +kernel
theorem dX3_learn_4 : decode cX3_learn 4 = .ok (.ifCond .eq 4, 3) := by decide +kernel
theorem dX3_learn_7 : decode cX3_learn 7 = .ok (.return_, 1) := by decide +kernel
theorem dX3_learn_8 : decode cX3_learn 8 = .ok (.aload_n 0, 1) := by decide +kernel
theorem dX3_learn_9 : decode cX3_learn 9 = .ok (.iconst 1, 1) := by decide +kernel
theorem dX3_learn_10 : decode cX3_learn 10 = .ok (.putfield 32, 3) := by decide +kernel
theorem dX3_learn_13 : decode cX3_learn 13 = .ok (.aload_n 0, 1) := by decide +kernel
theorem dX3_learn_14 : decode cX3_learn 14 = .ok (.aload_n 1, 1) := by decide +kernel
theorem dX3_learn_15 : decode cX3_learn 15 = .ok (.getfield 56, 3) := by decide +kernel
theorem dX3_learn_18 : decode cX3_learn 18 = .ok (.putfield 36, 3) := by decide +kernel
theorem dX3_learn_21 : decode cX3_learn 21 = .ok (.aload_n 0, 1) := by decide +kernel
theorem dX3_learn_22 : decode cX3_learn 22 = .ok (.aload_n 1, 1) := by decide +kernel
theorem dX3_learn_23 : decode cX3_learn 23 = .ok (.getfield 56, 3) := by decide +kernel
theorem dX3_learn_26 : decode cX3_learn 26 = .ok (.invokestatic 59, 3) := by decide +kernel
theorem dX3_learn_29 : decode cX3_learn 29 = .ok (.putfield 40, 3) := by decide +kernel
theorem dX3_learn_32 : decode cX3_learn 32 = .ok (.iconst 0, 1) := by decide +kernel
theorem dX3_learn_33 : decode cX3_learn 33 = .ok (.istore_n 2, 1) := by decide +kernel
theorem dX3_learn_34 : decode cX3_learn 34 = .ok (.iload_n 2, 1) := by decide +kernel
theorem dX3_learn_35 : decode cX3_learn 35 = .ok (.aload_n 0, 1) := by decide +kernel
theorem dX3_learn_36 : decode cX3_learn 36 = .ok (.getfield 36, 3) := by decide +kernel
theorem dX3_learn_39 : decode cX3_learn 39 = .ok (.if_icmp .ge 16, 3) := by decide +kernel
theorem dX3_learn_42 : decode cX3_learn 42 = .ok (.aload_n 0, 1) := by decide +kernel
theorem dX3_learn_43 : decode cX3_learn 43 = .ok (.aload_n 1, 1) := by decide +kernel
theorem dX3_learn_44 : decode cX3_learn 44 = .ok (.iload_n 2, 1) := by decide +kernel
theorem dX3_learn_45 : decode cX3_learn 45 = .ok (.iconst (-1), 1) := by decide +kernel
theorem dX3_learn_46 : decode cX3_learn 46 = .ok (.invokevirtual 63, 3) := by decide +kernel
theorem dX3_learn_49 : decode cX3_learn 49 = .ok (.iinc 2 1, 3) := by decide +kernel
theorem dX3_learn_52 : decode cX3_learn 52 = .ok (.goto (-18), 3) := by decide +kernel
theorem dX3_learn_55 : decode cX3_learn 55 = .ok (.return_, 1) := by decide +kernel
theorem dX3_forget_0 : decode cX3_forget 0 = .ok (.aload_n 0, 1) := by decide +kernel
theorem dX3_forget_1 : decode cX3_forget 1 = .ok (.iconst 0, 1) := by decide +kernel
theorem dX3_forget_2 : decode cX3_forget 2 = .ok (.putfield 32, 3) := by decide +kernel
theorem dX3_forget_5 : decode cX3_forget 5 = .ok (.return_, 1) := by decide +kernel
theorem dX3_learnDrawer_0 : decode cX3_learnDrawer 0 = .ok (.iconst 0, 1) := by decide +kernel
theorem dX3_learnDrawer_1 : decode cX3_learnDrawer 1 = .ok (.istore 4, 2) := by decide +kernel
theorem dX3_learnDrawer_3 : decode cX3_learnDrawer 3 = .ok (.iload 4, 2) := by decide +kernel
theorem dX3_learnDrawer_5 : decode cX3_learnDrawer 5 = .ok (.aload_n 0, 1) := by decide +kernel
theorem dX3_learnDrawer_6 : decode cX3_learnDrawer 6 = .ok (.getfield 40, 3) := by decide +kernel
theorem dX3_learnDrawer_9 : decode cX3_learnDrawer 9 = .ok (.if_icmp .ge 32, 3) := by decide +kernel
theorem dX3_learnDrawer_12 : decode cX3_learnDrawer 12 = .ok (.aload_n 0, 1) := by decide +kernel
theorem dX3_learnDrawer_13 : decode cX3_learnDrawer 13 = .ok (.getfield 14, 3) := by decide +kernel
theorem dX3_learnDrawer_16 : decode cX3_learnDrawer 16 = .ok (.iload_n 2, 1) := by decide +kernel
theorem dX3_learnDrawer_17 : decode cX3_learnDrawer 17 = .ok (.sipush 2187, 3) := by decide +kernel
theorem dX3_learnDrawer_20 : decode cX3_learnDrawer 20 = .ok (.imul, 1) := by decide +kernel
theorem dX3_learnDrawer_21 : decode cX3_learnDrawer 21 = .ok (.iload 4, 2) := by decide +kernel
theorem dX3_learnDrawer_23 : decode cX3_learnDrawer 23 = .ok (.iadd, 1) := by decide +kernel
theorem dX3_learnDrawer_24 : decode cX3_learnDrawer 24 = .ok (.aload_n 1, 1) := by decide +kernel
theorem dX3_learnDrawer_25 : decode cX3_learnDrawer 25 = .ok (.iload 4, 2) := by decide +kernel
theorem dX3_learnDrawer_27 : decode cX3_learnDrawer 27 = .ok (.iload_n 2, 1) := by decide +kernel
theorem dX3_learnDrawer_28 : decode cX3_learnDrawer 28 = .ok (.iload_n 3, 1) := by decide +kernel
theorem dX3_learnDrawer_29 : decode cX3_learnDrawer 29 = .ok (.invokevirtual 67, 3) := by decide +kernel
theorem dX3_learnDrawer_32 : decode cX3_learnDrawer 32 = .ok (.invokevirtual 71, 3) := by decide +kernel
theorem dX3_learnDrawer_35 : decode cX3_learnDrawer 35 = .ok (.iinc 4 1, 3) := by decide +kernel
theorem dX3_learnDrawer_38 : decode cX3_learnDrawer 38 = .ok (.goto (-35), 3) := by decide +kernel
theorem dX3_learnDrawer_41 : decode cX3_learnDrawer 41 = .ok (.return_, 1) := by decide +kernel
theorem dX3_tied_0 : decode cX3_tied 0 = .ok (.aload_n 0, 1) := by decide +kernel
theorem dX3_tied_1 : decode cX3_tied 1 = .ok (.iload_n 1, 1) := by decide +kernel
theorem dX3_tied_2 : decode cX3_tied 2 = .ok (.putfield 43, 3) := by decide +kernel
theorem dX3_tied_5 : decode cX3_tied 5 = .ok (.aload_n 0, 1) := by decide +kernel
theorem dX3_tied_6 : decode cX3_tied 6 = .ok (.iload_n 2, 1) := by decide +kernel
theorem dX3_tied_7 : decode cX3_tied 7 = .ok (.putfield 46, 3) := by decide +kernel
theorem dX3_tied_10 : decode cX3_tied 10 = .ok (.aload_n 0, 1) := by decide +kernel
theorem dX3_tied_11 : decode cX3_tied 11 = .ok (.iload_n 3, 1) := by decide +kernel
theorem dX3_tied_12 : decode cX3_tied 12 = .ok (.putfield 49, 3) := by decide +kernel
theorem dX3_tied_15 : decode cX3_tied 15 = .ok (.return_, 1) := by decide +kernel
theorem dX3_step_0 : decode cX3_step 0 = .ok (.aload_n 0, 1) := by decide +kernel
theorem dX3_step_1 : decode cX3_step 1 = .ok (.getfield 14, 3) := by decide +kernel
theorem dX3_step_4 : decode cX3_step 4 = .ok (.iload_n 2, 1) := by decide +kernel
theorem dX3_step_5 : decode cX3_step 5 = .ok (.sipush 2187, 3) := by decide +kernel
theorem dX3_step_8 : decode cX3_step 8 = .ok (.imul, 1) := by decide +kernel
theorem dX3_step_9 : decode cX3_step 9 = .ok (.iload_n 1, 1) := by decide +kernel
theorem dX3_step_10 : decode cX3_step 10 = .ok (.iadd, 1) := by decide +kernel
theorem dX3_step_11 : decode cX3_step 11 = .ok (.invokevirtual 74, 3) := by decide +kernel
theorem dX3_step_14 : decode cX3_step 14 = .ok (.istore_n 3, 1) := by decide +kernel
theorem dX3_step_15 : decode cX3_step 15 = .ok (.iload_n 2, 1) := by decide +kernel
theorem dX3_step_16 : decode cX3_step 16 = .ok (.aload_n 0, 1) := by decide +kernel
theorem dX3_step_17 : decode cX3_step 17 = .ok (.getfield 43, 3) := by decide +kernel
theorem dX3_step_20 : decode cX3_step 20 = .ok (.if_icmp .ne 8, 3) := by decide +kernel
theorem dX3_step_23 : decode cX3_step 23 = .ok (.iload_n 3, 1) := by decide +kernel
theorem dX3_step_24 : decode cX3_step 24 = .ok (.iload_n 1, 1) := by decide +kernel
theorem dX3_step_25 : decode cX3_step 25 = .ok (.if_icmp .ne 5, 3) := by decide +kernel
theorem dX3_step_28 : decode cX3_step 28 = .ok (.iload_n 3, 1) := by decide +kernel
theorem dX3_step_29 : decode cX3_step 29 = .ok (.ireturn, 1) := by decide +kernel
theorem dX3_step_30 : decode cX3_step 30 = .ok (.iload_n 3, 1) := by decide +kernel
theorem dX3_step_31 : decode cX3_step 31 = .ok (.aload_n 0, 1) := by decide +kernel
theorem dX3_step_32 : decode cX3_step 32 = .ok (.getfield 46, 3) := by decide +kernel
theorem dX3_step_35 : decode cX3_step 35 = .ok (.aload_n 0, 1) := by decide +kernel
theorem dX3_step_36 : decode cX3_step 36 = .ok (.getfield 49, 3) := by decide +kernel
theorem dX3_step_39 : decode cX3_step 39 = .ok (.invokestatic 77, 3) := by decide +kernel
theorem dX3_step_42 : decode cX3_step 42 = .ok (.ireturn, 1) := by decide +kernel
theorem dX3_begin_0 : decode cX3_begin 0 = .ok (.aload_n 0, 1) := by decide +kernel
theorem dX3_begin_1 : decode cX3_begin 1 = .ok (.getfield 20, 3) := by decide +kernel
theorem dX3_begin_4 : decode cX3_begin 4 = .ok (.aload_n 0, 1) := by decide +kernel
theorem dX3_begin_5 : decode cX3_begin 5 = .ok (.getfield 40, 3) := by decide +kernel
theorem dX3_begin_8 : decode cX3_begin 8 = .ok (.iconst (-1), 1) := by decide +kernel
theorem dX3_begin_9 : decode cX3_begin 9 = .ok (.invokevirtual 52, 3) := by decide +kernel
theorem dX3_begin_12 : decode cX3_begin 12 = .ok (.aload_n 0, 1) := by decide +kernel
theorem dX3_begin_13 : decode cX3_begin 13 = .ok (.getfield 29, 3) := by decide +kernel
theorem dX3_begin_16 : decode cX3_begin 16 = .ok (.invokevirtual 80, 3) := by decide +kernel
theorem dX3_begin_19 : decode cX3_begin 19 = .ok (.return_, 1) := by decide +kernel
theorem dX3_barDangers_0 : decode cX3_barDangers 0 = .ok (.iconst 0, 1) := by decide +kernel
theorem dX3_barDangers_1 : decode cX3_barDangers 1 = .ok (.istore_n 2, 1) := by decide +kernel
theorem dX3_barDangers_2 : decode cX3_barDangers 2 = .ok (.iload_n 2, 1) := by decide +kernel
theorem dX3_barDangers_3 : decode cX3_barDangers 3 = .ok (.aload_n 0, 1) := by decide +kernel
theorem dX3_barDangers_4 : decode cX3_barDangers 4 = .ok (.getfield 40, 3) := by decide +kernel
theorem dX3_barDangers_7 : decode cX3_barDangers 7 = .ok (.if_icmp .ge 27, 3) := by decide +kernel
theorem dX3_barDangers_10 : decode cX3_barDangers 10 = .ok (.aload_n 1, 1) := by decide +kernel
theorem dX3_barDangers_11 : decode cX3_barDangers 11 = .ok (.iload_n 2, 1) := by decide +kernel
theorem dX3_barDangers_12 : decode cX3_barDangers 12 = .ok (.invokevirtual 83, 3) := by decide +kernel
theorem dX3_barDangers_15 : decode cX3_barDangers 15 = .ok (.ifCond .eq 13, 3) := by decide +kernel
theorem dX3_barDangers_18 : decode cX3_barDangers 18 = .ok (.aload_n 0, 1) := by decide +kernel
theorem dX3_barDangers_19 : decode cX3_barDangers 19 = .ok (.getfield 20, 3) := by decide +kernel
theorem dX3_barDangers_22 : decode cX3_barDangers 22 = .ok (.iload_n 2, 1) := by decide +kernel
theorem dX3_barDangers_23 : decode cX3_barDangers 23 = .ok (.bipush (-2), 2) := by decide +kernel
theorem dX3_barDangers_25 : decode cX3_barDangers 25 = .ok (.invokevirtual 71, 3) := by decide +kernel
theorem dX3_barDangers_28 : decode cX3_barDangers 28 = .ok (.iinc 2 1, 3) := by decide +kernel
theorem dX3_barDangers_31 : decode cX3_barDangers 31 = .ok (.goto (-29), 3) := by decide +kernel
theorem dX3_barDangers_34 : decode cX3_barDangers 34 = .ok (.return_, 1) := by decide +kernel
theorem dX3_spread_0 : decode cX3_spread 0 = .ok (.aload_n 0, 1) := by decide +kernel
theorem dX3_spread_1 : decode cX3_spread 1 = .ok (.iload_n 1, 1) := by decide +kernel
theorem dX3_spread_2 : decode cX3_spread 2 = .ok (.iconst (-1), 1) := by decide +kernel
theorem dX3_spread_3 : decode cX3_spread 3 = .ok (.iconst (-1), 1) := by decide +kernel
theorem dX3_spread_4 : decode cX3_spread 4 = .ok (.invokevirtual 87, 3) := by decide +kernel
theorem dX3_spread_7 : decode cX3_spread 7 = .ok (.iconst 0, 1) := by decide +kernel
theorem dX3_spread_8 : decode cX3_spread 8 = .ok (.istore_n 2, 1) := by decide +kernel
theorem dX3_spread_9 : decode cX3_spread 9 = .ok (.iload_n 2, 1) := by decide +kernel
theorem dX3_spread_10 : decode cX3_spread 10 = .ok (.aload_n 0, 1) := by decide +kernel
theorem dX3_spread_11 : decode cX3_spread 11 = .ok (.getfield 29, 3) := by decide +kernel
theorem dX3_spread_14 : decode cX3_spread 14 = .ok (.invokevirtual 91, 3) := by decide +kernel
theorem dX3_spread_17 : decode cX3_spread 17 = .ok (.if_icmp .ge 29, 3) := by decide +kernel
theorem dX3_spread_20 : decode cX3_spread 20 = .ok (.iload_n 2, 1) := by decide +kernel
theorem dX3_spread_21 : decode cX3_spread 21 = .ok (.aload_n 0, 1) := by decide +kernel
theorem dX3_spread_22 : decode cX3_spread 22 = .ok (.getfield 40, 3) := by decide +kernel
theorem dX3_spread_25 : decode cX3_spread 25 = .ok (.if_icmp .ge 21, 3) := by decide +kernel
theorem dX3_spread_28 : decode cX3_spread 28 = .ok (.aload_n 0, 1) := by decide +kernel
theorem dX3_spread_29 : decode cX3_spread 29 = .ok (.aload_n 0, 1) := by decide +kernel
theorem dX3_spread_30 : decode cX3_spread 30 = .ok (.getfield 29, 3) := by decide +kernel
theorem dX3_spread_33 : decode cX3_spread 33 = .ok (.iload_n 2, 1) := by decide +kernel
theorem dX3_spread_34 : decode cX3_spread 34 = .ok (.invokevirtual 74, 3) := by decide +kernel
theorem dX3_spread_37 : decode cX3_spread 37 = .ok (.invokevirtual 95, 3) := by decide +kernel
theorem dX3_spread_40 : decode cX3_spread 40 = .ok (.iinc 2 1, 3) := by decide +kernel
theorem dX3_spread_43 : decode cX3_spread 43 = .ok (.goto (-34), 3) := by decide +kernel
theorem dX3_spread_46 : decode cX3_spread 46 = .ok (.return_, 1) := by decide +kernel
theorem dX3_grow_0 : decode cX3_grow 0 = .ok (.iconst 0, 1) := by decide +kernel
theorem dX3_grow_1 : decode cX3_grow 1 = .ok (.istore_n 2, 1) := by decide +kernel
theorem dX3_grow_2 : decode cX3_grow 2 = .ok (.iload_n 2, 1) := by decide +kernel
theorem dX3_grow_3 : decode cX3_grow 3 = .ok (.aload_n 0, 1) := by decide +kernel
theorem dX3_grow_4 : decode cX3_grow 4 = .ok (.getfield 36, 3) := by decide +kernel
theorem dX3_grow_7 : decode cX3_grow 7 = .ok (.if_icmp .ge 21, 3) := by decide +kernel
theorem dX3_grow_10 : decode cX3_grow 10 = .ok (.aload_n 0, 1) := by decide +kernel
theorem dX3_grow_11 : decode cX3_grow 11 = .ok (.aload_n 0, 1) := by decide +kernel
theorem dX3_grow_12 : decode cX3_grow 12 = .ok (.iload_n 1, 1) := by decide +kernel
theorem dX3_grow_13 : decode cX3_grow 13 = .ok (.iload_n 2, 1) := by decide +kernel
theorem dX3_grow_14 : decode cX3_grow 14 = .ok (.invokevirtual 98, 3) := by decide +kernel
theorem dX3_grow_17 : decode cX3_grow 17 = .ok (.iload_n 1, 1) := by decide +kernel
theorem dX3_grow_18 : decode cX3_grow 18 = .ok (.iload_n 2, 1) := by decide +kernel
theorem dX3_grow_19 : decode cX3_grow 19 = .ok (.invokevirtual 87, 3) := by decide +kernel
theorem dX3_grow_22 : decode cX3_grow 22 = .ok (.iinc 2 1, 3) := by decide +kernel
theorem dX3_grow_25 : decode cX3_grow 25 = .ok (.goto (-23), 3) := by decide +kernel
theorem dX3_grow_28 : decode cX3_grow 28 = .ok (.return_, 1) := by decide +kernel
theorem dX3_meet_0 : decode cX3_meet 0 = .ok (.aload_n 0, 1) := by decide +kernel
theorem dX3_meet_1 : decode cX3_meet 1 = .ok (.getfield 20, 3) := by decide +kernel
theorem dX3_meet_4 : decode cX3_meet 4 = .ok (.iload_n 1, 1) := by decide +kernel
theorem dX3_meet_5 : decode cX3_meet 5 = .ok (.invokevirtual 74, 3) := by decide +kernel
theorem dX3_meet_8 : decode cX3_meet 8 = .ok (.iconst (-1), 1) := by decide +kernel
theorem dX3_meet_9 : decode cX3_meet 9 = .ok (.if_icmp .eq 4, 3) := by decide +kernel
theorem dX3_meet_12 : decode cX3_meet 12 = .ok (.return_, 1) := by decide +kernel
theorem dX3_meet_13 : decode cX3_meet 13 = .ok (.aload_n 0, 1) := by decide +kernel
theorem dX3_meet_14 : decode cX3_meet 14 = .ok (.getfield 20, 3) := by decide +kernel
theorem dX3_meet_17 : decode cX3_meet 17 = .ok (.iload_n 1, 1) := by decide +kernel
theorem dX3_meet_18 : decode cX3_meet 18 = .ok (.iload_n 2, 1) := by decide +kernel
theorem dX3_meet_19 : decode cX3_meet 19 = .ok (.iconst (-1), 1) := by decide +kernel
theorem dX3_meet_20 : decode cX3_meet 20 = .ok (.if_icmp .ne 7, 3) := by decide +kernel
theorem dX3_meet_23 : decode cX3_meet 23 = .ok (.iconst 0, 1) := by decide +kernel
theorem dX3_meet_24 : decode cX3_meet 24 = .ok (.goto 13, 3) := by decide +kernel
theorem dX3_meet_27 : decode cX3_meet 27 = .ok (.aload_n 0, 1) := by decide +kernel
theorem dX3_meet_28 : decode cX3_meet 28 = .ok (.getfield 20, 3) := by decide +kernel
theorem dX3_meet_31 : decode cX3_meet 31 = .ok (.iload_n 2, 1) := by decide +kernel
theorem dX3_meet_32 : decode cX3_meet 32 = .ok (.invokevirtual 74, 3) := by decide +kernel
theorem dX3_meet_35 : decode cX3_meet 35 = .ok (.iconst 1, 1) := by decide +kernel
theorem dX3_meet_36 : decode cX3_meet 36 = .ok (.iadd, 1) := by decide +kernel
theorem dX3_meet_37 : decode cX3_meet 37 = .ok (.invokevirtual 71, 3) := by decide +kernel
theorem dX3_meet_40 : decode cX3_meet 40 = .ok (.aload_n 0, 1) := by decide +kernel
theorem dX3_meet_41 : decode cX3_meet 41 = .ok (.getfield 23, 3) := by decide +kernel
theorem dX3_meet_44 : decode cX3_meet 44 = .ok (.iload_n 1, 1) := by decide +kernel
theorem dX3_meet_45 : decode cX3_meet 45 = .ok (.iload_n 2, 1) := by decide +kernel
theorem dX3_meet_46 : decode cX3_meet 46 = .ok (.invokevirtual 71, 3) := by decide +kernel
theorem dX3_meet_49 : decode cX3_meet 49 = .ok (.aload_n 0, 1) := by decide +kernel
theorem dX3_meet_50 : decode cX3_meet 50 = .ok (.getfield 26, 3) := by decide +kernel
theorem dX3_meet_53 : decode cX3_meet 53 = .ok (.iload_n 1, 1) := by decide +kernel
theorem dX3_meet_54 : decode cX3_meet 54 = .ok (.iload_n 3, 1) := by decide +kernel
theorem dX3_meet_55 : decode cX3_meet 55 = .ok (.invokevirtual 71, 3) := by decide +kernel
theorem dX3_meet_58 : decode cX3_meet 58 = .ok (.aload_n 0, 1) := by decide +kernel
theorem dX3_meet_59 : decode cX3_meet 59 = .ok (.getfield 29, 3) := by decide +kernel
theorem dX3_meet_62 : decode cX3_meet 62 = .ok (.iload_n 1, 1) := by decide +kernel
theorem dX3_meet_63 : decode cX3_meet 63 = .ok (.invokevirtual 102, 3) := by decide +kernel
theorem dX3_meet_66 : decode cX3_meet 66 = .ok (.return_, 1) := by decide +kernel
theorem dX3_firstWith_0 : decode cX3_firstWith 0 = .ok (.aload_n 0, 1) := by decide +kernel
theorem dX3_firstWith_1 : decode cX3_firstWith 1 = .ok (.iload_n 1, 1) := by decide +kernel
theorem dX3_firstWith_2 : decode cX3_firstWith 2 = .ok (.iconst (-1), 1) := by decide +kernel
theorem dX3_firstWith_3 : decode cX3_firstWith 3 = .ok (.iconst (-1), 1) := by decide +kernel
theorem dX3_firstWith_4 : decode cX3_firstWith 4 = .ok (.invokevirtual 87, 3) := by decide +kernel
theorem dX3_firstWith_7 : decode cX3_firstWith 7 = .ok (.iconst 0, 1) := by decide +kernel
theorem dX3_firstWith_8 : decode cX3_firstWith 8 = .ok (.istore 4, 2) := by decide +kernel
theorem dX3_firstWith_10 : decode cX3_firstWith 10 = .ok (.iload 4, 2) := by decide +kernel
theorem dX3_firstWith_12 : decode cX3_firstWith 12 = .ok (.aload_n 0, 1) := by decide +kernel
theorem dX3_firstWith_13 : decode cX3_firstWith 13 = .ok (.getfield 29, 3) := by decide +kernel
theorem dX3_firstWith_16 : decode cX3_firstWith 16 = .ok (.invokevirtual 91, 3) := by decide +kernel
theorem dX3_firstWith_19 : decode cX3_firstWith 19 = .ok (.if_icmp .ge 74, 3) := by decide +kernel
theorem dX3_firstWith_22 : decode cX3_firstWith 22 = .ok (.iload 4, 2) := by decide +kernel
theorem dX3_firstWith_24 : decode cX3_firstWith 24 = .ok (.aload_n 0, 1) := by decide +kernel
theorem dX3_firstWith_25 : decode cX3_firstWith 25 = .ok (.getfield 40, 3) := by decide +kernel
theorem dX3_firstWith_28 : decode cX3_firstWith 28 = .ok (.if_icmp .ge 65, 3) := by decide +kernel
theorem dX3_firstWith_31 : decode cX3_firstWith 31 = .ok (.aload_n 0, 1) := by decide +kernel
theorem dX3_firstWith_32 : decode cX3_firstWith 32 = .ok (.getfield 29, 3) := by decide +kernel
theorem dX3_firstWith_35 : decode cX3_firstWith 35 = .ok (.iload 4, 2) := by decide +kernel
theorem dX3_firstWith_37 : decode cX3_firstWith 37 = .ok (.invokevirtual 74, 3) := by decide +kernel
theorem dX3_firstWith_40 : decode cX3_firstWith 40 = .ok (.istore 5, 2) := by decide +kernel
theorem dX3_firstWith_42 : decode cX3_firstWith 42 = .ok (.iload 5, 2) := by decide +kernel
theorem dX3_firstWith_44 : decode cX3_firstWith 44 = .ok (.iconst 2, 1) := by decide +kernel
theorem dX3_firstWith_45 : decode cX3_firstWith 45 = .ok (.invokestatic 105, 3) := by decide +kernel
theorem dX3_firstWith_48 : decode cX3_firstWith 48 = .ok (.iload_n 2, 1) := by decide +kernel
theorem dX3_firstWith_49 : decode cX3_firstWith 49 = .ok (.iand, 1) := by decide +kernel
theorem dX3_firstWith_50 : decode cX3_firstWith 50 = .ok (.iload_n 2, 1) := by decide +kernel
theorem dX3_firstWith_51 : decode cX3_firstWith 51 = .ok (.if_icmp .ne 7, 3) := by decide +kernel
theorem dX3_firstWith_54 : decode cX3_firstWith 54 = .ok (.iconst 1, 1) := by decide +kernel
theorem dX3_firstWith_55 : decode cX3_firstWith 55 = .ok (.goto 4, 3) := by decide +kernel
theorem dX3_firstWith_58 : decode cX3_firstWith 58 = .ok (.iconst 0, 1) := by decide +kernel
theorem dX3_firstWith_59 : decode cX3_firstWith 59 = .ok (.istore 6, 2) := by decide +kernel
theorem dX3_firstWith_61 : decode cX3_firstWith 61 = .ok (.iload 6, 2) := by decide +kernel
theorem dX3_firstWith_63 : decode cX3_firstWith 63 = .ok (.ifCond .eq 18, 3) := by decide +kernel
theorem dX3_firstWith_66 : decode cX3_firstWith 66 = .ok (.iload 5, 2) := by decide +kernel
theorem dX3_firstWith_68 : decode cX3_firstWith 68 = .ok (.iconst 0, 1) := by decide +kernel
theorem dX3_firstWith_69 : decode cX3_firstWith 69 = .ok (.invokestatic 105, 3) := by decide +kernel
theorem dX3_firstWith_72 : decode cX3_firstWith 72 = .ok (.iload_n 3, 1) := by decide +kernel
theorem dX3_firstWith_73 : decode cX3_firstWith 73 = .ok (.iand, 1) := by decide +kernel
theorem dX3_firstWith_74 : decode cX3_firstWith 74 = .ok (.iload_n 3, 1) := by decide +kernel
theorem dX3_firstWith_75 : decode cX3_firstWith 75 = .ok (.if_icmp .ne 6, 3) := by decide +kernel
theorem dX3_firstWith_78 : decode cX3_firstWith 78 = .ok (.iload 5, 2) := by decide +kernel
theorem dX3_firstWith_80 : decode cX3_firstWith 80 = .ok (.ireturn, 1) := by decide +kernel
theorem dX3_firstWith_81 : decode cX3_firstWith 81 = .ok (.aload_n 0, 1) := by decide +kernel
theorem dX3_firstWith_82 : decode cX3_firstWith 82 = .ok (.iload 5, 2) := by decide +kernel
theorem dX3_firstWith_84 : decode cX3_firstWith 84 = .ok (.invokevirtual 95, 3) := by decide +kernel
theorem dX3_firstWith_87 : decode cX3_firstWith 87 = .ok (.iinc 4 1, 3) := by decide +kernel
theorem dX3_firstWith_90 : decode cX3_firstWith 90 = .ok (.goto (-80), 3) := by decide +kernel
theorem dX3_firstWith_93 : decode cX3_firstWith 93 = .ok (.iconst (-1), 1) := by decide +kernel
theorem dX3_firstWith_94 : decode cX3_firstWith 94 = .ok (.ireturn, 1) := by decide +kernel
theorem dX3_nearestOpen_0 : decode cX3_nearestOpen 0 = .ok (.iconst (-1), 1) := by decide +kernel
theorem dX3_nearestOpen_1 : decode cX3_nearestOpen 1 = .ok (.istore_n 3, 1) := by decide +kernel
theorem dX3_nearestOpen_2 : decode cX3_nearestOpen 2 = .ok (.bipush 7, 2) := by decide +kernel
theorem dX3_nearestOpen_4 : decode cX3_nearestOpen 4 = .ok (.istore 4, 2) := by decide +kernel
theorem dX3_nearestOpen_6 : decode cX3_nearestOpen 6 = .ok (.aload_n 0, 1) := by decide +kernel
theorem dX3_nearestOpen_7 : decode cX3_nearestOpen 7 = .ok (.iload_n 1, 1) := by decide +kernel
theorem dX3_nearestOpen_8 : decode cX3_nearestOpen 8 = .ok (.iconst (-1), 1) := by decide +kernel
theorem dX3_nearestOpen_9 : decode cX3_nearestOpen 9 = .ok (.iconst (-1), 1) := by decide +kernel
theorem dX3_nearestOpen_10 : decode cX3_nearestOpen 10 = .ok (.invokevirtual 87, 3) := by decide +kernel
theorem dX3_nearestOpen_13 : decode cX3_nearestOpen 13 = .ok (.iconst 0, 1) := by decide +kernel
theorem dX3_nearestOpen_14 : decode cX3_nearestOpen 14 = .ok (.istore 5, 2) := by decide +kernel
theorem dX3_nearestOpen_16 : decode cX3_nearestOpen 16 = .ok (.iload 5, 2) := by decide +kernel
theorem dX3_nearestOpen_18 : decode cX3_nearestOpen 18 = .ok (.aload_n 0, 1) := by decide +kernel
theorem dX3_nearestOpen_19 : decode cX3_nearestOpen 19 = .ok (.getfield 29, 3) := by decide +kernel
theorem dX3_nearestOpen_22 : decode cX3_nearestOpen 22 = .ok (.invokevirtual 91, 3) := by decide +kernel
theorem dX3_nearestOpen_25 : decode cX3_nearestOpen 25 = .ok (.if_icmp .ge 104, 3) := by decide +kernel
theorem dX3_nearestOpen_28 : decode cX3_nearestOpen 28 = .ok (.iload 5, 2) := by decide +kernel
theorem dX3_nearestOpen_30 : decode cX3_nearestOpen 30 = .ok (.aload_n 0, 1) := by decide +kernel
theorem dX3_nearestOpen_31 : decode cX3_nearestOpen 31 = .ok (.getfield 40, 3) := by decide +kernel
theorem dX3_nearestOpen_34 : decode cX3_nearestOpen 34 = .ok (.if_icmp .ge 95, 3) := by decide +kernel
theorem dX3_nearestOpen_37 : decode cX3_nearestOpen 37 = .ok (.aload_n 0, 1) := by decide +kernel
theorem dX3_nearestOpen_38 : decode cX3_nearestOpen 38 = .ok (.getfield 29, 3) := by decide +kernel
theorem dX3_nearestOpen_41 : decode cX3_nearestOpen 41 = .ok (.iload 5, 2) := by decide +kernel
theorem dX3_nearestOpen_43 : decode cX3_nearestOpen 43 = .ok (.invokevirtual 74, 3) := by decide +kernel
theorem dX3_nearestOpen_46 : decode cX3_nearestOpen 46 = .ok (.istore 6, 2) := by decide +kernel
theorem dX3_nearestOpen_48 : decode cX3_nearestOpen 48 = .ok (.iload_n 3, 1) := by decide +kernel
theorem dX3_nearestOpen_49 : decode cX3_nearestOpen 49 = .ok (.iconst (-1), 1) := by decide +kernel
theorem dX3_nearestOpen_50 : decode cX3_nearestOpen 50 = .ok (.if_icmp .eq 26, 3) := by decide +kernel
theorem dX3_nearestOpen_53 : decode cX3_nearestOpen 53 = .ok (.aload_n 0, 1) := by decide +kernel
theorem dX3_nearestOpen_54 : decode cX3_nearestOpen 54 = .ok (.getfield 20, 3) := by decide +kernel
theorem dX3_nearestOpen_57 : decode cX3_nearestOpen 57 = .ok (.iload 6, 2) := by decide +kernel
theorem dX3_nearestOpen_59 : decode cX3_nearestOpen 59 = .ok (.invokevirtual 74, 3) := by decide +kernel
theorem dX3_nearestOpen_62 : decode cX3_nearestOpen 62 = .ok (.aload_n 0, 1) := by decide +kernel
theorem dX3_nearestOpen_63 : decode cX3_nearestOpen 63 = .ok (.getfield 20, 3) := by decide +kernel
theorem dX3_nearestOpen_66 : decode cX3_nearestOpen 66 = .ok (.iload_n 3, 1) := by decide +kernel
theorem dX3_nearestOpen_67 : decode cX3_nearestOpen 67 = .ok (.invokevirtual 74, 3) := by decide +kernel
theorem dX3_nearestOpen_70 : decode cX3_nearestOpen 70 = .ok (.if_icmp .le 6, 3) := by decide +kernel
theorem dX3_nearestOpen_73 : decode cX3_nearestOpen 73 = .ok (.goto 56, 3) := by decide +kernel
theorem dX3_nearestOpen_76 : decode cX3_nearestOpen 76 = .ok (.iload 6, 2) := by decide +kernel
theorem dX3_nearestOpen_78 : decode cX3_nearestOpen 78 = .ok (.iconst 2, 1) := by decide +kernel
theorem dX3_nearestOpen_79 : decode cX3_nearestOpen 79 = .ok (.invokestatic 105, 3) := by decide +kernel
theorem dX3_nearestOpen_82 : decode cX3_nearestOpen 82 = .ok (.iload_n 2, 1) := by decide +kernel
theorem dX3_nearestOpen_83 : decode cX3_nearestOpen 83 = .ok (.iand, 1) := by decide +kernel
theorem dX3_nearestOpen_84 : decode cX3_nearestOpen 84 = .ok (.istore 7, 2) := by decide +kernel
theorem dX3_nearestOpen_86 : decode cX3_nearestOpen 86 = .ok (.iload 7, 2) := by decide +kernel
theorem dX3_nearestOpen_88 : decode cX3_nearestOpen 88 = .ok (.invokestatic 108, 3) := by decide +kernel
theorem dX3_nearestOpen_91 : decode cX3_nearestOpen 91 = .ok (.istore 8, 2) := by decide +kernel
theorem dX3_nearestOpen_93 : decode cX3_nearestOpen 93 = .ok (.iload 7, 2) := by decide +kernel
theorem dX3_nearestOpen_95 : decode cX3_nearestOpen 95 = .ok (.ifCond .eq 17, 3) := by decide +kernel
theorem dX3_nearestOpen_98 : decode cX3_nearestOpen 98 = .ok (.iload 8, 2) := by decide +kernel
theorem dX3_nearestOpen_100 : decode cX3_nearestOpen 100 = .ok (.iload 4, 2) := by decide +kernel
theorem dX3_nearestOpen_102 : decode cX3_nearestOpen 102 = .ok (.if_icmp .ge 10, 3) := by decide +kernel
theorem dX3_nearestOpen_105 : decode cX3_nearestOpen 105 = .ok (.iload 6, 2) := by decide +kernel
theorem dX3_nearestOpen_107 : decode cX3_nearestOpen 107 = .ok (.istore_n 3, 1) := by decide +kernel
theorem dX3_nearestOpen_108 : decode cX3_nearestOpen 108 = .ok (.iload 8, 2) := by decide +kernel
theorem dX3_nearestOpen_110 : decode cX3_nearestOpen 110 = .ok (.istore 4, 2) := by decide +kernel
theorem dX3_nearestOpen_112 : decode cX3_nearestOpen 112 = .ok (.iload_n 3, 1) := by decide +kernel
theorem dX3_nearestOpen_113 : decode cX3_nearestOpen 113 = .ok (.iconst (-1), 1) := by decide +kernel
theorem dX3_nearestOpen_114 : decode cX3_nearestOpen 114 = .ok (.if_icmp .ne 9, 3) := by decide +kernel
theorem dX3_nearestOpen_117 : decode cX3_nearestOpen 117 = .ok (.aload_n 0, 1) := by decide +kernel
theorem dX3_nearestOpen_118 : decode cX3_nearestOpen 118 = .ok (.iload 6, 2) := by decide +kernel
theorem dX3_nearestOpen_120 : decode cX3_nearestOpen 120 = .ok (.invokevirtual 95, 3) := by decide +kernel
theorem dX3_nearestOpen_123 : decode cX3_nearestOpen 123 = .ok (.iinc 5 1, 3) := by decide +kernel
theorem dX3_nearestOpen_126 : decode cX3_nearestOpen 126 = .ok (.goto (-110), 3) := by decide +kernel
theorem dX3_nearestOpen_129 : decode cX3_nearestOpen 129 = .ok (.iload_n 3, 1) := by decide +kernel
theorem dX3_nearestOpen_130 : decode cX3_nearestOpen 130 = .ok (.ireturn, 1) := by decide +kernel
theorem dX3_pulledAt_0 : decode cX3_pulledAt 0 = .ok (.iload_n 1, 1) := by decide +kernel
theorem dX3_pulledAt_1 : decode cX3_pulledAt 1 = .ok (.istore_n 3, 1) := by decide +kernel
theorem dX3_pulledAt_2 : decode cX3_pulledAt 2 = .ok (.aload_n 0, 1) := by decide +kernel
theorem dX3_pulledAt_3 : decode cX3_pulledAt 3 = .ok (.getfield 20, 3) := by decide +kernel
theorem dX3_pulledAt_6 : decode cX3_pulledAt 6 = .ok (.iload_n 1, 1) := by decide +kernel
theorem dX3_pulledAt_7 : decode cX3_pulledAt 7 = .ok (.invokevirtual 74, 3) := by decide +kernel
theorem dX3_pulledAt_10 : decode cX3_pulledAt 10 = .ok (.iconst 1, 1) := by decide +kernel
theorem dX3_pulledAt_11 : decode cX3_pulledAt 11 = .ok (.isub, 1) := by decide +kernel
theorem dX3_pulledAt_12 : decode cX3_pulledAt 12 = .ok (.istore 4, 2) := by decide +kernel
theorem dX3_pulledAt_14 : decode cX3_pulledAt 14 = .ok (.iload 4, 2) := by decide +kernel
theorem dX3_pulledAt_16 : decode cX3_pulledAt 16 = .ok (.iload_n 2, 1) := by decide +kernel
theorem dX3_pulledAt_17 : decode cX3_pulledAt 17 = .ok (.if_icmp .le 18, 3) := by decide +kernel
theorem dX3_pulledAt_20 : decode cX3_pulledAt 20 = .ok (.aload_n 0, 1) := by decide +kernel
theorem dX3_pulledAt_21 : decode cX3_pulledAt 21 = .ok (.getfield 23, 3) := by decide +kernel
theorem dX3_pulledAt_24 : decode cX3_pulledAt 24 = .ok (.iload_n 3, 1) := by decide +kernel
theorem dX3_pulledAt_25 : decode cX3_pulledAt 25 = .ok (.invokevirtual 74, 3) := by decide +kernel
theorem dX3_pulledAt_28 : decode cX3_pulledAt 28 = .ok (.istore_n 3, 1) := by decide +kernel
theorem dX3_pulledAt_29 : decode cX3_pulledAt 29 = .ok (.iinc 4 (-1), 3) := by decide +kernel
theorem dX3_pulledAt_32 : decode cX3_pulledAt 32 = .ok (.goto (-18), 3) := by decide +kernel
theorem dX3_pulledAt_35 : decode cX3_pulledAt 35 = .ok (.aload_n 0, 1) := by decide +kernel
theorem dX3_pulledAt_36 : decode cX3_pulledAt 36 = .ok (.getfield 26, 3) := by decide +kernel
theorem dX3_pulledAt_39 : decode cX3_pulledAt 39 = .ok (.iload_n 3, 1) := by decide +kernel
theorem dX3_pulledAt_40 : decode cX3_pulledAt 40 = .ok (.invokevirtual 74, 3) := by decide +kernel
theorem dX3_pulledAt_43 : decode cX3_pulledAt 43 = .ok (.ireturn, 1) := by decide +kernel
theorem dX3_everOpen_0 : decode cX3_everOpen 0 = .ok (.iconst 0, 1) := by decide +kernel
theorem dX3_everOpen_1 : decode cX3_everOpen 1 = .ok (.istore_n 1, 1) := by decide +kernel
theorem dX3_everOpen_2 : decode cX3_everOpen 2 = .ok (.iconst 0, 1) := by decide +kernel
theorem dX3_everOpen_3 : decode cX3_everOpen 3 = .ok (.istore_n 2, 1) := by decide +kernel
theorem dX3_everOpen_4 : decode cX3_everOpen 4 = .ok (.iload_n 2, 1) := by decide +kernel
theorem dX3_everOpen_5 : decode cX3_everOpen 5 = .ok (.aload_n 0, 1) := by decide +kernel
theorem dX3_everOpen_6 : decode cX3_everOpen 6 = .ok (.getfield 29, 3) := by decide +kernel
theorem dX3_everOpen_9 : decode cX3_everOpen 9 = .ok (.invokevirtual 91, 3) := by decide +kernel
theorem dX3_everOpen_12 : decode cX3_everOpen 12 = .ok (.if_icmp .ge 24, 3) := by decide +kernel
theorem dX3_everOpen_15 : decode cX3_everOpen 15 = .ok (.iload_n 1, 1) := by decide +kernel
theorem dX3_everOpen_16 : decode cX3_everOpen 16 = .ok (.aload_n 0, 1) := by decide +kernel
theorem dX3_everOpen_17 : decode cX3_everOpen 17 = .ok (.getfield 29, 3) := by decide +kernel
theorem dX3_everOpen_20 : decode cX3_everOpen 20 = .ok (.iload_n 2, 1) := by decide +kernel
theorem dX3_everOpen_21 : decode cX3_everOpen 21 = .ok (.invokevirtual 74, 3) := by decide +kernel
theorem dX3_everOpen_24 : decode cX3_everOpen 24 = .ok (.iconst 2, 1) := by decide +kernel
theorem dX3_everOpen_25 : decode cX3_everOpen 25 = .ok (.invokestatic 105, 3) := by decide +kernel
theorem dX3_everOpen_28 : decode cX3_everOpen 28 = .ok (.ior, 1) := by decide +kernel
theorem dX3_everOpen_29 : decode cX3_everOpen 29 = .ok (.istore_n 1, 1) := by decide +kernel
theorem dX3_everOpen_30 : decode cX3_everOpen 30 = .ok (.iinc 2 1, 3) := by decide +kernel
theorem dX3_everOpen_33 : decode cX3_everOpen 33 = .ok (.goto (-29), 3) := by decide +kernel
theorem dX3_everOpen_36 : decode cX3_everOpen 36 = .ok (.iload_n 1, 1) := by decide +kernel
theorem dX3_everOpen_37 : decode cX3_everOpen 37 = .ok (.ireturn, 1) := by decide +kernel
theorem dX3_isJam_0 : decode cX3_isJam 0 = .ok (.iconst 0, 1) := by decide +kernel
theorem dX3_isJam_1 : decode cX3_isJam 1 = .ok (.istore_n 2, 1) := by decide +kernel
theorem dX3_isJam_2 : decode cX3_isJam 2 = .ok (.iload_n 2, 1) := by decide +kernel
theorem dX3_isJam_3 : decode cX3_isJam 3 = .ok (.aload_n 0, 1) := by decide +kernel
theorem dX3_isJam_4 : decode cX3_isJam 4 = .ok (.getfield 36, 3) := by decide +kernel
theorem dX3_isJam_7 : decode cX3_isJam 7 = .ok (.if_icmp .ge 21, 3) := by decide +kernel
theorem dX3_isJam_10 : decode cX3_isJam 10 = .ok (.aload_n 0, 1) := by decide +kernel
theorem dX3_isJam_11 : decode cX3_isJam 11 = .ok (.iload_n 1, 1) := by decide +kernel
theorem dX3_isJam_12 : decode cX3_isJam 12 = .ok (.iload_n 2, 1) := by decide +kernel
theorem dX3_isJam_13 : decode cX3_isJam 13 = .ok (.invokevirtual 98, 3) := by decide +kernel
theorem dX3_isJam_16 : decode cX3_isJam 16 = .ok (.iload_n 1, 1) := by decide +kernel
theorem dX3_isJam_17 : decode cX3_isJam 17 = .ok (.if_icmp .eq 5, 3) := by decide +kernel
theorem dX3_isJam_20 : decode cX3_isJam 20 = .ok (.iconst 0, 1) := by decide +kernel
theorem dX3_isJam_21 : decode cX3_isJam 21 = .ok (.ireturn, 1) := by decide +kernel
theorem dX3_isJam_22 : decode cX3_isJam 22 = .ok (.iinc 2 1, 3) := by decide +kernel
theorem dX3_isJam_25 : decode cX3_isJam 25 = .ok (.goto (-23), 3) := by decide +kernel
theorem dX3_isJam_28 : decode cX3_isJam 28 = .ok (.iconst 1, 1) := by decide +kernel
theorem dX3_isJam_29 : decode cX3_isJam 29 = .ok (.ireturn, 1) := by decide +kernel
theorem dX3_jams_0 : decode cX3_jams 0 = .ok (.iconst 0, 1) := by decide +kernel
theorem dX3_jams_1 : decode cX3_jams 1 = .ok (.istore_n 1, 1) := by decide +kernel
theorem dX3_jams_2 : decode cX3_jams 2 = .ok (.iconst 0, 1) := by decide +kernel
theorem dX3_jams_3 : decode cX3_jams 3 = .ok (.istore_n 2, 1) := by decide +kernel
theorem dX3_jams_4 : decode cX3_jams 4 = .ok (.iload_n 2, 1) := by decide +kernel
theorem dX3_jams_5 : decode cX3_jams 5 = .ok (.aload_n 0, 1) := by decide +kernel
theorem dX3_jams_6 : decode cX3_jams 6 = .ok (.getfield 29, 3) := by decide +kernel
theorem dX3_jams_9 : decode cX3_jams 9 = .ok (.invokevirtual 91, 3) := by decide +kernel
theorem dX3_jams_12 : decode cX3_jams 12 = .ok (.if_icmp .ge 27, 3) := by decide +kernel
theorem dX3_jams_15 : decode cX3_jams 15 = .ok (.aload_n 0, 1) := by decide +kernel
theorem dX3_jams_16 : decode cX3_jams 16 = .ok (.aload_n 0, 1) := by decide +kernel
theorem dX3_jams_17 : decode cX3_jams 17 = .ok (.getfield 29, 3) := by decide +kernel
theorem dX3_jams_20 : decode cX3_jams 20 = .ok (.iload_n 2, 1) := by decide +kernel
theorem dX3_jams_21 : decode cX3_jams 21 = .ok (.invokevirtual 74, 3) := by decide +kernel
theorem dX3_jams_24 : decode cX3_jams 24 = .ok (.invokevirtual 113, 3) := by decide +kernel
theorem dX3_jams_27 : decode cX3_jams 27 = .ok (.ifCond .eq 6, 3) := by decide +kernel
theorem dX3_jams_30 : decode cX3_jams 30 = .ok (.iinc 1 1, 3) := by decide +kernel
theorem dX3_jams_33 : decode cX3_jams 33 = .ok (.iinc 2 1, 3) := by decide +kernel
theorem dX3_jams_36 : decode cX3_jams 36 = .ok (.goto (-32), 3) := by decide +kernel
theorem dX3_jams_39 : decode cX3_jams 39 = .ok (.iload_n 1, 1) := by decide +kernel
theorem dX3_jams_40 : decode cX3_jams 40 = .ok (.ireturn, 1) := by decide +kernel
theorem dX3_leastJam_0 : decode cX3_leastJam 0 = .ok (.iconst 0, 1) := by decide +kernel
theorem dX3_leastJam_1 : decode cX3_leastJam 1 = .ok (.istore_n 1, 1) := by decide +kernel
theorem dX3_leastJam_2 : decode cX3_leastJam 2 = .ok (.iload_n 1, 1) := by decide +kernel
theorem dX3_leastJam_3 : decode cX3_leastJam 3 = .ok (.aload_n 0, 1) := by decide +kernel
theorem dX3_leastJam_4 : decode cX3_leastJam 4 = .ok (.getfield 40, 3) := by decide +kernel
theorem dX3_leastJam_7 : decode cX3_leastJam 7 = .ok (.if_icmp .ge 31, 3) := by decide +kernel
theorem dX3_leastJam_10 : decode cX3_leastJam 10 = .ok (.aload_n 0, 1) := by decide +kernel
theorem dX3_leastJam_11 : decode cX3_leastJam 11 = .ok (.getfield 20, 3) := by decide +kernel
theorem dX3_leastJam_14 : decode cX3_leastJam 14 = .ok (.iload_n 1, 1) := by decide +kernel
theorem dX3_leastJam_15 : decode cX3_leastJam 15 = .ok (.invokevirtual 74, 3) := by decide +kernel
theorem dX3_leastJam_18 : decode cX3_leastJam 18 = .ok (.iconst (-1), 1) := by decide +kernel
theorem dX3_leastJam_19 : decode cX3_leastJam 19 = .ok (.if_icmp .eq 13, 3) := by decide +kernel
theorem dX3_leastJam_22 : decode cX3_leastJam 22 = .ok (.aload_n 0, 1) := by decide +kernel
theorem dX3_leastJam_23 : decode cX3_leastJam 23 = .ok (.iload_n 1, 1) := by decide +kernel
theorem dX3_leastJam_24 : decode cX3_leastJam 24 = .ok (.invokevirtual 113, 3) := by decide +kernel
theorem dX3_leastJam_27 : decode cX3_leastJam 27 = .ok (.ifCond .eq 5, 3) := by decide +kernel
theorem dX3_leastJam_30 : decode cX3_leastJam 30 = .ok (.iload_n 1, 1) := by decide +kernel
theorem dX3_leastJam_31 : decode cX3_leastJam 31 = .ok (.ireturn, 1) := by decide +kernel
theorem dX3_leastJam_32 : decode cX3_leastJam 32 = .ok (.iinc 1 1, 3) := by decide +kernel
theorem dX3_leastJam_35 : decode cX3_leastJam 35 = .ok (.goto (-33), 3) := by decide +kernel
theorem dX3_leastJam_38 : decode cX3_leastJam 38 = .ok (.iconst (-1), 1) := by decide +kernel
theorem dX3_leastJam_39 : decode cX3_leastJam 39 = .ok (.ireturn, 1) := by decide +kernel
theorem dX4_init_0 : decode cX4_init 0 = .ok (.aload_n 0, 1) := by decide +kernel
theorem dX4_init_1 : decode cX4_init 1 = .ok (.invokespecial 3, 3) := by decide +kernel
theorem dX4_init_4 : decode cX4_init 4 = .ok (.aload_n 0, 1) := by decide +kernel
theorem dX4_init_5 : decode cX4_init 5 = .ok (.iconst 0, 1) := by decide +kernel
theorem dX4_init_6 : decode cX4_init 6 = .ok (.putfield 9, 3) := by decide +kernel
theorem dX4_init_9 : decode cX4_init 9 = .ok (.aload_n 0, 1) := by decide +kernel
theorem dX4_init_10 : decode cX4_init 10 = .ok (.iconst 0, 1) := by decide +kernel
theorem dX4_init_11 : decode cX4_init 11 = .ok (.putfield 15, 3) := by decide +kernel
theorem dX4_init_14 : decode cX4_init 14 = .ok (.aload_n 0, 1) := by decide +kernel
theorem dX4_init_15 : decode cX4_init 15 = .ok (.iconst 0, 1) := by decide +kernel
theorem dX4_init_16 : decode cX4_init 16 = .ok (.putfield 18, 3) := by decide +kernel
theorem dX4_init_19 : decode cX4_init 19 = .ok (.aload_n 0, 1) := by decide +kernel
theorem dX4_init_20 : decode cX4_init 20 = .ok (.iconst 0, 1) := by decide +kernel
theorem dX4_init_21 : decode cX4_init 21 = .ok (.putfield 21, 3) := by decide +kernel
theorem dX4_init_24 : decode cX4_init 24 = .ok (.aload_n 0, 1) := by decide +kernel
theorem dX4_init_25 : decode cX4_init 25 = .ok (.iconst 0, 1) := by decide +kernel
theorem dX4_init_26 : decode cX4_init 26 = .ok (.putfield 24, 3) := by decide +kernel
theorem dX4_init_29 : decode cX4_init 29 = .ok (.aload_n 0, 1) := by decide +kernel
theorem dX4_init_30 : decode cX4_init 30 = .ok (.new 27, 3) := by decide +kernel
theorem dX4_init_33 : decode cX4_init 33 = .ok (.dup, 1) := by decide +kernel
theorem dX4_init_34 : decode cX4_init 34 = .ok (.bipush 7, 2) := by decide +kernel
theorem dX4_init_36 : decode cX4_init 36 = .ok (.invokespecial 29, 3) := by decide +kernel
theorem dX4_init_39 : decode cX4_init 39 = .ok (.putfield 32, 3) := by decide +kernel
theorem dX4_init_42 : decode cX4_init 42 = .ok (.aload_n 0, 1) := by decide +kernel
theorem dX4_init_43 : decode cX4_init 43 = .ok (.new 27, 3) := by decide +kernel
theorem dX4_init_46 : decode cX4_init 46 = .ok (.dup, 1) := by decide +kernel
theorem dX4_init_47 : decode cX4_init 47 = .ok (.bipush 10, 2) := by decide +kernel
theorem dX4_init_49 : decode cX4_init 49 = .ok (.invokespecial 29, 3) := by decide +kernel
theorem dX4_init_52 : decode cX4_init 52 = .ok (.putfield 36, 3) := by decide +kernel
theorem dX4_init_55 : decode cX4_init 55 = .ok (.aload_n 0, 1) := by decide +kernel
theorem dX4_init_56 : decode cX4_init 56 = .ok (.new 27, 3) := by decide +kernel
theorem dX4_init_59 : decode cX4_init 59 = .ok (.dup, 1) := by decide +kernel
theorem dX4_init_60 : decode cX4_init 60 = .ok (.bipush 10, 2) := by decide +kernel
theorem dX4_init_62 : decode cX4_init 62 = .ok (.invokespecial 29, 3) := by decide +kernel
theorem dX4_init_65 : decode cX4_init 65 = .ok (.putfield 39, 3) := by decide +kernel
theorem dX4_init_68 : decode cX4_init 68 = .ok (.aload_n 0, 1) := by decide +kernel
theorem dX4_init_69 : decode cX4_init 69 = .ok (.new 27, 3) := by decide +kernel
theorem dX4_init_72 : decode cX4_init 72 = .ok (.dup, 1) := by decide +kernel
theorem dX4_init_73 : decode cX4_init 73 = .ok (.bipush 10, 2) := by decide +kernel
theorem dX4_init_75 : decode cX4_init 75 = .ok (.invokespecial 29, 3) := by decide +kernel
theorem dX4_init_78 : decode cX4_init 78 = .ok (.putfield 42, 3) := by decide +kernel
theorem dX4_init_81 : decode cX4_init 81 = .ok (.aload_n 0, 1) := by decide +kernel
theorem dX4_init_82 : decode cX4_init 82 = .ok (.new 27, 3) := by decide +kernel
theorem dX4_init_85 : decode cX4_init 85 = .ok (.dup, 1) := by decide +kernel
theorem dX4_init_86 : decode cX4_init 86 = .ok (.bipush 10, 2) := by decide +kernel
theorem dX4_init_88 : decode cX4_init 88 = .ok (.invokespecial 29, 3) := by decide +kernel
theorem dX4_init_91 : decode cX4_init 91 = .ok (.putfield 45, 3) := by decide +kernel
theorem dX4_init_94 : decode cX4_init 94 = .ok (.aload_n 0, 1) := by decide +kernel
theorem dX4_init_95 : decode cX4_init 95 = .ok (.new 27, 3) := by decide +kernel
theorem dX4_init_98 : decode cX4_init 98 = .ok (.dup, 1) := by decide +kernel
theorem dX4_init_99 : decode cX4_init 99 = .ok (.bipush 6, 2) := by decide +kernel
theorem dX4_init_101 : decode cX4_init 101 = .ok (.invokespecial 29, 3) := by decide +kernel
theorem dX4_init_104 : decode cX4_init 104 = .ok (.putfield 48, 3) := by decide +kernel
theorem dX4_init_107 : decode cX4_init 107 = .ok (.aload_n 0, 1) := by decide +kernel
theorem dX4_init_108 : decode cX4_init 108 = .ok (.new 27, 3) := by decide +kernel
theorem dX4_init_111 : decode cX4_init 111 = .ok (.dup, 1) := by decide +kernel
theorem dX4_init_112 : decode cX4_init 112 = .ok (.bipush 8, 2) := by decide +kernel
theorem dX4_init_114 : decode cX4_init 114 = .ok (.invokespecial 29, 3) := by decide +kernel
theorem dX4_init_117 : decode cX4_init 117 = .ok (.putfield 51, 3) := by decide +kernel
theorem dX4_init_120 : decode cX4_init 120 = .ok (.aload_n 0, 1) := by decide +kernel
theorem dX4_init_121 : decode cX4_init 121 = .ok (.new 27, 3) := by decide +kernel
theorem dX4_init_124 : decode cX4_init 124 = .ok (.dup, 1) := by decide +kernel
theorem dX4_init_125 : decode cX4_init 125 = .ok (.bipush 8, 2) := by decide +kernel
theorem dX4_init_127 : decode cX4_init 127 = .ok (.invokespecial 29, 3) := by decide +kernel
theorem dX4_init_130 : decode cX4_init 130 = .ok (.putfield 54, 3) := by decide +kernel
theorem dX4_init_133 : decode cX4_init 133 = .ok (.aload_n 0, 1) := by decide +kernel
theorem dX4_init_134 : decode cX4_init 134 = .ok (.new 27, 3) := by decide +kernel
theorem dX4_init_137 : decode cX4_init 137 = .ok (.dup, 1) := by decide +kernel
theorem dX4_init_138 : decode cX4_init 138 = .ok (.bipush 20, 2) := by decide +kernel
theorem dX4_init_140 : decode cX4_init 140 = .ok (.invokespecial 29, 3) := by decide +kernel
theorem dX4_init_143 : decode cX4_init 143 = .ok (.putfield 57, 3) := by decide +kernel
theorem dX4_init_146 : decode cX4_init 146 = .ok (.aload_n 0, 1) := by decide +kernel
theorem dX4_init_147 : decode cX4_init 147 = .ok (.iconst 5, 1) := by decide +kernel
theorem dX4_init_148 : decode cX4_init 148 = .ok (.invokevirtual 60, 3) := by decide +kernel
theorem dX4_init_151 : decode cX4_init 151 = .ok (.pop, 1) := by decide +kernel
theorem dX4_init_152 : decode cX4_init 152 = .ok (.return_, 1) := by decide +kernel
theorem dX4_tellDrawers_0 : decode cX4_tellDrawers 0 = .ok (.iload_n 1, 1) := by decide +kernel
theorem dX4_tellDrawers_1 : decode cX4_tellDrawers 1 = .ok (.iconst 2, 1) := by decide +kernel
theorem dX4_tellDrawers_2 : decode cX4_tellDrawers 2 = .ok (.if_icmp .lt 9, 3) := by decide +kernel
theorem dX4_tellDrawers_5 : decode cX4_tellDrawers 5 = .ok (.iload_n 1, 1) := by decide +kernel
theorem dX4_tellDrawers_6 : decode cX4_tellDrawers 6 = .ok (.bipush 7, 2) := by decide +kernel
theorem dX4_tellDrawers_8 : decode cX4_tellDrawers 8 = .ok (.if_icmp .le 6, 3) := by decide +kernel
theorem dX4_tellDrawers_11 : decode cX4_tellDrawers 11 = .ok (.bipush (-2), 2) := by decide +kernel
theorem dX4_tellDrawers_13 : decode cX4_tellDrawers 13 = .ok (.ireturn, 1) := by decide +kernel
theorem dX4_tellDrawers_14 : decode cX4_tellDrawers 14 = .ok (.aload_n 0, 1) := by decide +kernel
theorem dX4_tellDrawers_15 : decode cX4_tellDrawers 15 = .ok (.getfield 9, 3) := by decide +kernel
theorem dX4_tellDrawers_18 : decode cX4_tellDrawers 18 = .ok (.istore_n 2, 1) := by decide +kernel
theorem dX4_tellDrawers_19 : decode cX4_tellDrawers 19 = .ok (.aload_n 0, 1) := by decide +kernel
theorem dX4_tellDrawers_20 : decode cX4_tellDrawers 20 = .ok (.iload_n 1, 1) := by decide +kernel
theorem dX4_tellDrawers_21 : decode cX4_tellDrawers 21 = .ok (.putfield 9, 3) := by decide +kernel
theorem dX4_tellDrawers_24 : decode cX4_tellDrawers 24 = .ok (.aload_n 0, 1) := by decide +kernel
theorem dX4_tellDrawers_25 : decode cX4_tellDrawers 25 = .ok (.iconst 0, 1) := by decide +kernel
theorem dX4_tellDrawers_26 : decode cX4_tellDrawers 26 = .ok (.putfield 15, 3) := by decide +kernel
theorem dX4_tellDrawers_29 : decode cX4_tellDrawers 29 = .ok (.aload_n 0, 1) := by decide +kernel
theorem dX4_tellDrawers_30 : decode cX4_tellDrawers 30 = .ok (.iconst 0, 1) := by decide +kernel
theorem dX4_tellDrawers_31 : decode cX4_tellDrawers 31 = .ok (.putfield 18, 3) := by decide +kernel
theorem dX4_tellDrawers_34 : decode cX4_tellDrawers 34 = .ok (.aload_n 0, 1) := by decide +kernel
theorem dX4_tellDrawers_35 : decode cX4_tellDrawers 35 = .ok (.iconst 0, 1) := by decide +kernel
theorem dX4_tellDrawers_36 : decode cX4_tellDrawers 36 = .ok (.putfield 21, 3) := by decide +kernel
theorem dX4_tellDrawers_39 : decode cX4_tellDrawers 39 = .ok (.aload_n 0, 1) := by decide +kernel
theorem dX4_tellDrawers_40 : decode cX4_tellDrawers 40 = .ok (.iconst 0, 1) := by decide +kernel
theorem dX4_tellDrawers_41 : decode cX4_tellDrawers 41 = .ok (.putfield 24, 3) := by decide +kernel
theorem dX4_tellDrawers_44 : decode cX4_tellDrawers 44 = .ok (.aload_n 0, 1) := by decide +kernel
theorem dX4_tellDrawers_45 : decode cX4_tellDrawers 45 = .ok (.getfield 32, 3) := by decide +kernel
theorem dX4_tellDrawers_48 : decode cX4_tellDrawers 48 = .ok (.invokevirtual 64, 3) := by decide +kernel
theorem dX4_tellDrawers_51 : decode cX4_tellDrawers 51 = .ok (.iconst 0, 1) := by decide +kernel
theorem dX4_tellDrawers_52 : decode cX4_tellDrawers 52 = .ok (.istore_n 3, 1) := by decide +kernel
theorem dX4_tellDrawers_53 : decode cX4_tellDrawers 53 = .ok (.iload_n 3, 1) := by decide +kernel
theorem dX4_tellDrawers_54 : decode cX4_tellDrawers 54 = .ok (.iload_n 1, 1) := by decide +kernel
theorem dX4_tellDrawers_55 : decode cX4_tellDrawers 55 = .ok (.if_icmp .ge 17, 3) := by decide +kernel
theorem dX4_tellDrawers_58 : decode cX4_tellDrawers 58 = .ok (.aload_n 0, 1) := by decide +kernel
theorem dX4_tellDrawers_59 : decode cX4_tellDrawers 59 = .ok (.getfield 32, 3) := by decide +kernel
theorem dX4_tellDrawers_62 : decode cX4_tellDrawers 62 = .ok (.iload_n 3, 1) := by decide +kernel
theorem dX4_tellDrawers_63 : decode cX4_tellDrawers 63 = .ok (.invokevirtual 67, 3) := by decide +kernel
theorem dX4_tellDrawers_66 : decode cX4_tellDrawers 66 = .ok (.iinc 3 1, 3) := by decide +kernel
theorem dX4_tellDrawers_69 : decode cX4_tellDrawers 69 = .ok (.goto (-16), 3) := by decide +kernel
theorem dX4_tellDrawers_72 : decode cX4_tellDrawers 72 = .ok (.aload_n 0, 1) := by decide +kernel
theorem dX4_tellDrawers_73 : decode cX4_tellDrawers 73 = .ok (.getfield 36, 3) := by decide +kernel
theorem dX4_tellDrawers_76 : decode cX4_tellDrawers 76 = .ok (.invokevirtual 64, 3) := by decide +kernel
theorem dX4_tellDrawers_79 : decode cX4_tellDrawers 79 = .ok (.aload_n 0, 1) := by decide +kernel
theorem dX4_tellDrawers_80 : decode cX4_tellDrawers 80 = .ok (.getfield 39, 3) := by decide +kernel
theorem dX4_tellDrawers_83 : decode cX4_tellDrawers 83 = .ok (.invokevirtual 64, 3) := by decide +kernel
theorem dX4_tellDrawers_86 : decode cX4_tellDrawers 86 = .ok (.aload_n 0, 1) := by decide +kernel
theorem dX4_tellDrawers_87 : decode cX4_tellDrawers 87 = .ok (.getfield 42, 3) := by decide +kernel
theorem dX4_tellDrawers_90 : decode cX4_tellDrawers 90 = .ok (.invokevirtual 64, 3) := by decide +kernel
theorem dX4_tellDrawers_93 : decode cX4_tellDrawers 93 = .ok (.aload_n 0, 1) := by decide +kernel
theorem dX4_tellDrawers_94 : decode cX4_tellDrawers 94 = .ok (.getfield 45, 3) := by decide +kernel
theorem dX4_tellDrawers_97 : decode cX4_tellDrawers 97 = .ok (.invokevirtual 64, 3) := by decide +kernel
theorem dX4_tellDrawers_100 : decode cX4_tellDrawers 100 = .ok (.aload_n 0, 1) := by decide +kernel
theorem dX4_tellDrawers_101 : decode cX4_tellDrawers 101 = .ok (.getfield 48, 3) := by decide +kernel
theorem dX4_tellDrawers_104 : decode cX4_tellDrawers 104 = .ok (.invokevirtual 64, 3) := by decide +kernel
theorem dX4_tellDrawers_107 : decode cX4_tellDrawers 107 = .ok (.aload_n 0, 1) := by decide +kernel
theorem dX4_tellDrawers_108 : decode cX4_tellDrawers 108 = .ok (.getfield 51, 3) := by decide +kernel
theorem dX4_tellDrawers_111 : decode cX4_tellDrawers 111 = .ok (.invokevirtual 64, 3) := by decide +kernel
theorem dX4_tellDrawers_114 : decode cX4_tellDrawers 114 = .ok (.aload_n 0, 1) := by decide +kernel
theorem dX4_tellDrawers_115 : decode cX4_tellDrawers 115 = .ok (.getfield 54, 3) := by decide +kernel
theorem dX4_tellDrawers_118 : decode cX4_tellDrawers 118 = .ok (.invokevirtual 64, 3) := by decide +kernel
theorem dX4_tellDrawers_121 : decode cX4_tellDrawers 121 = .ok (.aload_n 0, 1) := by decide +kernel
theorem dX4_tellDrawers_122 : decode cX4_tellDrawers 122 = .ok (.getfield 57, 3) := by decide +kernel
theorem dX4_tellDrawers_125 : decode cX4_tellDrawers 125 = .ok (.invokevirtual 64, 3) := by decide +kernel
theorem dX4_tellDrawers_128 : decode cX4_tellDrawers 128 = .ok (.iload_n 2, 1) := by decide +kernel
theorem dX4_tellDrawers_129 : decode cX4_tellDrawers 129 = .ok (.ireturn, 1) := by decide +kernel
theorem dX4_tellCord_0 : decode cX4_tellCord 0 = .ok (.aload_n 0, 1) := by decide +kernel
theorem dX4_tellCord_1 : decode cX4_tellCord 1 = .ok (.iload_n 1, 1) := by decide +kernel
theorem dX4_tellCord_2 : decode cX4_tellCord 2 = .ok (.invokevirtual 70, 3) := by decide +kernel
theorem dX4_tellCord_5 : decode cX4_tellCord 5 = .ok (.ifCond .eq 16, 3) := by decide +kernel
theorem dX4_tellCord_8 : decode cX4_tellCord 8 = .ok (.aload_n 0, 1) := by decide +kernel
theorem dX4_tellCord_9 : decode cX4_tellCord 9 = .ok (.iload_n 2, 1) := by decide +kernel
theorem dX4_tellCord_10 : decode cX4_tellCord 10 = .ok (.invokevirtual 70, 3) := by decide +kernel
theorem dX4_tellCord_13 : decode cX4_tellCord 13 = .ok (.ifCond .eq 8, 3) := by decide +kernel
theorem dX4_tellCord_16 : decode cX4_tellCord 16 = .ok (.iload_n 1, 1) := by decide +kernel
theorem dX4_tellCord_17 : decode cX4_tellCord 17 = .ok (.iload_n 2, 1) := by decide +kernel
theorem dX4_tellCord_18 : decode cX4_tellCord 18 = .ok (.if_icmp .ne 6, 3) := by decide +kernel
theorem dX4_tellCord_21 : decode cX4_tellCord 21 = .ok (.bipush (-2), 2) := by decide +kernel
theorem dX4_tellCord_23 : decode cX4_tellCord 23 = .ok (.ireturn, 1) := by decide +kernel
theorem dX4_tellCord_24 : decode cX4_tellCord 24 = .ok (.iload_n 3, 1) := by decide +kernel
theorem dX4_tellCord_25 : decode cX4_tellCord 25 = .ok (.ifCond .lt 27, 3) := by decide +kernel
theorem dX4_tellCord_28 : decode cX4_tellCord 28 = .ok (.iload_n 3, 1) := by decide +kernel
theorem dX4_tellCord_29 : decode cX4_tellCord 29 = .ok (.bipush 6, 2) := by decide +kernel
theorem dX4_tellCord_31 : decode cX4_tellCord 31 = .ok (.if_icmp .ge 21, 3) := by decide +kernel
theorem dX4_tellCord_34 : decode cX4_tellCord 34 = .ok (.iload 4, 2) := by decide +kernel
theorem dX4_tellCord_36 : decode cX4_tellCord 36 = .ok (.bipush (-2), 2) := by decide +kernel
theorem dX4_tellCord_38 : decode cX4_tellCord 38 = .ok (.if_icmp .lt 14, 3) := by decide +kernel
theorem dX4_tellCord_41 : decode cX4_tellCord 41 = .ok (.iload 4, 2) := by decide +kernel
theorem dX4_tellCord_43 : decode cX4_tellCord 43 = .ok (.iconst 2, 1) := by decide +kernel
theorem dX4_tellCord_44 : decode cX4_tellCord 44 = .ok (.if_icmp .gt 8, 3) := by decide +kernel
theorem dX4_tellCord_47 : decode cX4_tellCord 47 = .ok (.iload 4, 2) := by decide +kernel
theorem dX4_tellCord_49 : decode cX4_tellCord 49 = .ok (.ifCond .ne 6, 3) := by decide +kernel
theorem dX4_tellCord_52 : decode cX4_tellCord 52 = .ok (.bipush (-2), 2) := by decide +kernel
theorem dX4_tellCord_54 : decode cX4_tellCord 54 = .ok (.ireturn, 1) := by decide +kernel
theorem dX4_tellCord_55 : decode cX4_tellCord 55 = .ok (.aload_n 0, 1) := by decide +kernel
theorem dX4_tellCord_56 : decode cX4_tellCord 56 = .ok (.getfield 36, 3) := by decide +kernel
theorem dX4_tellCord_59 : decode cX4_tellCord 59 = .ok (.invokevirtual 74, 3) := by decide +kernel
theorem dX4_tellCord_62 : decode cX4_tellCord 62 = .ok (.ifCond .eq 6, 3) := by decide +kernel
theorem dX4_tellCord_65 : decode cX4_tellCord 65 = .ok (.bipush (-4), 2) := by decide +kernel
theorem dX4_tellCord_67 : decode cX4_tellCord 67 = .ok (.ireturn, 1) := by decide +kernel
theorem dX4_tellCord_68 : decode cX4_tellCord 68 = .ok (.aload_n 0, 1) := by decide +kernel
theorem dX4_tellCord_69 : decode cX4_tellCord 69 = .ok (.getfield 36, 3) := by decide +kernel
theorem dX4_tellCord_72 : decode cX4_tellCord 72 = .ok (.iload_n 1, 1) := by decide +kernel
theorem dX4_tellCord_73 : decode cX4_tellCord 73 = .ok (.invokevirtual 67, 3) := by decide +kernel
theorem dX4_tellCord_76 : decode cX4_tellCord 76 = .ok (.aload_n 0, 1) := by decide +kernel
theorem dX4_tellCord_77 : decode cX4_tellCord 77 = .ok (.getfield 39, 3) := by decide +kernel
theorem dX4_tellCord_80 : decode cX4_tellCord 80 = .ok (.iload_n 2, 1) := by decide +kernel
theorem dX4_tellCord_81 : decode cX4_tellCord 81 = .ok (.invokevirtual 67, 3) := by decide +kernel
theorem dX4_tellCord_84 : decode cX4_tellCord 84 = .ok (.aload_n 0, 1) := by decide +kernel
theorem dX4_tellCord_85 : decode cX4_tellCord 85 = .ok (.getfield 42, 3) := by decide +kernel
theorem dX4_tellCord_88 : decode cX4_tellCord 88 = .ok (.iload_n 3, 1) := by decide +kernel
theorem dX4_tellCord_89 : decode cX4_tellCord 89 = .ok (.invokevirtual 67, 3) := by decide +kernel
theorem dX4_tellCord_92 : decode cX4_tellCord 92 = .ok (.aload_n 0, 1) := by decide +kernel
theorem dX4_tellCord_93 : decode cX4_tellCord 93 = .ok (.getfield 45, 3) := by decide +kernel
theorem dX4_tellCord_96 : decode cX4_tellCord 96 = .ok (.iload 4, 2) := by decide +kernel
theorem dX4_tellCord_98 : decode cX4_tellCord 98 = .ok (.invokevirtual 67, 3) := by decide +kernel
theorem dX4_tellCord_101 : decode cX4_tellCord 101 = .ok (.aload_n 0, 1) := by decide +kernel
theorem dX4_tellCord_102 : decode cX4_tellCord 102 = .ok (.getfield 36, 3) := by decide +kernel
theorem dX4_tellCord_105 : decode cX4_tellCord 105 = .ok (.invokevirtual 78, 3) := by decide +kernel
theorem dX4_tellCord_108 : decode cX4_tellCord 108 = .ok (.iconst 1, 1) := by decide +kernel
theorem dX4_tellCord_109 : decode cX4_tellCord 109 = .ok (.isub, 1) := by decide +kernel
theorem dX4_tellCord_110 : decode cX4_tellCord 110 = .ok (.ireturn, 1) := by decide +kernel
theorem dX4_tellCatch_0 : decode cX4_tellCatch 0 = .ok (.aload_n 0, 1) := by decide +kernel
theorem dX4_tellCatch_1 : decode cX4_tellCatch 1 = .ok (.iload_n 1, 1) := by decide +kernel
theorem dX4_tellCatch_2 : decode cX4_tellCatch 2 = .ok (.invokevirtual 70, 3) := by decide +kernel
theorem dX4_tellCatch_5 : decode cX4_tellCatch 5 = .ok (.ifCond .ne 6, 3) := by decide +kernel
theorem dX4_tellCatch_8 : decode cX4_tellCatch 8 = .ok (.bipush (-2), 2) := by decide +kernel
theorem dX4_tellCatch_10 : decode cX4_tellCatch 10 = .ok (.ireturn, 1) := by decide +kernel
theorem dX4_tellCatch_11 : decode cX4_tellCatch 11 = .ok (.aload_n 0, 1) := by decide +kernel
theorem dX4_tellCatch_12 : decode cX4_tellCatch 12 = .ok (.iload_n 1, 1) := by decide +kernel
theorem dX4_tellCatch_13 : decode cX4_tellCatch 13 = .ok (.invokevirtual 82, 3) := by decide +kernel
theorem dX4_tellCatch_16 : decode cX4_tellCatch 16 = .ok (.iload_n 2, 1) := by decide +kernel
theorem dX4_tellCatch_17 : decode cX4_tellCatch 17 = .ok (.if_icmp .ne 6, 3) := by decide +kernel
theorem dX4_tellCatch_20 : decode cX4_tellCatch 20 = .ok (.bipush (-3), 2) := by decide +kernel
theorem dX4_tellCatch_22 : decode cX4_tellCatch 22 = .ok (.ireturn, 1) := by decide +kernel
theorem dX4_tellCatch_23 : decode cX4_tellCatch 23 = .ok (.aload_n 0, 1) := by decide +kernel
theorem dX4_tellCatch_24 : decode cX4_tellCatch 24 = .ok (.dup, 1) := by decide +kernel
theorem dX4_tellCatch_25 : decode cX4_tellCatch 25 = .ok (.getfield 18, 3) := by decide +kernel
theorem dX4_tellCatch_28 : decode cX4_tellCatch 28 = .ok (.iconst 1, 1) := by decide +kernel
theorem dX4_tellCatch_29 : decode cX4_tellCatch 29 = .ok (.iload_n 1, 1) := by decide +kernel
theorem dX4_tellCatch_30 : decode cX4_tellCatch 30 = .ok (.ishl, 1) := by decide +kernel
theorem dX4_tellCatch_31 : decode cX4_tellCatch 31 = .ok (.ixor, 1) := by decide +kernel
theorem dX4_tellCatch_32 : decode cX4_tellCatch 32 = .ok (.putfield 18, 3) := by decide +kernel
theorem dX4_tellCatch_35 : decode cX4_tellCatch 35 = .ok (.iconst 1, 1) := by decide +kernel
theorem dX4_tellCatch_36 : decode cX4_tellCatch 36 = .ok (.ireturn, 1) := by decide +kernel
theorem dX4_tellGoods_0 : decode cX4_tellGoods 0 = .ok (.aload_n 0, 1) := by decide +kernel
theorem dX4_tellGoods_1 : decode cX4_tellGoods 1 = .ok (.iload_n 1, 1) := by decide +kernel
theorem dX4_tellGoods_2 : decode cX4_tellGoods 2 = .ok (.invokevirtual 70, 3) := by decide +kernel
theorem dX4_tellGoods_5 : decode cX4_tellGoods 5 = .ok (.ifCond .eq 13, 3) := by decide +kernel
theorem dX4_tellGoods_8 : decode cX4_tellGoods 8 = .ok (.iload_n 2, 1) := by decide +kernel
theorem dX4_tellGoods_9 : decode cX4_tellGoods 9 = .ok (.ifCond .lt 9, 3) := by decide +kernel
theorem dX4_tellGoods_12 : decode cX4_tellGoods 12 = .ok (.iload_n 2, 1) := by decide +kernel
theorem dX4_tellGoods_13 : decode cX4_tellGoods 13 = .ok (.bipush 7, 2) := by decide +kernel
theorem dX4_tellGoods_15 : decode cX4_tellGoods 15 = .ok (.if_icmp .lt 6, 3) := by decide +kernel
theorem dX4_tellGoods_18 : decode cX4_tellGoods 18 = .ok (.bipush (-2), 2) := by decide +kernel
theorem dX4_tellGoods_20 : decode cX4_tellGoods 20 = .ok (.ireturn, 1) := by decide +kernel
theorem dX4_tellGoods_21 : decode cX4_tellGoods 21 = .ok (.aload_n 0, 1) := by decide +kernel
theorem dX4_tellGoods_22 : decode cX4_tellGoods 22 = .ok (.getfield 32, 3) := by decide +kernel
theorem dX4_tellGoods_25 : decode cX4_tellGoods 25 = .ok (.iload_n 1, 1) := by decide +kernel
theorem dX4_tellGoods_26 : decode cX4_tellGoods 26 = .ok (.invokevirtual 85, 3) := by decide +kernel
theorem dX4_tellGoods_29 : decode cX4_tellGoods 29 = .ok (.istore_n 3, 1) := by decide +kernel
theorem dX4_tellGoods_30 : decode cX4_tellGoods 30 = .ok (.aload_n 0, 1) := by decide +kernel
theorem dX4_tellGoods_31 : decode cX4_tellGoods 31 = .ok (.getfield 32, 3) := by decide +kernel
theorem dX4_tellGoods_34 : decode cX4_tellGoods 34 = .ok (.iload_n 1, 1) := by decide +kernel
theorem dX4_tellGoods_35 : decode cX4_tellGoods 35 = .ok (.iload_n 2, 1) := by decide +kernel
theorem dX4_tellGoods_36 : decode cX4_tellGoods 36 = .ok (.invokevirtual 88, 3) := by decide +kernel
theorem dX4_tellGoods_39 : decode cX4_tellGoods 39 = .ok (.iload_n 3, 1) := by decide +kernel
theorem dX4_tellGoods_40 : decode cX4_tellGoods 40 = .ok (.ireturn, 1) := by decide +kernel
theorem dX4_tellOrder_0 : decode cX4_tellOrder 0 = .ok (.iload_n 1, 1) := by decide +kernel
theorem dX4_tellOrder_1 : decode cX4_tellOrder 1 = .ok (.ifCond .lt 9, 3) := by decide +kernel
theorem dX4_tellOrder_4 : decode cX4_tellOrder 4 = .ok (.iload_n 1, 1) := by decide +kernel
theorem dX4_tellOrder_5 : decode cX4_tellOrder 5 = .ok (.bipush 7, 2) := by decide +kernel
theorem dX4_tellOrder_7 : decode cX4_tellOrder 7 = .ok (.if_icmp .lt 6, 3) := by decide +kernel
theorem dX4_tellOrder_10 : decode cX4_tellOrder 10 = .ok (.bipush (-2), 2) := by decide +kernel
theorem dX4_tellOrder_12 : decode cX4_tellOrder 12 = .ok (.ireturn, 1) := by decide +kernel
theorem dX4_tellOrder_13 : decode cX4_tellOrder 13 = .ok (.aload_n 0, 1) := by decide +kernel
theorem dX4_tellOrder_14 : decode cX4_tellOrder 14 = .ok (.getfield 48, 3) := by decide +kernel
theorem dX4_tellOrder_17 : decode cX4_tellOrder 17 = .ok (.invokevirtual 74, 3) := by decide +kernel
theorem dX4_tellOrder_20 : decode cX4_tellOrder 20 = .ok (.ifCond .eq 6, 3) := by decide +kernel
theorem dX4_tellOrder_23 : decode cX4_tellOrder 23 = .ok (.bipush (-4), 2) := by decide +kernel
theorem dX4_tellOrder_25 : decode cX4_tellOrder 25 = .ok (.ireturn, 1) := by decide +kernel
theorem dX4_tellOrder_26 : decode cX4_tellOrder 26 = .ok (.aload_n 0, 1) := by decide +kernel
theorem dX4_tellOrder_27 : decode cX4_tellOrder 27 = .ok (.getfield 48, 3) := by decide +kernel
theorem dX4_tellOrder_30 : decode cX4_tellOrder 30 = .ok (.iload_n 1, 1) := by decide +kernel
theorem dX4_tellOrder_31 : decode cX4_tellOrder 31 = .ok (.invokevirtual 67, 3) := by decide +kernel
theorem dX4_tellOrder_34 : decode cX4_tellOrder 34 = .ok (.aload_n 0, 1) := by decide +kernel
theorem dX4_tellOrder_35 : decode cX4_tellOrder 35 = .ok (.getfield 48, 3) := by decide +kernel
theorem dX4_tellOrder_38 : decode cX4_tellOrder 38 = .ok (.invokevirtual 78, 3) := by decide +kernel
theorem dX4_tellOrder_41 : decode cX4_tellOrder 41 = .ok (.iconst 1, 1) := by decide +kernel
theorem dX4_tellOrder_42 : decode cX4_tellOrder 42 = .ok (.isub, 1) := by decide +kernel
theorem dX4_tellOrder_43 : decode cX4_tellOrder 43 = .ok (.ireturn, 1) := by decide +kernel
theorem dX4_copyFrom_0 : decode cX4_copyFrom 0 = .ok (.aload_n 0, 1) := by decide +kernel
theorem dX4_copyFrom_1 : decode cX4_copyFrom 1 = .ok (.aload_n 1, 1) := by decide +kernel
theorem dX4_copyFrom_2 : decode cX4_copyFrom 2 = .ok (.getfield 9, 3) := by decide +kernel
theorem dX4_copyFrom_5 : decode cX4_copyFrom 5 = .ok (.putfield 9, 3) := by decide +kernel
theorem dX4_copyFrom_8 : decode cX4_copyFrom 8 = .ok (.aload_n 0, 1) := by decide +kernel
theorem dX4_copyFrom_9 : decode cX4_copyFrom 9 = .ok (.aload_n 1, 1) := by decide +kernel
theorem dX4_copyFrom_10 : decode cX4_copyFrom 10 = .ok (.getfield 15, 3) := by decide +kernel
theorem dX4_copyFrom_13 : decode cX4_copyFrom 13 = .ok (.putfield 15, 3) := by decide +kernel
theorem dX4_copyFrom_16 : decode cX4_copyFrom 16 = .ok (.aload_n 0, 1) := by decide +kernel
theorem dX4_copyFrom_17 : decode cX4_copyFrom 17 = .ok (.aload_n 1, 1) := by decide +kernel
theorem dX4_copyFrom_18 : decode cX4_copyFrom 18 = .ok (.getfield 18, 3) := by decide +kernel
theorem dX4_copyFrom_21 : decode cX4_copyFrom 21 = .ok (.putfield 18, 3) := by decide +kernel
theorem dX4_copyFrom_24 : decode cX4_copyFrom 24 = .ok (.aload_n 0, 1) := by decide +kernel
theorem dX4_copyFrom_25 : decode cX4_copyFrom 25 = .ok (.aload_n 1, 1) := by decide +kernel
theorem dX4_copyFrom_26 : decode cX4_copyFrom 26 = .ok (.getfield 21, 3) := by decide +kernel
theorem dX4_copyFrom_29 : decode cX4_copyFrom 29 = .ok (.putfield 21, 3) := by decide +kernel
theorem dX4_copyFrom_32 : decode cX4_copyFrom 32 = .ok (.aload_n 0, 1) := by decide +kernel
theorem dX4_copyFrom_33 : decode cX4_copyFrom 33 = .ok (.aload_n 1, 1) := by decide +kernel
theorem dX4_copyFrom_34 : decode cX4_copyFrom 34 = .ok (.getfield 24, 3) := by decide +kernel
theorem dX4_copyFrom_37 : decode cX4_copyFrom 37 = .ok (.putfield 24, 3) := by decide +kernel
theorem dX4_copyFrom_40 : decode cX4_copyFrom 40 = .ok (.aload_n 0, 1) := by decide +kernel
theorem dX4_copyFrom_41 : decode cX4_copyFrom 41 = .ok (.getfield 32, 3) := by decide +kernel
theorem dX4_copyFrom_44 : decode cX4_copyFrom 44 = .ok (.aload_n 1, 1) := by decide +kernel
theorem dX4_copyFrom_45 : decode cX4_copyFrom 45 = .ok (.getfield 32, 3) := by decide +kernel
theorem dX4_copyFrom_48 : decode cX4_copyFrom 48 = .ok (.invokevirtual 92, 3) := by decide +kernel
theorem dX4_copyFrom_51 : decode cX4_copyFrom 51 = .ok (.aload_n 0, 1) := by decide +kernel
theorem dX4_copyFrom_52 : decode cX4_copyFrom 52 = .ok (.getfield 36, 3) := by decide +kernel
theorem dX4_copyFrom_55 : decode cX4_copyFrom 55 = .ok (.aload_n 1, 1) := by decide +kernel
theorem dX4_copyFrom_56 : decode cX4_copyFrom 56 = .ok (.getfield 36, 3) := by decide +kernel
theorem dX4_copyFrom_59 : decode cX4_copyFrom 59 = .ok (.invokevirtual 92, 3) := by decide +kernel
theorem dX4_copyFrom_62 : decode cX4_copyFrom 62 = .ok (.aload_n 0, 1) := by decide +kernel
theorem dX4_copyFrom_63 : decode cX4_copyFrom 63 = .ok (.getfield 39, 3) := by decide +kernel
theorem dX4_copyFrom_66 : decode cX4_copyFrom 66 = .ok (.aload_n 1, 1) := by decide +kernel
theorem dX4_copyFrom_67 : decode cX4_copyFrom 67 = .ok (.getfield 39, 3) := by decide +kernel
theorem dX4_copyFrom_70 : decode cX4_copyFrom 70 = .ok (.invokevirtual 92, 3) := by decide +kernel
theorem dX4_copyFrom_73 : decode cX4_copyFrom 73 = .ok (.aload_n 0, 1) := by decide +kernel
theorem dX4_copyFrom_74 : decode cX4_copyFrom 74 = .ok (.getfield 42, 3) := by decide +kernel
theorem dX4_copyFrom_77 : decode cX4_copyFrom 77 = .ok (.aload_n 1, 1) := by decide +kernel
theorem dX4_copyFrom_78 : decode cX4_copyFrom 78 = .ok (.getfield 42, 3) := by decide +kernel
theorem dX4_copyFrom_81 : decode cX4_copyFrom 81 = .ok (.invokevirtual 92, 3) := by decide +kernel
theorem dX4_copyFrom_84 : decode cX4_copyFrom 84 = .ok (.aload_n 0, 1) := by decide +kernel
theorem dX4_copyFrom_85 : decode cX4_copyFrom 85 = .ok (.getfield 45, 3) := by decide +kernel
theorem dX4_copyFrom_88 : decode cX4_copyFrom 88 = .ok (.aload_n 1, 1) := by decide +kernel
theorem dX4_copyFrom_89 : decode cX4_copyFrom 89 = .ok (.getfield 45, 3) := by decide +kernel
theorem dX4_copyFrom_92 : decode cX4_copyFrom 92 = .ok (.invokevirtual 92, 3) := by decide +kernel
theorem dX4_copyFrom_95 : decode cX4_copyFrom 95 = .ok (.aload_n 0, 1) := by decide +kernel
theorem dX4_copyFrom_96 : decode cX4_copyFrom 96 = .ok (.getfield 48, 3) := by decide +kernel
theorem dX4_copyFrom_99 : decode cX4_copyFrom 99 = .ok (.aload_n 1, 1) := by decide +kernel
theorem dX4_copyFrom_100 : decode cX4_copyFrom 100 = .ok (.getfield 48, 3) := by decide +kernel
theorem dX4_copyFrom_103 : decode cX4_copyFrom 103 = .ok (.invokevirtual 92, 3) := by decide +kernel
theorem dX4_copyFrom_106 : decode cX4_copyFrom 106 = .ok (.aload_n 0, 1) := by decide +kernel
theorem dX4_copyFrom_107 : decode cX4_copyFrom 107 = .ok (.getfield 51, 3) := by decide +kernel
theorem dX4_copyFrom_110 : decode cX4_copyFrom 110 = .ok (.aload_n 1, 1) := by decide +kernel
theorem dX4_copyFrom_111 : decode cX4_copyFrom 111 = .ok (.getfield 51, 3) := by decide +kernel
theorem dX4_copyFrom_114 : decode cX4_copyFrom 114 = .ok (.invokevirtual 92, 3) := by decide +kernel
theorem dX4_copyFrom_117 : decode cX4_copyFrom 117 = .ok (.aload_n 0, 1) := by decide +kernel
theorem dX4_copyFrom_118 : decode cX4_copyFrom 118 = .ok (.getfield 54, 3) := by decide +kernel
theorem dX4_copyFrom_121 : decode cX4_copyFrom 121 = .ok (.aload_n 1, 1) := by decide +kernel
theorem dX4_copyFrom_122 : decode cX4_copyFrom 122 = .ok (.getfield 54, 3) := by decide +kernel
theorem dX4_copyFrom_125 : decode cX4_copyFrom 125 = .ok (.invokevirtual 92, 3) := by decide +kernel
theorem dX4_copyFrom_128 : decode cX4_copyFrom 128 = .ok (.aload_n 0, 1) := by decide +kernel
theorem dX4_copyFrom_129 : decode cX4_copyFrom 129 = .ok (.getfield 57, 3) := by decide +kernel
theorem dX4_copyFrom_132 : decode cX4_copyFrom 132 = .ok (.aload_n 1, 1) := by decide +kernel
theorem dX4_copyFrom_133 : decode cX4_copyFrom 133 = .ok (.getfield 57, 3) := by decide +kernel
theorem dX4_copyFrom_136 : decode cX4_copyFrom 136 = .ok (.invokevirtual 92, 3) := by decide +kernel
theorem dX4_copyFrom_139 : decode cX4_copyFrom 139 = .ok (.return_, 1) := by decide +kernel
theorem dX4_states_0 : decode cX4_states 0 = .ok (.aload_n 0, 1) := by decide +kernel
theorem dX4_states_1 : decode cX4_states 1 = .ok (.getfield 9, 3) := by decide +kernel
theorem dX4_states_4 : decode cX4_states 4 = .ok (.invokestatic 96, 3) := by decide +kernel
theorem dX4_states_7 : decode cX4_states 7 = .ok (.ireturn, 1) := by decide +kernel
theorem dX4_hasDrawer_0 : decode cX4_hasDrawer 0 = .ok (.iload_n 1, 1) := by decide +kernel
theorem dX4_hasDrawer_1 : decode cX4_hasDrawer 1 = .ok (.ifCond .lt 15, 3) := by decide +kernel
theorem dX4_hasDrawer_4 : decode cX4_hasDrawer 4 = .ok (.iload_n 1, 1) := by decide +kernel
theorem dX4_hasDrawer_5 : decode cX4_hasDrawer 5 = .ok (.aload_n 0, 1) := by decide +kernel
theorem dX4_hasDrawer_6 : decode cX4_hasDrawer 6 = .ok (.getfield 9, 3) := by decide +kernel
theorem dX4_hasDrawer_9 : decode cX4_hasDrawer 9 = .ok (.if_icmp .ge 7, 3) := by decide +kernel
theorem dX4_hasDrawer_12 : decode cX4_hasDrawer 12 = .ok (.iconst 1, 1) := by decide +kernel
theorem dX4_hasDrawer_13 : decode cX4_hasDrawer 13 = .ok (.goto 4, 3) := by decide +kernel
theorem dX4_hasDrawer_16 : decode cX4_hasDrawer 16 = .ok (.iconst 0, 1) := by decide +kernel
theorem dX4_hasDrawer_17 : decode cX4_hasDrawer 17 = .ok (.ireturn, 1) := by decide +kernel
theorem dX4_hasState_0 : decode cX4_hasState 0 = .ok (.iload_n 1, 1) := by decide +kernel
theorem dX4_hasState_1 : decode cX4_hasState 1 = .ok (.ifCond .lt 18, 3) := by decide +kernel
theorem dX4_hasState_4 : decode cX4_hasState 4 = .ok (.iload_n 1, 1) := by decide +kernel
theorem dX4_hasState_5 : decode cX4_hasState 5 = .ok (.aload_n 0, 1) := by decide +kernel
theorem dX4_hasState_6 : decode cX4_hasState 6 = .ok (.getfield 9, 3) := by decide +kernel
theorem dX4_hasState_9 : decode cX4_hasState 9 = .ok (.invokestatic 96, 3) := by decide +kernel
theorem dX4_hasState_12 : decode cX4_hasState 12 = .ok (.if_icmp .ge 7, 3) := by decide +kernel
theorem dX4_hasState_15 : decode cX4_hasState 15 = .ok (.iconst 1, 1) := by decide +kernel
theorem dX4_hasState_16 : decode cX4_hasState 16 = .ok (.goto 4, 3) := by decide +kernel
theorem dX4_hasState_19 : decode cX4_hasState 19 = .ok (.iconst 0, 1) := by decide +kernel
theorem dX4_hasState_20 : decode cX4_hasState 20 = .ok (.ireturn, 1) := by decide +kernel
theorem dX4_hasSet_0 : decode cX4_hasSet 0 = .ok (.iload_n 1, 1) := by decide +kernel
theorem dX4_hasSet_1 : decode cX4_hasSet 1 = .ok (.ifCond .lt 17, 3) := by decide +kernel
theorem dX4_hasSet_4 : decode cX4_hasSet 4 = .ok (.iload_n 1, 1) := by decide +kernel
theorem dX4_hasSet_5 : decode cX4_hasSet 5 = .ok (.iconst 1, 1) := by decide +kernel
theorem dX4_hasSet_6 : decode cX4_hasSet 6 = .ok (.aload_n 0, 1) := by decide +kernel
theorem dX4_hasSet_7 : decode cX4_hasSet 7 = .ok (.getfield 9, 3) := by decide +kernel
theorem dX4_hasSet_10 : decode cX4_hasSet 10 = .ok (.ishl, 1) := by decide +kernel
theorem dX4_hasSet_11 : decode cX4_hasSet 11 = .ok (.if_icmp .ge 7, 3) := by decide +kernel
theorem dX4_hasSet_14 : decode cX4_hasSet 14 = .ok (.iconst 1, 1) := by decide +kernel
theorem dX4_hasSet_15 : decode cX4_hasSet 15 = .ok (.goto 4, 3) := by decide +kernel
theorem dX4_hasSet_18 : decode cX4_hasSet 18 = .ok (.iconst 0, 1) := by decide +kernel
theorem dX4_hasSet_19 : decode cX4_hasSet 19 = .ok (.ireturn, 1) := by decide +kernel
theorem dX4_hasCatch_0 : decode cX4_hasCatch 0 = .ok (.aload_n 0, 1) := by decide +kernel
theorem dX4_hasCatch_1 : decode cX4_hasCatch 1 = .ok (.getfield 18, 3) := by decide +kernel
theorem dX4_hasCatch_4 : decode cX4_hasCatch 4 = .ok (.iload_n 1, 1) := by decide +kernel
theorem dX4_hasCatch_5 : decode cX4_hasCatch 5 = .ok (.ishr, 1) := by decide +kernel
theorem dX4_hasCatch_6 : decode cX4_hasCatch 6 = .ok (.iconst 1, 1) := by decide +kernel
theorem dX4_hasCatch_7 : decode cX4_hasCatch 7 = .ok (.iand, 1) := by decide +kernel
theorem dX4_hasCatch_8 : decode cX4_hasCatch 8 = .ok (.iconst 1, 1) := by decide +kernel
theorem dX4_hasCatch_9 : decode cX4_hasCatch 9 = .ok (.if_icmp .ne 7, 3) := by decide +kernel
theorem dX4_hasCatch_12 : decode cX4_hasCatch 12 = .ok (.iconst 1, 1) := by decide +kernel
theorem dX4_hasCatch_13 : decode cX4_hasCatch 13 = .ok (.goto 4, 3) := by decide +kernel
theorem dX4_hasCatch_16 : decode cX4_hasCatch 16 = .ok (.iconst 0, 1) := by decide +kernel
theorem dX4_hasCatch_17 : decode cX4_hasCatch 17 = .ok (.ireturn, 1) := by decide +kernel
theorem dX4_remember_0 : decode cX4_remember 0 = .ok (.aload_n 0, 1) := by decide +kernel
theorem dX4_remember_1 : decode cX4_remember 1 = .ok (.getfield 57, 3) := by decide +kernel
theorem dX4_remember_4 : decode cX4_remember 4 = .ok (.invokevirtual 74, 3) := by decide +kernel
theorem dX4_remember_7 : decode cX4_remember 7 = .ok (.ifCond .eq 10, 3) := by decide +kernel
theorem dX4_remember_10 : decode cX4_remember 10 = .ok (.aload_n 0, 1) := by decide +kernel
theorem dX4_remember_11 : decode cX4_remember 11 = .ok (.getfield 57, 3) := by decide +kernel
theorem dX4_remember_14 : decode cX4_remember 14 = .ok (.invokevirtual 99, 3) := by decide +kernel
theorem dX4_remember_17 : decode cX4_remember 17 = .ok (.aload_n 0, 1) := by decide +kernel
theorem dX4_remember_18 : decode cX4_remember 18 = .ok (.getfield 57, 3) := by decide +kernel
theorem dX4_remember_21 : decode cX4_remember 21 = .ok (.aload_n 0, 1) := by decide +kernel
theorem dX4_remember_22 : decode cX4_remember 22 = .ok (.getfield 15, 3) := by decide +kernel
theorem dX4_remember_25 : decode cX4_remember 25 = .ok (.invokevirtual 67, 3) := by decide +kernel
theorem dX4_remember_28 : decode cX4_remember 28 = .ok (.return_, 1) := by decide +kernel
theorem dX4_after_0 : decode cX4_after 0 = .ok (.aload_n 0, 1) := by decide +kernel
theorem dX4_after_1 : decode cX4_after 1 = .ok (.iload_n 2, 1) := by decide +kernel
theorem dX4_after_2 : decode cX4_after 2 = .ok (.invokevirtual 82, 3) := by decide +kernel
theorem dX4_after_5 : decode cX4_after 5 = .ok (.ifCond .eq 13, 3) := by decide +kernel
theorem dX4_after_8 : decode cX4_after 8 = .ok (.iload_n 1, 1) := by decide +kernel
theorem dX4_after_9 : decode cX4_after 9 = .ok (.iload_n 2, 1) := by decide +kernel
theorem dX4_after_10 : decode cX4_after 10 = .ok (.invokestatic 102, 3) := by decide +kernel
theorem dX4_after_13 : decode cX4_after 13 = .ok (.ifCond .eq 5, 3) := by decide +kernel
theorem dX4_after_16 : decode cX4_after 16 = .ok (.iload_n 1, 1) := by decide +kernel
theorem dX4_after_17 : decode cX4_after 17 = .ok (.ireturn, 1) := by decide +kernel
theorem dX4_after_18 : decode cX4_after 18 = .ok (.iload_n 1, 1) := by decide +kernel
theorem dX4_after_19 : decode cX4_after 19 = .ok (.iload_n 2, 1) := by decide +kernel
theorem dX4_after_20 : decode cX4_after 20 = .ok (.invokestatic 106, 3) := by decide +kernel
theorem dX4_after_23 : decode cX4_after 23 = .ok (.iconst 2, 1) := by decide +kernel
theorem dX4_after_24 : decode cX4_after 24 = .ok (.if_icmp .eq 7, 3) := by decide +kernel
theorem dX4_after_27 : decode cX4_after 27 = .ok (.iconst 1, 1) := by decide +kernel
theorem dX4_after_28 : decode cX4_after 28 = .ok (.goto 4, 3) := by decide +kernel
theorem dX4_after_31 : decode cX4_after 31 = .ok (.iconst 0, 1) := by decide +kernel
theorem dX4_after_32 : decode cX4_after 32 = .ok (.istore 4, 2) := by decide +kernel
theorem dX4_after_34 : decode cX4_after 34 = .ok (.iload_n 1, 1) := by decide +kernel
theorem dX4_after_35 : decode cX4_after 35 = .ok (.iload_n 2, 1) := by decide +kernel
theorem dX4_after_36 : decode cX4_after 36 = .ok (.iload 4, 2) := by decide +kernel
theorem dX4_after_38 : decode cX4_after 38 = .ok (.ifCond .eq 7, 3) := by decide +kernel
theorem dX4_after_41 : decode cX4_after 41 = .ok (.iconst 1, 1) := by decide +kernel
theorem dX4_after_42 : decode cX4_after 42 = .ok (.goto 5, 3) := by decide +kernel
theorem dX4_after_45 : decode cX4_after 45 = .ok (.bipush (-2), 2) := by decide +kernel
theorem dX4_after_47 : decode cX4_after 47 = .ok (.invokestatic 110, 3) := by decide +kernel
theorem dX4_after_50 : decode cX4_after 50 = .ok (.istore 5, 2) := by decide +kernel
theorem dX4_after_52 : decode cX4_after 52 = .ok (.iconst 0, 1) := by decide +kernel
theorem dX4_after_53 : decode cX4_after 53 = .ok (.istore 6, 2) := by decide +kernel
theorem dX4_after_55 : decode cX4_after 55 = .ok (.iload 6, 2) := by decide +kernel
theorem dX4_after_57 : decode cX4_after 57 = .ok (.aload_n 0, 1) := by decide +kernel
theorem dX4_after_58 : decode cX4_after 58 = .ok (.getfield 36, 3) := by decide +kernel
theorem dX4_after_61 : decode cX4_after 61 = .ok (.invokevirtual 78, 3) := by decide +kernel
theorem dX4_after_64 : decode cX4_after 64 = .ok (.if_icmp .ge 70, 3) := by decide +kernel
theorem dX4_after_67 : decode cX4_after 67 = .ok (.iload_n 3, 1) := by decide +kernel
theorem dX4_after_68 : decode cX4_after 68 = .ok (.iload 6, 2) := by decide +kernel
theorem dX4_after_70 : decode cX4_after 70 = .ok (.ishr, 1) := by decide +kernel
theorem dX4_after_71 : decode cX4_after 71 = .ok (.iconst 1, 1) := by decide +kernel
theorem dX4_after_72 : decode cX4_after 72 = .ok (.iand, 1) := by decide +kernel
theorem dX4_after_73 : decode cX4_after 73 = .ok (.iconst 1, 1) := by decide +kernel
theorem dX4_after_74 : decode cX4_after 74 = .ok (.if_icmp .ne 20, 3) := by decide +kernel
theorem dX4_after_77 : decode cX4_after 77 = .ok (.aload_n 0, 1) := by decide +kernel
theorem dX4_after_78 : decode cX4_after 78 = .ok (.getfield 36, 3) := by decide +kernel
theorem dX4_after_81 : decode cX4_after 81 = .ok (.iload 6, 2) := by decide +kernel
theorem dX4_after_83 : decode cX4_after 83 = .ok (.invokevirtual 85, 3) := by decide +kernel
theorem dX4_after_86 : decode cX4_after 86 = .ok (.iload_n 2, 1) := by decide +kernel
theorem dX4_after_87 : decode cX4_after 87 = .ok (.if_icmp .ne 7, 3) := by decide +kernel
theorem dX4_after_90 : decode cX4_after 90 = .ok (.iconst 1, 1) := by decide +kernel
theorem dX4_after_91 : decode cX4_after 91 = .ok (.goto 4, 3) := by decide +kernel
theorem dX4_after_94 : decode cX4_after 94 = .ok (.iconst 0, 1) := by decide +kernel
theorem dX4_after_95 : decode cX4_after 95 = .ok (.istore 7, 2) := by decide +kernel
theorem dX4_after_97 : decode cX4_after 97 = .ok (.iload 7, 2) := by decide +kernel
theorem dX4_after_99 : decode cX4_after 99 = .ok (.ifCond .eq 29, 3) := by decide +kernel
theorem dX4_after_102 : decode cX4_after 102 = .ok (.iload 5, 2) := by decide +kernel
theorem dX4_after_104 : decode cX4_after 104 = .ok (.aload_n 0, 1) := by decide +kernel
theorem dX4_after_105 : decode cX4_after 105 = .ok (.getfield 39, 3) := by decide +kernel
theorem dX4_after_108 : decode cX4_after 108 = .ok (.iload 6, 2) := by decide +kernel
theorem dX4_after_110 : decode cX4_after 110 = .ok (.invokevirtual 85, 3) := by decide +kernel
theorem dX4_after_113 : decode cX4_after 113 = .ok (.aload_n 0, 1) := by decide +kernel
theorem dX4_after_114 : decode cX4_after 114 = .ok (.iload 6, 2) := by decide +kernel
theorem dX4_after_116 : decode cX4_after 116 = .ok (.iload 5, 2) := by decide +kernel
theorem dX4_after_118 : decode cX4_after 118 = .ok (.iload 4, 2) := by decide +kernel
theorem dX4_after_120 : decode cX4_after 120 = .ok (.invokevirtual 114, 3) := by decide +kernel
theorem dX4_after_123 : decode cX4_after 123 = .ok (.invokestatic 110, 3) := by decide +kernel
theorem dX4_after_126 : decode cX4_after 126 = .ok (.istore 5, 2) := by decide +kernel
theorem dX4_after_128 : decode cX4_after 128 = .ok (.iinc 6 1, 3) := by decide +kernel
theorem dX4_after_131 : decode cX4_after 131 = .ok (.goto (-76), 3) := by decide +kernel
theorem dX4_after_134 : decode cX4_after 134 = .ok (.iload 5, 2) := by decide +kernel
theorem dX4_after_136 : decode cX4_after 136 = .ok (.ireturn, 1) := by decide +kernel
theorem dX4_amountOf_0 : decode cX4_amountOf 0 = .ok (.aload_n 0, 1) := by decide +kernel
theorem dX4_amountOf_1 : decode cX4_amountOf 1 = .ok (.getfield 45, 3) := by decide +kernel
theorem dX4_amountOf_4 : decode cX4_amountOf 4 = .ok (.iload_n 1, 1) := by decide +kernel
theorem dX4_amountOf_5 : decode cX4_amountOf 5 = .ok (.invokevirtual 85, 3) := by decide +kernel
theorem dX4_amountOf_8 : decode cX4_amountOf 8 = .ok (.istore 4, 2) := by decide +kernel
theorem dX4_amountOf_10 : decode cX4_amountOf 10 = .ok (.aload_n 0, 1) := by decide +kernel
theorem dX4_amountOf_11 : decode cX4_amountOf 11 = .ok (.getfield 39, 3) := by decide +kernel
theorem dX4_amountOf_14 : decode cX4_amountOf 14 = .ok (.iload_n 1, 1) := by decide +kernel
theorem dX4_amountOf_15 : decode cX4_amountOf 15 = .ok (.invokevirtual 85, 3) := by decide +kernel
theorem dX4_amountOf_18 : decode cX4_amountOf 18 = .ok (.istore 5, 2) := by decide +kernel
theorem dX4_amountOf_20 : decode cX4_amountOf 20 = .ok (.iload_n 3, 1) := by decide +kernel
theorem dX4_amountOf_21 : decode cX4_amountOf 21 = .ok (.ifCond .eq 8, 3) := by decide +kernel
theorem dX4_amountOf_24 : decode cX4_amountOf 24 = .ok (.iload 4, 2) := by decide +kernel
theorem dX4_amountOf_26 : decode cX4_amountOf 26 = .ok (.goto 6, 3) := by decide +kernel
theorem dX4_amountOf_29 : decode cX4_amountOf 29 = .ok (.iload 4, 2) := by decide +kernel
theorem dX4_amountOf_31 : decode cX4_amountOf 31 = .ok (.ineg, 1) := by decide +kernel
theorem dX4_amountOf_32 : decode cX4_amountOf 32 = .ok (.istore 6, 2) := by decide +kernel
theorem dX4_amountOf_34 : decode cX4_amountOf 34 = .ok (.iload_n 2, 1) := by decide +kernel
theorem dX4_amountOf_35 : decode cX4_amountOf 35 = .ok (.iload 5, 2) := by decide +kernel
theorem dX4_amountOf_37 : decode cX4_amountOf 37 = .ok (.invokestatic 106, 3) := by decide +kernel
theorem dX4_amountOf_40 : decode cX4_amountOf 40 = .ok (.ifCond .ne 8, 3) := by decide +kernel
theorem dX4_amountOf_43 : decode cX4_amountOf 43 = .ok (.iload 4, 2) := by decide +kernel
theorem dX4_amountOf_45 : decode cX4_amountOf 45 = .ok (.goto 4, 3) := by decide +kernel
theorem dX4_amountOf_48 : decode cX4_amountOf 48 = .ok (.iconst 0, 1) := by decide +kernel
theorem dX4_amountOf_49 : decode cX4_amountOf 49 = .ok (.istore 7, 2) := by decide +kernel
theorem dX4_amountOf_51 : decode cX4_amountOf 51 = .ok (.aload_n 0, 1) := by decide +kernel
theorem dX4_amountOf_52 : decode cX4_amountOf 52 = .ok (.getfield 42, 3) := by decide +kernel
theorem dX4_amountOf_55 : decode cX4_amountOf 55 = .ok (.iload_n 1, 1) := by decide +kernel
theorem dX4_amountOf_56 : decode cX4_amountOf 56 = .ok (.invokevirtual 85, 3) := by decide +kernel
theorem dX4_amountOf_59 : decode cX4_amountOf 59 = .ok (.tableswitch 73 1 5 #[33, 36, 39, 55, 62], 33) := by decide +kernel
theorem dX4_amountOf_92 : decode cX4_amountOf 92 = .ok (.iload 7, 2) := by decide +kernel
theorem dX4_amountOf_94 : decode cX4_amountOf 94 = .ok (.ireturn, 1) := by decide +kernel
theorem dX4_amountOf_95 : decode cX4_amountOf 95 = .ok (.iload 6, 2) := by decide +kernel
theorem dX4_amountOf_97 : decode cX4_amountOf 97 = .ok (.ireturn, 1) := by decide +kernel
theorem dX4_amountOf_98 : decode cX4_amountOf 98 = .ok (.iload_n 2, 1) := by decide +kernel
theorem dX4_amountOf_99 : decode cX4_amountOf 99 = .ok (.iload 5, 2) := by decide +kernel
theorem dX4_amountOf_101 : decode cX4_amountOf 101 = .ok (.invokestatic 102, 3) := by decide +kernel
theorem dX4_amountOf_104 : decode cX4_amountOf 104 = .ok (.ifCond .eq 7, 3) := by decide +kernel
theorem dX4_amountOf_107 : decode cX4_amountOf 107 = .ok (.iconst 0, 1) := by decide +kernel
theorem dX4_amountOf_108 : decode cX4_amountOf 108 = .ok (.goto 5, 3) := by decide +kernel
theorem dX4_amountOf_111 : decode cX4_amountOf 111 = .ok (.iload 4, 2) := by decide +kernel
theorem dX4_amountOf_113 : decode cX4_amountOf 113 = .ok (.ireturn, 1) := by decide +kernel
theorem dX4_amountOf_114 : decode cX4_amountOf 114 = .ok (.iconst 0, 1) := by decide +kernel
theorem dX4_amountOf_115 : decode cX4_amountOf 115 = .ok (.iload 6, 2) := by decide +kernel
theorem dX4_amountOf_117 : decode cX4_amountOf 117 = .ok (.invokestatic 118, 3) := by decide +kernel
theorem dX4_amountOf_120 : decode cX4_amountOf 120 = .ok (.ireturn, 1) := by decide +kernel
theorem dX4_amountOf_121 : decode cX4_amountOf 121 = .ok (.iconst (-1), 1) := by decide +kernel
theorem dX4_amountOf_122 : decode cX4_amountOf 122 = .ok (.iconst 1, 1) := by decide +kernel
theorem dX4_amountOf_123 : decode cX4_amountOf 123 = .ok (.iload 7, 2) := by decide +kernel
theorem dX4_amountOf_125 : decode cX4_amountOf 125 = .ok (.invokestatic 123, 3) := by decide +kernel
theorem dX4_amountOf_128 : decode cX4_amountOf 128 = .ok (.invokestatic 118, 3) := by decide +kernel
theorem dX4_amountOf_131 : decode cX4_amountOf 131 = .ok (.ireturn, 1) := by decide +kernel
theorem dX4_amountOf_132 : decode cX4_amountOf 132 = .ok (.iload 4, 2) := by decide +kernel
theorem dX4_amountOf_134 : decode cX4_amountOf 134 = .ok (.ireturn, 1) := by decide +kernel
theorem dX4_drawersHolding_0 : decode cX4_drawersHolding 0 = .ok (.iconst 0, 1) := by decide +kernel
theorem dX4_drawersHolding_1 : decode cX4_drawersHolding 1 = .ok (.istore_n 2, 1) := by decide +kernel
theorem dX4_drawersHolding_2 : decode cX4_drawersHolding 2 = .ok (.iconst 0, 1) := by decide +kernel
theorem dX4_drawersHolding_3 : decode cX4_drawersHolding 3 = .ok (.istore_n 3, 1) := by decide +kernel
theorem dX4_drawersHolding_4 : decode cX4_drawersHolding 4 = .ok (.iload_n 3, 1) := by decide +kernel
theorem dX4_drawersHolding_5 : decode cX4_drawersHolding 5 = .ok (.aload_n 0, 1) := by decide +kernel
theorem dX4_drawersHolding_6 : decode cX4_drawersHolding 6 = .ok (.getfield 9, 3) := by decide +kernel
theorem dX4_drawersHolding_9 : decode cX4_drawersHolding 9 = .ok (.if_icmp .ge 31, 3) := by decide +kernel
theorem dX4_drawersHolding_12 : decode cX4_drawersHolding 12 = .ok (.iload_n 1, 1) := by decide +kernel
theorem dX4_drawersHolding_13 : decode cX4_drawersHolding 13 = .ok (.aload_n 0, 1) := by decide +kernel
theorem dX4_drawersHolding_14 : decode cX4_drawersHolding 14 = .ok (.getfield 32, 3) := by decide +kernel
theorem dX4_drawersHolding_17 : decode cX4_drawersHolding 17 = .ok (.iload_n 3, 1) := by decide +kernel
theorem dX4_drawersHolding_18 : decode cX4_drawersHolding 18 = .ok (.invokevirtual 85, 3) := by decide +kernel
theorem dX4_drawersHolding_21 : decode cX4_drawersHolding 21 = .ok (.ishr, 1) := by decide +kernel
theorem dX4_drawersHolding_22 : decode cX4_drawersHolding 22 = .ok (.iconst 1, 1) := by decide +kernel
theorem dX4_drawersHolding_23 : decode cX4_drawersHolding 23 = .ok (.iand, 1) := by decide +kernel
theorem dX4_drawersHolding_24 : decode cX4_drawersHolding 24 = .ok (.iconst 1, 1) := by decide +kernel
theorem dX4_drawersHolding_25 : decode cX4_drawersHolding 25 = .ok (.if_icmp .ne 9, 3) := by decide +kernel
theorem dX4_drawersHolding_28 : decode cX4_drawersHolding 28 = .ok (.iload_n 2, 1) := by decide +kernel
theorem dX4_drawersHolding_29 : decode cX4_drawersHolding 29 = .ok (.iconst 1, 1) := by decide +kernel
theorem dX4_drawersHolding_30 : decode cX4_drawersHolding 30 = .ok (.iload_n 3, 1) := by decide +kernel
theorem dX4_drawersHolding_31 : decode cX4_drawersHolding 31 = .ok (.ishl, 1) := by decide +kernel
theorem dX4_drawersHolding_32 : decode cX4_drawersHolding 32 = .ok (.ior, 1) := by decide +kernel
theorem dX4_drawersHolding_33 : decode cX4_drawersHolding 33 = .ok (.istore_n 2, 1) := by decide +kernel
theorem dX4_drawersHolding_34 : decode cX4_drawersHolding 34 = .ok (.iinc 3 1, 3) := by decide +kernel
theorem dX4_drawersHolding_37 : decode cX4_drawersHolding 37 = .ok (.goto (-33), 3) := by decide +kernel
theorem dX4_drawersHolding_40 : decode cX4_drawersHolding 40 = .ok (.iload_n 2, 1) := by decide +kernel
theorem dX4_drawersHolding_41 : decode cX4_drawersHolding 41 = .ok (.ireturn, 1) := by decide +kernel
theorem dX4_isDanger_0 : decode cX4_isDanger 0 = .ok (.aload_n 0, 1) := by decide +kernel
theorem dX4_isDanger_1 : decode cX4_isDanger 1 = .ok (.aload_n 0, 1) := by decide +kernel
theorem dX4_isDanger_2 : decode cX4_isDanger 2 = .ok (.getfield 21, 3) := by decide +kernel
theorem dX4_isDanger_5 : decode cX4_isDanger 5 = .ok (.invokevirtual 126, 3) := by decide +kernel
theorem dX4_isDanger_8 : decode cX4_isDanger 8 = .ok (.iload_n 1, 1) := by decide +kernel
theorem dX4_isDanger_9 : decode cX4_isDanger 9 = .ok (.iconst 2, 1) := by decide +kernel
theorem dX4_isDanger_10 : decode cX4_isDanger 10 = .ok (.invokestatic 129, 3) := by decide +kernel
theorem dX4_isDanger_13 : decode cX4_isDanger 13 = .ok (.iand, 1) := by decide +kernel
theorem dX4_isDanger_14 : decode cX4_isDanger 14 = .ok (.istore_n 2, 1) := by decide +kernel
theorem dX4_isDanger_15 : decode cX4_isDanger 15 = .ok (.aload_n 0, 1) := by decide +kernel
theorem dX4_isDanger_16 : decode cX4_isDanger 16 = .ok (.aload_n 0, 1) := by decide +kernel
theorem dX4_isDanger_17 : decode cX4_isDanger 17 = .ok (.getfield 24, 3) := by decide +kernel
theorem dX4_isDanger_20 : decode cX4_isDanger 20 = .ok (.invokevirtual 126, 3) := by decide +kernel
theorem dX4_isDanger_23 : decode cX4_isDanger 23 = .ok (.iload_n 1, 1) := by decide +kernel
theorem dX4_isDanger_24 : decode cX4_isDanger 24 = .ok (.iconst 0, 1) := by decide +kernel
theorem dX4_isDanger_25 : decode cX4_isDanger 25 = .ok (.invokestatic 129, 3) := by decide +kernel
theorem dX4_isDanger_28 : decode cX4_isDanger 28 = .ok (.iconst (-1), 1) := by decide +kernel
theorem dX4_isDanger_29 : decode cX4_isDanger 29 = .ok (.ixor, 1) := by decide +kernel
theorem dX4_isDanger_30 : decode cX4_isDanger 30 = .ok (.iand, 1) := by decide +kernel
theorem dX4_isDanger_31 : decode cX4_isDanger 31 = .ok (.istore_n 3, 1) := by decide +kernel
theorem dX4_isDanger_32 : decode cX4_isDanger 32 = .ok (.iload_n 2, 1) := by decide +kernel
theorem dX4_isDanger_33 : decode cX4_isDanger 33 = .ok (.invokestatic 132, 3) := by decide +kernel
theorem dX4_isDanger_36 : decode cX4_isDanger 36 = .ok (.iload_n 3, 1) := by decide +kernel
theorem dX4_isDanger_37 : decode cX4_isDanger 37 = .ok (.iand, 1) := by decide +kernel
theorem dX4_isDanger_38 : decode cX4_isDanger 38 = .ok (.ifCond .eq 7, 3) := by decide +kernel
theorem dX4_isDanger_41 : decode cX4_isDanger 41 = .ok (.iconst 1, 1) := by decide +kernel
theorem dX4_isDanger_42 : decode cX4_isDanger 42 = .ok (.goto 4, 3) := by decide +kernel
theorem dX4_isDanger_45 : decode cX4_isDanger 45 = .ok (.iconst 0, 1) := by decide +kernel
theorem dX4_isDanger_46 : decode cX4_isDanger 46 = .ok (.ireturn, 1) := by decide +kernel
theorem dX4_areSightsSo_0 : decode cX4_areSightsSo 0 = .ok (.iconst 0, 1) := by decide +kernel
theorem dX4_areSightsSo_1 : decode cX4_areSightsSo 1 = .ok (.istore_n 2, 1) := by decide +kernel
theorem dX4_areSightsSo_2 : decode cX4_areSightsSo 2 = .ok (.iconst 0, 1) := by decide +kernel
theorem dX4_areSightsSo_3 : decode cX4_areSightsSo 3 = .ok (.istore_n 3, 1) := by decide +kernel
theorem dX4_areSightsSo_4 : decode cX4_areSightsSo 4 = .ok (.iload_n 3, 1) := by decide +kernel
theorem dX4_areSightsSo_5 : decode cX4_areSightsSo 5 = .ok (.aload_n 0, 1) := by decide +kernel
theorem dX4_areSightsSo_6 : decode cX4_areSightsSo 6 = .ok (.getfield 51, 3) := by decide +kernel
theorem dX4_areSightsSo_9 : decode cX4_areSightsSo 9 = .ok (.invokevirtual 78, 3) := by decide +kernel
theorem dX4_areSightsSo_12 : decode cX4_areSightsSo 12 = .ok (.if_icmp .ge 45, 3) := by decide +kernel
theorem dX4_areSightsSo_15 : decode cX4_areSightsSo 15 = .ok (.aload_n 0, 1) := by decide +kernel
theorem dX4_areSightsSo_16 : decode cX4_areSightsSo 16 = .ok (.iload_n 2, 1) := by decide +kernel
theorem dX4_areSightsSo_17 : decode cX4_areSightsSo 17 = .ok (.aload_n 0, 1) := by decide +kernel
theorem dX4_areSightsSo_18 : decode cX4_areSightsSo 18 = .ok (.getfield 51, 3) := by decide +kernel
theorem dX4_areSightsSo_21 : decode cX4_areSightsSo 21 = .ok (.iload_n 3, 1) := by decide +kernel
theorem dX4_areSightsSo_22 : decode cX4_areSightsSo 22 = .ok (.invokevirtual 85, 3) := by decide +kernel
theorem dX4_areSightsSo_25 : decode cX4_areSightsSo 25 = .ok (.iload_n 1, 1) := by decide +kernel
theorem dX4_areSightsSo_26 : decode cX4_areSightsSo 26 = .ok (.invokevirtual 135, 3) := by decide +kernel
theorem dX4_areSightsSo_29 : decode cX4_areSightsSo 29 = .ok (.aload_n 0, 1) := by decide +kernel
theorem dX4_areSightsSo_30 : decode cX4_areSightsSo 30 = .ok (.getfield 54, 3) := by decide +kernel
theorem dX4_areSightsSo_33 : decode cX4_areSightsSo 33 = .ok (.iload_n 3, 1) := by decide +kernel
theorem dX4_areSightsSo_34 : decode cX4_areSightsSo 34 = .ok (.invokevirtual 85, 3) := by decide +kernel
theorem dX4_areSightsSo_37 : decode cX4_areSightsSo 37 = .ok (.if_icmp .eq 5, 3) := by decide +kernel
theorem dX4_areSightsSo_40 : decode cX4_areSightsSo 40 = .ok (.iconst 0, 1) := by decide +kernel
theorem dX4_areSightsSo_41 : decode cX4_areSightsSo 41 = .ok (.ireturn, 1) := by decide +kernel
theorem dX4_areSightsSo_42 : decode cX4_areSightsSo 42 = .ok (.aload_n 0, 1) := by decide +kernel
theorem dX4_areSightsSo_43 : decode cX4_areSightsSo 43 = .ok (.getfield 54, 3) := by decide +kernel
theorem dX4_areSightsSo_46 : decode cX4_areSightsSo 46 = .ok (.iload_n 3, 1) := by decide +kernel
theorem dX4_areSightsSo_47 : decode cX4_areSightsSo 47 = .ok (.invokevirtual 85, 3) := by decide +kernel
theorem dX4_areSightsSo_50 : decode cX4_areSightsSo 50 = .ok (.istore_n 2, 1) := by decide +kernel
theorem dX4_areSightsSo_51 : decode cX4_areSightsSo 51 = .ok (.iinc 3 1, 3) := by decide +kernel
theorem dX4_areSightsSo_54 : decode cX4_areSightsSo 54 = .ok (.goto (-50), 3) := by decide +kernel
theorem dX4_areSightsSo_57 : decode cX4_areSightsSo 57 = .ok (.iconst 1, 1) := by decide +kernel
theorem dX4_areSightsSo_58 : decode cX4_areSightsSo 58 = .ok (.ireturn, 1) := by decide +kernel
