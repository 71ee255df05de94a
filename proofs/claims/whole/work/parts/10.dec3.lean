theorem dX5_init_0 : decode cX5_init 0 = .ok (.aload_n 0, 1) := by decide +kernel
theorem dX5_init_1 : decode cX5_init 1 = .ok (.invokespecial 1, 3) := by decide +kernel
theorem dX5_init_4 : decode cX5_init 4 = .ok (.aload_n 0, 1) := by decide +kernel
theorem dX5_init_5 : decode cX5_init 5 = .ok (.new 7, 3) := by decide +kernel
theorem dX5_init_8 : decode cX5_init 8 = .ok (.dup, 1) := by decide +kernel
theorem dX5_init_9 : decode cX5_init 9 = .ok (.invokespecial 9, 3) := by decide +kernel
theorem dX5_init_12 : decode cX5_init 12 = .ok (.putfield 10, 3) := by decide +kernel
theorem dX5_init_15 : decode cX5_init 15 = .ok (.aload_n 0, 1) := by decide +kernel
theorem dX5_init_16 : decode cX5_init 16 = .ok (.new 7, 3) := by decide +kernel
theorem dX5_init_19 : decode cX5_init 19 = .ok (.dup, 1) := by decide +kernel
theorem dX5_init_20 : decode cX5_init 20 = .ok (.invokespecial 9, 3) := by decide +kernel
theorem dX5_init_23 : decode cX5_init 23 = .ok (.putfield 16, 3) := by decide +kernel
theorem dX5_init_26 : decode cX5_init 26 = .ok (.aload_n 0, 1) := by decide +kernel
theorem dX5_init_27 : decode cX5_init 27 = .ok (.new 7, 3) := by decide +kernel
theorem dX5_init_30 : decode cX5_init 30 = .ok (.dup, 1) := by decide +kernel
theorem dX5_init_31 : decode cX5_init 31 = .ok (.invokespecial 9, 3) := by decide +kernel
theorem dX5_init_34 : decode cX5_init 34 = .ok (.putfield 19, 3) := by decide +kernel
theorem dX5_init_37 : decode cX5_init 37 = .ok (.aload_n 0, 1) := by decide +kernel
theorem dX5_init_38 : decode cX5_init 38 = .ok (.new 7, 3) := by decide +kernel
theorem dX5_init_41 : decode cX5_init 41 = .ok (.dup, 1) := by decide +kernel
theorem dX5_init_42 : decode cX5_init 42 = .ok (.invokespecial 9, 3) := by decide +kernel
theorem dX5_init_45 : decode cX5_init 45 = .ok (.putfield 22, 3) := by decide +kernel
theorem dX5_init_48 : decode cX5_init 48 = .ok (.aload_n 0, 1) := by decide +kernel
theorem dX5_init_49 : decode cX5_init 49 = .ok (.iconst 0, 1) := by decide +kernel
theorem dX5_init_50 : decode cX5_init 50 = .ok (.putfield 25, 3) := by decide +kernel
theorem dX5_init_53 : decode cX5_init 53 = .ok (.aload_n 0, 1) := by decide +kernel
theorem dX5_init_54 : decode cX5_init 54 = .ok (.iconst 0, 1) := by decide +kernel
theorem dX5_init_55 : decode cX5_init 55 = .ok (.putfield 29, 3) := by decide +kernel
theorem dX5_init_58 : decode cX5_init 58 = .ok (.aload_n 0, 1) := by decide +kernel
theorem dX5_init_59 : decode cX5_init 59 = .ok (.new 32, 3) := by decide +kernel
theorem dX5_init_62 : decode cX5_init 62 = .ok (.dup, 1) := by decide +kernel
theorem dX5_init_63 : decode cX5_init 63 = .ok (.sipush 200, 3) := by decide +kernel
theorem dX5_init_66 : decode cX5_init 66 = .ok (.invokespecial 34, 3) := by decide +kernel
theorem dX5_init_69 : decode cX5_init 69 = .ok (.putfield 37, 3) := by decide +kernel
theorem dX5_init_72 : decode cX5_init 72 = .ok (.aload_n 0, 1) := by decide +kernel
theorem dX5_init_73 : decode cX5_init 73 = .ok (.new 41, 3) := by decide +kernel
theorem dX5_init_76 : decode cX5_init 76 = .ok (.dup, 1) := by decide +kernel
theorem dX5_init_77 : decode cX5_init 77 = .ok (.invokespecial 43, 3) := by decide +kernel
theorem dX5_init_80 : decode cX5_init 80 = .ok (.putfield 44, 3) := by decide +kernel
theorem dX5_init_83 : decode cX5_init 83 = .ok (.aload_n 0, 1) := by decide +kernel
theorem dX5_init_84 : decode cX5_init 84 = .ok (.new 48, 3) := by decide +kernel
theorem dX5_init_87 : decode cX5_init 87 = .ok (.dup, 1) := by decide +kernel
theorem dX5_init_88 : decode cX5_init 88 = .ok (.invokespecial 50, 3) := by decide +kernel
theorem dX5_init_91 : decode cX5_init 91 = .ok (.putfield 51, 3) := by decide +kernel
theorem dX5_init_94 : decode cX5_init 94 = .ok (.aload_n 0, 1) := by decide +kernel
theorem dX5_init_95 : decode cX5_init 95 = .ok (.new 55, 3) := by decide +kernel
theorem dX5_init_98 : decode cX5_init 98 = .ok (.dup, 1) := by decide +kernel
theorem dX5_init_99 : decode cX5_init 99 = .ok (.invokespecial 57, 3) := by decide +kernel
theorem dX5_init_102 : decode cX5_init 102 = .ok (.putfield 58, 3) := by decide +kernel
theorem dX5_init_105 : decode cX5_init 105 = .ok (.aload_n 0, 1) := by decide +kernel
theorem dX5_init_106 : decode cX5_init 106 = .ok (.new 55, 3) := by decide +kernel
theorem dX5_init_109 : decode cX5_init 109 = .ok (.dup, 1) := by decide +kernel
theorem dX5_init_110 : decode cX5_init 110 = .ok (.invokespecial 57, 3) := by decide +kernel
theorem dX5_init_113 : decode cX5_init 113 = .ok (.putfield 62, 3) := by decide +kernel
theorem dX5_init_116 : decode cX5_init 116 = .ok (.aload_n 0, 1) := by decide +kernel
theorem dX5_init_117 : decode cX5_init 117 = .ok (.new 32, 3) := by decide +kernel
theorem dX5_init_120 : decode cX5_init 120 = .ok (.dup, 1) := by decide +kernel
theorem dX5_init_121 : decode cX5_init 121 = .ok (.bipush 7, 2) := by decide +kernel
theorem dX5_init_123 : decode cX5_init 123 = .ok (.invokespecial 34, 3) := by decide +kernel
theorem dX5_init_126 : decode cX5_init 126 = .ok (.putfield 65, 3) := by decide +kernel
theorem dX5_init_129 : decode cX5_init 129 = .ok (.aload_n 0, 1) := by decide +kernel
theorem dX5_init_130 : decode cX5_init 130 = .ok (.iconst 0, 1) := by decide +kernel
theorem dX5_init_131 : decode cX5_init 131 = .ok (.putfield 68, 3) := by decide +kernel
theorem dX5_init_134 : decode cX5_init 134 = .ok (.aload_n 0, 1) := by decide +kernel
theorem dX5_init_135 : decode cX5_init 135 = .ok (.iconst 0, 1) := by decide +kernel
theorem dX5_init_136 : decode cX5_init 136 = .ok (.putfield 72, 3) := by decide +kernel
theorem dX5_init_139 : decode cX5_init 139 = .ok (.aload_n 0, 1) := by decide +kernel
theorem dX5_init_140 : decode cX5_init 140 = .ok (.iconst 0, 1) := by decide +kernel
theorem dX5_init_141 : decode cX5_init 141 = .ok (.putfield 75, 3) := by decide +kernel
theorem dX5_init_144 : decode cX5_init 144 = .ok (.return_, 1) := by decide +kernel
theorem dX5_wall_0 : decode cX5_wall 0 = .ok (.aload_n 0, 1) := by decide +kernel
theorem dX5_wall_1 : decode cX5_wall 1 = .ok (.getfield 51, 3) := by decide +kernel
theorem dX5_wall_4 : decode cX5_wall 4 = .ok (.invokevirtual 78, 3) := by decide +kernel
theorem dX5_wall_7 : decode cX5_wall 7 = .ok (.aload_n 0, 1) := by decide +kernel
theorem dX5_wall_8 : decode cX5_wall 8 = .ok (.aload_n 0, 1) := by decide +kernel
theorem dX5_wall_9 : decode cX5_wall 9 = .ok (.getfield 10, 3) := by decide +kernel
theorem dX5_wall_12 : decode cX5_wall 12 = .ok (.iload_n 1, 1) := by decide +kernel
theorem dX5_wall_13 : decode cX5_wall 13 = .ok (.invokevirtual 81, 3) := by decide +kernel
theorem dX5_wall_16 : decode cX5_wall 16 = .ok (.invokevirtual 85, 3) := by decide +kernel
theorem dX5_wall_19 : decode cX5_wall 19 = .ok (.ireturn, 1) := by decide +kernel
theorem dX5_cord_0 : decode cX5_cord 0 = .ok (.aload_n 0, 1) := by decide +kernel
theorem dX5_cord_1 : decode cX5_cord 1 = .ok (.getfield 51, 3) := by decide +kernel
theorem dX5_cord_4 : decode cX5_cord 4 = .ok (.invokevirtual 78, 3) := by decide +kernel
theorem dX5_cord_7 : decode cX5_cord 7 = .ok (.aload_n 0, 1) := by decide +kernel
theorem dX5_cord_8 : decode cX5_cord 8 = .ok (.aload_n 0, 1) := by decide +kernel
theorem dX5_cord_9 : decode cX5_cord 9 = .ok (.getfield 10, 3) := by decide +kernel
theorem dX5_cord_12 : decode cX5_cord 12 = .ok (.iload_n 1, 1) := by decide +kernel
theorem dX5_cord_13 : decode cX5_cord 13 = .ok (.iload_n 2, 1) := by decide +kernel
theorem dX5_cord_14 : decode cX5_cord 14 = .ok (.iload_n 3, 1) := by decide +kernel
theorem dX5_cord_15 : decode cX5_cord 15 = .ok (.iload 4, 2) := by decide +kernel
theorem dX5_cord_17 : decode cX5_cord 17 = .ok (.invokevirtual 88, 3) := by decide +kernel
theorem dX5_cord_20 : decode cX5_cord 20 = .ok (.invokevirtual 85, 3) := by decide +kernel
theorem dX5_cord_23 : decode cX5_cord 23 = .ok (.ireturn, 1) := by decide +kernel
theorem dX5_caught_0 : decode cX5_caught 0 = .ok (.aload_n 0, 1) := by decide +kernel
theorem dX5_caught_1 : decode cX5_caught 1 = .ok (.getfield 51, 3) := by decide +kernel
theorem dX5_caught_4 : decode cX5_caught 4 = .ok (.invokevirtual 78, 3) := by decide +kernel
theorem dX5_caught_7 : decode cX5_caught 7 = .ok (.aload_n 0, 1) := by decide +kernel
theorem dX5_caught_8 : decode cX5_caught 8 = .ok (.aload_n 0, 1) := by decide +kernel
theorem dX5_caught_9 : decode cX5_caught 9 = .ok (.getfield 10, 3) := by decide +kernel
theorem dX5_caught_12 : decode cX5_caught 12 = .ok (.iload_n 1, 1) := by decide +kernel
theorem dX5_caught_13 : decode cX5_caught 13 = .ok (.iload_n 2, 1) := by decide +kernel
theorem dX5_caught_14 : decode cX5_caught 14 = .ok (.invokevirtual 92, 3) := by decide +kernel
theorem dX5_caught_17 : decode cX5_caught 17 = .ok (.invokevirtual 85, 3) := by decide +kernel
theorem dX5_caught_20 : decode cX5_caught 20 = .ok (.ireturn, 1) := by decide +kernel
theorem dX5_good_0 : decode cX5_good 0 = .ok (.aload_n 0, 1) := by decide +kernel
theorem dX5_good_1 : decode cX5_good 1 = .ok (.aload_n 0, 1) := by decide +kernel
theorem dX5_good_2 : decode cX5_good 2 = .ok (.getfield 10, 3) := by decide +kernel
theorem dX5_good_5 : decode cX5_good 5 = .ok (.iload_n 1, 1) := by decide +kernel
theorem dX5_good_6 : decode cX5_good 6 = .ok (.iload_n 2, 1) := by decide +kernel
theorem dX5_good_7 : decode cX5_good 7 = .ok (.invokevirtual 96, 3) := by decide +kernel
theorem dX5_good_10 : decode cX5_good 10 = .ok (.invokevirtual 85, 3) := by decide +kernel
theorem dX5_good_13 : decode cX5_good 13 = .ok (.ireturn, 1) := by decide +kernel
theorem dX5_put_0 : decode cX5_put 0 = .ok (.iload_n 1, 1) := by decide +kernel
theorem dX5_put_1 : decode cX5_put 1 = .ok (.ifCond .lt 19, 3) := by decide +kernel
theorem dX5_put_4 : decode cX5_put 4 = .ok (.iload_n 1, 1) := by decide +kernel
theorem dX5_put_5 : decode cX5_put 5 = .ok (.iconst 1, 1) := by decide +kernel
theorem dX5_put_6 : decode cX5_put 6 = .ok (.if_icmp .gt 14, 3) := by decide +kernel
theorem dX5_put_9 : decode cX5_put 9 = .ok (.iload_n 2, 1) := by decide +kernel
theorem dX5_put_10 : decode cX5_put 10 = .ok (.ifCond .lt 10, 3) := by decide +kernel
theorem dX5_put_13 : decode cX5_put 13 = .ok (.iload_n 2, 1) := by decide +kernel
theorem dX5_put_14 : decode cX5_put 14 = .ok (.sipush 128, 3) := by decide +kernel
theorem dX5_put_17 : decode cX5_put 17 = .ok (.if_icmp .lt 10, 3) := by decide +kernel
theorem dX5_put_20 : decode cX5_put 20 = .ok (.aload_n 0, 1) := by decide +kernel
theorem dX5_put_21 : decode cX5_put 21 = .ok (.bipush (-2), 2) := by decide +kernel
theorem dX5_put_23 : decode cX5_put 23 = .ok (.invokevirtual 85, 3) := by decide +kernel
theorem dX5_put_26 : decode cX5_put 26 = .ok (.ireturn, 1) := by decide +kernel
theorem dX5_put_27 : decode cX5_put 27 = .ok (.iload_n 1, 1) := by decide +kernel
theorem dX5_put_28 : decode cX5_put 28 = .ok (.ifCond .ne 13, 3) := by decide +kernel
theorem dX5_put_31 : decode cX5_put 31 = .ok (.aload_n 0, 1) := by decide +kernel
theorem dX5_put_32 : decode cX5_put 32 = .ok (.getfield 10, 3) := by decide +kernel
theorem dX5_put_35 : decode cX5_put 35 = .ok (.getfield 100, 3) := by decide +kernel
theorem dX5_put_38 : decode cX5_put 38 = .ok (.goto 10, 3) := by decide +kernel
theorem dX5_put_41 : decode cX5_put 41 = .ok (.aload_n 0, 1) := by decide +kernel
theorem dX5_put_42 : decode cX5_put 42 = .ok (.getfield 10, 3) := by decide +kernel
theorem dX5_put_45 : decode cX5_put 45 = .ok (.getfield 103, 3) := by decide +kernel
theorem dX5_put_48 : decode cX5_put 48 = .ok (.istore_n 3, 1) := by decide +kernel
theorem dX5_put_49 : decode cX5_put 49 = .ok (.iload_n 1, 1) := by decide +kernel
theorem dX5_put_50 : decode cX5_put 50 = .ok (.ifCond .ne 14, 3) := by decide +kernel
theorem dX5_put_53 : decode cX5_put 53 = .ok (.aload_n 0, 1) := by decide +kernel
theorem dX5_put_54 : decode cX5_put 54 = .ok (.getfield 10, 3) := by decide +kernel
theorem dX5_put_57 : decode cX5_put 57 = .ok (.iload_n 2, 1) := by decide +kernel
theorem dX5_put_58 : decode cX5_put 58 = .ok (.putfield 100, 3) := by decide +kernel
theorem dX5_put_61 : decode cX5_put 61 = .ok (.goto 11, 3) := by decide +kernel
theorem dX5_put_64 : decode cX5_put 64 = .ok (.aload_n 0, 1) := by decide +kernel
theorem dX5_put_65 : decode cX5_put 65 = .ok (.getfield 10, 3) := by decide +kernel
theorem dX5_put_68 : decode cX5_put 68 = .ok (.iload_n 2, 1) := by decide +kernel
theorem dX5_put_69 : decode cX5_put 69 = .ok (.putfield 103, 3) := by decide +kernel
theorem dX5_put_72 : decode cX5_put 72 = .ok (.iload_n 3, 1) := by decide +kernel
theorem dX5_put_73 : decode cX5_put 73 = .ok (.ireturn, 1) := by decide +kernel
theorem dX5_order_0 : decode cX5_order 0 = .ok (.aload_n 0, 1) := by decide +kernel
theorem dX5_order_1 : decode cX5_order 1 = .ok (.aload_n 0, 1) := by decide +kernel
theorem dX5_order_2 : decode cX5_order 2 = .ok (.getfield 10, 3) := by decide +kernel
theorem dX5_order_5 : decode cX5_order 5 = .ok (.iload_n 1, 1) := by decide +kernel
theorem dX5_order_6 : decode cX5_order 6 = .ok (.invokevirtual 106, 3) := by decide +kernel
theorem dX5_order_9 : decode cX5_order 9 = .ok (.invokevirtual 85, 3) := by decide +kernel
theorem dX5_order_12 : decode cX5_order 12 = .ok (.ireturn, 1) := by decide +kernel
theorem dX5_type_0 : decode cX5_type 0 = .ok (.iload_n 3, 1) := by decide +kernel
theorem dX5_type_1 : decode cX5_type 1 = .ok (.iconst 1, 1) := by decide +kernel
theorem dX5_type_2 : decode cX5_type 2 = .ok (.if_icmp .lt 9, 3) := by decide +kernel
theorem dX5_type_5 : decode cX5_type 5 = .ok (.iload_n 3, 1) := by decide +kernel
theorem dX5_type_6 : decode cX5_type 6 = .ok (.bipush 8, 2) := by decide +kernel
theorem dX5_type_8 : decode cX5_type 8 = .ok (.if_icmp .le 10, 3) := by decide +kernel
theorem dX5_type_11 : decode cX5_type 11 = .ok (.aload_n 0, 1) := by decide +kernel
theorem dX5_type_12 : decode cX5_type 12 = .ok (.bipush (-2), 2) := by decide +kernel
theorem dX5_type_14 : decode cX5_type 14 = .ok (.invokevirtual 85, 3) := by decide +kernel
theorem dX5_type_17 : decode cX5_type 17 = .ok (.ireturn, 1) := by decide +kernel
theorem dX5_type_18 : decode cX5_type 18 = .ok (.aload_n 0, 1) := by decide +kernel
theorem dX5_type_19 : decode cX5_type 19 = .ok (.getfield 37, 3) := by decide +kernel
theorem dX5_type_22 : decode cX5_type 22 = .ok (.invokevirtual 109, 3) := by decide +kernel
theorem dX5_type_25 : decode cX5_type 25 = .ok (.iload_n 3, 1) := by decide +kernel
theorem dX5_type_26 : decode cX5_type 26 = .ok (.iadd, 1) := by decide +kernel
theorem dX5_type_27 : decode cX5_type 27 = .ok (.sipush 200, 3) := by decide +kernel
theorem dX5_type_30 : decode cX5_type 30 = .ok (.if_icmp .le 10, 3) := by decide +kernel
theorem dX5_type_33 : decode cX5_type 33 = .ok (.aload_n 0, 1) := by decide +kernel
theorem dX5_type_34 : decode cX5_type 34 = .ok (.bipush (-4), 2) := by decide +kernel
theorem dX5_type_36 : decode cX5_type 36 = .ok (.invokevirtual 85, 3) := by decide +kernel
theorem dX5_type_39 : decode cX5_type 39 = .ok (.ireturn, 1) := by decide +kernel
theorem dX5_type_40 : decode cX5_type 40 = .ok (.iload_n 3, 1) := by decide +kernel
theorem dX5_type_41 : decode cX5_type 41 = .ok (.iconst 1, 1) := by decide +kernel
theorem dX5_type_42 : decode cX5_type 42 = .ok (.isub, 1) := by decide +kernel
theorem dX5_type_43 : decode cX5_type 43 = .ok (.istore 4, 2) := by decide +kernel
theorem dX5_type_45 : decode cX5_type 45 = .ok (.iload 4, 2) := by decide +kernel
theorem dX5_type_47 : decode cX5_type 47 = .ok (.ifCond .lt 28, 3) := by decide +kernel
theorem dX5_type_50 : decode cX5_type 50 = .ok (.aload_n 0, 1) := by decide +kernel
theorem dX5_type_51 : decode cX5_type 51 = .ok (.getfield 37, 3) := by decide +kernel
theorem dX5_type_54 : decode cX5_type 54 = .ok (.lload_n 1, 1) := by decide +kernel
theorem dX5_type_55 : decode cX5_type 55 = .ok (.bipush 8, 2) := by decide +kernel
theorem dX5_type_57 : decode cX5_type 57 = .ok (.iload 4, 2) := by decide +kernel
theorem dX5_type_59 : decode cX5_type 59 = .ok (.imul, 1) := by decide +kernel
theorem dX5_type_60 : decode cX5_type 60 = .ok (.lushr, 1) := by decide +kernel
theorem dX5_type_61 : decode cX5_type 61 = .ok (.l2i, 1) := by decide +kernel
theorem dX5_type_62 : decode cX5_type 62 = .ok (.sipush 255, 3) := by decide +kernel
theorem dX5_type_65 : decode cX5_type 65 = .ok (.iand, 1) := by decide +kernel
theorem dX5_type_66 : decode cX5_type 66 = .ok (.invokevirtual 113, 3) := by decide +kernel
theorem dX5_type_69 : decode cX5_type 69 = .ok (.iinc 4 (-1), 3) := by decide +kernel
theorem dX5_type_72 : decode cX5_type 72 = .ok (.goto (-27), 3) := by decide +kernel
theorem dX5_type_75 : decode cX5_type 75 = .ok (.aload_n 0, 1) := by decide +kernel
theorem dX5_type_76 : decode cX5_type 76 = .ok (.getfield 37, 3) := by decide +kernel
theorem dX5_type_79 : decode cX5_type 79 = .ok (.invokevirtual 109, 3) := by decide +kernel
theorem dX5_type_82 : decode cX5_type 82 = .ok (.ireturn, 1) := by decide +kernel
theorem dX5_clear_0 : decode cX5_clear 0 = .ok (.aload_n 0, 1) := by decide +kernel
theorem dX5_clear_1 : decode cX5_clear 1 = .ok (.getfield 37, 3) := by decide +kernel
theorem dX5_clear_4 : decode cX5_clear 4 = .ok (.invokevirtual 109, 3) := by decide +kernel
theorem dX5_clear_7 : decode cX5_clear 7 = .ok (.istore_n 1, 1) := by decide +kernel
theorem dX5_clear_8 : decode cX5_clear 8 = .ok (.aload_n 0, 1) := by decide +kernel
theorem dX5_clear_9 : decode cX5_clear 9 = .ok (.getfield 37, 3) := by decide +kernel
theorem dX5_clear_12 : decode cX5_clear 12 = .ok (.invokevirtual 116, 3) := by decide +kernel
theorem dX5_clear_15 : decode cX5_clear 15 = .ok (.iload_n 1, 1) := by decide +kernel
theorem dX5_clear_16 : decode cX5_clear 16 = .ok (.ireturn, 1) := by decide +kernel
theorem dX5_read_0 : decode cX5_read 0 = .ok (.aload_n 0, 1) := by decide +kernel
theorem dX5_read_1 : decode cX5_read 1 = .ok (.getfield 44, 3) := by decide +kernel
theorem dX5_read_4 : decode cX5_read 4 = .ok (.aload_n 0, 1) := by decide +kernel
theorem dX5_read_5 : decode cX5_read 5 = .ok (.getfield 37, 3) := by decide +kernel
theorem dX5_read_8 : decode cX5_read 8 = .ok (.invokevirtual 119, 3) := by decide +kernel
theorem dX5_read_11 : decode cX5_read 11 = .ok (.istore_n 1, 1) := by decide +kernel
theorem dX5_read_12 : decode cX5_read 12 = .ok (.iload_n 1, 1) := by decide +kernel
theorem dX5_read_13 : decode cX5_read 13 = .ok (.iconst (-1), 1) := by decide +kernel
theorem dX5_read_14 : decode cX5_read 14 = .ok (.if_icmp .eq 8, 3) := by decide +kernel
theorem dX5_read_17 : decode cX5_read 17 = .ok (.bipush (-10), 2) := by decide +kernel
theorem dX5_read_19 : decode cX5_read 19 = .ok (.iload_n 1, 1) := by decide +kernel
theorem dX5_read_20 : decode cX5_read 20 = .ok (.isub, 1) := by decide +kernel
theorem dX5_read_21 : decode cX5_read 21 = .ok (.ireturn, 1) := by decide +kernel
theorem dX5_read_22 : decode cX5_read 22 = .ok (.aload_n 0, 1) := by decide +kernel
theorem dX5_read_23 : decode cX5_read 23 = .ok (.getfield 44, 3) := by decide +kernel
theorem dX5_read_26 : decode cX5_read 26 = .ok (.aload_n 0, 1) := by decide +kernel
theorem dX5_read_27 : decode cX5_read 27 = .ok (.getfield 16, 3) := by decide +kernel
theorem dX5_read_30 : decode cX5_read 30 = .ok (.invokevirtual 123, 3) := by decide +kernel
theorem dX5_read_33 : decode cX5_read 33 = .ok (.istore_n 2, 1) := by decide +kernel
theorem dX5_read_34 : decode cX5_read 34 = .ok (.iload_n 2, 1) := by decide +kernel
theorem dX5_read_35 : decode cX5_read 35 = .ok (.iconst (-1), 1) := by decide +kernel
theorem dX5_read_36 : decode cX5_read 36 = .ok (.if_icmp .eq 9, 3) := by decide +kernel
theorem dX5_read_39 : decode cX5_read 39 = .ok (.sipush (-1000), 3) := by decide +kernel
theorem dX5_read_42 : decode cX5_read 42 = .ok (.iload_n 2, 1) := by decide +kernel
theorem dX5_read_43 : decode cX5_read 43 = .ok (.isub, 1) := by decide +kernel
theorem dX5_read_44 : decode cX5_read 44 = .ok (.ireturn, 1) := by decide +kernel
theorem dX5_read_45 : decode cX5_read 45 = .ok (.aload_n 0, 1) := by decide +kernel
theorem dX5_read_46 : decode cX5_read 46 = .ok (.getfield 10, 3) := by decide +kernel
theorem dX5_read_49 : decode cX5_read 49 = .ok (.aload_n 0, 1) := by decide +kernel
theorem dX5_read_50 : decode cX5_read 50 = .ok (.getfield 16, 3) := by decide +kernel
theorem dX5_read_53 : decode cX5_read 53 = .ok (.invokevirtual 127, 3) := by decide +kernel
theorem dX5_read_56 : decode cX5_read 56 = .ok (.aload_n 0, 1) := by decide +kernel
theorem dX5_read_57 : decode cX5_read 57 = .ok (.getfield 51, 3) := by decide +kernel
theorem dX5_read_60 : decode cX5_read 60 = .ok (.invokevirtual 78, 3) := by decide +kernel
theorem dX5_read_63 : decode cX5_read 63 = .ok (.aload_n 0, 1) := by decide +kernel
theorem dX5_read_64 : decode cX5_read 64 = .ok (.getfield 44, 3) := by decide +kernel
theorem dX5_read_67 : decode cX5_read 67 = .ok (.invokevirtual 131, 3) := by decide +kernel
theorem dX5_read_70 : decode cX5_read 70 = .ok (.ireturn, 1) := by decide +kernel
theorem dX5_pull_0 : decode cX5_pull 0 = .ok (.aload_n 0, 1) := by decide +kernel
theorem dX5_pull_1 : decode cX5_pull 1 = .ok (.getfield 10, 3) := by decide +kernel
theorem dX5_pull_4 : decode cX5_pull 4 = .ok (.iload_n 1, 1) := by decide +kernel
theorem dX5_pull_5 : decode cX5_pull 5 = .ok (.invokevirtual 134, 3) := by decide +kernel
theorem dX5_pull_8 : decode cX5_pull 8 = .ok (.ifCond .ne 10, 3) := by decide +kernel
theorem dX5_pull_11 : decode cX5_pull 11 = .ok (.aload_n 0, 1) := by decide +kernel
theorem dX5_pull_12 : decode cX5_pull 12 = .ok (.bipush (-2), 2) := by decide +kernel
theorem dX5_pull_14 : decode cX5_pull 14 = .ok (.invokevirtual 85, 3) := by decide +kernel
theorem dX5_pull_17 : decode cX5_pull 17 = .ok (.ireturn, 1) := by decide +kernel
theorem dX5_pull_18 : decode cX5_pull 18 = .ok (.aload_n 0, 1) := by decide +kernel
theorem dX5_pull_19 : decode cX5_pull 19 = .ok (.getfield 10, 3) := by decide +kernel
theorem dX5_pull_22 : decode cX5_pull 22 = .ok (.invokevirtual 138, 3) := by decide +kernel
theorem dX5_pull_25 : decode cX5_pull 25 = .ok (.aload_n 0, 1) := by decide +kernel
theorem dX5_pull_26 : decode cX5_pull 26 = .ok (.getfield 10, 3) := by decide +kernel
theorem dX5_pull_29 : decode cX5_pull 29 = .ok (.aload_n 0, 1) := by decide +kernel
theorem dX5_pull_30 : decode cX5_pull 30 = .ok (.getfield 10, 3) := by decide +kernel
theorem dX5_pull_33 : decode cX5_pull 33 = .ok (.aload_n 0, 1) := by decide +kernel
theorem dX5_pull_34 : decode cX5_pull 34 = .ok (.getfield 10, 3) := by decide +kernel
theorem dX5_pull_37 : decode cX5_pull 37 = .ok (.getfield 141, 3) := by decide +kernel
theorem dX5_pull_40 : decode cX5_pull 40 = .ok (.iload_n 1, 1) := by decide +kernel
theorem dX5_pull_41 : decode cX5_pull 41 = .ok (.iconst (-1), 1) := by decide +kernel
theorem dX5_pull_42 : decode cX5_pull 42 = .ok (.invokevirtual 144, 3) := by decide +kernel
theorem dX5_pull_45 : decode cX5_pull 45 = .ok (.putfield 141, 3) := by decide +kernel
theorem dX5_pull_48 : decode cX5_pull 48 = .ok (.aload_n 0, 1) := by decide +kernel
theorem dX5_pull_49 : decode cX5_pull 49 = .ok (.getfield 10, 3) := by decide +kernel
theorem dX5_pull_52 : decode cX5_pull 52 = .ok (.getfield 141, 3) := by decide +kernel
theorem dX5_pull_55 : decode cX5_pull 55 = .ok (.ireturn, 1) := by decide +kernel
theorem dX5_undo_0 : decode cX5_undo 0 = .ok (.aload_n 0, 1) := by decide +kernel
theorem dX5_undo_1 : decode cX5_undo 1 = .ok (.getfield 10, 3) := by decide +kernel
theorem dX5_undo_4 : decode cX5_undo 4 = .ok (.getfield 148, 3) := by decide +kernel
theorem dX5_undo_7 : decode cX5_undo 7 = .ok (.invokevirtual 109, 3) := by decide +kernel
theorem dX5_undo_10 : decode cX5_undo 10 = .ok (.ifCond .ne 10, 3) := by decide +kernel
theorem dX5_undo_13 : decode cX5_undo 13 = .ok (.aload_n 0, 1) := by decide +kernel
theorem dX5_undo_14 : decode cX5_undo 14 = .ok (.bipush (-3), 2) := by decide +kernel
theorem dX5_undo_16 : decode cX5_undo 16 = .ok (.invokevirtual 85, 3) := by decide +kernel
theorem dX5_undo_19 : decode cX5_undo 19 = .ok (.ireturn, 1) := by decide +kernel
theorem dX5_undo_20 : decode cX5_undo 20 = .ok (.aload_n 0, 1) := by decide +kernel
theorem dX5_undo_21 : decode cX5_undo 21 = .ok (.getfield 10, 3) := by decide +kernel
theorem dX5_undo_24 : decode cX5_undo 24 = .ok (.aload_n 0, 1) := by decide +kernel
theorem dX5_undo_25 : decode cX5_undo 25 = .ok (.getfield 10, 3) := by decide +kernel
theorem dX5_undo_28 : decode cX5_undo 28 = .ok (.getfield 148, 3) := by decide +kernel
theorem dX5_undo_31 : decode cX5_undo 31 = .ok (.invokevirtual 151, 3) := by decide +kernel
theorem dX5_undo_34 : decode cX5_undo 34 = .ok (.putfield 141, 3) := by decide +kernel
theorem dX5_undo_37 : decode cX5_undo 37 = .ok (.aload_n 0, 1) := by decide +kernel
theorem dX5_undo_38 : decode cX5_undo 38 = .ok (.getfield 10, 3) := by decide +kernel
theorem dX5_undo_41 : decode cX5_undo 41 = .ok (.getfield 141, 3) := by decide +kernel
theorem dX5_undo_44 : decode cX5_undo 44 = .ok (.ireturn, 1) := by decide +kernel
theorem dX5_behind_0 : decode cX5_behind 0 = .ok (.aload_n 0, 1) := by decide +kernel
theorem dX5_behind_1 : decode cX5_behind 1 = .ok (.getfield 10, 3) := by decide +kernel
theorem dX5_behind_4 : decode cX5_behind 4 = .ok (.iload_n 1, 1) := by decide +kernel
theorem dX5_behind_5 : decode cX5_behind 5 = .ok (.invokevirtual 154, 3) := by decide +kernel
theorem dX5_behind_8 : decode cX5_behind 8 = .ok (.ifCond .eq 14, 3) := by decide +kernel
theorem dX5_behind_11 : decode cX5_behind 11 = .ok (.aload_n 0, 1) := by decide +kernel
theorem dX5_behind_12 : decode cX5_behind 12 = .ok (.getfield 10, 3) := by decide +kernel
theorem dX5_behind_15 : decode cX5_behind 15 = .ok (.iload_n 2, 1) := by decide +kernel
theorem dX5_behind_16 : decode cX5_behind 16 = .ok (.invokevirtual 134, 3) := by decide +kernel
theorem dX5_behind_19 : decode cX5_behind 19 = .ok (.ifCond .ne 10, 3) := by decide +kernel
theorem dX5_behind_22 : decode cX5_behind 22 = .ok (.aload_n 0, 1) := by decide +kernel
theorem dX5_behind_23 : decode cX5_behind 23 = .ok (.bipush (-2), 2) := by decide +kernel
theorem dX5_behind_25 : decode cX5_behind 25 = .ok (.invokevirtual 85, 3) := by decide +kernel
theorem dX5_behind_28 : decode cX5_behind 28 = .ok (.ireturn, 1) := by decide +kernel
theorem dX5_behind_29 : decode cX5_behind 29 = .ok (.aload_n 0, 1) := by decide +kernel
theorem dX5_behind_30 : decode cX5_behind 30 = .ok (.getfield 10, 3) := by decide +kernel
theorem dX5_behind_33 : decode cX5_behind 33 = .ok (.iload_n 1, 1) := by decide +kernel
theorem dX5_behind_34 : decode cX5_behind 34 = .ok (.iload_n 2, 1) := by decide +kernel
theorem dX5_behind_35 : decode cX5_behind 35 = .ok (.iconst (-1), 1) := by decide +kernel
theorem dX5_behind_36 : decode cX5_behind 36 = .ok (.invokevirtual 144, 3) := by decide +kernel
theorem dX5_behind_39 : decode cX5_behind 39 = .ok (.ireturn, 1) := by decide +kernel
theorem dX5_out_0 : decode cX5_out 0 = .ok (.aload_n 0, 1) := by decide +kernel
theorem dX5_out_1 : decode cX5_out 1 = .ok (.getfield 10, 3) := by decide +kernel
theorem dX5_out_4 : decode cX5_out 4 = .ok (.iload_n 1, 1) := by decide +kernel
theorem dX5_out_5 : decode cX5_out 5 = .ok (.invokevirtual 134, 3) := by decide +kernel
theorem dX5_out_8 : decode cX5_out 8 = .ok (.ifCond .ne 10, 3) := by decide +kernel
theorem dX5_out_11 : decode cX5_out 11 = .ok (.aload_n 0, 1) := by decide +kernel
theorem dX5_out_12 : decode cX5_out 12 = .ok (.bipush (-2), 2) := by decide +kernel
theorem dX5_out_14 : decode cX5_out 14 = .ok (.invokevirtual 85, 3) := by decide +kernel
theorem dX5_out_17 : decode cX5_out 17 = .ok (.ireturn, 1) := by decide +kernel
theorem dX5_out_18 : decode cX5_out 18 = .ok (.aload_n 0, 1) := by decide +kernel
theorem dX5_out_19 : decode cX5_out 19 = .ok (.getfield 10, 3) := by decide +kernel
theorem dX5_out_22 : decode cX5_out 22 = .ok (.getfield 141, 3) := by decide +kernel
theorem dX5_out_25 : decode cX5_out 25 = .ok (.iload_n 1, 1) := by decide +kernel
theorem dX5_out_26 : decode cX5_out 26 = .ok (.invokestatic 157, 3) := by decide +kernel
theorem dX5_out_29 : decode cX5_out 29 = .ok (.ireturn, 1) := by decide +kernel
theorem dX5_pulls_0 : decode cX5_pulls 0 = .ok (.aload_n 0, 1) := by decide +kernel
theorem dX5_pulls_1 : decode cX5_pulls 1 = .ok (.getfield 51, 3) := by decide +kernel
theorem dX5_pulls_4 : decode cX5_pulls 4 = .ok (.aload_n 0, 1) := by decide +kernel
theorem dX5_pulls_5 : decode cX5_pulls 5 = .ok (.getfield 10, 3) := by decide +kernel
theorem dX5_pulls_8 : decode cX5_pulls 8 = .ok (.invokevirtual 160, 3) := by decide +kernel
theorem dX5_pulls_11 : decode cX5_pulls 11 = .ok (.aload_n 0, 1) := by decide +kernel
theorem dX5_pulls_12 : decode cX5_pulls 12 = .ok (.iload_n 1, 1) := by decide +kernel
theorem dX5_pulls_13 : decode cX5_pulls 13 = .ok (.iload_n 2, 1) := by decide +kernel
theorem dX5_pulls_14 : decode cX5_pulls 14 = .ok (.iload_n 3, 1) := by decide +kernel
theorem dX5_pulls_15 : decode cX5_pulls 15 = .ok (.iconst 0, 1) := by decide +kernel
theorem dX5_pulls_16 : decode cX5_pulls 16 = .ok (.invokevirtual 163, 3) := by decide +kernel
theorem dX5_pulls_19 : decode cX5_pulls 19 = .ok (.ireturn, 1) := by decide +kernel
theorem dX5_safe_0 : decode cX5_safe 0 = .ok (.aload_n 0, 1) := by decide +kernel
theorem dX5_safe_1 : decode cX5_safe 1 = .ok (.getfield 51, 3) := by decide +kernel
theorem dX5_safe_4 : decode cX5_safe 4 = .ok (.aload_n 0, 1) := by decide +kernel
theorem dX5_safe_5 : decode cX5_safe 5 = .ok (.getfield 10, 3) := by decide +kernel
theorem dX5_safe_8 : decode cX5_safe 8 = .ok (.invokevirtual 160, 3) := by decide +kernel
theorem dX5_safe_11 : decode cX5_safe 11 = .ok (.aload_n 0, 1) := by decide +kernel
theorem dX5_safe_12 : decode cX5_safe 12 = .ok (.iload_n 1, 1) := by decide +kernel
theorem dX5_safe_13 : decode cX5_safe 13 = .ok (.iload_n 2, 1) := by decide +kernel
theorem dX5_safe_14 : decode cX5_safe 14 = .ok (.iload_n 3, 1) := by decide +kernel
theorem dX5_safe_15 : decode cX5_safe 15 = .ok (.iconst 1, 1) := by decide +kernel
theorem dX5_safe_16 : decode cX5_safe 16 = .ok (.invokevirtual 163, 3) := by decide +kernel
theorem dX5_safe_19 : decode cX5_safe 19 = .ok (.ireturn, 1) := by decide +kernel
theorem dX5_reach_0 : decode cX5_reach 0 = .ok (.iload_n 1, 1) := by decide +kernel
theorem dX5_reach_1 : decode cX5_reach 1 = .ok (.ifCond .lt 8, 3) := by decide +kernel
theorem dX5_reach_4 : decode cX5_reach 4 = .ok (.iload_n 1, 1) := by decide +kernel
theorem dX5_reach_5 : decode cX5_reach 5 = .ok (.iconst 2, 1) := by decide +kernel
theorem dX5_reach_6 : decode cX5_reach 6 = .ok (.if_icmp .le 10, 3) := by decide +kernel
theorem dX5_reach_9 : decode cX5_reach 9 = .ok (.aload_n 0, 1) := by decide +kernel
theorem dX5_reach_10 : decode cX5_reach 10 = .ok (.bipush (-2), 2) := by decide +kernel
theorem dX5_reach_12 : decode cX5_reach 12 = .ok (.invokevirtual 85, 3) := by decide +kernel
theorem dX5_reach_15 : decode cX5_reach 15 = .ok (.ireturn, 1) := by decide +kernel
theorem dX5_reach_16 : decode cX5_reach 16 = .ok (.aload_n 0, 1) := by decide +kernel
theorem dX5_reach_17 : decode cX5_reach 17 = .ok (.getfield 51, 3) := by decide +kernel
theorem dX5_reach_20 : decode cX5_reach 20 = .ok (.aload_n 0, 1) := by decide +kernel
theorem dX5_reach_21 : decode cX5_reach 21 = .ok (.getfield 10, 3) := by decide +kernel
theorem dX5_reach_24 : decode cX5_reach 24 = .ok (.invokevirtual 160, 3) := by decide +kernel
theorem dX5_reach_27 : decode cX5_reach 27 = .ok (.aload_n 0, 1) := by decide +kernel
theorem dX5_reach_28 : decode cX5_reach 28 = .ok (.invokevirtual 167, 3) := by decide +kernel
theorem dX5_reach_31 : decode cX5_reach 31 = .ok (.istore_n 2, 1) := by decide +kernel
theorem dX5_reach_32 : decode cX5_reach 32 = .ok (.iload_n 1, 1) := by decide +kernel
theorem dX5_reach_33 : decode cX5_reach 33 = .ok (.ifCond .ne 5, 3) := by decide +kernel
theorem dX5_reach_36 : decode cX5_reach 36 = .ok (.iload_n 2, 1) := by decide +kernel
theorem dX5_reach_37 : decode cX5_reach 37 = .ok (.ireturn, 1) := by decide +kernel
theorem dX5_reach_38 : decode cX5_reach 38 = .ok (.iload_n 1, 1) := by decide +kernel
theorem dX5_reach_39 : decode cX5_reach 39 = .ok (.iconst 1, 1) := by decide +kernel
theorem dX5_reach_40 : decode cX5_reach 40 = .ok (.if_icmp .ne 13, 3) := by decide +kernel
theorem dX5_reach_43 : decode cX5_reach 43 = .ok (.aload_n 0, 1) := by decide +kernel
theorem dX5_reach_44 : decode cX5_reach 44 = .ok (.getfield 51, 3) := by decide +kernel
theorem dX5_reach_47 : decode cX5_reach 47 = .ok (.invokevirtual 170, 3) := by decide +kernel
theorem dX5_reach_50 : decode cX5_reach 50 = .ok (.goto 10, 3) := by decide +kernel
theorem dX5_reach_53 : decode cX5_reach 53 = .ok (.aload_n 0, 1) := by decide +kernel
theorem dX5_reach_54 : decode cX5_reach 54 = .ok (.getfield 51, 3) := by decide +kernel
theorem dX5_reach_57 : decode cX5_reach 57 = .ok (.invokevirtual 173, 3) := by decide +kernel
theorem dX5_reach_60 : decode cX5_reach 60 = .ok (.ireturn, 1) := by decide +kernel
theorem dX5_kept_0 : decode cX5_kept 0 = .ok (.aload_n 0, 1) := by decide +kernel
theorem dX5_kept_1 : decode cX5_kept 1 = .ok (.getfield 51, 3) := by decide +kernel
theorem dX5_kept_4 : decode cX5_kept 4 = .ok (.aload_n 0, 1) := by decide +kernel
theorem dX5_kept_5 : decode cX5_kept 5 = .ok (.getfield 10, 3) := by decide +kernel
theorem dX5_kept_8 : decode cX5_kept 8 = .ok (.invokevirtual 160, 3) := by decide +kernel
theorem dX5_kept_11 : decode cX5_kept 11 = .ok (.aload_n 0, 1) := by decide +kernel
theorem dX5_kept_12 : decode cX5_kept 12 = .ok (.invokevirtual 167, 3) := by decide +kernel
theorem dX5_kept_15 : decode cX5_kept 15 = .ok (.pop, 1) := by decide +kernel
theorem dX5_kept_16 : decode cX5_kept 16 = .ok (.aload_n 0, 1) := by decide +kernel
theorem dX5_kept_17 : decode cX5_kept 17 = .ok (.getfield 65, 3) := by decide +kernel
theorem dX5_kept_20 : decode cX5_kept 20 = .ok (.invokevirtual 116, 3) := by decide +kernel
theorem dX5_kept_23 : decode cX5_kept 23 = .ok (.iconst 1, 1) := by decide +kernel
theorem dX5_kept_24 : decode cX5_kept 24 = .ok (.istore_n 1, 1) := by decide +kernel
theorem dX5_kept_25 : decode cX5_kept 25 = .ok (.iload_n 1, 1) := by decide +kernel
theorem dX5_kept_26 : decode cX5_kept 26 = .ok (.aload_n 0, 1) := by decide +kernel
theorem dX5_kept_27 : decode cX5_kept 27 = .ok (.getfield 10, 3) := by decide +kernel
theorem dX5_kept_30 : decode cX5_kept 30 = .ok (.invokevirtual 176, 3) := by decide +kernel
theorem dX5_kept_33 : decode cX5_kept 33 = .ok (.if_icmp .ge 19, 3) := by decide +kernel
theorem dX5_kept_36 : decode cX5_kept 36 = .ok (.aload_n 0, 1) := by decide +kernel
theorem dX5_kept_37 : decode cX5_kept 37 = .ok (.iload_n 1, 1) := by decide +kernel
theorem dX5_kept_38 : decode cX5_kept 38 = .ok (.invokevirtual 179, 3) := by decide +kernel
theorem dX5_kept_41 : decode cX5_kept 41 = .ok (.ifCond .eq 5, 3) := by decide +kernel
theorem dX5_kept_44 : decode cX5_kept 44 = .ok (.iload_n 1, 1) := by decide +kernel
theorem dX5_kept_45 : decode cX5_kept 45 = .ok (.ireturn, 1) := by decide +kernel
theorem dX5_kept_46 : decode cX5_kept 46 = .ok (.iinc 1 1, 3) := by decide +kernel
theorem dX5_kept_49 : decode cX5_kept 49 = .ok (.goto (-24), 3) := by decide +kernel
theorem dX5_kept_52 : decode cX5_kept 52 = .ok (.iconst (-1), 1) := by decide +kernel
theorem dX5_kept_53 : decode cX5_kept 53 = .ok (.ireturn, 1) := by decide +kernel
theorem dX5_cut_0 : decode cX5_cut 0 = .ok (.aload_n 0, 1) := by decide +kernel
theorem dX5_cut_1 : decode cX5_cut 1 = .ok (.getfield 51, 3) := by decide +kernel
theorem dX5_cut_4 : decode cX5_cut 4 = .ok (.aload_n 0, 1) := by decide +kernel
theorem dX5_cut_5 : decode cX5_cut 5 = .ok (.getfield 10, 3) := by decide +kernel
theorem dX5_cut_8 : decode cX5_cut 8 = .ok (.invokevirtual 160, 3) := by decide +kernel
theorem dX5_cut_11 : decode cX5_cut 11 = .ok (.aload_n 0, 1) := by decide +kernel
theorem dX5_cut_12 : decode cX5_cut 12 = .ok (.invokevirtual 167, 3) := by decide +kernel
theorem dX5_cut_15 : decode cX5_cut 15 = .ok (.istore_n 1, 1) := by decide +kernel
theorem dX5_cut_16 : decode cX5_cut 16 = .ok (.iconst (-1), 1) := by decide +kernel
theorem dX5_cut_17 : decode cX5_cut 17 = .ok (.istore_n 2, 1) := by decide +kernel
theorem dX5_cut_18 : decode cX5_cut 18 = .ok (.iconst 0, 1) := by decide +kernel
theorem dX5_cut_19 : decode cX5_cut 19 = .ok (.istore_n 3, 1) := by decide +kernel
theorem dX5_cut_20 : decode cX5_cut 20 = .ok (.iload_n 3, 1) := by decide +kernel
theorem dX5_cut_21 : decode cX5_cut 21 = .ok (.aload_n 0, 1) := by decide +kernel
theorem dX5_cut_22 : decode cX5_cut 22 = .ok (.getfield 10, 3) := by decide +kernel
theorem dX5_cut_25 : decode cX5_cut 25 = .ok (.getfield 182, 3) := by decide +kernel
theorem dX5_cut_28 : decode cX5_cut 28 = .ok (.invokevirtual 109, 3) := by decide +kernel
theorem dX5_cut_31 : decode cX5_cut 31 = .ok (.if_icmp .ge 71, 3) := by decide +kernel
theorem dX5_cut_34 : decode cX5_cut 34 = .ok (.aload_n 0, 1) := by decide +kernel
theorem dX5_cut_35 : decode cX5_cut 35 = .ok (.getfield 10, 3) := by decide +kernel
theorem dX5_cut_38 : decode cX5_cut 38 = .ok (.getfield 182, 3) := by decide +kernel
theorem dX5_cut_41 : decode cX5_cut 41 = .ok (.iload_n 3, 1) := by decide +kernel
theorem dX5_cut_42 : decode cX5_cut 42 = .ok (.invokevirtual 185, 3) := by decide +kernel
theorem dX5_cut_45 : decode cX5_cut 45 = .ok (.istore 4, 2) := by decide +kernel
theorem dX5_cut_47 : decode cX5_cut 47 = .ok (.aload_n 0, 1) := by decide +kernel
theorem dX5_cut_48 : decode cX5_cut 48 = .ok (.getfield 51, 3) := by decide +kernel
theorem dX5_cut_51 : decode cX5_cut 51 = .ok (.aload_n 0, 1) := by decide +kernel
theorem dX5_cut_52 : decode cX5_cut 52 = .ok (.getfield 10, 3) := by decide +kernel
theorem dX5_cut_55 : decode cX5_cut 55 = .ok (.iload 4, 2) := by decide +kernel
theorem dX5_cut_57 : decode cX5_cut 57 = .ok (.iconst 1, 1) := by decide +kernel
theorem dX5_cut_58 : decode cX5_cut 58 = .ok (.iload_n 3, 1) := by decide +kernel
theorem dX5_cut_59 : decode cX5_cut 59 = .ok (.ishl, 1) := by decide +kernel
theorem dX5_cut_60 : decode cX5_cut 60 = .ok (.iconst (-1), 1) := by decide +kernel
theorem dX5_cut_61 : decode cX5_cut 61 = .ok (.ixor, 1) := by decide +kernel
theorem dX5_cut_62 : decode cX5_cut 62 = .ok (.invokevirtual 188, 3) := by decide +kernel
theorem dX5_cut_65 : decode cX5_cut 65 = .ok (.aload_n 0, 1) := by decide +kernel
theorem dX5_cut_66 : decode cX5_cut 66 = .ok (.invokevirtual 167, 3) := by decide +kernel
theorem dX5_cut_69 : decode cX5_cut 69 = .ok (.istore 5, 2) := by decide +kernel
theorem dX5_cut_71 : decode cX5_cut 71 = .ok (.aload_n 0, 1) := by decide +kernel
theorem dX5_cut_72 : decode cX5_cut 72 = .ok (.getfield 51, 3) := by decide +kernel
theorem dX5_cut_75 : decode cX5_cut 75 = .ok (.aload_n 0, 1) := by decide +kernel
theorem dX5_cut_76 : decode cX5_cut 76 = .ok (.getfield 10, 3) := by decide +kernel
theorem dX5_cut_79 : decode cX5_cut 79 = .ok (.iload 4, 2) := by decide +kernel
theorem dX5_cut_81 : decode cX5_cut 81 = .ok (.iconst (-1), 1) := by decide +kernel
theorem dX5_cut_82 : decode cX5_cut 82 = .ok (.invokevirtual 188, 3) := by decide +kernel
theorem dX5_cut_85 : decode cX5_cut 85 = .ok (.iload 5, 2) := by decide +kernel
theorem dX5_cut_87 : decode cX5_cut 87 = .ok (.iload_n 1, 1) := by decide +kernel
theorem dX5_cut_88 : decode cX5_cut 88 = .ok (.if_icmp .le 8, 3) := by decide +kernel
theorem dX5_cut_91 : decode cX5_cut 91 = .ok (.iload 5, 2) := by decide +kernel
theorem dX5_cut_93 : decode cX5_cut 93 = .ok (.istore_n 1, 1) := by decide +kernel
theorem dX5_cut_94 : decode cX5_cut 94 = .ok (.iload_n 3, 1) := by decide +kernel
theorem dX5_cut_95 : decode cX5_cut 95 = .ok (.istore_n 2, 1) := by decide +kernel
theorem dX5_cut_96 : decode cX5_cut 96 = .ok (.iinc 3 1, 3) := by decide +kernel
theorem dX5_cut_99 : decode cX5_cut 99 = .ok (.goto (-79), 3) := by decide +kernel
theorem dX5_cut_102 : decode cX5_cut 102 = .ok (.iload_n 2, 1) := by decide +kernel
theorem dX5_cut_103 : decode cX5_cut 103 = .ok (.ireturn, 1) := by decide +kernel
theorem dX5_tie_0 : decode cX5_tie 0 = .ok (.aload_n 0, 1) := by decide +kernel
theorem dX5_tie_1 : decode cX5_tie 1 = .ok (.getfield 10, 3) := by decide +kernel
theorem dX5_tie_4 : decode cX5_tie 4 = .ok (.getfield 182, 3) := by decide +kernel
theorem dX5_tie_7 : decode cX5_tie 7 = .ok (.invokevirtual 192, 3) := by decide +kernel
theorem dX5_tie_10 : decode cX5_tie 10 = .ok (.ifCond .eq 5, 3) := by decide +kernel
theorem dX5_tie_13 : decode cX5_tie 13 = .ok (.iconst (-1), 1) := by decide +kernel
theorem dX5_tie_14 : decode cX5_tie 14 = .ok (.ireturn, 1) := by decide +kernel
theorem dX5_tie_15 : decode cX5_tie 15 = .ok (.aload_n 0, 1) := by decide +kernel
theorem dX5_tie_16 : decode cX5_tie 16 = .ok (.getfield 51, 3) := by decide +kernel
theorem dX5_tie_19 : decode cX5_tie 19 = .ok (.aload_n 0, 1) := by decide +kernel
theorem dX5_tie_20 : decode cX5_tie 20 = .ok (.getfield 10, 3) := by decide +kernel
theorem dX5_tie_23 : decode cX5_tie 23 = .ok (.invokevirtual 160, 3) := by decide +kernel
theorem dX5_tie_26 : decode cX5_tie 26 = .ok (.aload_n 0, 1) := by decide +kernel
theorem dX5_tie_27 : decode cX5_tie 27 = .ok (.iconst (-1), 1) := by decide +kernel
theorem dX5_tie_28 : decode cX5_tie 28 = .ok (.iconst (-1), 1) := by decide +kernel
theorem dX5_tie_29 : decode cX5_tie 29 = .ok (.iconst 0, 1) := by decide +kernel
theorem dX5_tie_30 : decode cX5_tie 30 = .ok (.invokevirtual 196, 3) := by decide +kernel
theorem dX5_tie_33 : decode cX5_tie 33 = .ok (.istore_n 1, 1) := by decide +kernel
theorem dX5_tie_34 : decode cX5_tie 34 = .ok (.iconst (-1), 1) := by decide +kernel
theorem dX5_tie_35 : decode cX5_tie 35 = .ok (.istore_n 2, 1) := by decide +kernel
theorem dX5_tie_36 : decode cX5_tie 36 = .ok (.iconst 0, 1) := by decide +kernel
theorem dX5_tie_37 : decode cX5_tie 37 = .ok (.istore_n 3, 1) := by decide +kernel
theorem dX5_tie_38 : decode cX5_tie 38 = .ok (.iload_n 3, 1) := by decide +kernel
theorem dX5_tie_39 : decode cX5_tie 39 = .ok (.aload_n 0, 1) := by decide +kernel
theorem dX5_tie_40 : decode cX5_tie 40 = .ok (.getfield 10, 3) := by decide +kernel
theorem dX5_tie_43 : decode cX5_tie 43 = .ok (.getfield 199, 3) := by decide +kernel
theorem dX5_tie_46 : decode cX5_tie 46 = .ok (.if_icmp .ge 100, 3) := by decide +kernel
theorem dX5_tie_49 : decode cX5_tie 49 = .ok (.iload_n 1, 1) := by decide +kernel
theorem dX5_tie_50 : decode cX5_tie 50 = .ok (.aload_n 0, 1) := by decide +kernel
theorem dX5_tie_51 : decode cX5_tie 51 = .ok (.getfield 10, 3) := by decide +kernel
theorem dX5_tie_54 : decode cX5_tie 54 = .ok (.getfield 199, 3) := by decide +kernel
theorem dX5_tie_57 : decode cX5_tie 57 = .ok (.if_icmp .ge 89, 3) := by decide +kernel
theorem dX5_tie_60 : decode cX5_tie 60 = .ok (.iconst 0, 1) := by decide +kernel
theorem dX5_tie_61 : decode cX5_tie 61 = .ok (.istore 4, 2) := by decide +kernel
theorem dX5_tie_63 : decode cX5_tie 63 = .ok (.iload 4, 2) := by decide +kernel
theorem dX5_tie_65 : decode cX5_tie 65 = .ok (.aload_n 0, 1) := by decide +kernel
theorem dX5_tie_66 : decode cX5_tie 66 = .ok (.getfield 10, 3) := by decide +kernel
theorem dX5_tie_69 : decode cX5_tie 69 = .ok (.getfield 199, 3) := by decide +kernel
theorem dX5_tie_72 : decode cX5_tie 72 = .ok (.if_icmp .ge 68, 3) := by decide +kernel
theorem dX5_tie_75 : decode cX5_tie 75 = .ok (.iconst 1, 1) := by decide +kernel
theorem dX5_tie_76 : decode cX5_tie 76 = .ok (.istore 5, 2) := by decide +kernel
theorem dX5_tie_78 : decode cX5_tie 78 = .ok (.iload 5, 2) := by decide +kernel
theorem dX5_tie_80 : decode cX5_tie 80 = .ok (.iconst (-1), 1) := by decide +kernel
theorem dX5_tie_81 : decode cX5_tie 81 = .ok (.if_icmp .lt 53, 3) := by decide +kernel
theorem dX5_tie_84 : decode cX5_tie 84 = .ok (.iload_n 3, 1) := by decide +kernel
theorem dX5_tie_85 : decode cX5_tie 85 = .ok (.iload 4, 2) := by decide +kernel
theorem dX5_tie_87 : decode cX5_tie 87 = .ok (.if_icmp .eq 47, 3) := by decide +kernel
theorem dX5_tie_90 : decode cX5_tie 90 = .ok (.aload_n 0, 1) := by decide +kernel
theorem dX5_tie_91 : decode cX5_tie 91 = .ok (.iload_n 3, 1) := by decide +kernel
theorem dX5_tie_92 : decode cX5_tie 92 = .ok (.iload 4, 2) := by decide +kernel
theorem dX5_tie_94 : decode cX5_tie 94 = .ok (.iload 5, 2) := by decide +kernel
theorem dX5_tie_96 : decode cX5_tie 96 = .ok (.invokevirtual 196, 3) := by decide +kernel
theorem dX5_tie_99 : decode cX5_tie 99 = .ok (.istore 6, 2) := by decide +kernel
theorem dX5_tie_101 : decode cX5_tie 101 = .ok (.iload 6, 2) := by decide +kernel
theorem dX5_tie_103 : decode cX5_tie 103 = .ok (.iload_n 1, 1) := by decide +kernel
theorem dX5_tie_104 : decode cX5_tie 104 = .ok (.if_icmp .le 24, 3) := by decide +kernel
theorem dX5_tie_107 : decode cX5_tie 107 = .ok (.iload 6, 2) := by decide +kernel
theorem dX5_tie_109 : decode cX5_tie 109 = .ok (.istore_n 1, 1) := by decide +kernel
theorem dX5_tie_110 : decode cX5_tie 110 = .ok (.bipush 100, 2) := by decide +kernel
theorem dX5_tie_112 : decode cX5_tie 112 = .ok (.iload_n 3, 1) := by decide +kernel
theorem dX5_tie_113 : decode cX5_tie 113 = .ok (.imul, 1) := by decide +kernel
theorem dX5_tie_114 : decode cX5_tie 114 = .ok (.bipush 10, 2) := by decide +kernel
theorem dX5_tie_116 : decode cX5_tie 116 = .ok (.iload 4, 2) := by decide +kernel
theorem dX5_tie_118 : decode cX5_tie 118 = .ok (.imul, 1) := by decide +kernel
theorem dX5_tie_119 : decode cX5_tie 119 = .ok (.iadd, 1) := by decide +kernel
theorem dX5_tie_120 : decode cX5_tie 120 = .ok (.iconst 0, 1) := by decide +kernel
theorem dX5_tie_121 : decode cX5_tie 121 = .ok (.iload 5, 2) := by decide +kernel
theorem dX5_tie_123 : decode cX5_tie 123 = .ok (.invokestatic 202, 3) := by decide +kernel
theorem dX5_tie_126 : decode cX5_tie 126 = .ok (.iadd, 1) := by decide +kernel
theorem dX5_tie_127 : decode cX5_tie 127 = .ok (.istore_n 2, 1) := by decide +kernel
theorem dX5_tie_128 : decode cX5_tie 128 = .ok (.iinc 5 (-2), 3) := by decide +kernel
theorem dX5_tie_131 : decode cX5_tie 131 = .ok (.goto (-53), 3) := by decide +kernel
theorem dX5_tie_134 : decode cX5_tie 134 = .ok (.iinc 4 1, 3) := by decide +kernel
theorem dX5_tie_137 : decode cX5_tie 137 = .ok (.goto (-74), 3) := by decide +kernel
theorem dX5_tie_140 : decode cX5_tie 140 = .ok (.iinc 3 1, 3) := by decide +kernel
theorem dX5_tie_143 : decode cX5_tie 143 = .ok (.goto (-105), 3) := by decide +kernel
theorem dX5_tie_146 : decode cX5_tie 146 = .ok (.aload_n 0, 1) := by decide +kernel
theorem dX5_tie_147 : decode cX5_tie 147 = .ok (.getfield 51, 3) := by decide +kernel
theorem dX5_tie_150 : decode cX5_tie 150 = .ok (.iconst (-1), 1) := by decide +kernel
theorem dX5_tie_151 : decode cX5_tie 151 = .ok (.iconst (-1), 1) := by decide +kernel
theorem dX5_tie_152 : decode cX5_tie 152 = .ok (.iconst 0, 1) := by decide +kernel
theorem dX5_tie_153 : decode cX5_tie 153 = .ok (.invokevirtual 207, 3) := by decide +kernel
theorem dX5_tie_156 : decode cX5_tie 156 = .ok (.iload_n 2, 1) := by decide +kernel
theorem dX5_tie_157 : decode cX5_tie 157 = .ok (.ireturn, 1) := by decide +kernel
theorem dX5_day_0 : decode cX5_day 0 = .ok (.iload_n 1, 1) := by decide +kernel
theorem dX5_day_1 : decode cX5_day 1 = .ok (.ifCond .lt 8, 3) := by decide +kernel
theorem dX5_day_4 : decode cX5_day 4 = .ok (.iload_n 1, 1) := by decide +kernel
theorem dX5_day_5 : decode cX5_day 5 = .ok (.iconst 1, 1) := by decide +kernel
theorem dX5_day_6 : decode cX5_day 6 = .ok (.if_icmp .le 10, 3) := by decide +kernel
theorem dX5_day_9 : decode cX5_day 9 = .ok (.aload_n 0, 1) := by decide +kernel
theorem dX5_day_10 : decode cX5_day 10 = .ok (.bipush (-2), 2) := by decide +kernel
theorem dX5_day_12 : decode cX5_day 12 = .ok (.invokevirtual 85, 3) := by decide +kernel
theorem dX5_day_15 : decode cX5_day 15 = .ok (.ireturn, 1) := by decide +kernel
theorem dX5_day_16 : decode cX5_day 16 = .ok (.aload_n 0, 1) := by decide +kernel
theorem dX5_day_17 : decode cX5_day 17 = .ok (.getfield 51, 3) := by decide +kernel
theorem dX5_day_20 : decode cX5_day 20 = .ok (.aload_n 0, 1) := by decide +kernel
theorem dX5_day_21 : decode cX5_day 21 = .ok (.getfield 10, 3) := by decide +kernel
theorem dX5_day_24 : decode cX5_day 24 = .ok (.invokevirtual 160, 3) := by decide +kernel
theorem dX5_day_27 : decode cX5_day 27 = .ok (.aload_n 0, 1) := by decide +kernel
theorem dX5_day_28 : decode cX5_day 28 = .ok (.getfield 58, 3) := by decide +kernel
theorem dX5_day_31 : decode cX5_day 31 = .ok (.aload_n 0, 1) := by decide +kernel
theorem dX5_day_32 : decode cX5_day 32 = .ok (.getfield 10, 3) := by decide +kernel
theorem dX5_day_35 : decode cX5_day 35 = .ok (.aload_n 0, 1) := by decide +kernel
theorem dX5_day_36 : decode cX5_day 36 = .ok (.getfield 51, 3) := by decide +kernel
theorem dX5_day_39 : decode cX5_day 39 = .ok (.iconst 0, 1) := by decide +kernel
theorem dX5_day_40 : decode cX5_day 40 = .ok (.iconst 0, 1) := by decide +kernel
theorem dX5_day_41 : decode cX5_day 41 = .ok (.invokevirtual 211, 3) := by decide +kernel
theorem dX5_day_44 : decode cX5_day 44 = .ok (.iload_n 1, 1) := by decide +kernel
theorem dX5_day_45 : decode cX5_day 45 = .ok (.ifCond .ne 13, 3) := by decide +kernel
theorem dX5_day_48 : decode cX5_day 48 = .ok (.aload_n 0, 1) := by decide +kernel
theorem dX5_day_49 : decode cX5_day 49 = .ok (.getfield 58, 3) := by decide +kernel
theorem dX5_day_52 : decode cX5_day 52 = .ok (.getfield 215, 3) := by decide +kernel
theorem dX5_day_55 : decode cX5_day 55 = .ok (.goto 10, 3) := by decide +kernel
theorem dX5_day_58 : decode cX5_day 58 = .ok (.aload_n 0, 1) := by decide +kernel
theorem dX5_day_59 : decode cX5_day 59 = .ok (.getfield 58, 3) := by decide +kernel
theorem dX5_day_62 : decode cX5_day 62 = .ok (.getfield 218, 3) := by decide +kernel
theorem dX5_day_65 : decode cX5_day 65 = .ok (.ireturn, 1) := by decide +kernel
theorem dX5_laid_0 : decode cX5_laid 0 = .ok (.aload_n 0, 1) := by decide +kernel
theorem dX5_laid_1 : decode cX5_laid 1 = .ok (.getfield 51, 3) := by decide +kernel
theorem dX5_laid_4 : decode cX5_laid 4 = .ok (.aload_n 0, 1) := by decide +kernel
theorem dX5_laid_5 : decode cX5_laid 5 = .ok (.getfield 10, 3) := by decide +kernel
theorem dX5_laid_8 : decode cX5_laid 8 = .ok (.invokevirtual 160, 3) := by decide +kernel
theorem dX5_laid_11 : decode cX5_laid 11 = .ok (.aload_n 0, 1) := by decide +kernel
theorem dX5_laid_12 : decode cX5_laid 12 = .ok (.getfield 58, 3) := by decide +kernel
theorem dX5_laid_15 : decode cX5_laid 15 = .ok (.aload_n 0, 1) := by decide +kernel
theorem dX5_laid_16 : decode cX5_laid 16 = .ok (.getfield 10, 3) := by decide +kernel
theorem dX5_laid_19 : decode cX5_laid 19 = .ok (.aload_n 0, 1) := by decide +kernel
theorem dX5_laid_20 : decode cX5_laid 20 = .ok (.getfield 51, 3) := by decide +kernel
theorem dX5_laid_23 : decode cX5_laid 23 = .ok (.iconst 0, 1) := by decide +kernel
theorem dX5_laid_24 : decode cX5_laid 24 = .ok (.iconst 0, 1) := by decide +kernel
theorem dX5_laid_25 : decode cX5_laid 25 = .ok (.invokevirtual 211, 3) := by decide +kernel
theorem dX5_laid_28 : decode cX5_laid 28 = .ok (.iconst (-1), 1) := by decide +kernel
theorem dX5_laid_29 : decode cX5_laid 29 = .ok (.istore_n 1, 1) := by decide +kernel
theorem dX5_laid_30 : decode cX5_laid 30 = .ok (.iconst 0, 1) := by decide +kernel
theorem dX5_laid_31 : decode cX5_laid 31 = .ok (.istore_n 2, 1) := by decide +kernel
theorem dX5_laid_32 : decode cX5_laid 32 = .ok (.iload_n 2, 1) := by decide +kernel
theorem dX5_laid_33 : decode cX5_laid 33 = .ok (.aload_n 0, 1) := by decide +kernel
theorem dX5_laid_34 : decode cX5_laid 34 = .ok (.getfield 10, 3) := by decide +kernel
theorem dX5_laid_37 : decode cX5_laid 37 = .ok (.getfield 199, 3) := by decide +kernel
theorem dX5_laid_40 : decode cX5_laid 40 = .ok (.if_icmp .ge 107, 3) := by decide +kernel
theorem dX5_laid_43 : decode cX5_laid 43 = .ok (.iload_n 2, 1) := by decide +kernel
theorem dX5_laid_44 : decode cX5_laid 44 = .ok (.iconst 1, 1) := by decide +kernel
theorem dX5_laid_45 : decode cX5_laid 45 = .ok (.iadd, 1) := by decide +kernel
theorem dX5_laid_46 : decode cX5_laid 46 = .ok (.istore_n 3, 1) := by decide +kernel
theorem dX5_laid_47 : decode cX5_laid 47 = .ok (.iload_n 3, 1) := by decide +kernel
theorem dX5_laid_48 : decode cX5_laid 48 = .ok (.aload_n 0, 1) := by decide +kernel
theorem dX5_laid_49 : decode cX5_laid 49 = .ok (.getfield 10, 3) := by decide +kernel
theorem dX5_laid_52 : decode cX5_laid 52 = .ok (.getfield 199, 3) := by decide +kernel
theorem dX5_laid_55 : decode cX5_laid 55 = .ok (.if_icmp .ge 86, 3) := by decide +kernel
theorem dX5_laid_58 : decode cX5_laid 58 = .ok (.aload_n 0, 1) := by decide +kernel
theorem dX5_laid_59 : decode cX5_laid 59 = .ok (.getfield 10, 3) := by decide +kernel
theorem dX5_laid_62 : decode cX5_laid 62 = .ok (.getfield 221, 3) := by decide +kernel
theorem dX5_laid_65 : decode cX5_laid 65 = .ok (.iload_n 2, 1) := by decide +kernel
theorem dX5_laid_66 : decode cX5_laid 66 = .ok (.invokevirtual 185, 3) := by decide +kernel
theorem dX5_laid_69 : decode cX5_laid 69 = .ok (.aload_n 0, 1) := by decide +kernel
theorem dX5_laid_70 : decode cX5_laid 70 = .ok (.getfield 10, 3) := by decide +kernel
theorem dX5_laid_73 : decode cX5_laid 73 = .ok (.getfield 221, 3) := by decide +kernel
theorem dX5_laid_76 : decode cX5_laid 76 = .ok (.iload_n 3, 1) := by decide +kernel
theorem dX5_laid_77 : decode cX5_laid 77 = .ok (.invokevirtual 185, 3) := by decide +kernel
theorem dX5_laid_80 : decode cX5_laid 80 = .ok (.if_icmp .ne 6, 3) := by decide +kernel
theorem dX5_laid_83 : decode cX5_laid 83 = .ok (.goto 52, 3) := by decide +kernel
theorem dX5_laid_86 : decode cX5_laid 86 = .ok (.aload_n 0, 1) := by decide +kernel
theorem dX5_laid_87 : decode cX5_laid 87 = .ok (.getfield 62, 3) := by decide +kernel
theorem dX5_laid_90 : decode cX5_laid 90 = .ok (.aload_n 0, 1) := by decide +kernel
theorem dX5_laid_91 : decode cX5_laid 91 = .ok (.getfield 10, 3) := by decide +kernel
theorem dX5_laid_94 : decode cX5_laid 94 = .ok (.aload_n 0, 1) := by decide +kernel
theorem dX5_laid_95 : decode cX5_laid 95 = .ok (.getfield 51, 3) := by decide +kernel
theorem dX5_laid_98 : decode cX5_laid 98 = .ok (.iload_n 2, 1) := by decide +kernel
theorem dX5_laid_99 : decode cX5_laid 99 = .ok (.iload_n 3, 1) := by decide +kernel
theorem dX5_laid_100 : decode cX5_laid 100 = .ok (.invokevirtual 211, 3) := by decide +kernel
theorem dX5_laid_103 : decode cX5_laid 103 = .ok (.aload_n 0, 1) := by decide +kernel
theorem dX5_laid_104 : decode cX5_laid 104 = .ok (.getfield 62, 3) := by decide +kernel
theorem dX5_laid_107 : decode cX5_laid 107 = .ok (.aload_n 0, 1) := by decide +kernel
theorem dX5_laid_108 : decode cX5_laid 108 = .ok (.getfield 58, 3) := by decide +kernel
theorem dX5_laid_111 : decode cX5_laid 111 = .ok (.invokevirtual 224, 3) := by decide +kernel
theorem dX5_laid_114 : decode cX5_laid 114 = .ok (.ifCond .eq 21, 3) := by decide +kernel
theorem dX5_laid_117 : decode cX5_laid 117 = .ok (.aload_n 0, 1) := by decide +kernel
theorem dX5_laid_118 : decode cX5_laid 118 = .ok (.getfield 58, 3) := by decide +kernel
theorem dX5_laid_121 : decode cX5_laid 121 = .ok (.aload_n 0, 1) := by decide +kernel
theorem dX5_laid_122 : decode cX5_laid 122 = .ok (.getfield 62, 3) := by decide +kernel
theorem dX5_laid_125 : decode cX5_laid 125 = .ok (.invokevirtual 228, 3) := by decide +kernel
theorem dX5_laid_128 : decode cX5_laid 128 = .ok (.bipush 10, 2) := by decide +kernel
theorem dX5_laid_130 : decode cX5_laid 130 = .ok (.iload_n 2, 1) := by decide +kernel
theorem dX5_laid_131 : decode cX5_laid 131 = .ok (.imul, 1) := by decide +kernel
theorem dX5_laid_132 : decode cX5_laid 132 = .ok (.iload_n 3, 1) := by decide +kernel
theorem dX5_laid_133 : decode cX5_laid 133 = .ok (.iadd, 1) := by decide +kernel
theorem dX5_laid_134 : decode cX5_laid 134 = .ok (.istore_n 1, 1) := by decide +kernel
theorem dX5_laid_135 : decode cX5_laid 135 = .ok (.iinc 3 1, 3) := by decide +kernel
theorem dX5_laid_138 : decode cX5_laid 138 = .ok (.goto (-91), 3) := by decide +kernel
theorem dX5_laid_141 : decode cX5_laid 141 = .ok (.iinc 2 1, 3) := by decide +kernel
theorem dX5_laid_144 : decode cX5_laid 144 = .ok (.goto (-112), 3) := by decide +kernel
theorem dX5_laid_147 : decode cX5_laid 147 = .ok (.iload_n 1, 1) := by decide +kernel
theorem dX5_laid_148 : decode cX5_laid 148 = .ok (.ireturn, 1) := by decide +kernel
theorem dX5_danger_0 : decode cX5_danger 0 = .ok (.aload_n 0, 1) := by decide +kernel
theorem dX5_danger_1 : decode cX5_danger 1 = .ok (.getfield 10, 3) := by decide +kernel
theorem dX5_danger_4 : decode cX5_danger 4 = .ok (.iload_n 1, 1) := by decide +kernel
theorem dX5_danger_5 : decode cX5_danger 5 = .ok (.invokevirtual 154, 3) := by decide +kernel
theorem dX5_danger_8 : decode cX5_danger 8 = .ok (.ifCond .ne 10, 3) := by decide +kernel
theorem dX5_danger_11 : decode cX5_danger 11 = .ok (.aload_n 0, 1) := by decide +kernel
theorem dX5_danger_12 : decode cX5_danger 12 = .ok (.bipush (-2), 2) := by decide +kernel
theorem dX5_danger_14 : decode cX5_danger 14 = .ok (.invokevirtual 85, 3) := by decide +kernel
theorem dX5_danger_17 : decode cX5_danger 17 = .ok (.ireturn, 1) := by decide +kernel
theorem dX5_danger_18 : decode cX5_danger 18 = .ok (.aload_n 0, 1) := by decide +kernel
theorem dX5_danger_19 : decode cX5_danger 19 = .ok (.getfield 10, 3) := by decide +kernel
theorem dX5_danger_22 : decode cX5_danger 22 = .ok (.iload_n 1, 1) := by decide +kernel
theorem dX5_danger_23 : decode cX5_danger 23 = .ok (.invokevirtual 231, 3) := by decide +kernel
theorem dX5_danger_26 : decode cX5_danger 26 = .ok (.ifCond .eq 7, 3) := by decide +kernel
theorem dX5_danger_29 : decode cX5_danger 29 = .ok (.iconst 1, 1) := by decide +kernel
theorem dX5_danger_30 : decode cX5_danger 30 = .ok (.goto 4, 3) := by decide +kernel
theorem dX5_danger_33 : decode cX5_danger 33 = .ok (.iconst 0, 1) := by decide +kernel
theorem dX5_danger_34 : decode cX5_danger 34 = .ok (.ireturn, 1) := by decide +kernel
theorem dX5_sight_0 : decode cX5_sight 0 = .ok (.aload_n 0, 1) := by decide +kernel
theorem dX5_sight_1 : decode cX5_sight 1 = .ok (.getfield 10, 3) := by decide +kernel
theorem dX5_sight_4 : decode cX5_sight 4 = .ok (.iload_n 1, 1) := by decide +kernel
theorem dX5_sight_5 : decode cX5_sight 5 = .ok (.invokevirtual 134, 3) := by decide +kernel
theorem dX5_sight_8 : decode cX5_sight 8 = .ok (.ifCond .eq 14, 3) := by decide +kernel
theorem dX5_sight_11 : decode cX5_sight 11 = .ok (.aload_n 0, 1) := by decide +kernel
theorem dX5_sight_12 : decode cX5_sight 12 = .ok (.getfield 10, 3) := by decide +kernel
theorem dX5_sight_15 : decode cX5_sight 15 = .ok (.iload_n 2, 1) := by decide +kernel
theorem dX5_sight_16 : decode cX5_sight 16 = .ok (.invokevirtual 154, 3) := by decide +kernel
theorem dX5_sight_19 : decode cX5_sight 19 = .ok (.ifCond .ne 10, 3) := by decide +kernel
theorem dX5_sight_22 : decode cX5_sight 22 = .ok (.aload_n 0, 1) := by decide +kernel
theorem dX5_sight_23 : decode cX5_sight 23 = .ok (.bipush (-2), 2) := by decide +kernel
theorem dX5_sight_25 : decode cX5_sight 25 = .ok (.invokevirtual 85, 3) := by decide +kernel
theorem dX5_sight_28 : decode cX5_sight 28 = .ok (.ireturn, 1) := by decide +kernel
theorem dX5_sight_29 : decode cX5_sight 29 = .ok (.aload_n 0, 1) := by decide +kernel
theorem dX5_sight_30 : decode cX5_sight 30 = .ok (.getfield 10, 3) := by decide +kernel
theorem dX5_sight_33 : decode cX5_sight 33 = .ok (.getfield 234, 3) := by decide +kernel
theorem dX5_sight_36 : decode cX5_sight 36 = .ok (.invokevirtual 192, 3) := by decide +kernel
theorem dX5_sight_39 : decode cX5_sight 39 = .ok (.ifCond .eq 10, 3) := by decide +kernel
theorem dX5_sight_42 : decode cX5_sight 42 = .ok (.aload_n 0, 1) := by decide +kernel
theorem dX5_sight_43 : decode cX5_sight 43 = .ok (.bipush (-4), 2) := by decide +kernel
theorem dX5_sight_45 : decode cX5_sight 45 = .ok (.invokevirtual 85, 3) := by decide +kernel
theorem dX5_sight_48 : decode cX5_sight 48 = .ok (.ireturn, 1) := by decide +kernel
theorem dX5_sight_49 : decode cX5_sight 49 = .ok (.aload_n 0, 1) := by decide +kernel
theorem dX5_sight_50 : decode cX5_sight 50 = .ok (.getfield 10, 3) := by decide +kernel
theorem dX5_sight_53 : decode cX5_sight 53 = .ok (.getfield 234, 3) := by decide +kernel
theorem dX5_sight_56 : decode cX5_sight 56 = .ok (.iload_n 1, 1) := by decide +kernel
theorem dX5_sight_57 : decode cX5_sight 57 = .ok (.invokevirtual 113, 3) := by decide +kernel
theorem dX5_sight_60 : decode cX5_sight 60 = .ok (.aload_n 0, 1) := by decide +kernel
theorem dX5_sight_61 : decode cX5_sight 61 = .ok (.getfield 10, 3) := by decide +kernel
theorem dX5_sight_64 : decode cX5_sight 64 = .ok (.getfield 237, 3) := by decide +kernel
theorem dX5_sight_67 : decode cX5_sight 67 = .ok (.iload_n 2, 1) := by decide +kernel
theorem dX5_sight_68 : decode cX5_sight 68 = .ok (.invokevirtual 113, 3) := by decide +kernel
theorem dX5_sight_71 : decode cX5_sight 71 = .ok (.aload_n 0, 1) := by decide +kernel
theorem dX5_sight_72 : decode cX5_sight 72 = .ok (.getfield 10, 3) := by decide +kernel
theorem dX5_sight_75 : decode cX5_sight 75 = .ok (.getfield 234, 3) := by decide +kernel
theorem dX5_sight_78 : decode cX5_sight 78 = .ok (.invokevirtual 109, 3) := by decide +kernel
theorem dX5_sight_81 : decode cX5_sight 81 = .ok (.iconst 1, 1) := by decide +kernel
theorem dX5_sight_82 : decode cX5_sight 82 = .ok (.isub, 1) := by decide +kernel
theorem dX5_sight_83 : decode cX5_sight 83 = .ok (.ireturn, 1) := by decide +kernel
theorem dX5_none_0 : decode cX5_none 0 = .ok (.iload_n 1, 1) := by decide +kernel
theorem dX5_none_1 : decode cX5_none 1 = .ok (.ifCond .lt 8, 3) := by decide +kernel
theorem dX5_none_4 : decode cX5_none 4 = .ok (.iload_n 1, 1) := by decide +kernel
theorem dX5_none_5 : decode cX5_none 5 = .ok (.iconst 1, 1) := by decide +kernel
theorem dX5_none_6 : decode cX5_none 6 = .ok (.if_icmp .le 10, 3) := by decide +kernel
theorem dX5_none_9 : decode cX5_none 9 = .ok (.aload_n 0, 1) := by decide +kernel
theorem dX5_none_10 : decode cX5_none 10 = .ok (.bipush (-2), 2) := by decide +kernel
theorem dX5_none_12 : decode cX5_none 12 = .ok (.invokevirtual 85, 3) := by decide +kernel
theorem dX5_none_15 : decode cX5_none 15 = .ok (.ireturn, 1) := by decide +kernel
theorem dX5_none_16 : decode cX5_none 16 = .ok (.iload_n 1, 1) := by decide +kernel
theorem dX5_none_17 : decode cX5_none 17 = .ok (.ifCond .ne 16, 3) := by decide +kernel
theorem dX5_none_20 : decode cX5_none 20 = .ok (.aload_n 0, 1) := by decide +kernel
theorem dX5_none_21 : decode cX5_none 21 = .ok (.getfield 10, 3) := by decide +kernel
theorem dX5_none_24 : decode cX5_none 24 = .ok (.getfield 240, 3) := by decide +kernel
theorem dX5_none_27 : decode cX5_none 27 = .ok (.invokevirtual 109, 3) := by decide +kernel
theorem dX5_none_30 : decode cX5_none 30 = .ok (.goto 13, 3) := by decide +kernel
theorem dX5_none_33 : decode cX5_none 33 = .ok (.aload_n 0, 1) := by decide +kernel
theorem dX5_none_34 : decode cX5_none 34 = .ok (.getfield 10, 3) := by decide +kernel
theorem dX5_none_37 : decode cX5_none 37 = .ok (.getfield 234, 3) := by decide +kernel
theorem dX5_none_40 : decode cX5_none 40 = .ok (.invokevirtual 109, 3) := by decide +kernel
theorem dX5_none_43 : decode cX5_none 43 = .ok (.istore_n 2, 1) := by decide +kernel
theorem dX5_none_44 : decode cX5_none 44 = .ok (.iload_n 1, 1) := by decide +kernel
theorem dX5_none_45 : decode cX5_none 45 = .ok (.ifCond .ne 16, 3) := by decide +kernel
theorem dX5_none_48 : decode cX5_none 48 = .ok (.aload_n 0, 1) := by decide +kernel
theorem dX5_none_49 : decode cX5_none 49 = .ok (.getfield 10, 3) := by decide +kernel
theorem dX5_none_52 : decode cX5_none 52 = .ok (.getfield 240, 3) := by decide +kernel
theorem dX5_none_55 : decode cX5_none 55 = .ok (.invokevirtual 116, 3) := by decide +kernel
theorem dX5_none_58 : decode cX5_none 58 = .ok (.goto 23, 3) := by decide +kernel
theorem dX5_none_61 : decode cX5_none 61 = .ok (.aload_n 0, 1) := by decide +kernel
theorem dX5_none_62 : decode cX5_none 62 = .ok (.getfield 10, 3) := by decide +kernel
theorem dX5_none_65 : decode cX5_none 65 = .ok (.getfield 234, 3) := by decide +kernel
theorem dX5_none_68 : decode cX5_none 68 = .ok (.invokevirtual 116, 3) := by decide +kernel
theorem dX5_none_71 : decode cX5_none 71 = .ok (.aload_n 0, 1) := by decide +kernel
theorem dX5_none_72 : decode cX5_none 72 = .ok (.getfield 10, 3) := by decide +kernel
theorem dX5_none_75 : decode cX5_none 75 = .ok (.getfield 237, 3) := by decide +kernel
theorem dX5_none_78 : decode cX5_none 78 = .ok (.invokevirtual 116, 3) := by decide +kernel
theorem dX5_none_81 : decode cX5_none 81 = .ok (.iload_n 2, 1) := by decide +kernel
theorem dX5_none_82 : decode cX5_none 82 = .ok (.ireturn, 1) := by decide +kernel
theorem dX5_fits_0 : decode cX5_fits 0 = .ok (.iload_n 1, 1) := by decide +kernel
theorem dX5_fits_1 : decode cX5_fits 1 = .ok (.ifCond .lt 8, 3) := by decide +kernel
theorem dX5_fits_4 : decode cX5_fits 4 = .ok (.iload_n 1, 1) := by decide +kernel
theorem dX5_fits_5 : decode cX5_fits 5 = .ok (.iconst 1, 1) := by decide +kernel
theorem dX5_fits_6 : decode cX5_fits 6 = .ok (.if_icmp .le 10, 3) := by decide +kernel
theorem dX5_fits_9 : decode cX5_fits 9 = .ok (.aload_n 0, 1) := by decide +kernel
theorem dX5_fits_10 : decode cX5_fits 10 = .ok (.bipush (-2), 2) := by decide +kernel
theorem dX5_fits_12 : decode cX5_fits 12 = .ok (.invokevirtual 85, 3) := by decide +kernel
theorem dX5_fits_15 : decode cX5_fits 15 = .ok (.ireturn, 1) := by decide +kernel
theorem dX5_fits_16 : decode cX5_fits 16 = .ok (.iconst 1, 1) := by decide +kernel
theorem dX5_fits_17 : decode cX5_fits 17 = .ok (.aload_n 0, 1) := by decide +kernel
theorem dX5_fits_18 : decode cX5_fits 18 = .ok (.getfield 10, 3) := by decide +kernel
theorem dX5_fits_21 : decode cX5_fits 21 = .ok (.getfield 182, 3) := by decide +kernel
theorem dX5_fits_24 : decode cX5_fits 24 = .ok (.invokevirtual 109, 3) := by decide +kernel
theorem dX5_fits_27 : decode cX5_fits 27 = .ok (.ishl, 1) := by decide +kernel
theorem dX5_fits_28 : decode cX5_fits 28 = .ok (.istore_n 2, 1) := by decide +kernel
theorem dX5_fits_29 : decode cX5_fits 29 = .ok (.iconst 0, 1) := by decide +kernel
theorem dX5_fits_30 : decode cX5_fits 30 = .ok (.istore_n 3, 1) := by decide +kernel
theorem dX5_fits_31 : decode cX5_fits 31 = .ok (.iconst (-1), 1) := by decide +kernel
theorem dX5_fits_32 : decode cX5_fits 32 = .ok (.istore 4, 2) := by decide +kernel
theorem dX5_fits_34 : decode cX5_fits 34 = .ok (.iconst 0, 1) := by decide +kernel
theorem dX5_fits_35 : decode cX5_fits 35 = .ok (.istore 5, 2) := by decide +kernel
theorem dX5_fits_37 : decode cX5_fits 37 = .ok (.iload 5, 2) := by decide +kernel
theorem dX5_fits_39 : decode cX5_fits 39 = .ok (.iload_n 2, 1) := by decide +kernel
theorem dX5_fits_40 : decode cX5_fits 40 = .ok (.if_icmp .ge 35, 3) := by decide +kernel
theorem dX5_fits_43 : decode cX5_fits 43 = .ok (.aload_n 0, 1) := by decide +kernel
theorem dX5_fits_44 : decode cX5_fits 44 = .ok (.getfield 10, 3) := by decide +kernel
theorem dX5_fits_47 : decode cX5_fits 47 = .ok (.iload 5, 2) := by decide +kernel
theorem dX5_fits_49 : decode cX5_fits 49 = .ok (.invokevirtual 243, 3) := by decide +kernel
theorem dX5_fits_52 : decode cX5_fits 52 = .ok (.ifCond .ne 6, 3) := by decide +kernel
theorem dX5_fits_55 : decode cX5_fits 55 = .ok (.goto 14, 3) := by decide +kernel
theorem dX5_fits_58 : decode cX5_fits 58 = .ok (.iload_n 3, 1) := by decide +kernel
theorem dX5_fits_59 : decode cX5_fits 59 = .ok (.ifCond .ne 7, 3) := by decide +kernel
theorem dX5_fits_62 : decode cX5_fits 62 = .ok (.iload 5, 2) := by decide +kernel
theorem dX5_fits_64 : decode cX5_fits 64 = .ok (.istore 4, 2) := by decide +kernel
theorem dX5_fits_66 : decode cX5_fits 66 = .ok (.iinc 3 1, 3) := by decide +kernel
theorem dX5_fits_69 : decode cX5_fits 69 = .ok (.iinc 5 1, 3) := by decide +kernel
theorem dX5_fits_72 : decode cX5_fits 72 = .ok (.goto (-35), 3) := by decide +kernel
theorem dX5_fits_75 : decode cX5_fits 75 = .ok (.iload_n 1, 1) := by decide +kernel
theorem dX5_fits_76 : decode cX5_fits 76 = .ok (.ifCond .ne 5, 3) := by decide +kernel
theorem dX5_fits_79 : decode cX5_fits 79 = .ok (.iload_n 3, 1) := by decide +kernel
theorem dX5_fits_80 : decode cX5_fits 80 = .ok (.ireturn, 1) := by decide +kernel
theorem dX5_fits_81 : decode cX5_fits 81 = .ok (.iload_n 3, 1) := by decide +kernel
theorem dX5_fits_82 : decode cX5_fits 82 = .ok (.ifCond .ne 12, 3) := by decide +kernel
theorem dX5_fits_85 : decode cX5_fits 85 = .ok (.aload_n 0, 1) := by decide +kernel
theorem dX5_fits_86 : decode cX5_fits 86 = .ok (.bipush (-3), 2) := by decide +kernel
theorem dX5_fits_88 : decode cX5_fits 88 = .ok (.invokevirtual 85, 3) := by decide +kernel
theorem dX5_fits_91 : decode cX5_fits 91 = .ok (.goto 5, 3) := by decide +kernel
theorem dX5_fits_94 : decode cX5_fits 94 = .ok (.iload 4, 2) := by decide +kernel
theorem dX5_fits_96 : decode cX5_fits 96 = .ok (.ireturn, 1) := by decide +kernel
theorem dX5_image_0 : decode cX5_image 0 = .ok (.iload_n 1, 1) := by decide +kernel
theorem dX5_image_1 : decode cX5_image 1 = .ok (.ifCond .lt 8, 3) := by decide +kernel
theorem dX5_image_4 : decode cX5_image 4 = .ok (.iload_n 1, 1) := by decide +kernel
theorem dX5_image_5 : decode cX5_image 5 = .ok (.iconst 2, 1) := by decide +kernel
theorem dX5_image_6 : decode cX5_image 6 = .ok (.if_icmp .lt 10, 3) := by decide +kernel
theorem dX5_image_9 : decode cX5_image 9 = .ok (.aload_n 0, 1) := by decide +kernel
theorem dX5_image_10 : decode cX5_image 10 = .ok (.bipush (-2), 2) := by decide +kernel
theorem dX5_image_12 : decode cX5_image 12 = .ok (.invokevirtual 85, 3) := by decide +kernel
theorem dX5_image_15 : decode cX5_image 15 = .ok (.ireturn, 1) := by decide +kernel
theorem dX5_image_16 : decode cX5_image 16 = .ok (.aload_n 0, 1) := by decide +kernel
theorem dX5_image_17 : decode cX5_image 17 = .ok (.iload_n 1, 1) := by decide +kernel
theorem dX5_image_18 : decode cX5_image 18 = .ok (.invokevirtual 246, 3) := by decide +kernel
theorem dX5_image_21 : decode cX5_image 21 = .ok (.aload_n 0, 1) := by decide +kernel
theorem dX5_image_22 : decode cX5_image 22 = .ok (.getfield 10, 3) := by decide +kernel
theorem dX5_image_25 : decode cX5_image 25 = .ok (.invokevirtual 127, 3) := by decide +kernel
theorem dX5_image_28 : decode cX5_image 28 = .ok (.iload_n 1, 1) := by decide +kernel
theorem dX5_image_29 : decode cX5_image 29 = .ok (.ifCond .ne 11, 3) := by decide +kernel
theorem dX5_image_32 : decode cX5_image 32 = .ok (.aload_n 0, 1) := by decide +kernel
theorem dX5_image_33 : decode cX5_image 33 = .ok (.iconst 1, 1) := by decide +kernel
theorem dX5_image_34 : decode cX5_image 34 = .ok (.putfield 25, 3) := by decide +kernel
theorem dX5_image_37 : decode cX5_image 37 = .ok (.goto 8, 3) := by decide +kernel
theorem dX5_image_40 : decode cX5_image 40 = .ok (.aload_n 0, 1) := by decide +kernel
theorem dX5_image_41 : decode cX5_image 41 = .ok (.iconst 1, 1) := by decide +kernel
theorem dX5_image_42 : decode cX5_image 42 = .ok (.putfield 29, 3) := by decide +kernel
theorem dX5_image_45 : decode cX5_image 45 = .ok (.iconst 1, 1) := by decide +kernel
theorem dX5_image_46 : decode cX5_image 46 = .ok (.ireturn, 1) := by decide +kernel
theorem dX5_from_0 : decode cX5_from 0 = .ok (.iload_n 1, 1) := by decide +kernel
theorem dX5_from_1 : decode cX5_from 1 = .ok (.ifCond .lt 8, 3) := by decide +kernel
theorem dX5_from_4 : decode cX5_from 4 = .ok (.iload_n 1, 1) := by decide +kernel
theorem dX5_from_5 : decode cX5_from 5 = .ok (.iconst 2, 1) := by decide +kernel
theorem dX5_from_6 : decode cX5_from 6 = .ok (.if_icmp .lt 10, 3) := by decide +kernel
theorem dX5_from_9 : decode cX5_from 9 = .ok (.aload_n 0, 1) := by decide +kernel
theorem dX5_from_10 : decode cX5_from 10 = .ok (.bipush (-2), 2) := by decide +kernel
theorem dX5_from_12 : decode cX5_from 12 = .ok (.invokevirtual 85, 3) := by decide +kernel
theorem dX5_from_15 : decode cX5_from 15 = .ok (.ireturn, 1) := by decide +kernel
theorem dX5_from_16 : decode cX5_from 16 = .ok (.iload_n 1, 1) := by decide +kernel
theorem dX5_from_17 : decode cX5_from 17 = .ok (.ifCond .ne 10, 3) := by decide +kernel
theorem dX5_from_20 : decode cX5_from 20 = .ok (.aload_n 0, 1) := by decide +kernel
theorem dX5_from_21 : decode cX5_from 21 = .ok (.getfield 25, 3) := by decide +kernel
theorem dX5_from_24 : decode cX5_from 24 = .ok (.goto 7, 3) := by decide +kernel
theorem dX5_from_27 : decode cX5_from 27 = .ok (.aload_n 0, 1) := by decide +kernel
theorem dX5_from_28 : decode cX5_from 28 = .ok (.getfield 29, 3) := by decide +kernel
theorem dX5_from_31 : decode cX5_from 31 = .ok (.istore_n 2, 1) := by decide +kernel
theorem dX5_from_32 : decode cX5_from 32 = .ok (.iload_n 2, 1) := by decide +kernel
theorem dX5_from_33 : decode cX5_from 33 = .ok (.ifCond .ne 10, 3) := by decide +kernel
theorem dX5_from_36 : decode cX5_from 36 = .ok (.aload_n 0, 1) := by decide +kernel
theorem dX5_from_37 : decode cX5_from 37 = .ok (.bipush (-3), 2) := by decide +kernel
theorem dX5_from_39 : decode cX5_from 39 = .ok (.invokevirtual 85, 3) := by decide +kernel
theorem dX5_from_42 : decode cX5_from 42 = .ok (.ireturn, 1) := by decide +kernel
theorem dX5_from_43 : decode cX5_from 43 = .ok (.aload_n 0, 1) := by decide +kernel
theorem dX5_from_44 : decode cX5_from 44 = .ok (.getfield 10, 3) := by decide +kernel
theorem dX5_from_47 : decode cX5_from 47 = .ok (.aload_n 0, 1) := by decide +kernel
theorem dX5_from_48 : decode cX5_from 48 = .ok (.iload_n 1, 1) := by decide +kernel
theorem dX5_from_49 : decode cX5_from 49 = .ok (.invokevirtual 246, 3) := by decide +kernel
theorem dX5_from_52 : decode cX5_from 52 = .ok (.invokevirtual 127, 3) := by decide +kernel
theorem dX5_from_55 : decode cX5_from 55 = .ok (.aload_n 0, 1) := by decide +kernel
theorem dX5_from_56 : decode cX5_from 56 = .ok (.getfield 51, 3) := by decide +kernel
theorem dX5_from_59 : decode cX5_from 59 = .ok (.invokevirtual 78, 3) := by decide +kernel
theorem dX5_from_62 : decode cX5_from 62 = .ok (.iconst 1, 1) := by decide +kernel
theorem dX5_from_63 : decode cX5_from 63 = .ok (.ireturn, 1) := by decide +kernel
theorem dX5_status_0 : decode cX5_status 0 = .ok (.iload_n 1, 1) := by decide +kernel
theorem dX5_status_1 : decode cX5_status 1 = .ok (.ifCond .ne 8, 3) := by decide +kernel
theorem dX5_status_4 : decode cX5_status 4 = .ok (.aload_n 0, 1) := by decide +kernel
theorem dX5_status_5 : decode cX5_status 5 = .ok (.getfield 68, 3) := by decide +kernel
theorem dX5_status_8 : decode cX5_status 8 = .ok (.ireturn, 1) := by decide +kernel
theorem dX5_status_9 : decode cX5_status 9 = .ok (.iload_n 1, 1) := by decide +kernel
theorem dX5_status_10 : decode cX5_status 10 = .ok (.iconst 1, 1) := by decide +kernel
theorem dX5_status_11 : decode cX5_status 11 = .ok (.if_icmp .ne 8, 3) := by decide +kernel
theorem dX5_status_14 : decode cX5_status 14 = .ok (.aload_n 0, 1) := by decide +kernel
theorem dX5_status_15 : decode cX5_status 15 = .ok (.getfield 72, 3) := by decide +kernel
theorem dX5_status_18 : decode cX5_status 18 = .ok (.ireturn, 1) := by decide +kernel
theorem dX5_status_19 : decode cX5_status 19 = .ok (.iload_n 1, 1) := by decide +kernel
theorem dX5_status_20 : decode cX5_status 20 = .ok (.iconst 2, 1) := by decide +kernel
theorem dX5_status_21 : decode cX5_status 21 = .ok (.if_icmp .ne 8, 3) := by decide +kernel
theorem dX5_status_24 : decode cX5_status 24 = .ok (.aload_n 0, 1) := by decide +kernel
theorem dX5_status_25 : decode cX5_status 25 = .ok (.getfield 75, 3) := by decide +kernel
theorem dX5_status_28 : decode cX5_status 28 = .ok (.ireturn, 1) := by decide +kernel
theorem dX5_status_29 : decode cX5_status 29 = .ok (.aload_n 0, 1) := by decide +kernel
theorem dX5_status_30 : decode cX5_status 30 = .ok (.bipush (-2), 2) := by decide +kernel
theorem dX5_status_32 : decode cX5_status 32 = .ok (.invokevirtual 85, 3) := by decide +kernel
theorem dX5_status_35 : decode cX5_status 35 = .ok (.pop, 1) := by decide +kernel
theorem dX5_status_36 : decode cX5_status 36 = .ok (.iconst (-1), 1) := by decide +kernel
theorem dX5_status_37 : decode cX5_status 37 = .ok (.ireturn, 1) := by decide +kernel
theorem dX5_count_0 : decode cX5_count 0 = .ok (.iload_n 1, 1) := by decide +kernel
theorem dX5_count_1 : decode cX5_count 1 = .ok (.ifCond .lt 9, 3) := by decide +kernel
theorem dX5_count_4 : decode cX5_count 4 = .ok (.iload_n 1, 1) := by decide +kernel
theorem dX5_count_5 : decode cX5_count 5 = .ok (.bipush 7, 2) := by decide +kernel
theorem dX5_count_7 : decode cX5_count 7 = .ok (.if_icmp .lt 10, 3) := by decide +kernel
theorem dX5_count_10 : decode cX5_count 10 = .ok (.aload_n 0, 1) := by decide +kernel
theorem dX5_count_11 : decode cX5_count 11 = .ok (.bipush (-2), 2) := by decide +kernel
theorem dX5_count_13 : decode cX5_count 13 = .ok (.invokevirtual 85, 3) := by decide +kernel
theorem dX5_count_16 : decode cX5_count 16 = .ok (.ireturn, 1) := by decide +kernel
theorem dX5_count_17 : decode cX5_count 17 = .ok (.aload_n 0, 1) := by decide +kernel
theorem dX5_count_18 : decode cX5_count 18 = .ok (.iload_n 1, 1) := by decide +kernel
theorem dX5_count_19 : decode cX5_count 19 = .ok (.invokevirtual 250, 3) := by decide +kernel
theorem dX5_count_22 : decode cX5_count 22 = .ok (.ireturn, 1) := by decide +kernel
theorem dX5_digest_0 : decode cX5_digest 0 = .ok (.ldc2_w 253, 3) := by decide +kernel
theorem dX5_digest_3 : decode cX5_digest 3 = .ok (.lstore_n 1, 1) := by decide +kernel
theorem dX5_digest_4 : decode cX5_digest 4 = .ok (.iconst 0, 1) := by decide +kernel
theorem dX5_digest_5 : decode cX5_digest 5 = .ok (.istore_n 3, 1) := by decide +kernel
theorem dX5_digest_6 : decode cX5_digest 6 = .ok (.iload_n 3, 1) := by decide +kernel
theorem dX5_digest_7 : decode cX5_digest 7 = .ok (.bipush 7, 2) := by decide +kernel
theorem dX5_digest_9 : decode cX5_digest 9 = .ok (.if_icmp .ge 22, 3) := by decide +kernel
theorem dX5_digest_12 : decode cX5_digest 12 = .ok (.ldc2_w 255, 3) := by decide +kernel
theorem dX5_digest_15 : decode cX5_digest 15 = .ok (.lload_n 1, 1) := by decide +kernel
theorem dX5_digest_16 : decode cX5_digest 16 = .ok (.lmul, 1) := by decide +kernel
theorem dX5_digest_17 : decode cX5_digest 17 = .ok (.aload_n 0, 1) := by decide +kernel
theorem dX5_digest_18 : decode cX5_digest 18 = .ok (.iload_n 3, 1) := by decide +kernel
theorem dX5_digest_19 : decode cX5_digest 19 = .ok (.invokevirtual 250, 3) := by decide +kernel
theorem dX5_digest_22 : decode cX5_digest 22 = .ok (.i2l, 1) := by decide +kernel
theorem dX5_digest_23 : decode cX5_digest 23 = .ok (.ladd, 1) := by decide +kernel
theorem dX5_digest_24 : decode cX5_digest 24 = .ok (.lstore_n 1, 1) := by decide +kernel
theorem dX5_digest_25 : decode cX5_digest 25 = .ok (.iinc 3 1, 3) := by decide +kernel
theorem dX5_digest_28 : decode cX5_digest 28 = .ok (.goto (-22), 3) := by decide +kernel
theorem dX5_digest_31 : decode cX5_digest 31 = .ok (.iconst 0, 1) := by decide +kernel
theorem dX5_digest_32 : decode cX5_digest 32 = .ok (.istore_n 3, 1) := by decide +kernel
theorem dX5_digest_33 : decode cX5_digest 33 = .ok (.iload_n 3, 1) := by decide +kernel
theorem dX5_digest_34 : decode cX5_digest 34 = .ok (.aload_n 0, 1) := by decide +kernel
theorem dX5_digest_35 : decode cX5_digest 35 = .ok (.getfield 10, 3) := by decide +kernel
theorem dX5_digest_38 : decode cX5_digest 38 = .ok (.getfield 199, 3) := by decide +kernel
theorem dX5_digest_41 : decode cX5_digest 41 = .ok (.if_icmp .ge 52, 3) := by decide +kernel
theorem dX5_digest_44 : decode cX5_digest 44 = .ok (.ldc2_w 255, 3) := by decide +kernel
theorem dX5_digest_47 : decode cX5_digest 47 = .ok (.lload_n 1, 1) := by decide +kernel
theorem dX5_digest_48 : decode cX5_digest 48 = .ok (.lmul, 1) := by decide +kernel
theorem dX5_digest_49 : decode cX5_digest 49 = .ok (.aload_n 0, 1) := by decide +kernel
theorem dX5_digest_50 : decode cX5_digest 50 = .ok (.getfield 10, 3) := by decide +kernel
theorem dX5_digest_53 : decode cX5_digest 53 = .ok (.iload_n 3, 1) := by decide +kernel
theorem dX5_digest_54 : decode cX5_digest 54 = .ok (.invokevirtual 257, 3) := by decide +kernel
theorem dX5_digest_57 : decode cX5_digest 57 = .ok (.ifCond .eq 7, 3) := by decide +kernel
theorem dX5_digest_60 : decode cX5_digest 60 = .ok (.iconst 1, 1) := by decide +kernel
theorem dX5_digest_61 : decode cX5_digest 61 = .ok (.goto 4, 3) := by decide +kernel
theorem dX5_digest_64 : decode cX5_digest 64 = .ok (.iconst 0, 1) := by decide +kernel
theorem dX5_digest_65 : decode cX5_digest 65 = .ok (.i2l, 1) := by decide +kernel
theorem dX5_digest_66 : decode cX5_digest 66 = .ok (.ladd, 1) := by decide +kernel
theorem dX5_digest_67 : decode cX5_digest 67 = .ok (.lstore_n 1, 1) := by decide +kernel
theorem dX5_digest_68 : decode cX5_digest 68 = .ok (.ldc2_w 255, 3) := by decide +kernel
theorem dX5_digest_71 : decode cX5_digest 71 = .ok (.lload_n 1, 1) := by decide +kernel
theorem dX5_digest_72 : decode cX5_digest 72 = .ok (.lmul, 1) := by decide +kernel
theorem dX5_digest_73 : decode cX5_digest 73 = .ok (.aload_n 0, 1) := by decide +kernel
theorem dX5_digest_74 : decode cX5_digest 74 = .ok (.getfield 10, 3) := by decide +kernel
theorem dX5_digest_77 : decode cX5_digest 77 = .ok (.getfield 221, 3) := by decide +kernel
theorem dX5_digest_80 : decode cX5_digest 80 = .ok (.iload_n 3, 1) := by decide +kernel
theorem dX5_digest_81 : decode cX5_digest 81 = .ok (.invokevirtual 185, 3) := by decide +kernel
theorem dX5_digest_84 : decode cX5_digest 84 = .ok (.i2l, 1) := by decide +kernel
theorem dX5_digest_85 : decode cX5_digest 85 = .ok (.ladd, 1) := by decide +kernel
theorem dX5_digest_86 : decode cX5_digest 86 = .ok (.lstore_n 1, 1) := by decide +kernel
theorem dX5_digest_87 : decode cX5_digest 87 = .ok (.iinc 3 1, 3) := by decide +kernel
theorem dX5_digest_90 : decode cX5_digest 90 = .ok (.goto (-57), 3) := by decide +kernel
theorem dX5_digest_93 : decode cX5_digest 93 = .ok (.iconst 0, 1) := by decide +kernel
theorem dX5_digest_94 : decode cX5_digest 94 = .ok (.istore_n 3, 1) := by decide +kernel
theorem dX5_digest_95 : decode cX5_digest 95 = .ok (.iload_n 3, 1) := by decide +kernel
theorem dX5_digest_96 : decode cX5_digest 96 = .ok (.aload_n 0, 1) := by decide +kernel
theorem dX5_digest_97 : decode cX5_digest 97 = .ok (.getfield 10, 3) := by decide +kernel
theorem dX5_digest_100 : decode cX5_digest 100 = .ok (.getfield 182, 3) := by decide +kernel
theorem dX5_digest_103 : decode cX5_digest 103 = .ok (.invokevirtual 109, 3) := by decide +kernel
theorem dX5_digest_106 : decode cX5_digest 106 = .ok (.if_icmp .ge 85, 3) := by decide +kernel
theorem dX5_digest_109 : decode cX5_digest 109 = .ok (.ldc2_w 255, 3) := by decide +kernel
theorem dX5_digest_112 : decode cX5_digest 112 = .ok (.lload_n 1, 1) := by decide +kernel
theorem dX5_digest_113 : decode cX5_digest 113 = .ok (.lmul, 1) := by decide +kernel
theorem dX5_digest_114 : decode cX5_digest 114 = .ok (.aload_n 0, 1) := by decide +kernel
theorem dX5_digest_115 : decode cX5_digest 115 = .ok (.getfield 10, 3) := by decide +kernel
theorem dX5_digest_118 : decode cX5_digest 118 = .ok (.getfield 182, 3) := by decide +kernel
theorem dX5_digest_121 : decode cX5_digest 121 = .ok (.iload_n 3, 1) := by decide +kernel
theorem dX5_digest_122 : decode cX5_digest 122 = .ok (.invokevirtual 185, 3) := by decide +kernel
theorem dX5_digest_125 : decode cX5_digest 125 = .ok (.i2l, 1) := by decide +kernel
theorem dX5_digest_126 : decode cX5_digest 126 = .ok (.ladd, 1) := by decide +kernel
theorem dX5_digest_127 : decode cX5_digest 127 = .ok (.lstore_n 1, 1) := by decide +kernel
theorem dX5_digest_128 : decode cX5_digest 128 = .ok (.ldc2_w 255, 3) := by decide +kernel
theorem dX5_digest_131 : decode cX5_digest 131 = .ok (.lload_n 1, 1) := by decide +kernel
theorem dX5_digest_132 : decode cX5_digest 132 = .ok (.lmul, 1) := by decide +kernel
theorem dX5_digest_133 : decode cX5_digest 133 = .ok (.aload_n 0, 1) := by decide +kernel
theorem dX5_digest_134 : decode cX5_digest 134 = .ok (.getfield 10, 3) := by decide +kernel
theorem dX5_digest_137 : decode cX5_digest 137 = .ok (.getfield 260, 3) := by decide +kernel
theorem dX5_digest_140 : decode cX5_digest 140 = .ok (.iload_n 3, 1) := by decide +kernel
theorem dX5_digest_141 : decode cX5_digest 141 = .ok (.invokevirtual 185, 3) := by decide +kernel
theorem dX5_digest_144 : decode cX5_digest 144 = .ok (.i2l, 1) := by decide +kernel
theorem dX5_digest_145 : decode cX5_digest 145 = .ok (.ladd, 1) := by decide +kernel
theorem dX5_digest_146 : decode cX5_digest 146 = .ok (.lstore_n 1, 1) := by decide +kernel
theorem dX5_digest_147 : decode cX5_digest 147 = .ok (.ldc2_w 255, 3) := by decide +kernel
theorem dX5_digest_150 : decode cX5_digest 150 = .ok (.lload_n 1, 1) := by decide +kernel
theorem dX5_digest_151 : decode cX5_digest 151 = .ok (.lmul, 1) := by decide +kernel
theorem dX5_digest_152 : decode cX5_digest 152 = .ok (.aload_n 0, 1) := by decide +kernel
theorem dX5_digest_153 : decode cX5_digest 153 = .ok (.getfield 10, 3) := by decide +kernel
theorem dX5_digest_156 : decode cX5_digest 156 = .ok (.getfield 263, 3) := by decide +kernel
theorem dX5_digest_159 : decode cX5_digest 159 = .ok (.iload_n 3, 1) := by decide +kernel
theorem dX5_digest_160 : decode cX5_digest 160 = .ok (.invokevirtual 185, 3) := by decide +kernel
theorem dX5_digest_163 : decode cX5_digest 163 = .ok (.i2l, 1) := by decide +kernel
theorem dX5_digest_164 : decode cX5_digest 164 = .ok (.ladd, 1) := by decide +kernel
theorem dX5_digest_165 : decode cX5_digest 165 = .ok (.lstore_n 1, 1) := by decide +kernel
theorem dX5_digest_166 : decode cX5_digest 166 = .ok (.ldc2_w 255, 3) := by decide +kernel
theorem dX5_digest_169 : decode cX5_digest 169 = .ok (.lload_n 1, 1) := by decide +kernel
theorem dX5_digest_170 : decode cX5_digest 170 = .ok (.lmul, 1) := by decide +kernel
theorem dX5_digest_171 : decode cX5_digest 171 = .ok (.aload_n 0, 1) := by decide +kernel
theorem dX5_digest_172 : decode cX5_digest 172 = .ok (.getfield 10, 3) := by decide +kernel
theorem dX5_digest_175 : decode cX5_digest 175 = .ok (.getfield 266, 3) := by decide +kernel
theorem dX5_digest_178 : decode cX5_digest 178 = .ok (.iload_n 3, 1) := by decide +kernel
theorem dX5_digest_179 : decode cX5_digest 179 = .ok (.invokevirtual 185, 3) := by decide +kernel
theorem dX5_digest_182 : decode cX5_digest 182 = .ok (.i2l, 1) := by decide +kernel
theorem dX5_digest_183 : decode cX5_digest 183 = .ok (.ladd, 1) := by decide +kernel
theorem dX5_digest_184 : decode cX5_digest 184 = .ok (.lstore_n 1, 1) := by decide +kernel
theorem dX5_digest_185 : decode cX5_digest 185 = .ok (.iinc 3 1, 3) := by decide +kernel
theorem dX5_digest_188 : decode cX5_digest 188 = .ok (.goto (-93), 3) := by decide +kernel
theorem dX5_digest_191 : decode cX5_digest 191 = .ok (.ldc2_w 255, 3) := by decide +kernel
theorem dX5_digest_194 : decode cX5_digest 194 = .ok (.lload_n 1, 1) := by decide +kernel
theorem dX5_digest_195 : decode cX5_digest 195 = .ok (.lmul, 1) := by decide +kernel
theorem dX5_digest_196 : decode cX5_digest 196 = .ok (.aload_n 0, 1) := by decide +kernel
theorem dX5_digest_197 : decode cX5_digest 197 = .ok (.getfield 10, 3) := by decide +kernel
theorem dX5_digest_200 : decode cX5_digest 200 = .ok (.getfield 100, 3) := by decide +kernel
theorem dX5_digest_203 : decode cX5_digest 203 = .ok (.i2l, 1) := by decide +kernel
theorem dX5_digest_204 : decode cX5_digest 204 = .ok (.ladd, 1) := by decide +kernel
theorem dX5_digest_205 : decode cX5_digest 205 = .ok (.lstore_n 1, 1) := by decide +kernel
theorem dX5_digest_206 : decode cX5_digest 206 = .ok (.ldc2_w 255, 3) := by decide +kernel
theorem dX5_digest_209 : decode cX5_digest 209 = .ok (.lload_n 1, 1) := by decide +kernel
theorem dX5_digest_210 : decode cX5_digest 210 = .ok (.lmul, 1) := by decide +kernel
theorem dX5_digest_211 : decode cX5_digest 211 = .ok (.aload_n 0, 1) := by decide +kernel
theorem dX5_digest_212 : decode cX5_digest 212 = .ok (.getfield 10, 3) := by decide +kernel
theorem dX5_digest_215 : decode cX5_digest 215 = .ok (.getfield 103, 3) := by decide +kernel
theorem dX5_digest_218 : decode cX5_digest 218 = .ok (.i2l, 1) := by decide +kernel
theorem dX5_digest_219 : decode cX5_digest 219 = .ok (.ladd, 1) := by decide +kernel
theorem dX5_digest_220 : decode cX5_digest 220 = .ok (.lstore_n 1, 1) := by decide +kernel
theorem dX5_digest_221 : decode cX5_digest 221 = .ok (.iconst 0, 1) := by decide +kernel
theorem dX5_digest_222 : decode cX5_digest 222 = .ok (.istore_n 3, 1) := by decide +kernel
theorem dX5_digest_223 : decode cX5_digest 223 = .ok (.iload_n 3, 1) := by decide +kernel
theorem dX5_digest_224 : decode cX5_digest 224 = .ok (.aload_n 0, 1) := by decide +kernel
theorem dX5_digest_225 : decode cX5_digest 225 = .ok (.getfield 10, 3) := by decide +kernel
theorem dX5_digest_228 : decode cX5_digest 228 = .ok (.getfield 240, 3) := by decide +kernel
theorem dX5_digest_231 : decode cX5_digest 231 = .ok (.invokevirtual 109, 3) := by decide +kernel
theorem dX5_digest_234 : decode cX5_digest 234 = .ok (.if_icmp .ge 28, 3) := by decide +kernel
theorem dX5_digest_237 : decode cX5_digest 237 = .ok (.ldc2_w 255, 3) := by decide +kernel
theorem dX5_digest_240 : decode cX5_digest 240 = .ok (.lload_n 1, 1) := by decide +kernel
theorem dX5_digest_241 : decode cX5_digest 241 = .ok (.lmul, 1) := by decide +kernel
theorem dX5_digest_242 : decode cX5_digest 242 = .ok (.aload_n 0, 1) := by decide +kernel
theorem dX5_digest_243 : decode cX5_digest 243 = .ok (.getfield 10, 3) := by decide +kernel
theorem dX5_digest_246 : decode cX5_digest 246 = .ok (.getfield 240, 3) := by decide +kernel
theorem dX5_digest_249 : decode cX5_digest 249 = .ok (.iload_n 3, 1) := by decide +kernel
theorem dX5_digest_250 : decode cX5_digest 250 = .ok (.invokevirtual 185, 3) := by decide +kernel
theorem dX5_digest_253 : decode cX5_digest 253 = .ok (.i2l, 1) := by decide +kernel
theorem dX5_digest_254 : decode cX5_digest 254 = .ok (.ladd, 1) := by decide +kernel
theorem dX5_digest_255 : decode cX5_digest 255 = .ok (.lstore_n 1, 1) := by decide +kernel
theorem dX5_digest_256 : decode cX5_digest 256 = .ok (.iinc 3 1, 3) := by decide +kernel
theorem dX5_digest_259 : decode cX5_digest 259 = .ok (.goto (-36), 3) := by decide +kernel
theorem dX5_digest_262 : decode cX5_digest 262 = .ok (.iconst 0, 1) := by decide +kernel
theorem dX5_digest_263 : decode cX5_digest 263 = .ok (.istore_n 3, 1) := by decide +kernel
theorem dX5_digest_264 : decode cX5_digest 264 = .ok (.iload_n 3, 1) := by decide +kernel
theorem dX5_digest_265 : decode cX5_digest 265 = .ok (.aload_n 0, 1) := by decide +kernel
theorem dX5_digest_266 : decode cX5_digest 266 = .ok (.getfield 10, 3) := by decide +kernel
theorem dX5_digest_269 : decode cX5_digest 269 = .ok (.getfield 234, 3) := by decide +kernel
theorem dX5_digest_272 : decode cX5_digest 272 = .ok (.invokevirtual 109, 3) := by decide +kernel
theorem dX5_digest_275 : decode cX5_digest 275 = .ok (.if_icmp .ge 47, 3) := by decide +kernel
theorem dX5_digest_278 : decode cX5_digest 278 = .ok (.ldc2_w 255, 3) := by decide +kernel
theorem dX5_digest_281 : decode cX5_digest 281 = .ok (.lload_n 1, 1) := by decide +kernel
theorem dX5_digest_282 : decode cX5_digest 282 = .ok (.lmul, 1) := by decide +kernel
theorem dX5_digest_283 : decode cX5_digest 283 = .ok (.aload_n 0, 1) := by decide +kernel
theorem dX5_digest_284 : decode cX5_digest 284 = .ok (.getfield 10, 3) := by decide +kernel
theorem dX5_digest_287 : decode cX5_digest 287 = .ok (.getfield 234, 3) := by decide +kernel
theorem dX5_digest_290 : decode cX5_digest 290 = .ok (.iload_n 3, 1) := by decide +kernel
theorem dX5_digest_291 : decode cX5_digest 291 = .ok (.invokevirtual 185, 3) := by decide +kernel
theorem dX5_digest_294 : decode cX5_digest 294 = .ok (.i2l, 1) := by decide +kernel
theorem dX5_digest_295 : decode cX5_digest 295 = .ok (.ladd, 1) := by decide +kernel
theorem dX5_digest_296 : decode cX5_digest 296 = .ok (.lstore_n 1, 1) := by decide +kernel
theorem dX5_digest_297 : decode cX5_digest 297 = .ok (.ldc2_w 255, 3) := by decide +kernel
theorem dX5_digest_300 : decode cX5_digest 300 = .ok (.lload_n 1, 1) := by decide +kernel
theorem dX5_digest_301 : decode cX5_digest 301 = .ok (.lmul, 1) := by decide +kernel
theorem dX5_digest_302 : decode cX5_digest 302 = .ok (.aload_n 0, 1) := by decide +kernel
theorem dX5_digest_303 : decode cX5_digest 303 = .ok (.getfield 10, 3) := by decide +kernel
theorem dX5_digest_306 : decode cX5_digest 306 = .ok (.getfield 237, 3) := by decide +kernel
theorem dX5_digest_309 : decode cX5_digest 309 = .ok (.iload_n 3, 1) := by decide +kernel
theorem dX5_digest_310 : decode cX5_digest 310 = .ok (.invokevirtual 185, 3) := by decide +kernel
theorem dX5_digest_313 : decode cX5_digest 313 = .ok (.i2l, 1) := by decide +kernel
theorem dX5_digest_314 : decode cX5_digest 314 = .ok (.ladd, 1) := by decide +kernel
theorem dX5_digest_315 : decode cX5_digest 315 = .ok (.lstore_n 1, 1) := by decide +kernel
theorem dX5_digest_316 : decode cX5_digest 316 = .ok (.iinc 3 1, 3) := by decide +kernel
theorem dX5_digest_319 : decode cX5_digest 319 = .ok (.goto (-55), 3) := by decide +kernel
theorem dX5_digest_322 : decode cX5_digest 322 = .ok (.lload_n 1, 1) := by decide +kernel
theorem dX5_digest_323 : decode cX5_digest 323 = .ok (.lreturn, 1) := by decide +kernel
theorem dX5_counted_0 : decode cX5_counted 0 = .ok (.iload_n 1, 1) := by decide +kernel
theorem dX5_counted_1 : decode cX5_counted 1 = .ok (.bipush (-2), 2) := by decide +kernel
theorem dX5_counted_3 : decode cX5_counted 3 = .ok (.if_icmp .ne 13, 3) := by decide +kernel
theorem dX5_counted_6 : decode cX5_counted 6 = .ok (.aload_n 0, 1) := by decide +kernel
theorem dX5_counted_7 : decode cX5_counted 7 = .ok (.dup, 1) := by decide +kernel
theorem dX5_counted_8 : decode cX5_counted 8 = .ok (.getfield 68, 3) := by decide +kernel
theorem dX5_counted_11 : decode cX5_counted 11 = .ok (.iconst 1, 1) := by decide +kernel
theorem dX5_counted_12 : decode cX5_counted 12 = .ok (.iadd, 1) := by decide +kernel
theorem dX5_counted_13 : decode cX5_counted 13 = .ok (.putfield 68, 3) := by decide +kernel
theorem dX5_counted_16 : decode cX5_counted 16 = .ok (.iload_n 1, 1) := by decide +kernel
theorem dX5_counted_17 : decode cX5_counted 17 = .ok (.bipush (-3), 2) := by decide +kernel
theorem dX5_counted_19 : decode cX5_counted 19 = .ok (.if_icmp .ne 13, 3) := by decide +kernel
theorem dX5_counted_22 : decode cX5_counted 22 = .ok (.aload_n 0, 1) := by decide +kernel
theorem dX5_counted_23 : decode cX5_counted 23 = .ok (.dup, 1) := by decide +kernel
theorem dX5_counted_24 : decode cX5_counted 24 = .ok (.getfield 72, 3) := by decide +kernel
theorem dX5_counted_27 : decode cX5_counted 27 = .ok (.iconst 1, 1) := by decide +kernel
theorem dX5_counted_28 : decode cX5_counted 28 = .ok (.iadd, 1) := by decide +kernel
theorem dX5_counted_29 : decode cX5_counted 29 = .ok (.putfield 72, 3) := by decide +kernel
theorem dX5_counted_32 : decode cX5_counted 32 = .ok (.iload_n 1, 1) := by decide +kernel
theorem dX5_counted_33 : decode cX5_counted 33 = .ok (.bipush (-4), 2) := by decide +kernel
theorem dX5_counted_35 : decode cX5_counted 35 = .ok (.if_icmp .ne 13, 3) := by decide +kernel
theorem dX5_counted_38 : decode cX5_counted 38 = .ok (.aload_n 0, 1) := by decide +kernel
theorem dX5_counted_39 : decode cX5_counted 39 = .ok (.dup, 1) := by decide +kernel
theorem dX5_counted_40 : decode cX5_counted 40 = .ok (.getfield 75, 3) := by decide +kernel
theorem dX5_counted_43 : decode cX5_counted 43 = .ok (.iconst 1, 1) := by decide +kernel
theorem dX5_counted_44 : decode cX5_counted 44 = .ok (.iadd, 1) := by decide +kernel
theorem dX5_counted_45 : decode cX5_counted 45 = .ok (.putfield 75, 3) := by decide +kernel
theorem dX5_counted_48 : decode cX5_counted 48 = .ok (.iload_n 1, 1) := by decide +kernel
theorem dX5_counted_49 : decode cX5_counted 49 = .ok (.ireturn, 1) := by decide +kernel
theorem dX5_countOf_0 : decode cX5_countOf 0 = .ok (.iload_n 1, 1) := by decide +kernel
theorem dX5_countOf_1 : decode cX5_countOf 1 = .ok (.tableswitch 99 0 5 #[39, 47, 58, 69, 80, 88], 39) := by decide +kernel
theorem dX5_countOf_40 : decode cX5_countOf 40 = .ok (.aload_n 0, 1) := by decide +kernel
theorem dX5_countOf_41 : decode cX5_countOf 41 = .ok (.getfield 10, 3) := by decide +kernel
theorem dX5_countOf_44 : decode cX5_countOf 44 = .ok (.getfield 199, 3) := by decide +kernel
theorem dX5_countOf_47 : decode cX5_countOf 47 = .ok (.ireturn, 1) := by decide +kernel
theorem dX5_countOf_48 : decode cX5_countOf 48 = .ok (.aload_n 0, 1) := by decide +kernel
theorem dX5_countOf_49 : decode cX5_countOf 49 = .ok (.getfield 10, 3) := by decide +kernel
theorem dX5_countOf_52 : decode cX5_countOf 52 = .ok (.getfield 182, 3) := by decide +kernel
theorem dX5_countOf_55 : decode cX5_countOf 55 = .ok (.invokevirtual 109, 3) := by decide +kernel
theorem dX5_countOf_58 : decode cX5_countOf 58 = .ok (.ireturn, 1) := by decide +kernel
theorem dX5_countOf_59 : decode cX5_countOf 59 = .ok (.aload_n 0, 1) := by decide +kernel
theorem dX5_countOf_60 : decode cX5_countOf 60 = .ok (.getfield 10, 3) := by decide +kernel
theorem dX5_countOf_63 : decode cX5_countOf 63 = .ok (.getfield 240, 3) := by decide +kernel
theorem dX5_countOf_66 : decode cX5_countOf 66 = .ok (.invokevirtual 109, 3) := by decide +kernel
theorem dX5_countOf_69 : decode cX5_countOf 69 = .ok (.ireturn, 1) := by decide +kernel
theorem dX5_countOf_70 : decode cX5_countOf 70 = .ok (.aload_n 0, 1) := by decide +kernel
theorem dX5_countOf_71 : decode cX5_countOf 71 = .ok (.getfield 10, 3) := by decide +kernel
theorem dX5_countOf_74 : decode cX5_countOf 74 = .ok (.getfield 234, 3) := by decide +kernel
theorem dX5_countOf_77 : decode cX5_countOf 77 = .ok (.invokevirtual 109, 3) := by decide +kernel
theorem dX5_countOf_80 : decode cX5_countOf 80 = .ok (.ireturn, 1) := by decide +kernel
theorem dX5_countOf_81 : decode cX5_countOf 81 = .ok (.aload_n 0, 1) := by decide +kernel
theorem dX5_countOf_82 : decode cX5_countOf 82 = .ok (.getfield 37, 3) := by decide +kernel
theorem dX5_countOf_85 : decode cX5_countOf 85 = .ok (.invokevirtual 109, 3) := by decide +kernel
theorem dX5_countOf_88 : decode cX5_countOf 88 = .ok (.ireturn, 1) := by decide +kernel
theorem dX5_countOf_89 : decode cX5_countOf 89 = .ok (.aload_n 0, 1) := by decide +kernel
theorem dX5_countOf_90 : decode cX5_countOf 90 = .ok (.getfield 10, 3) := by decide +kernel
theorem dX5_countOf_93 : decode cX5_countOf 93 = .ok (.getfield 148, 3) := by decide +kernel
theorem dX5_countOf_96 : decode cX5_countOf 96 = .ok (.invokevirtual 109, 3) := by decide +kernel
theorem dX5_countOf_99 : decode cX5_countOf 99 = .ok (.ireturn, 1) := by decide +kernel
theorem dX5_countOf_100 : decode cX5_countOf 100 = .ok (.aload_n 0, 1) := by decide +kernel
theorem dX5_countOf_101 : decode cX5_countOf 101 = .ok (.getfield 10, 3) := by decide +kernel
theorem dX5_countOf_104 : decode cX5_countOf 104 = .ok (.getfield 141, 3) := by decide +kernel
theorem dX5_countOf_107 : decode cX5_countOf 107 = .ok (.ireturn, 1) := by decide +kernel
theorem dX5_imageAt_0 : decode cX5_imageAt 0 = .ok (.iload_n 1, 1) := by decide +kernel
theorem dX5_imageAt_1 : decode cX5_imageAt 1 = .ok (.ifCond .ne 10, 3) := by decide +kernel
theorem dX5_imageAt_4 : decode cX5_imageAt 4 = .ok (.aload_n 0, 1) := by decide +kernel
theorem dX5_imageAt_5 : decode cX5_imageAt 5 = .ok (.getfield 19, 3) := by decide +kernel
theorem dX5_imageAt_8 : decode cX5_imageAt 8 = .ok (.goto 7, 3) := by decide +kernel
theorem dX5_imageAt_11 : decode cX5_imageAt 11 = .ok (.aload_n 0, 1) := by decide +kernel
theorem dX5_imageAt_12 : decode cX5_imageAt 12 = .ok (.getfield 22, 3) := by decide +kernel
theorem dX5_imageAt_15 : decode cX5_imageAt 15 = .ok (.areturn, 1) := by decide +kernel
theorem dX5_walkFromNow_0 : decode cX5_walkFromNow 0 = .ok (.aload_n 0, 1) := by decide +kernel
theorem dX5_walkFromNow_1 : decode cX5_walkFromNow 1 = .ok (.getfield 51, 3) := by decide +kernel
theorem dX5_walkFromNow_4 : decode cX5_walkFromNow 4 = .ok (.invokevirtual 269, 3) := by decide +kernel
theorem dX5_walkFromNow_7 : decode cX5_walkFromNow 7 = .ok (.aload_n 0, 1) := by decide +kernel
theorem dX5_walkFromNow_8 : decode cX5_walkFromNow 8 = .ok (.getfield 51, 3) := by decide +kernel
theorem dX5_walkFromNow_11 : decode cX5_walkFromNow 11 = .ok (.aload_n 0, 1) := by decide +kernel
theorem dX5_walkFromNow_12 : decode cX5_walkFromNow 12 = .ok (.getfield 10, 3) := by decide +kernel
theorem dX5_walkFromNow_15 : decode cX5_walkFromNow 15 = .ok (.getfield 141, 3) := by decide +kernel
theorem dX5_walkFromNow_18 : decode cX5_walkFromNow 18 = .ok (.invokevirtual 272, 3) := by decide +kernel
theorem dX5_walkFromNow_21 : decode cX5_walkFromNow 21 = .ok (.aload_n 0, 1) := by decide +kernel
theorem dX5_walkFromNow_22 : decode cX5_walkFromNow 22 = .ok (.getfield 51, 3) := by decide +kernel
theorem dX5_walkFromNow_25 : decode cX5_walkFromNow 25 = .ok (.getfield 275, 3) := by decide +kernel
theorem dX5_walkFromNow_28 : decode cX5_walkFromNow 28 = .ok (.invokevirtual 109, 3) := by decide +kernel
theorem dX5_walkFromNow_31 : decode cX5_walkFromNow 31 = .ok (.ireturn, 1) := by decide +kernel
theorem dX5_openableWith_0 : decode cX5_openableWith 0 = .ok (.aload_n 0, 1) := by decide +kernel
theorem dX5_openableWith_1 : decode cX5_openableWith 1 = .ok (.getfield 51, 3) := by decide +kernel
theorem dX5_openableWith_4 : decode cX5_openableWith 4 = .ok (.iload_n 1, 1) := by decide +kernel
theorem dX5_openableWith_5 : decode cX5_openableWith 5 = .ok (.iload_n 2, 1) := by decide +kernel
theorem dX5_openableWith_6 : decode cX5_openableWith 6 = .ok (.iload_n 3, 1) := by decide +kernel
theorem dX5_openableWith_7 : decode cX5_openableWith 7 = .ok (.invokevirtual 207, 3) := by decide +kernel
theorem dX5_openableWith_10 : decode cX5_openableWith 10 = .ok (.aload_n 0, 1) := by decide +kernel
theorem dX5_openableWith_11 : decode cX5_openableWith 11 = .ok (.invokevirtual 167, 3) := by decide +kernel
theorem dX5_openableWith_14 : decode cX5_openableWith 14 = .ok (.pop, 1) := by decide +kernel
theorem dX5_openableWith_15 : decode cX5_openableWith 15 = .ok (.aload_n 0, 1) := by decide +kernel
theorem dX5_openableWith_16 : decode cX5_openableWith 16 = .ok (.getfield 51, 3) := by decide +kernel
theorem dX5_openableWith_19 : decode cX5_openableWith 19 = .ok (.invokevirtual 278, 3) := by decide +kernel
theorem dX5_openableWith_22 : decode cX5_openableWith 22 = .ok (.invokestatic 281, 3) := by decide +kernel
theorem dX5_openableWith_25 : decode cX5_openableWith 25 = .ok (.ireturn, 1) := by decide +kernel
theorem dX5_pullOf_0 : decode cX5_pullOf 0 = .ok (.aload_n 0, 1) := by decide +kernel
theorem dX5_pullOf_1 : decode cX5_pullOf 1 = .ok (.getfield 10, 3) := by decide +kernel
theorem dX5_pullOf_4 : decode cX5_pullOf 4 = .ok (.iload_n 1, 1) := by decide +kernel
theorem dX5_pullOf_5 : decode cX5_pullOf 5 = .ok (.invokevirtual 286, 3) := by decide +kernel
theorem dX5_pullOf_8 : decode cX5_pullOf 8 = .ok (.ifCond .eq 25, 3) := by decide +kernel
theorem dX5_pullOf_11 : decode cX5_pullOf 11 = .ok (.aload_n 0, 1) := by decide +kernel
theorem dX5_pullOf_12 : decode cX5_pullOf 12 = .ok (.getfield 10, 3) := by decide +kernel
theorem dX5_pullOf_15 : decode cX5_pullOf 15 = .ok (.iload_n 2, 1) := by decide +kernel
theorem dX5_pullOf_16 : decode cX5_pullOf 16 = .ok (.invokevirtual 286, 3) := by decide +kernel
theorem dX5_pullOf_19 : decode cX5_pullOf 19 = .ok (.ifCond .eq 14, 3) := by decide +kernel
theorem dX5_pullOf_22 : decode cX5_pullOf 22 = .ok (.iload_n 1, 1) := by decide +kernel
theorem dX5_pullOf_23 : decode cX5_pullOf 23 = .ok (.iload_n 2, 1) := by decide +kernel
theorem dX5_pullOf_24 : decode cX5_pullOf 24 = .ok (.iand, 1) := by decide +kernel
theorem dX5_pullOf_25 : decode cX5_pullOf 25 = .ok (.ifCond .ne 8, 3) := by decide +kernel
theorem dX5_pullOf_28 : decode cX5_pullOf 28 = .ok (.iload_n 3, 1) := by decide +kernel
theorem dX5_pullOf_29 : decode cX5_pullOf 29 = .ok (.iconst (-1), 1) := by decide +kernel
theorem dX5_pullOf_30 : decode cX5_pullOf 30 = .ok (.if_icmp .ge 13, 3) := by decide +kernel
theorem dX5_pullOf_33 : decode cX5_pullOf 33 = .ok (.aload_n 0, 1) := by decide +kernel
theorem dX5_pullOf_34 : decode cX5_pullOf 34 = .ok (.bipush (-2), 2) := by decide +kernel
theorem dX5_pullOf_36 : decode cX5_pullOf 36 = .ok (.invokevirtual 85, 3) := by decide +kernel
theorem dX5_pullOf_39 : decode cX5_pullOf 39 = .ok (.pop, 1) := by decide +kernel
theorem dX5_pullOf_40 : decode cX5_pullOf 40 = .ok (.bipush (-10), 2) := by decide +kernel
theorem dX5_pullOf_42 : decode cX5_pullOf 42 = .ok (.ireturn, 1) := by decide +kernel
theorem dX5_pullOf_43 : decode cX5_pullOf 43 = .ok (.aload_n 0, 1) := by decide +kernel
theorem dX5_pullOf_44 : decode cX5_pullOf 44 = .ok (.getfield 51, 3) := by decide +kernel
theorem dX5_pullOf_47 : decode cX5_pullOf 47 = .ok (.invokevirtual 269, 3) := by decide +kernel
theorem dX5_pullOf_50 : decode cX5_pullOf 50 = .ok (.iload 4, 2) := by decide +kernel
theorem dX5_pullOf_52 : decode cX5_pullOf 52 = .ok (.ifCond .eq 14, 3) := by decide +kernel
theorem dX5_pullOf_55 : decode cX5_pullOf 55 = .ok (.aload_n 0, 1) := by decide +kernel
theorem dX5_pullOf_56 : decode cX5_pullOf 56 = .ok (.getfield 51, 3) := by decide +kernel
theorem dX5_pullOf_59 : decode cX5_pullOf 59 = .ok (.aload_n 0, 1) := by decide +kernel
theorem dX5_pullOf_60 : decode cX5_pullOf 60 = .ok (.getfield 10, 3) := by decide +kernel
theorem dX5_pullOf_63 : decode cX5_pullOf 63 = .ok (.invokevirtual 289, 3) := by decide +kernel
theorem dX5_pullOf_66 : decode cX5_pullOf 66 = .ok (.aload_n 0, 1) := by decide +kernel
theorem dX5_pullOf_67 : decode cX5_pullOf 67 = .ok (.getfield 51, 3) := by decide +kernel
theorem dX5_pullOf_70 : decode cX5_pullOf 70 = .ok (.aload_n 0, 1) := by decide +kernel
theorem dX5_pullOf_71 : decode cX5_pullOf 71 = .ok (.getfield 10, 3) := by decide +kernel
theorem dX5_pullOf_74 : decode cX5_pullOf 74 = .ok (.getfield 141, 3) := by decide +kernel
theorem dX5_pullOf_77 : decode cX5_pullOf 77 = .ok (.iload_n 1, 1) := by decide +kernel
theorem dX5_pullOf_78 : decode cX5_pullOf 78 = .ok (.iload_n 2, 1) := by decide +kernel
theorem dX5_pullOf_79 : decode cX5_pullOf 79 = .ok (.invokevirtual 292, 3) := by decide +kernel
theorem dX5_pullOf_82 : decode cX5_pullOf 82 = .ok (.istore 5, 2) := by decide +kernel
theorem dX5_pullOf_84 : decode cX5_pullOf 84 = .ok (.iload 5, 2) := by decide +kernel
theorem dX5_pullOf_86 : decode cX5_pullOf 86 = .ok (.iconst (-1), 1) := by decide +kernel
theorem dX5_pullOf_87 : decode cX5_pullOf 87 = .ok (.if_icmp .ne 5, 3) := by decide +kernel
theorem dX5_pullOf_90 : decode cX5_pullOf 90 = .ok (.iconst (-1), 1) := by decide +kernel
theorem dX5_pullOf_91 : decode cX5_pullOf 91 = .ok (.ireturn, 1) := by decide +kernel
theorem dX5_pullOf_92 : decode cX5_pullOf 92 = .ok (.aload_n 0, 1) := by decide +kernel
theorem dX5_pullOf_93 : decode cX5_pullOf 93 = .ok (.getfield 51, 3) := by decide +kernel
theorem dX5_pullOf_96 : decode cX5_pullOf 96 = .ok (.getfield 295, 3) := by decide +kernel
theorem dX5_pullOf_99 : decode cX5_pullOf 99 = .ok (.iload 5, 2) := by decide +kernel
theorem dX5_pullOf_101 : decode cX5_pullOf 101 = .ok (.invokevirtual 185, 3) := by decide +kernel
theorem dX5_pullOf_104 : decode cX5_pullOf 104 = .ok (.istore 6, 2) := by decide +kernel
theorem dX5_pullOf_106 : decode cX5_pullOf 106 = .ok (.iload_n 3, 1) := by decide +kernel
theorem dX5_pullOf_107 : decode cX5_pullOf 107 = .ok (.iconst (-1), 1) := by decide +kernel
theorem dX5_pullOf_108 : decode cX5_pullOf 108 = .ok (.if_icmp .ne 6, 3) := by decide +kernel
theorem dX5_pullOf_111 : decode cX5_pullOf 111 = .ok (.iload 6, 2) := by decide +kernel
theorem dX5_pullOf_113 : decode cX5_pullOf 113 = .ok (.ireturn, 1) := by decide +kernel
theorem dX5_pullOf_114 : decode cX5_pullOf 114 = .ok (.iload_n 3, 1) := by decide +kernel
theorem dX5_pullOf_115 : decode cX5_pullOf 115 = .ok (.iload 6, 2) := by decide +kernel
theorem dX5_pullOf_117 : decode cX5_pullOf 117 = .ok (.if_icmp .ge 16, 3) := by decide +kernel
theorem dX5_pullOf_120 : decode cX5_pullOf 120 = .ok (.aload_n 0, 1) := by decide +kernel
theorem dX5_pullOf_121 : decode cX5_pullOf 121 = .ok (.getfield 51, 3) := by decide +kernel
theorem dX5_pullOf_124 : decode cX5_pullOf 124 = .ok (.iload 5, 2) := by decide +kernel
theorem dX5_pullOf_126 : decode cX5_pullOf 126 = .ok (.iload_n 3, 1) := by decide +kernel
theorem dX5_pullOf_127 : decode cX5_pullOf 127 = .ok (.invokevirtual 298, 3) := by decide +kernel
theorem dX5_pullOf_130 : decode cX5_pullOf 130 = .ok (.goto 5, 3) := by decide +kernel
theorem dX5_pullOf_133 : decode cX5_pullOf 133 = .ok (.bipush (-5), 2) := by decide +kernel
theorem dX5_pullOf_135 : decode cX5_pullOf 135 = .ok (.ireturn, 1) := by decide +kernel
theorem dX5_isSumKept_0 : decode cX5_isSumKept 0 = .ok (.iload_n 1, 1) := by decide +kernel
theorem dX5_isSumKept_1 : decode cX5_isSumKept 1 = .ok (.aload_n 0, 1) := by decide +kernel
theorem dX5_isSumKept_2 : decode cX5_isSumKept 2 = .ok (.getfield 10, 3) := by decide +kernel
theorem dX5_isSumKept_5 : decode cX5_isSumKept 5 = .ok (.getfield 141, 3) := by decide +kernel
theorem dX5_isSumKept_8 : decode cX5_isSumKept 8 = .ok (.invokestatic 301, 3) := by decide +kernel
theorem dX5_isSumKept_11 : decode cX5_isSumKept 11 = .ok (.istore_n 2, 1) := by decide +kernel
theorem dX5_isSumKept_12 : decode cX5_isSumKept 12 = .ok (.iconst 0, 1) := by decide +kernel
theorem dX5_isSumKept_13 : decode cX5_isSumKept 13 = .ok (.istore_n 3, 1) := by decide +kernel
theorem dX5_isSumKept_14 : decode cX5_isSumKept 14 = .ok (.iload_n 3, 1) := by decide +kernel
theorem dX5_isSumKept_15 : decode cX5_isSumKept 15 = .ok (.aload_n 0, 1) := by decide +kernel
theorem dX5_isSumKept_16 : decode cX5_isSumKept 16 = .ok (.getfield 65, 3) := by decide +kernel
theorem dX5_isSumKept_19 : decode cX5_isSumKept 19 = .ok (.invokevirtual 109, 3) := by decide +kernel
theorem dX5_isSumKept_22 : decode cX5_isSumKept 22 = .ok (.if_icmp .ge 27, 3) := by decide +kernel
theorem dX5_isSumKept_25 : decode cX5_isSumKept 25 = .ok (.iload_n 1, 1) := by decide +kernel
theorem dX5_isSumKept_26 : decode cX5_isSumKept 26 = .ok (.aload_n 0, 1) := by decide +kernel
theorem dX5_isSumKept_27 : decode cX5_isSumKept 27 = .ok (.getfield 65, 3) := by decide +kernel
theorem dX5_isSumKept_30 : decode cX5_isSumKept 30 = .ok (.iload_n 3, 1) := by decide +kernel
theorem dX5_isSumKept_31 : decode cX5_isSumKept 31 = .ok (.invokevirtual 185, 3) := by decide +kernel
theorem dX5_isSumKept_34 : decode cX5_isSumKept 34 = .ok (.invokestatic 301, 3) := by decide +kernel
theorem dX5_isSumKept_37 : decode cX5_isSumKept 37 = .ok (.iload_n 2, 1) := by decide +kernel
theorem dX5_isSumKept_38 : decode cX5_isSumKept 38 = .ok (.if_icmp .eq 5, 3) := by decide +kernel
theorem dX5_isSumKept_41 : decode cX5_isSumKept 41 = .ok (.iconst 0, 1) := by decide +kernel
theorem dX5_isSumKept_42 : decode cX5_isSumKept 42 = .ok (.ireturn, 1) := by decide +kernel
theorem dX5_isSumKept_43 : decode cX5_isSumKept 43 = .ok (.iinc 3 1, 3) := by decide +kernel
theorem dX5_isSumKept_46 : decode cX5_isSumKept 46 = .ok (.goto (-32), 3) := by decide +kernel
theorem dX5_isSumKept_49 : decode cX5_isSumKept 49 = .ok (.iconst 0, 1) := by decide +kernel
theorem dX5_isSumKept_50 : decode cX5_isSumKept 50 = .ok (.istore_n 3, 1) := by decide +kernel
theorem dX5_isSumKept_51 : decode cX5_isSumKept 51 = .ok (.iload_n 3, 1) := by decide +kernel
theorem dX5_isSumKept_52 : decode cX5_isSumKept 52 = .ok (.aload_n 0, 1) := by decide +kernel
theorem dX5_isSumKept_53 : decode cX5_isSumKept 53 = .ok (.getfield 51, 3) := by decide +kernel
theorem dX5_isSumKept_56 : decode cX5_isSumKept 56 = .ok (.getfield 275, 3) := by decide +kernel
theorem dX5_isSumKept_59 : decode cX5_isSumKept 59 = .ok (.invokevirtual 109, 3) := by decide +kernel
theorem dX5_isSumKept_62 : decode cX5_isSumKept 62 = .ok (.if_icmp .ge 43, 3) := by decide +kernel
theorem dX5_isSumKept_65 : decode cX5_isSumKept 65 = .ok (.aload_n 0, 1) := by decide +kernel
theorem dX5_isSumKept_66 : decode cX5_isSumKept 66 = .ok (.getfield 51, 3) := by decide +kernel
theorem dX5_isSumKept_69 : decode cX5_isSumKept 69 = .ok (.getfield 275, 3) := by decide +kernel
theorem dX5_isSumKept_72 : decode cX5_isSumKept 72 = .ok (.iload_n 3, 1) := by decide +kernel
theorem dX5_isSumKept_73 : decode cX5_isSumKept 73 = .ok (.invokevirtual 185, 3) := by decide +kernel
theorem dX5_isSumKept_76 : decode cX5_isSumKept 76 = .ok (.istore 4, 2) := by decide +kernel
theorem dX5_isSumKept_78 : decode cX5_isSumKept 78 = .ok (.iload_n 1, 1) := by decide +kernel
theorem dX5_isSumKept_79 : decode cX5_isSumKept 79 = .ok (.iload 4, 2) := by decide +kernel
theorem dX5_isSumKept_81 : decode cX5_isSumKept 81 = .ok (.invokestatic 301, 3) := by decide +kernel
theorem dX5_isSumKept_84 : decode cX5_isSumKept 84 = .ok (.iload_n 2, 1) := by decide +kernel
theorem dX5_isSumKept_85 : decode cX5_isSumKept 85 = .ok (.if_icmp .eq 14, 3) := by decide +kernel
theorem dX5_isSumKept_88 : decode cX5_isSumKept 88 = .ok (.aload_n 0, 1) := by decide +kernel
theorem dX5_isSumKept_89 : decode cX5_isSumKept 89 = .ok (.getfield 65, 3) := by decide +kernel
theorem dX5_isSumKept_92 : decode cX5_isSumKept 92 = .ok (.iload 4, 2) := by decide +kernel
theorem dX5_isSumKept_94 : decode cX5_isSumKept 94 = .ok (.invokevirtual 113, 3) := by decide +kernel
theorem dX5_isSumKept_97 : decode cX5_isSumKept 97 = .ok (.iconst 0, 1) := by decide +kernel
theorem dX5_isSumKept_98 : decode cX5_isSumKept 98 = .ok (.ireturn, 1) := by decide +kernel
theorem dX5_isSumKept_99 : decode cX5_isSumKept 99 = .ok (.iinc 3 1, 3) := by decide +kernel
theorem dX5_isSumKept_102 : decode cX5_isSumKept 102 = .ok (.goto (-51), 3) := by decide +kernel
theorem dX5_isSumKept_105 : decode cX5_isSumKept 105 = .ok (.iconst 1, 1) := by decide +kernel
theorem dX5_isSumKept_106 : decode cX5_isSumKept 106 = .ok (.ireturn, 1) := by decide +kernel
theorem dX5_sumOf_0 : decode cX5_sumOf 0 = .ok (.iconst 0, 1) := by decide +kernel
theorem dX5_sumOf_1 : decode cX5_sumOf 1 = .ok (.istore_n 2, 1) := by decide +kernel
theorem dX5_sumOf_2 : decode cX5_sumOf 2 = .ok (.iload_n 0, 1) := by decide +kernel
theorem dX5_sumOf_3 : decode cX5_sumOf 3 = .ok (.istore_n 3, 1) := by decide +kernel
theorem dX5_sumOf_4 : decode cX5_sumOf 4 = .ok (.iload_n 1, 1) := by decide +kernel
theorem dX5_sumOf_5 : decode cX5_sumOf 5 = .ok (.istore 4, 2) := by decide +kernel
theorem dX5_sumOf_7 : decode cX5_sumOf 7 = .ok (.iconst 0, 1) := by decide +kernel
theorem dX5_sumOf_8 : decode cX5_sumOf 8 = .ok (.istore 5, 2) := by decide +kernel
theorem dX5_sumOf_10 : decode cX5_sumOf 10 = .ok (.iload 5, 2) := by decide +kernel
theorem dX5_sumOf_12 : decode cX5_sumOf 12 = .ok (.bipush 7, 2) := by decide +kernel
theorem dX5_sumOf_14 : decode cX5_sumOf 14 = .ok (.if_icmp .ge 30, 3) := by decide +kernel
theorem dX5_sumOf_17 : decode cX5_sumOf 17 = .ok (.iload_n 2, 1) := by decide +kernel
theorem dX5_sumOf_18 : decode cX5_sumOf 18 = .ok (.iload_n 3, 1) := by decide +kernel
theorem dX5_sumOf_19 : decode cX5_sumOf 19 = .ok (.iconst 3, 1) := by decide +kernel
theorem dX5_sumOf_20 : decode cX5_sumOf 20 = .ok (.irem, 1) := by decide +kernel
theorem dX5_sumOf_21 : decode cX5_sumOf 21 = .ok (.iload 4, 2) := by decide +kernel
theorem dX5_sumOf_23 : decode cX5_sumOf 23 = .ok (.iconst 3, 1) := by decide +kernel
theorem dX5_sumOf_24 : decode cX5_sumOf 24 = .ok (.irem, 1) := by decide +kernel
theorem dX5_sumOf_25 : decode cX5_sumOf 25 = .ok (.imul, 1) := by decide +kernel
theorem dX5_sumOf_26 : decode cX5_sumOf 26 = .ok (.iadd, 1) := by decide +kernel
theorem dX5_sumOf_27 : decode cX5_sumOf 27 = .ok (.istore_n 2, 1) := by decide +kernel
theorem dX5_sumOf_28 : decode cX5_sumOf 28 = .ok (.iload_n 3, 1) := by decide +kernel
theorem dX5_sumOf_29 : decode cX5_sumOf 29 = .ok (.iconst 3, 1) := by decide +kernel
theorem dX5_sumOf_30 : decode cX5_sumOf 30 = .ok (.idiv, 1) := by decide +kernel
theorem dX5_sumOf_31 : decode cX5_sumOf 31 = .ok (.istore_n 3, 1) := by decide +kernel
theorem dX5_sumOf_32 : decode cX5_sumOf 32 = .ok (.iload 4, 2) := by decide +kernel
theorem dX5_sumOf_34 : decode cX5_sumOf 34 = .ok (.iconst 3, 1) := by decide +kernel
theorem dX5_sumOf_35 : decode cX5_sumOf 35 = .ok (.idiv, 1) := by decide +kernel
theorem dX5_sumOf_36 : decode cX5_sumOf 36 = .ok (.istore 4, 2) := by decide +kernel
theorem dX5_sumOf_38 : decode cX5_sumOf 38 = .ok (.iinc 5 1, 3) := by decide +kernel
theorem dX5_sumOf_41 : decode cX5_sumOf 41 = .ok (.goto (-31), 3) := by decide +kernel
theorem dX5_sumOf_44 : decode cX5_sumOf 44 = .ok (.iload_n 2, 1) := by decide +kernel
theorem dX5_sumOf_45 : decode cX5_sumOf 45 = .ok (.iconst 3, 1) := by decide +kernel
theorem dX5_sumOf_46 : decode cX5_sumOf 46 = .ok (.irem, 1) := by decide +kernel
theorem dX5_sumOf_47 : decode cX5_sumOf 47 = .ok (.ireturn, 1) := by decide +kernel
theorem dX5_power_0 : decode cX5_power 0 = .ok (.iconst 1, 1) := by decide +kernel
theorem dX5_power_1 : decode cX5_power 1 = .ok (.istore_n 1, 1) := by decide +kernel
theorem dX5_power_2 : decode cX5_power 2 = .ok (.iconst 0, 1) := by decide +kernel
theorem dX5_power_3 : decode cX5_power 3 = .ok (.istore_n 2, 1) := by decide +kernel
theorem dX5_power_4 : decode cX5_power 4 = .ok (.iload_n 2, 1) := by decide +kernel
theorem dX5_power_5 : decode cX5_power 5 = .ok (.iload_n 0, 1) := by decide +kernel
theorem dX5_power_6 : decode cX5_power 6 = .ok (.if_icmp .ge 19, 3) := by decide +kernel
theorem dX5_power_9 : decode cX5_power 9 = .ok (.iload_n 2, 1) := by decide +kernel
theorem dX5_power_10 : decode cX5_power 10 = .ok (.bipush 7, 2) := by decide +kernel
theorem dX5_power_12 : decode cX5_power 12 = .ok (.if_icmp .ge 13, 3) := by decide +kernel
theorem dX5_power_15 : decode cX5_power 15 = .ok (.iload_n 1, 1) := by decide +kernel
theorem dX5_power_16 : decode cX5_power 16 = .ok (.iconst 3, 1) := by decide +kernel
theorem dX5_power_17 : decode cX5_power 17 = .ok (.imul, 1) := by decide +kernel
theorem dX5_power_18 : decode cX5_power 18 = .ok (.istore_n 1, 1) := by decide +kernel
theorem dX5_power_19 : decode cX5_power 19 = .ok (.iinc 2 1, 3) := by decide +kernel
theorem dX5_power_22 : decode cX5_power 22 = .ok (.goto (-18), 3) := by decide +kernel
theorem dX5_power_25 : decode cX5_power 25 = .ok (.iload_n 1, 1) := by decide +kernel
theorem dX5_power_26 : decode cX5_power 26 = .ok (.ireturn, 1) := by decide +kernel
theorem dX5_outIn_0 : decode cX5_outIn 0 = .ok (.iload_n 0, 1) := by decide +kernel
theorem dX5_outIn_1 : decode cX5_outIn 1 = .ok (.istore_n 2, 1) := by decide +kernel
theorem dX5_outIn_2 : decode cX5_outIn 2 = .ok (.iconst 0, 1) := by decide +kernel
theorem dX5_outIn_3 : decode cX5_outIn 3 = .ok (.istore_n 3, 1) := by decide +kernel
theorem dX5_outIn_4 : decode cX5_outIn 4 = .ok (.iload_n 3, 1) := by decide +kernel
theorem dX5_outIn_5 : decode cX5_outIn 5 = .ok (.iload_n 1, 1) := by decide +kernel
theorem dX5_outIn_6 : decode cX5_outIn 6 = .ok (.if_icmp .ge 19, 3) := by decide +kernel
theorem dX5_outIn_9 : decode cX5_outIn 9 = .ok (.iload_n 3, 1) := by decide +kernel
theorem dX5_outIn_10 : decode cX5_outIn 10 = .ok (.bipush 7, 2) := by decide +kernel
theorem dX5_outIn_12 : decode cX5_outIn 12 = .ok (.if_icmp .ge 13, 3) := by decide +kernel
theorem dX5_outIn_15 : decode cX5_outIn 15 = .ok (.iload_n 2, 1) := by decide +kernel
theorem dX5_outIn_16 : decode cX5_outIn 16 = .ok (.iconst 3, 1) := by decide +kernel
theorem dX5_outIn_17 : decode cX5_outIn 17 = .ok (.idiv, 1) := by decide +kernel
theorem dX5_outIn_18 : decode cX5_outIn 18 = .ok (.istore_n 2, 1) := by decide +kernel
theorem dX5_outIn_19 : decode cX5_outIn 19 = .ok (.iinc 3 1, 3) := by decide +kernel
theorem dX5_outIn_22 : decode cX5_outIn 22 = .ok (.goto (-18), 3) := by decide +kernel
theorem dX5_outIn_25 : decode cX5_outIn 25 = .ok (.iload_n 2, 1) := by decide +kernel
theorem dX5_outIn_26 : decode cX5_outIn 26 = .ok (.iconst 3, 1) := by decide +kernel
theorem dX5_outIn_27 : decode cX5_outIn 27 = .ok (.irem, 1) := by decide +kernel
theorem dX5_outIn_28 : decode cX5_outIn 28 = .ok (.ireturn, 1) := by decide +kernel
theorem dX5_moved_0 : decode cX5_moved 0 = .ok (.iload_n 0, 1) := by decide +kernel
theorem dX5_moved_1 : decode cX5_moved 1 = .ok (.iload_n 1, 1) := by decide +kernel
theorem dX5_moved_2 : decode cX5_moved 2 = .ok (.invokestatic 157, 3) := by decide +kernel
theorem dX5_moved_5 : decode cX5_moved 5 = .ok (.istore_n 3, 1) := by decide +kernel
theorem dX5_moved_6 : decode cX5_moved 6 = .ok (.iconst 0, 1) := by decide +kernel
theorem dX5_moved_7 : decode cX5_moved 7 = .ok (.iconst 2, 1) := by decide +kernel
theorem dX5_moved_8 : decode cX5_moved 8 = .ok (.iload_n 3, 1) := by decide +kernel
theorem dX5_moved_9 : decode cX5_moved 9 = .ok (.iload_n 2, 1) := by decide +kernel
theorem dX5_moved_10 : decode cX5_moved 10 = .ok (.iadd, 1) := by decide +kernel
theorem dX5_moved_11 : decode cX5_moved 11 = .ok (.invokestatic 304, 3) := by decide +kernel
theorem dX5_moved_14 : decode cX5_moved 14 = .ok (.invokestatic 202, 3) := by decide +kernel
theorem dX5_moved_17 : decode cX5_moved 17 = .ok (.istore 4, 2) := by decide +kernel
theorem dX5_moved_19 : decode cX5_moved 19 = .ok (.iload_n 0, 1) := by decide +kernel
theorem dX5_moved_20 : decode cX5_moved 20 = .ok (.iload 4, 2) := by decide +kernel
theorem dX5_moved_22 : decode cX5_moved 22 = .ok (.iload_n 3, 1) := by decide +kernel
theorem dX5_moved_23 : decode cX5_moved 23 = .ok (.isub, 1) := by decide +kernel
theorem dX5_moved_24 : decode cX5_moved 24 = .ok (.iload_n 1, 1) := by decide +kernel
theorem dX5_moved_25 : decode cX5_moved 25 = .ok (.invokestatic 307, 3) := by decide +kernel
theorem dX5_moved_28 : decode cX5_moved 28 = .ok (.imul, 1) := by decide +kernel
theorem dX5_moved_29 : decode cX5_moved 29 = .ok (.iadd, 1) := by decide +kernel
theorem dX5_moved_30 : decode cX5_moved 30 = .ok (.ireturn, 1) := by decide +kernel
theorem dX5_drawersOutBy_0 : decode cX5_drawersOutBy 0 = .ok (.iconst 0, 1) := by decide +kernel
theorem dX5_drawersOutBy_1 : decode cX5_drawersOutBy 1 = .ok (.istore_n 2, 1) := by decide +kernel
theorem dX5_drawersOutBy_2 : decode cX5_drawersOutBy 2 = .ok (.iload_n 0, 1) := by decide +kernel
theorem dX5_drawersOutBy_3 : decode cX5_drawersOutBy 3 = .ok (.istore_n 3, 1) := by decide +kernel
theorem dX5_drawersOutBy_4 : decode cX5_drawersOutBy 4 = .ok (.iconst 0, 1) := by decide +kernel
theorem dX5_drawersOutBy_5 : decode cX5_drawersOutBy 5 = .ok (.istore 4, 2) := by decide +kernel
theorem dX5_drawersOutBy_7 : decode cX5_drawersOutBy 7 = .ok (.iload 4, 2) := by decide +kernel
theorem dX5_drawersOutBy_9 : decode cX5_drawersOutBy 9 = .ok (.bipush 7, 2) := by decide +kernel
theorem dX5_drawersOutBy_11 : decode cX5_drawersOutBy 11 = .ok (.if_icmp .ge 27, 3) := by decide +kernel
theorem dX5_drawersOutBy_14 : decode cX5_drawersOutBy 14 = .ok (.iload_n 3, 1) := by decide +kernel
theorem dX5_drawersOutBy_15 : decode cX5_drawersOutBy 15 = .ok (.iconst 3, 1) := by decide +kernel
theorem dX5_drawersOutBy_16 : decode cX5_drawersOutBy 16 = .ok (.irem, 1) := by decide +kernel
theorem dX5_drawersOutBy_17 : decode cX5_drawersOutBy 17 = .ok (.iload_n 1, 1) := by decide +kernel
theorem dX5_drawersOutBy_18 : decode cX5_drawersOutBy 18 = .ok (.if_icmp .ne 10, 3) := by decide +kernel
theorem dX5_drawersOutBy_21 : decode cX5_drawersOutBy 21 = .ok (.iload_n 2, 1) := by decide +kernel
theorem dX5_drawersOutBy_22 : decode cX5_drawersOutBy 22 = .ok (.iconst 1, 1) := by decide +kernel
theorem dX5_drawersOutBy_23 : decode cX5_drawersOutBy 23 = .ok (.iload 4, 2) := by decide +kernel
theorem dX5_drawersOutBy_25 : decode cX5_drawersOutBy 25 = .ok (.ishl, 1) := by decide +kernel
theorem dX5_drawersOutBy_26 : decode cX5_drawersOutBy 26 = .ok (.ior, 1) := by decide +kernel
theorem dX5_drawersOutBy_27 : decode cX5_drawersOutBy 27 = .ok (.istore_n 2, 1) := by decide +kernel
theorem dX5_drawersOutBy_28 : decode cX5_drawersOutBy 28 = .ok (.iload_n 3, 1) := by decide +kernel
theorem dX5_drawersOutBy_29 : decode cX5_drawersOutBy 29 = .ok (.iconst 3, 1) := by decide +kernel
theorem dX5_drawersOutBy_30 : decode cX5_drawersOutBy 30 = .ok (.idiv, 1) := by decide +kernel
theorem dX5_drawersOutBy_31 : decode cX5_drawersOutBy 31 = .ok (.istore_n 3, 1) := by decide +kernel
theorem dX5_drawersOutBy_32 : decode cX5_drawersOutBy 32 = .ok (.iinc 4 1, 3) := by decide +kernel
theorem dX5_drawersOutBy_35 : decode cX5_drawersOutBy 35 = .ok (.goto (-28), 3) := by decide +kernel
theorem dX5_drawersOutBy_38 : decode cX5_drawersOutBy 38 = .ok (.iload_n 2, 1) := by decide +kernel
theorem dX5_drawersOutBy_39 : decode cX5_drawersOutBy 39 = .ok (.ireturn, 1) := by decide +kernel
theorem dX5_drawersBeside_0 : decode cX5_drawersBeside 0 = .ok (.iload_n 0, 1) := by decide +kernel
theorem dX5_drawersBeside_1 : decode cX5_drawersBeside 1 = .ok (.iconst 1, 1) := by decide +kernel
theorem dX5_drawersBeside_2 : decode cX5_drawersBeside 2 = .ok (.ishl, 1) := by decide +kernel
theorem dX5_drawersBeside_3 : decode cX5_drawersBeside 3 = .ok (.iload_n 0, 1) := by decide +kernel
theorem dX5_drawersBeside_4 : decode cX5_drawersBeside 4 = .ok (.iconst 1, 1) := by decide +kernel
theorem dX5_drawersBeside_5 : decode cX5_drawersBeside 5 = .ok (.ishr, 1) := by decide +kernel
theorem dX5_drawersBeside_6 : decode cX5_drawersBeside 6 = .ok (.ior, 1) := by decide +kernel
theorem dX5_drawersBeside_7 : decode cX5_drawersBeside 7 = .ok (.ireturn, 1) := by decide +kernel
theorem dX5_isOpenBeside_0 : decode cX5_isOpenBeside 0 = .ok (.iconst 1, 1) := by decide +kernel
theorem dX5_isOpenBeside_1 : decode cX5_isOpenBeside 1 = .ok (.iload_n 1, 1) := by decide +kernel
theorem dX5_isOpenBeside_2 : decode cX5_isOpenBeside 2 = .ok (.ishl, 1) := by decide +kernel
theorem dX5_isOpenBeside_3 : decode cX5_isOpenBeside 3 = .ok (.invokestatic 310, 3) := by decide +kernel
theorem dX5_isOpenBeside_6 : decode cX5_isOpenBeside 6 = .ok (.iload_n 0, 1) := by decide +kernel
theorem dX5_isOpenBeside_7 : decode cX5_isOpenBeside 7 = .ok (.iconst 2, 1) := by decide +kernel
theorem dX5_isOpenBeside_8 : decode cX5_isOpenBeside 8 = .ok (.invokestatic 313, 3) := by decide +kernel
theorem dX5_isOpenBeside_11 : decode cX5_isOpenBeside 11 = .ok (.iand, 1) := by decide +kernel
theorem dX5_isOpenBeside_12 : decode cX5_isOpenBeside 12 = .ok (.ifCond .eq 7, 3) := by decide +kernel
theorem dX5_isOpenBeside_15 : decode cX5_isOpenBeside 15 = .ok (.iconst 1, 1) := by decide +kernel
theorem dX5_isOpenBeside_16 : decode cX5_isOpenBeside 16 = .ok (.goto 4, 3) := by decide +kernel
theorem dX5_isOpenBeside_19 : decode cX5_isOpenBeside 19 = .ok (.iconst 0, 1) := by decide +kernel
theorem dX5_isOpenBeside_20 : decode cX5_isOpenBeside 20 = .ok (.ireturn, 1) := by decide +kernel
