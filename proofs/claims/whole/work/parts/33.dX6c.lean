theorem dX6_week_239 : decode cX6_week 239 = .ok (.goto 7, 3) := by decide +kernel
theorem dX6_week_242 : decode cX6_week 242 = .ok (.aload_n 0, 1) := by decide +kernel
theorem dX6_week_243 : decode cX6_week 243 = .ok (.getfield 340, 3) := by decide +kernel
theorem dX6_week_246 : decode cX6_week 246 = .ok (.ireturn, 1) := by decide +kernel
theorem dX6_order_0 : decode cX6_order 0 = .ok (.aload_n 0, 1) := by decide +kernel
theorem dX6_order_1 : decode cX6_order 1 = .ok (.iconst 0, 1) := by decide +kernel
theorem dX6_order_2 : decode cX6_order 2 = .ok (.putfield 128, 3) := by decide +kernel
theorem dX6_order_5 : decode cX6_order 5 = .ok (.iload_n 1, 1) := by decide +kernel
theorem dX6_order_6 : decode cX6_order 6 = .ok (.iconst 0, 1) := by decide +kernel
theorem dX6_order_7 : decode cX6_order 7 = .ok (.aload_n 0, 1) := by decide +kernel
theorem dX6_order_8 : decode cX6_order 8 = .ok (.getfield 85, 3) := by decide +kernel
theorem dX6_order_11 : decode cX6_order 11 = .ok (.iconst 1, 1) := by decide +kernel
theorem dX6_order_12 : decode cX6_order 12 = .ok (.isub, 1) := by decide +kernel
theorem dX6_order_13 : decode cX6_order 13 = .ok (.invokestatic 131, 3) := by decide +kernel
theorem dX6_order_16 : decode cX6_order 16 = .ok (.ifCond .eq 12, 3) := by decide +kernel
theorem dX6_order_19 : decode cX6_order 19 = .ok (.aload_n 0, 1) := by decide +kernel
theorem dX6_order_20 : decode cX6_order 20 = .ok (.getfield 82, 3) := by decide +kernel
theorem dX6_order_23 : decode cX6_order 23 = .ok (.iload_n 1, 1) := by decide +kernel
theorem dX6_order_24 : decode cX6_order 24 = .ok (.iaload, 1) := by decide +kernel
theorem dX6_order_25 : decode cX6_order 25 = .ok (.goto 8, 3) := by decide +kernel
theorem dX6_order_28 : decode cX6_order 28 = .ok (.aload_n 0, 1) := by decide +kernel
theorem dX6_order_29 : decode cX6_order 29 = .ok (.iconst 1, 1) := by decide +kernel
theorem dX6_order_30 : decode cX6_order 30 = .ok (.invokevirtual 243, 3) := by decide +kernel
theorem dX6_order_33 : decode cX6_order 33 = .ok (.ireturn, 1) := by decide +kernel
theorem dX6_foldOf_0 : decode cX6_foldOf 0 = .ok (.iconst 0, 1) := by decide +kernel
theorem dX6_foldOf_1 : decode cX6_foldOf 1 = .ok (.istore_n 1, 1) := by decide +kernel
theorem dX6_foldOf_2 : decode cX6_foldOf 2 = .ok (.iconst 0, 1) := by decide +kernel
theorem dX6_foldOf_3 : decode cX6_foldOf 3 = .ok (.istore_n 2, 1) := by decide +kernel
theorem dX6_foldOf_4 : decode cX6_foldOf 4 = .ok (.iload_n 2, 1) := by decide +kernel
theorem dX6_foldOf_5 : decode cX6_foldOf 5 = .ok (.bipush 30, 2) := by decide +kernel
theorem dX6_foldOf_7 : decode cX6_foldOf 7 = .ok (.if_icmp .ge 18, 3) := by decide +kernel
theorem dX6_foldOf_10 : decode cX6_foldOf 10 = .ok (.bipush 31, 2) := by decide +kernel
theorem dX6_foldOf_12 : decode cX6_foldOf 12 = .ok (.iload_n 1, 1) := by decide +kernel
theorem dX6_foldOf_13 : decode cX6_foldOf 13 = .ok (.imul, 1) := by decide +kernel
theorem dX6_foldOf_14 : decode cX6_foldOf 14 = .ok (.aload_n 0, 1) := by decide +kernel
theorem dX6_foldOf_15 : decode cX6_foldOf 15 = .ok (.iload_n 2, 1) := by decide +kernel
theorem dX6_foldOf_16 : decode cX6_foldOf 16 = .ok (.iaload, 1) := by decide +kernel
theorem dX6_foldOf_17 : decode cX6_foldOf 17 = .ok (.iadd, 1) := by decide +kernel
theorem dX6_foldOf_18 : decode cX6_foldOf 18 = .ok (.istore_n 1, 1) := by decide +kernel
theorem dX6_foldOf_19 : decode cX6_foldOf 19 = .ok (.iinc 2 1, 3) := by decide +kernel
theorem dX6_foldOf_22 : decode cX6_foldOf 22 = .ok (.goto (-18), 3) := by decide +kernel
theorem dX6_foldOf_25 : decode cX6_foldOf 25 = .ok (.iload_n 1, 1) := by decide +kernel
theorem dX6_foldOf_26 : decode cX6_foldOf 26 = .ok (.sipush 4095, 3) := by decide +kernel
theorem dX6_foldOf_29 : decode cX6_foldOf 29 = .ok (.iand, 1) := by decide +kernel
theorem dX6_foldOf_30 : decode cX6_foldOf 30 = .ok (.ireturn, 1) := by decide +kernel
theorem dX6_isState_0 : decode cX6_isState 0 = .ok (.iconst 0, 1) := by decide +kernel
theorem dX6_isState_1 : decode cX6_isState 1 = .ok (.istore_n 3, 1) := by decide +kernel
theorem dX6_isState_2 : decode cX6_isState 2 = .ok (.iload_n 3, 1) := by decide +kernel
theorem dX6_isState_3 : decode cX6_isState 3 = .ok (.bipush 30, 2) := by decide +kernel
theorem dX6_isState_5 : decode cX6_isState 5 = .ok (.if_icmp .ge 28, 3) := by decide +kernel
theorem dX6_isState_8 : decode cX6_isState 8 = .ok (.aload_n 0, 1) := by decide +kernel
theorem dX6_isState_9 : decode cX6_isState 9 = .ok (.getfield 88, 3) := by decide +kernel
theorem dX6_isState_12 : decode cX6_isState 12 = .ok (.bipush 30, 2) := by decide +kernel
theorem dX6_isState_14 : decode cX6_isState 14 = .ok (.iload_n 1, 1) := by decide +kernel
theorem dX6_isState_15 : decode cX6_isState 15 = .ok (.imul, 1) := by decide +kernel
theorem dX6_isState_16 : decode cX6_isState 16 = .ok (.iload_n 3, 1) := by decide +kernel
theorem dX6_isState_17 : decode cX6_isState 17 = .ok (.iadd, 1) := by decide +kernel
theorem dX6_isState_18 : decode cX6_isState 18 = .ok (.iaload, 1) := by decide +kernel
theorem dX6_isState_19 : decode cX6_isState 19 = .ok (.aload_n 2, 1) := by decide +kernel
theorem dX6_isState_20 : decode cX6_isState 20 = .ok (.iload_n 3, 1) := by decide +kernel
theorem dX6_isState_21 : decode cX6_isState 21 = .ok (.iaload, 1) := by decide +kernel
theorem dX6_isState_22 : decode cX6_isState 22 = .ok (.if_icmp .eq 5, 3) := by decide +kernel
theorem dX6_isState_25 : decode cX6_isState 25 = .ok (.iconst 0, 1) := by decide +kernel
theorem dX6_isState_26 : decode cX6_isState 26 = .ok (.ireturn, 1) := by decide +kernel
theorem dX6_isState_27 : decode cX6_isState 27 = .ok (.iinc 3 1, 3) := by decide +kernel
theorem dX6_isState_30 : decode cX6_isState 30 = .ok (.goto (-28), 3) := by decide +kernel
theorem dX6_isState_33 : decode cX6_isState 33 = .ok (.iconst 1, 1) := by decide +kernel
theorem dX6_isState_34 : decode cX6_isState 34 = .ok (.ireturn, 1) := by decide +kernel
theorem dX6_come_0 : decode cX6_come 0 = .ok (.aload_n 1, 1) := by decide +kernel
theorem dX6_come_1 : decode cX6_come 1 = .ok (.invokestatic 347, 3) := by decide +kernel
theorem dX6_come_4 : decode cX6_come 4 = .ok (.istore_n 3, 1) := by decide +kernel
theorem dX6_come_5 : decode cX6_come 5 = .ok (.aload_n 0, 1) := by decide +kernel
theorem dX6_come_6 : decode cX6_come 6 = .ok (.getfield 97, 3) := by decide +kernel
theorem dX6_come_9 : decode cX6_come 9 = .ok (.iload_n 3, 1) := by decide +kernel
theorem dX6_come_10 : decode cX6_come 10 = .ok (.iaload, 1) := by decide +kernel
theorem dX6_come_11 : decode cX6_come 11 = .ok (.istore 4, 2) := by decide +kernel
theorem dX6_come_13 : decode cX6_come 13 = .ok (.iload 4, 2) := by decide +kernel
theorem dX6_come_15 : decode cX6_come 15 = .ok (.iconst (-1), 1) := by decide +kernel
theorem dX6_come_16 : decode cX6_come 16 = .ok (.if_icmp .eq 26, 3) := by decide +kernel
theorem dX6_come_19 : decode cX6_come 19 = .ok (.aload_n 0, 1) := by decide +kernel
theorem dX6_come_20 : decode cX6_come 20 = .ok (.iload 4, 2) := by decide +kernel
theorem dX6_come_22 : decode cX6_come 22 = .ok (.aload_n 1, 1) := by decide +kernel
theorem dX6_come_23 : decode cX6_come 23 = .ok (.invokevirtual 351, 3) := by decide +kernel
theorem dX6_come_26 : decode cX6_come 26 = .ok (.ifCond .eq 4, 3) := by decide +kernel
theorem dX6_come_29 : decode cX6_come 29 = .ok (.return_, 1) := by decide +kernel
theorem dX6_come_30 : decode cX6_come 30 = .ok (.aload_n 0, 1) := by decide +kernel
theorem dX6_come_31 : decode cX6_come 31 = .ok (.getfield 94, 3) := by decide +kernel
theorem dX6_come_34 : decode cX6_come 34 = .ok (.iload 4, 2) := by decide +kernel
theorem dX6_come_36 : decode cX6_come 36 = .ok (.iaload, 1) := by decide +kernel
theorem dX6_come_37 : decode cX6_come 37 = .ok (.istore 4, 2) := by decide +kernel
theorem dX6_come_39 : decode cX6_come 39 = .ok (.goto (-26), 3) := by decide +kernel
theorem dX6_come_42 : decode cX6_come 42 = .ok (.aload_n 0, 1) := by decide +kernel
theorem dX6_come_43 : decode cX6_come 43 = .ok (.getfield 355, 3) := by decide +kernel
theorem dX6_come_46 : decode cX6_come 46 = .ok (.sipush 1000, 3) := by decide +kernel
theorem dX6_come_49 : decode cX6_come 49 = .ok (.if_icmp .ne 9, 3) := by decide +kernel
theorem dX6_come_52 : decode cX6_come 52 = .ok (.aload_n 0, 1) := by decide +kernel
theorem dX6_come_53 : decode cX6_come 53 = .ok (.iconst 1, 1) := by decide +kernel
theorem dX6_come_54 : decode cX6_come 54 = .ok (.putfield 358, 3) := by decide +kernel
theorem dX6_come_57 : decode cX6_come 57 = .ok (.return_, 1) := by decide +kernel
theorem dX6_come_58 : decode cX6_come 58 = .ok (.iconst 0, 1) := by decide +kernel
theorem dX6_come_59 : decode cX6_come 59 = .ok (.istore 4, 2) := by decide +kernel
theorem dX6_come_61 : decode cX6_come 61 = .ok (.iload 4, 2) := by decide +kernel
theorem dX6_come_63 : decode cX6_come 63 = .ok (.bipush 30, 2) := by decide +kernel
theorem dX6_come_65 : decode cX6_come 65 = .ok (.if_icmp .ge 28, 3) := by decide +kernel
theorem dX6_come_68 : decode cX6_come 68 = .ok (.aload_n 0, 1) := by decide +kernel
theorem dX6_come_69 : decode cX6_come 69 = .ok (.getfield 88, 3) := by decide +kernel
theorem dX6_come_72 : decode cX6_come 72 = .ok (.bipush 30, 2) := by decide +kernel
theorem dX6_come_74 : decode cX6_come 74 = .ok (.aload_n 0, 1) := by decide +kernel
theorem dX6_come_75 : decode cX6_come 75 = .ok (.getfield 355, 3) := by decide +kernel
theorem dX6_come_78 : decode cX6_come 78 = .ok (.imul, 1) := by decide +kernel
theorem dX6_come_79 : decode cX6_come 79 = .ok (.iload 4, 2) := by decide +kernel
theorem dX6_come_81 : decode cX6_come 81 = .ok (.iadd, 1) := by decide +kernel
theorem dX6_come_82 : decode cX6_come 82 = .ok (.aload_n 1, 1) := by decide +kernel
theorem dX6_come_83 : decode cX6_come 83 = .ok (.iload 4, 2) := by decide +kernel
theorem dX6_come_85 : decode cX6_come 85 = .ok (.iaload, 1) := by decide +kernel
theorem dX6_come_86 : decode cX6_come 86 = .ok (.iastore, 1) := by decide +kernel
theorem dX6_come_87 : decode cX6_come 87 = .ok (.iinc 4 1, 3) := by decide +kernel
theorem dX6_come_90 : decode cX6_come 90 = .ok (.goto (-29), 3) := by decide +kernel
theorem dX6_come_93 : decode cX6_come 93 = .ok (.aload_n 0, 1) := by decide +kernel
theorem dX6_come_94 : decode cX6_come 94 = .ok (.getfield 91, 3) := by decide +kernel
theorem dX6_come_97 : decode cX6_come 97 = .ok (.aload_n 0, 1) := by decide +kernel
theorem dX6_come_98 : decode cX6_come 98 = .ok (.getfield 355, 3) := by decide +kernel
theorem dX6_come_101 : decode cX6_come 101 = .ok (.iload_n 2, 1) := by decide +kernel
theorem dX6_come_102 : decode cX6_come 102 = .ok (.iastore, 1) := by decide +kernel
theorem dX6_come_103 : decode cX6_come 103 = .ok (.aload_n 0, 1) := by decide +kernel
theorem dX6_come_104 : decode cX6_come 104 = .ok (.getfield 94, 3) := by decide +kernel
theorem dX6_come_107 : decode cX6_come 107 = .ok (.aload_n 0, 1) := by decide +kernel
theorem dX6_come_108 : decode cX6_come 108 = .ok (.getfield 355, 3) := by decide +kernel
theorem dX6_come_111 : decode cX6_come 111 = .ok (.aload_n 0, 1) := by decide +kernel
theorem dX6_come_112 : decode cX6_come 112 = .ok (.getfield 97, 3) := by decide +kernel
theorem dX6_come_115 : decode cX6_come 115 = .ok (.iload_n 3, 1) := by decide +kernel
theorem dX6_come_116 : decode cX6_come 116 = .ok (.iaload, 1) := by decide +kernel
theorem dX6_come_117 : decode cX6_come 117 = .ok (.iastore, 1) := by decide +kernel
theorem dX6_come_118 : decode cX6_come 118 = .ok (.aload_n 0, 1) := by decide +kernel
theorem dX6_come_119 : decode cX6_come 119 = .ok (.getfield 97, 3) := by decide +kernel
theorem dX6_come_122 : decode cX6_come 122 = .ok (.iload_n 3, 1) := by decide +kernel
theorem dX6_come_123 : decode cX6_come 123 = .ok (.aload_n 0, 1) := by decide +kernel
theorem dX6_come_124 : decode cX6_come 124 = .ok (.getfield 355, 3) := by decide +kernel
theorem dX6_come_127 : decode cX6_come 127 = .ok (.iastore, 1) := by decide +kernel
theorem dX6_come_128 : decode cX6_come 128 = .ok (.aload_n 0, 1) := by decide +kernel
theorem dX6_come_129 : decode cX6_come 129 = .ok (.dup, 1) := by decide +kernel
theorem dX6_come_130 : decode cX6_come 130 = .ok (.getfield 355, 3) := by decide +kernel
theorem dX6_come_133 : decode cX6_come 133 = .ok (.iconst 1, 1) := by decide +kernel
theorem dX6_come_134 : decode cX6_come 134 = .ok (.iadd, 1) := by decide +kernel
theorem dX6_come_135 : decode cX6_come 135 = .ok (.putfield 355, 3) := by decide +kernel
theorem dX6_come_138 : decode cX6_come 138 = .ok (.return_, 1) := by decide +kernel
theorem dX6_giveOn_0 : decode cX6_giveOn 0 = .ok (.aload_n 0, 1) := by decide +kernel
theorem dX6_giveOn_1 : decode cX6_giveOn 1 = .ok (.getfield 100, 3) := by decide +kernel
theorem dX6_giveOn_4 : decode cX6_giveOn 4 = .ok (.aload_n 0, 1) := by decide +kernel
theorem dX6_giveOn_5 : decode cX6_giveOn 5 = .ok (.getfield 103, 3) := by decide +kernel
theorem dX6_giveOn_8 : decode cX6_giveOn 8 = .ok (.invokestatic 249, 3) := by decide +kernel
theorem dX6_giveOn_11 : decode cX6_giveOn 11 = .ok (.aload_n 0, 1) := by decide +kernel
theorem dX6_giveOn_12 : decode cX6_giveOn 12 = .ok (.aload_n 0, 1) := by decide +kernel
theorem dX6_giveOn_13 : decode cX6_giveOn 13 = .ok (.getfield 103, 3) := by decide +kernel
theorem dX6_giveOn_16 : decode cX6_giveOn 16 = .ok (.iload_n 1, 1) := by decide +kernel
theorem dX6_giveOn_17 : decode cX6_giveOn 17 = .ok (.iload_n 2, 1) := by decide +kernel
theorem dX6_giveOn_18 : decode cX6_giveOn 18 = .ok (.aload_n 0, 1) := by decide +kernel
theorem dX6_giveOn_19 : decode cX6_giveOn 19 = .ok (.aload_n 0, 1) := by decide +kernel
theorem dX6_giveOn_20 : decode cX6_giveOn 20 = .ok (.getfield 100, 3) := by decide +kernel
theorem dX6_giveOn_23 : decode cX6_giveOn 23 = .ok (.iload_n 1, 1) := by decide +kernel
theorem dX6_giveOn_24 : decode cX6_giveOn 24 = .ok (.iload_n 2, 1) := by decide +kernel
theorem dX6_giveOn_25 : decode cX6_giveOn 25 = .ok (.aload_n 0, 1) := by decide +kernel
theorem dX6_giveOn_26 : decode cX6_giveOn 26 = .ok (.getfield 100, 3) := by decide +kernel
theorem dX6_giveOn_29 : decode cX6_giveOn 29 = .ok (.bipush 18, 2) := by decide +kernel
theorem dX6_giveOn_31 : decode cX6_giveOn 31 = .ok (.iload_n 1, 1) := by decide +kernel
theorem dX6_giveOn_32 : decode cX6_giveOn 32 = .ok (.iadd, 1) := by decide +kernel
theorem dX6_giveOn_33 : decode cX6_giveOn 33 = .ok (.iaload, 1) := by decide +kernel
theorem dX6_giveOn_34 : decode cX6_giveOn 34 = .ok (.invokevirtual 297, 3) := by decide +kernel
theorem dX6_giveOn_37 : decode cX6_giveOn 37 = .ok (.iload_n 3, 1) := by decide +kernel
theorem dX6_giveOn_38 : decode cX6_giveOn 38 = .ok (.invokevirtual 285, 3) := by decide +kernel
theorem dX6_giveOn_41 : decode cX6_giveOn 41 = .ok (.pop, 1) := by decide +kernel
theorem dX6_giveOn_42 : decode cX6_giveOn 42 = .ok (.aload_n 0, 1) := by decide +kernel
theorem dX6_giveOn_43 : decode cX6_giveOn 43 = .ok (.aload_n 0, 1) := by decide +kernel
theorem dX6_giveOn_44 : decode cX6_giveOn 44 = .ok (.getfield 103, 3) := by decide +kernel
theorem dX6_giveOn_47 : decode cX6_giveOn 47 = .ok (.iload 4, 2) := by decide +kernel
theorem dX6_giveOn_49 : decode cX6_giveOn 49 = .ok (.invokevirtual 361, 3) := by decide +kernel
theorem dX6_giveOn_52 : decode cX6_giveOn 52 = .ok (.return_, 1) := by decide +kernel
theorem dX6_goOn_0 : decode cX6_goOn 0 = .ok (.aload_n 0, 1) := by decide +kernel
theorem dX6_goOn_1 : decode cX6_goOn 1 = .ok (.getfield 100, 3) := by decide +kernel
theorem dX6_goOn_4 : decode cX6_goOn 4 = .ok (.bipush 18, 2) := by decide +kernel
theorem dX6_goOn_6 : decode cX6_goOn 6 = .ok (.iload_n 1, 1) := by decide +kernel
theorem dX6_goOn_7 : decode cX6_goOn 7 = .ok (.iadd, 1) := by decide +kernel
theorem dX6_goOn_8 : decode cX6_goOn 8 = .ok (.iaload, 1) := by decide +kernel
theorem dX6_goOn_9 : decode cX6_goOn 9 = .ok (.ifCond .ne 4, 3) := by decide +kernel
theorem dX6_goOn_12 : decode cX6_goOn 12 = .ok (.return_, 1) := by decide +kernel
theorem dX6_goOn_13 : decode cX6_goOn 13 = .ok (.iload_n 1, 1) := by decide +kernel
theorem dX6_goOn_14 : decode cX6_goOn 14 = .ok (.iload_n 2, 1) := by decide +kernel
theorem dX6_goOn_15 : decode cX6_goOn 15 = .ok (.if_icmp .eq 51, 3) := by decide +kernel
theorem dX6_goOn_18 : decode cX6_goOn 18 = .ok (.aload_n 0, 1) := by decide +kernel
theorem dX6_goOn_19 : decode cX6_goOn 19 = .ok (.aload_n 0, 1) := by decide +kernel
theorem dX6_goOn_20 : decode cX6_goOn 20 = .ok (.getfield 100, 3) := by decide +kernel
theorem dX6_goOn_23 : decode cX6_goOn 23 = .ok (.iload_n 1, 1) := by decide +kernel
theorem dX6_goOn_24 : decode cX6_goOn 24 = .ok (.aload_n 0, 1) := by decide +kernel
theorem dX6_goOn_25 : decode cX6_goOn 25 = .ok (.getfield 253, 3) := by decide +kernel
theorem dX6_goOn_28 : decode cX6_goOn 28 = .ok (.invokevirtual 311, 3) := by decide +kernel
theorem dX6_goOn_31 : decode cX6_goOn 31 = .ok (.istore 4, 2) := by decide +kernel
theorem dX6_goOn_33 : decode cX6_goOn 33 = .ok (.iload 4, 2) := by decide +kernel
theorem dX6_goOn_35 : decode cX6_goOn 35 = .ok (.iconst (-1), 1) := by decide +kernel
theorem dX6_goOn_36 : decode cX6_goOn 36 = .ok (.if_icmp .eq 29, 3) := by decide +kernel
theorem dX6_goOn_39 : decode cX6_goOn 39 = .ok (.aload_n 0, 1) := by decide +kernel
theorem dX6_goOn_40 : decode cX6_goOn 40 = .ok (.iload_n 1, 1) := by decide +kernel
theorem dX6_goOn_41 : decode cX6_goOn 41 = .ok (.iload 4, 2) := by decide +kernel
theorem dX6_goOn_43 : decode cX6_goOn 43 = .ok (.aload_n 0, 1) := by decide +kernel
theorem dX6_goOn_44 : decode cX6_goOn 44 = .ok (.aload_n 0, 1) := by decide +kernel
theorem dX6_goOn_45 : decode cX6_goOn 45 = .ok (.getfield 100, 3) := by decide +kernel
theorem dX6_goOn_48 : decode cX6_goOn 48 = .ok (.iload_n 1, 1) := by decide +kernel
theorem dX6_goOn_49 : decode cX6_goOn 49 = .ok (.aload_n 0, 1) := by decide +kernel
theorem dX6_goOn_50 : decode cX6_goOn 50 = .ok (.getfield 100, 3) := by decide +kernel
theorem dX6_goOn_53 : decode cX6_goOn 53 = .ok (.bipush 24, 2) := by decide +kernel
theorem dX6_goOn_55 : decode cX6_goOn 55 = .ok (.iload_n 1, 1) := by decide +kernel
theorem dX6_goOn_56 : decode cX6_goOn 56 = .ok (.iadd, 1) := by decide +kernel
theorem dX6_goOn_57 : decode cX6_goOn 57 = .ok (.iaload, 1) := by decide +kernel
theorem dX6_goOn_58 : decode cX6_goOn 58 = .ok (.invokevirtual 315, 3) := by decide +kernel
theorem dX6_goOn_61 : decode cX6_goOn 61 = .ok (.iload_n 3, 1) := by decide +kernel
theorem dX6_goOn_62 : decode cX6_goOn 62 = .ok (.invokevirtual 365, 3) := by decide +kernel
theorem dX6_goOn_65 : decode cX6_goOn 65 = .ok (.return_, 1) := by decide +kernel
theorem dX6_goOn_66 : decode cX6_goOn 66 = .ok (.iconst 0, 1) := by decide +kernel
theorem dX6_goOn_67 : decode cX6_goOn 67 = .ok (.istore 4, 2) := by decide +kernel
theorem dX6_goOn_69 : decode cX6_goOn 69 = .ok (.iload 4, 2) := by decide +kernel
theorem dX6_goOn_71 : decode cX6_goOn 71 = .ok (.iconst 1, 1) := by decide +kernel
theorem dX6_goOn_72 : decode cX6_goOn 72 = .ok (.aload_n 0, 1) := by decide +kernel
theorem dX6_goOn_73 : decode cX6_goOn 73 = .ok (.getfield 25, 3) := by decide +kernel
theorem dX6_goOn_76 : decode cX6_goOn 76 = .ok (.iconst 1, 1) := by decide +kernel
theorem dX6_goOn_77 : decode cX6_goOn 77 = .ok (.iaload, 1) := by decide +kernel
theorem dX6_goOn_78 : decode cX6_goOn 78 = .ok (.ishl, 1) := by decide +kernel
theorem dX6_goOn_79 : decode cX6_goOn 79 = .ok (.if_icmp .ge 89, 3) := by decide +kernel
theorem dX6_goOn_82 : decode cX6_goOn 82 = .ok (.aload_n 0, 1) := by decide +kernel
theorem dX6_goOn_83 : decode cX6_goOn 83 = .ok (.aload_n 0, 1) := by decide +kernel
theorem dX6_goOn_84 : decode cX6_goOn 84 = .ok (.getfield 100, 3) := by decide +kernel
theorem dX6_goOn_87 : decode cX6_goOn 87 = .ok (.iload_n 1, 1) := by decide +kernel
theorem dX6_goOn_88 : decode cX6_goOn 88 = .ok (.iload 4, 2) := by decide +kernel
theorem dX6_goOn_90 : decode cX6_goOn 90 = .ok (.invokevirtual 301, 3) := by decide +kernel
theorem dX6_goOn_93 : decode cX6_goOn 93 = .ok (.ifCond .ne 6, 3) := by decide +kernel
theorem dX6_goOn_96 : decode cX6_goOn 96 = .ok (.goto 66, 3) := by decide +kernel
theorem dX6_goOn_99 : decode cX6_goOn 99 = .ok (.iconst 0, 1) := by decide +kernel
theorem dX6_goOn_100 : decode cX6_goOn 100 = .ok (.istore 5, 2) := by decide +kernel
theorem dX6_goOn_102 : decode cX6_goOn 102 = .ok (.iload 5, 2) := by decide +kernel
theorem dX6_goOn_104 : decode cX6_goOn 104 = .ok (.aload_n 0, 1) := by decide +kernel
theorem dX6_goOn_105 : decode cX6_goOn 105 = .ok (.getfield 25, 3) := by decide +kernel
theorem dX6_goOn_108 : decode cX6_goOn 108 = .ok (.iconst 0, 1) := by decide +kernel
theorem dX6_goOn_109 : decode cX6_goOn 109 = .ok (.iaload, 1) := by decide +kernel
theorem dX6_goOn_110 : decode cX6_goOn 110 = .ok (.if_icmp .ge 52, 3) := by decide +kernel
theorem dX6_goOn_113 : decode cX6_goOn 113 = .ok (.iload 5, 2) := by decide +kernel
theorem dX6_goOn_115 : decode cX6_goOn 115 = .ok (.iload_n 1, 1) := by decide +kernel
theorem dX6_goOn_116 : decode cX6_goOn 116 = .ok (.if_icmp .eq 40, 3) := by decide +kernel
theorem dX6_goOn_119 : decode cX6_goOn 119 = .ok (.aload_n 0, 1) := by decide +kernel
theorem dX6_goOn_120 : decode cX6_goOn 120 = .ok (.getfield 100, 3) := by decide +kernel
theorem dX6_goOn_123 : decode cX6_goOn 123 = .ok (.bipush 24, 2) := by decide +kernel
theorem dX6_goOn_125 : decode cX6_goOn 125 = .ok (.iload_n 1, 1) := by decide +kernel
theorem dX6_goOn_126 : decode cX6_goOn 126 = .ok (.iadd, 1) := by decide +kernel
theorem dX6_goOn_127 : decode cX6_goOn 127 = .ok (.iaload, 1) := by decide +kernel
theorem dX6_goOn_128 : decode cX6_goOn 128 = .ok (.iconst (-1), 1) := by decide +kernel
theorem dX6_goOn_129 : decode cX6_goOn 129 = .ok (.if_icmp .eq 17, 3) := by decide +kernel
theorem dX6_goOn_132 : decode cX6_goOn 132 = .ok (.aload_n 0, 1) := by decide +kernel
theorem dX6_goOn_133 : decode cX6_goOn 133 = .ok (.getfield 100, 3) := by decide +kernel
theorem dX6_goOn_136 : decode cX6_goOn 136 = .ok (.bipush 24, 2) := by decide +kernel
theorem dX6_goOn_138 : decode cX6_goOn 138 = .ok (.iload_n 1, 1) := by decide +kernel
theorem dX6_goOn_139 : decode cX6_goOn 139 = .ok (.iadd, 1) := by decide +kernel
theorem dX6_goOn_140 : decode cX6_goOn 140 = .ok (.iaload, 1) := by decide +kernel
theorem dX6_goOn_141 : decode cX6_goOn 141 = .ok (.iload 5, 2) := by decide +kernel
theorem dX6_goOn_143 : decode cX6_goOn 143 = .ok (.if_icmp .ne 13, 3) := by decide +kernel
theorem dX6_goOn_146 : decode cX6_goOn 146 = .ok (.aload_n 0, 1) := by decide +kernel
theorem dX6_goOn_147 : decode cX6_goOn 147 = .ok (.iload_n 1, 1) := by decide +kernel
theorem dX6_goOn_148 : decode cX6_goOn 148 = .ok (.iload 4, 2) := by decide +kernel
theorem dX6_goOn_150 : decode cX6_goOn 150 = .ok (.iload 5, 2) := by decide +kernel
theorem dX6_goOn_152 : decode cX6_goOn 152 = .ok (.iload_n 3, 1) := by decide +kernel
theorem dX6_goOn_153 : decode cX6_goOn 153 = .ok (.invokevirtual 365, 3) := by decide +kernel
theorem dX6_goOn_156 : decode cX6_goOn 156 = .ok (.iinc 5 1, 3) := by decide +kernel
theorem dX6_goOn_159 : decode cX6_goOn 159 = .ok (.goto (-57), 3) := by decide +kernel
theorem dX6_goOn_162 : decode cX6_goOn 162 = .ok (.iinc 4 1, 3) := by decide +kernel
theorem dX6_goOn_165 : decode cX6_goOn 165 = .ok (.goto (-96), 3) := by decide +kernel
theorem dX6_goOn_168 : decode cX6_goOn 168 = .ok (.return_, 1) := by decide +kernel
theorem dX6_get_0 : decode cX6_get 0 = .ok (.aload_n 0, 1) := by decide +kernel
theorem dX6_get_1 : decode cX6_get 1 = .ok (.iconst 0, 1) := by decide +kernel
theorem dX6_get_2 : decode cX6_get 2 = .ok (.putfield 128, 3) := by decide +kernel
theorem dX6_get_5 : decode cX6_get 5 = .ok (.aload_n 0, 1) := by decide +kernel
theorem dX6_get_6 : decode cX6_get 6 = .ok (.iload_n 1, 1) := by decide +kernel
theorem dX6_get_7 : decode cX6_get 7 = .ok (.invokevirtual 263, 3) := by decide +kernel
theorem dX6_get_10 : decode cX6_get 10 = .ok (.ifCond .eq 11, 3) := by decide +kernel
theorem dX6_get_13 : decode cX6_get 13 = .ok (.aload_n 0, 1) := by decide +kernel
theorem dX6_get_14 : decode cX6_get 14 = .ok (.iload_n 2, 1) := by decide +kernel
theorem dX6_get_15 : decode cX6_get 15 = .ok (.invokevirtual 276, 3) := by decide +kernel
theorem dX6_get_18 : decode cX6_get 18 = .ok (.ifCond .ne 9, 3) := by decide +kernel
theorem dX6_get_21 : decode cX6_get 21 = .ok (.aload_n 0, 1) := by decide +kernel
theorem dX6_get_22 : decode cX6_get 22 = .ok (.iconst 1, 1) := by decide +kernel
theorem dX6_get_23 : decode cX6_get 23 = .ok (.invokevirtual 243, 3) := by decide +kernel
theorem dX6_get_26 : decode cX6_get 26 = .ok (.ireturn, 1) := by decide +kernel
theorem dX6_get_27 : decode cX6_get 27 = .ok (.iconst 0, 1) := by decide +kernel
theorem dX6_get_28 : decode cX6_get 28 = .ok (.istore_n 3, 1) := by decide +kernel
theorem dX6_get_29 : decode cX6_get 29 = .ok (.iload_n 3, 1) := by decide +kernel
theorem dX6_get_30 : decode cX6_get 30 = .ok (.sipush 4096, 3) := by decide +kernel
theorem dX6_get_33 : decode cX6_get 33 = .ok (.if_icmp .ge 16, 3) := by decide +kernel
theorem dX6_get_36 : decode cX6_get 36 = .ok (.aload_n 0, 1) := by decide +kernel
theorem dX6_get_37 : decode cX6_get 37 = .ok (.getfield 97, 3) := by decide +kernel
theorem dX6_get_40 : decode cX6_get 40 = .ok (.iload_n 3, 1) := by decide +kernel
theorem dX6_get_41 : decode cX6_get 41 = .ok (.iconst (-1), 1) := by decide +kernel
theorem dX6_get_42 : decode cX6_get 42 = .ok (.iastore, 1) := by decide +kernel
theorem dX6_get_43 : decode cX6_get 43 = .ok (.iinc 3 1, 3) := by decide +kernel
theorem dX6_get_46 : decode cX6_get 46 = .ok (.goto (-17), 3) := by decide +kernel
theorem dX6_get_49 : decode cX6_get 49 = .ok (.aload_n 0, 1) := by decide +kernel
theorem dX6_get_50 : decode cX6_get 50 = .ok (.iconst 0, 1) := by decide +kernel
theorem dX6_get_51 : decode cX6_get 51 = .ok (.putfield 355, 3) := by decide +kernel
theorem dX6_get_54 : decode cX6_get 54 = .ok (.aload_n 0, 1) := by decide +kernel
theorem dX6_get_55 : decode cX6_get 55 = .ok (.iconst 0, 1) := by decide +kernel
theorem dX6_get_56 : decode cX6_get 56 = .ok (.putfield 358, 3) := by decide +kernel
theorem dX6_get_59 : decode cX6_get 59 = .ok (.aload_n 0, 1) := by decide +kernel
theorem dX6_get_60 : decode cX6_get 60 = .ok (.aload_n 0, 1) := by decide +kernel
theorem dX6_get_61 : decode cX6_get 61 = .ok (.getfield 41, 3) := by decide +kernel
theorem dX6_get_64 : decode cX6_get 64 = .ok (.iconst 0, 1) := by decide +kernel
theorem dX6_get_65 : decode cX6_get 65 = .ok (.invokevirtual 361, 3) := by decide +kernel
theorem dX6_get_68 : decode cX6_get 68 = .ok (.iconst (-1), 1) := by decide +kernel
theorem dX6_get_69 : decode cX6_get 69 = .ok (.istore_n 3, 1) := by decide +kernel
theorem dX6_get_70 : decode cX6_get 70 = .ok (.iconst 0, 1) := by decide +kernel
theorem dX6_get_71 : decode cX6_get 71 = .ok (.istore 4, 2) := by decide +kernel
theorem dX6_get_73 : decode cX6_get 73 = .ok (.iload 4, 2) := by decide +kernel
theorem dX6_get_75 : decode cX6_get 75 = .ok (.aload_n 0, 1) := by decide +kernel
theorem dX6_get_76 : decode cX6_get 76 = .ok (.getfield 355, 3) := by decide +kernel
theorem dX6_get_79 : decode cX6_get 79 = .ok (.if_icmp .ge 125, 3) := by decide +kernel
theorem dX6_get_82 : decode cX6_get 82 = .ok (.aload_n 0, 1) := by decide +kernel
theorem dX6_get_83 : decode cX6_get 83 = .ok (.getfield 358, 3) := by decide +kernel
theorem dX6_get_86 : decode cX6_get 86 = .ok (.ifCond .ne 118, 3) := by decide +kernel
theorem dX6_get_89 : decode cX6_get 89 = .ok (.iconst 0, 1) := by decide +kernel
theorem dX6_get_90 : decode cX6_get 90 = .ok (.istore 5, 2) := by decide +kernel
theorem dX6_get_92 : decode cX6_get 92 = .ok (.iload 5, 2) := by decide +kernel
theorem dX6_get_94 : decode cX6_get 94 = .ok (.bipush 30, 2) := by decide +kernel
theorem dX6_get_96 : decode cX6_get 96 = .ok (.if_icmp .ge 29, 3) := by decide +kernel
theorem dX6_get_99 : decode cX6_get 99 = .ok (.aload_n 0, 1) := by decide +kernel
theorem dX6_get_100 : decode cX6_get 100 = .ok (.getfield 100, 3) := by decide +kernel
theorem dX6_get_103 : decode cX6_get 103 = .ok (.iload 5, 2) := by decide +kernel
theorem dX6_get_105 : decode cX6_get 105 = .ok (.aload_n 0, 1) := by decide +kernel
theorem dX6_get_106 : decode cX6_get 106 = .ok (.getfield 88, 3) := by decide +kernel
theorem dX6_get_109 : decode cX6_get 109 = .ok (.bipush 30, 2) := by decide +kernel
theorem dX6_get_111 : decode cX6_get 111 = .ok (.iload 4, 2) := by decide +kernel
theorem dX6_get_113 : decode cX6_get 113 = .ok (.imul, 1) := by decide +kernel
theorem dX6_get_114 : decode cX6_get 114 = .ok (.iload 5, 2) := by decide +kernel
theorem dX6_get_116 : decode cX6_get 116 = .ok (.iadd, 1) := by decide +kernel
theorem dX6_get_117 : decode cX6_get 117 = .ok (.iaload, 1) := by decide +kernel
theorem dX6_get_118 : decode cX6_get 118 = .ok (.iastore, 1) := by decide +kernel
theorem dX6_get_119 : decode cX6_get 119 = .ok (.iinc 5 1, 3) := by decide +kernel
theorem dX6_get_122 : decode cX6_get 122 = .ok (.goto (-30), 3) := by decide +kernel
theorem dX6_get_125 : decode cX6_get 125 = .ok (.aload_n 0, 1) := by decide +kernel
theorem dX6_get_126 : decode cX6_get 126 = .ok (.getfield 100, 3) := by decide +kernel
theorem dX6_get_129 : decode cX6_get 129 = .ok (.iload_n 2, 1) := by decide +kernel
theorem dX6_get_130 : decode cX6_get 130 = .ok (.iaload, 1) := by decide +kernel
theorem dX6_get_131 : decode cX6_get 131 = .ok (.iload_n 1, 1) := by decide +kernel
theorem dX6_get_132 : decode cX6_get 132 = .ok (.if_icmp .ne 23, 3) := by decide +kernel
theorem dX6_get_135 : decode cX6_get 135 = .ok (.iload_n 3, 1) := by decide +kernel
theorem dX6_get_136 : decode cX6_get 136 = .ok (.iconst (-1), 1) := by decide +kernel
theorem dX6_get_137 : decode cX6_get 137 = .ok (.if_icmp .ne 13, 3) := by decide +kernel
theorem dX6_get_140 : decode cX6_get 140 = .ok (.aload_n 0, 1) := by decide +kernel
theorem dX6_get_141 : decode cX6_get 141 = .ok (.getfield 91, 3) := by decide +kernel
theorem dX6_get_144 : decode cX6_get 144 = .ok (.iload 4, 2) := by decide +kernel
theorem dX6_get_146 : decode cX6_get 146 = .ok (.iaload, 1) := by decide +kernel
theorem dX6_get_147 : decode cX6_get 147 = .ok (.goto 4, 3) := by decide +kernel
theorem dX6_get_150 : decode cX6_get 150 = .ok (.iload_n 3, 1) := by decide +kernel
theorem dX6_get_151 : decode cX6_get 151 = .ok (.istore_n 3, 1) := by decide +kernel
theorem dX6_get_152 : decode cX6_get 152 = .ok (.goto 46, 3) := by decide +kernel
theorem dX6_get_155 : decode cX6_get 155 = .ok (.iconst 0, 1) := by decide +kernel
theorem dX6_get_156 : decode cX6_get 156 = .ok (.istore 5, 2) := by decide +kernel
theorem dX6_get_158 : decode cX6_get 158 = .ok (.iload 5, 2) := by decide +kernel
theorem dX6_get_160 : decode cX6_get 160 = .ok (.aload_n 0, 1) := by decide +kernel
theorem dX6_get_161 : decode cX6_get 161 = .ok (.getfield 25, 3) := by decide +kernel
theorem dX6_get_164 : decode cX6_get 164 = .ok (.iconst 0, 1) := by decide +kernel
theorem dX6_get_165 : decode cX6_get 165 = .ok (.iaload, 1) := by decide +kernel
theorem dX6_get_166 : decode cX6_get 166 = .ok (.if_icmp .ge 32, 3) := by decide +kernel
theorem dX6_get_169 : decode cX6_get 169 = .ok (.aload_n 0, 1) := by decide +kernel
theorem dX6_get_170 : decode cX6_get 170 = .ok (.getfield 358, 3) := by decide +kernel
theorem dX6_get_173 : decode cX6_get 173 = .ok (.ifCond .ne 25, 3) := by decide +kernel
theorem dX6_get_176 : decode cX6_get 176 = .ok (.aload_n 0, 1) := by decide +kernel
theorem dX6_get_177 : decode cX6_get 177 = .ok (.iload 5, 2) := by decide +kernel
theorem dX6_get_179 : decode cX6_get 179 = .ok (.iload_n 1, 1) := by decide +kernel
theorem dX6_get_180 : decode cX6_get 180 = .ok (.aload_n 0, 1) := by decide +kernel
theorem dX6_get_181 : decode cX6_get 181 = .ok (.getfield 91, 3) := by decide +kernel
theorem dX6_get_184 : decode cX6_get 184 = .ok (.iload 4, 2) := by decide +kernel
theorem dX6_get_186 : decode cX6_get 186 = .ok (.iaload, 1) := by decide +kernel
theorem dX6_get_187 : decode cX6_get 187 = .ok (.iconst 1, 1) := by decide +kernel
theorem dX6_get_188 : decode cX6_get 188 = .ok (.iadd, 1) := by decide +kernel
theorem dX6_get_189 : decode cX6_get 189 = .ok (.invokevirtual 368, 3) := by decide +kernel
theorem dX6_get_192 : decode cX6_get 192 = .ok (.iinc 5 1, 3) := by decide +kernel
theorem dX6_get_195 : decode cX6_get 195 = .ok (.goto (-37), 3) := by decide +kernel
theorem dX6_get_198 : decode cX6_get 198 = .ok (.iinc 4 1, 3) := by decide +kernel
theorem dX6_get_201 : decode cX6_get 201 = .ok (.goto (-128), 3) := by decide +kernel
theorem dX6_get_204 : decode cX6_get 204 = .ok (.aload_n 0, 1) := by decide +kernel
theorem dX6_get_205 : decode cX6_get 205 = .ok (.getfield 358, 3) := by decide +kernel
theorem dX6_get_208 : decode cX6_get 208 = .ok (.ifCond .eq 8, 3) := by decide +kernel
theorem dX6_get_211 : decode cX6_get 211 = .ok (.bipush (-2), 2) := by decide +kernel
theorem dX6_get_213 : decode cX6_get 213 = .ok (.goto 4, 3) := by decide +kernel
theorem dX6_get_216 : decode cX6_get 216 = .ok (.iload_n 3, 1) := by decide +kernel
theorem dX6_get_217 : decode cX6_get 217 = .ok (.ireturn, 1) := by decide +kernel
theorem dX6_anyFits_0 : decode cX6_anyFits 0 = .ok (.iconst 0, 1) := by decide +kernel
theorem dX6_anyFits_1 : decode cX6_anyFits 1 = .ok (.istore_n 2, 1) := by decide +kernel
theorem dX6_anyFits_2 : decode cX6_anyFits 2 = .ok (.iload_n 2, 1) := by decide +kernel
theorem dX6_anyFits_3 : decode cX6_anyFits 3 = .ok (.iconst 1, 1) := by decide +kernel
theorem dX6_anyFits_4 : decode cX6_anyFits 4 = .ok (.aload_n 0, 1) := by decide +kernel
theorem dX6_anyFits_5 : decode cX6_anyFits 5 = .ok (.getfield 25, 3) := by decide +kernel
theorem dX6_anyFits_8 : decode cX6_anyFits 8 = .ok (.iconst 1, 1) := by decide +kernel
theorem dX6_anyFits_9 : decode cX6_anyFits 9 = .ok (.iaload, 1) := by decide +kernel
theorem dX6_anyFits_10 : decode cX6_anyFits 10 = .ok (.ishl, 1) := by decide +kernel
theorem dX6_anyFits_11 : decode cX6_anyFits 11 = .ok (.if_icmp .ge 24, 3) := by decide +kernel
theorem dX6_anyFits_14 : decode cX6_anyFits 14 = .ok (.aload_n 0, 1) := by decide +kernel
theorem dX6_anyFits_15 : decode cX6_anyFits 15 = .ok (.aload_n 0, 1) := by decide +kernel
theorem dX6_anyFits_16 : decode cX6_anyFits 16 = .ok (.getfield 41, 3) := by decide +kernel
theorem dX6_anyFits_19 : decode cX6_anyFits 19 = .ok (.iload_n 1, 1) := by decide +kernel
theorem dX6_anyFits_20 : decode cX6_anyFits 20 = .ok (.iload_n 2, 1) := by decide +kernel
theorem dX6_anyFits_21 : decode cX6_anyFits 21 = .ok (.invokevirtual 301, 3) := by decide +kernel
theorem dX6_anyFits_24 : decode cX6_anyFits 24 = .ok (.ifCond .eq 5, 3) := by decide +kernel
theorem dX6_anyFits_27 : decode cX6_anyFits 27 = .ok (.iconst 1, 1) := by decide +kernel
theorem dX6_anyFits_28 : decode cX6_anyFits 28 = .ok (.ireturn, 1) := by decide +kernel
theorem dX6_anyFits_29 : decode cX6_anyFits 29 = .ok (.iinc 2 1, 3) := by decide +kernel
theorem dX6_anyFits_32 : decode cX6_anyFits 32 = .ok (.goto (-30), 3) := by decide +kernel
theorem dX6_anyFits_35 : decode cX6_anyFits 35 = .ok (.iconst 0, 1) := by decide +kernel
theorem dX6_anyFits_36 : decode cX6_anyFits 36 = .ok (.ireturn, 1) := by decide +kernel
theorem dX6_fitsWith_0 : decode cX6_fitsWith 0 = .ok (.aload_n 0, 1) := by decide +kernel
theorem dX6_fitsWith_1 : decode cX6_fitsWith 1 = .ok (.getfield 47, 3) := by decide +kernel
theorem dX6_fitsWith_4 : decode cX6_fitsWith 4 = .ok (.iload_n 2, 1) := by decide +kernel
theorem dX6_fitsWith_5 : decode cX6_fitsWith 5 = .ok (.iaload, 1) := by decide +kernel
theorem dX6_fitsWith_6 : decode cX6_fitsWith 6 = .ok (.istore 4, 2) := by decide +kernel
theorem dX6_fitsWith_8 : decode cX6_fitsWith 8 = .ok (.aload_n 0, 1) := by decide +kernel
theorem dX6_fitsWith_9 : decode cX6_fitsWith 9 = .ok (.getfield 47, 3) := by decide +kernel
theorem dX6_fitsWith_12 : decode cX6_fitsWith 12 = .ok (.iload_n 2, 1) := by decide +kernel
theorem dX6_fitsWith_13 : decode cX6_fitsWith 13 = .ok (.iload_n 3, 1) := by decide +kernel
theorem dX6_fitsWith_14 : decode cX6_fitsWith 14 = .ok (.iastore, 1) := by decide +kernel
theorem dX6_fitsWith_15 : decode cX6_fitsWith 15 = .ok (.aload_n 0, 1) := by decide +kernel
theorem dX6_fitsWith_16 : decode cX6_fitsWith 16 = .ok (.iload_n 1, 1) := by decide +kernel
theorem dX6_fitsWith_17 : decode cX6_fitsWith 17 = .ok (.invokevirtual 371, 3) := by decide +kernel
theorem dX6_fitsWith_20 : decode cX6_fitsWith 20 = .ok (.istore 5, 2) := by decide +kernel
theorem dX6_fitsWith_22 : decode cX6_fitsWith 22 = .ok (.aload_n 0, 1) := by decide +kernel
theorem dX6_fitsWith_23 : decode cX6_fitsWith 23 = .ok (.getfield 47, 3) := by decide +kernel
theorem dX6_fitsWith_26 : decode cX6_fitsWith 26 = .ok (.iload_n 2, 1) := by decide +kernel
theorem dX6_fitsWith_27 : decode cX6_fitsWith 27 = .ok (.iload 4, 2) := by decide +kernel
theorem dX6_fitsWith_29 : decode cX6_fitsWith 29 = .ok (.iastore, 1) := by decide +kernel
theorem dX6_fitsWith_30 : decode cX6_fitsWith 30 = .ok (.iload 5, 2) := by decide +kernel
theorem dX6_fitsWith_32 : decode cX6_fitsWith 32 = .ok (.ireturn, 1) := by decide +kernel
theorem dX6_cut_0 : decode cX6_cut 0 = .ok (.aload_n 0, 1) := by decide +kernel
theorem dX6_cut_1 : decode cX6_cut 1 = .ok (.iconst 0, 1) := by decide +kernel
theorem dX6_cut_2 : decode cX6_cut 2 = .ok (.putfield 128, 3) := by decide +kernel
theorem dX6_cut_5 : decode cX6_cut 5 = .ok (.aload_n 0, 1) := by decide +kernel
theorem dX6_cut_6 : decode cX6_cut 6 = .ok (.iload_n 1, 1) := by decide +kernel
theorem dX6_cut_7 : decode cX6_cut 7 = .ok (.invokevirtual 263, 3) := by decide +kernel
theorem dX6_cut_10 : decode cX6_cut 10 = .ok (.ifCond .eq 12, 3) := by decide +kernel
theorem dX6_cut_13 : decode cX6_cut 13 = .ok (.iload_n 2, 1) := by decide +kernel
theorem dX6_cut_14 : decode cX6_cut 14 = .ok (.ifCond .lt 8, 3) := by decide +kernel
theorem dX6_cut_17 : decode cX6_cut 17 = .ok (.iload_n 2, 1) := by decide +kernel
theorem dX6_cut_18 : decode cX6_cut 18 = .ok (.iconst 1, 1) := by decide +kernel
theorem dX6_cut_19 : decode cX6_cut 19 = .ok (.if_icmp .le 9, 3) := by decide +kernel
theorem dX6_cut_22 : decode cX6_cut 22 = .ok (.aload_n 0, 1) := by decide +kernel
theorem dX6_cut_23 : decode cX6_cut 23 = .ok (.iconst 1, 1) := by decide +kernel
theorem dX6_cut_24 : decode cX6_cut 24 = .ok (.invokevirtual 243, 3) := by decide +kernel
theorem dX6_cut_27 : decode cX6_cut 27 = .ok (.ireturn, 1) := by decide +kernel
theorem dX6_cut_28 : decode cX6_cut 28 = .ok (.iconst 0, 1) := by decide +kernel
theorem dX6_cut_29 : decode cX6_cut 29 = .ok (.istore_n 3, 1) := by decide +kernel
theorem dX6_cut_30 : decode cX6_cut 30 = .ok (.iconst (-1), 1) := by decide +kernel
theorem dX6_cut_31 : decode cX6_cut 31 = .ok (.istore 4, 2) := by decide +kernel
theorem dX6_cut_33 : decode cX6_cut 33 = .ok (.aload_n 0, 1) := by decide +kernel
theorem dX6_cut_34 : decode cX6_cut 34 = .ok (.getfield 41, 3) := by decide +kernel
theorem dX6_cut_37 : decode cX6_cut 37 = .ok (.bipush 18, 2) := by decide +kernel
theorem dX6_cut_39 : decode cX6_cut 39 = .ok (.iload_n 1, 1) := by decide +kernel
theorem dX6_cut_40 : decode cX6_cut 40 = .ok (.iadd, 1) := by decide +kernel
theorem dX6_cut_41 : decode cX6_cut 41 = .ok (.iaload, 1) := by decide +kernel
theorem dX6_cut_42 : decode cX6_cut 42 = .ok (.ifCond .le 15, 3) := by decide +kernel
theorem dX6_cut_45 : decode cX6_cut 45 = .ok (.aload_n 0, 1) := by decide +kernel
theorem dX6_cut_46 : decode cX6_cut 46 = .ok (.iload_n 1, 1) := by decide +kernel
theorem dX6_cut_47 : decode cX6_cut 47 = .ok (.invokevirtual 371, 3) := by decide +kernel
theorem dX6_cut_50 : decode cX6_cut 50 = .ok (.ifCond .ne 7, 3) := by decide +kernel
theorem dX6_cut_53 : decode cX6_cut 53 = .ok (.iconst 1, 1) := by decide +kernel
theorem dX6_cut_54 : decode cX6_cut 54 = .ok (.goto 4, 3) := by decide +kernel
theorem dX6_cut_57 : decode cX6_cut 57 = .ok (.iconst 0, 1) := by decide +kernel
theorem dX6_cut_58 : decode cX6_cut 58 = .ok (.istore 5, 2) := by decide +kernel
theorem dX6_cut_60 : decode cX6_cut 60 = .ok (.iconst 0, 1) := by decide +kernel
theorem dX6_cut_61 : decode cX6_cut 61 = .ok (.istore 6, 2) := by decide +kernel
theorem dX6_cut_63 : decode cX6_cut 63 = .ok (.iload 6, 2) := by decide +kernel
theorem dX6_cut_65 : decode cX6_cut 65 = .ok (.aload_n 0, 1) := by decide +kernel
theorem dX6_cut_66 : decode cX6_cut 66 = .ok (.getfield 25, 3) := by decide +kernel
theorem dX6_cut_69 : decode cX6_cut 69 = .ok (.iconst 1, 1) := by decide +kernel
theorem dX6_cut_70 : decode cX6_cut 70 = .ok (.iaload, 1) := by decide +kernel
theorem dX6_cut_71 : decode cX6_cut 71 = .ok (.if_icmp .ge 107, 3) := by decide +kernel
theorem dX6_cut_74 : decode cX6_cut 74 = .ok (.iload 5, 2) := by decide +kernel
theorem dX6_cut_76 : decode cX6_cut 76 = .ok (.ifCond .eq 102, 3) := by decide +kernel
theorem dX6_cut_79 : decode cX6_cut 79 = .ok (.iconst 1, 1) := by decide +kernel
theorem dX6_cut_80 : decode cX6_cut 80 = .ok (.istore 7, 2) := by decide +kernel
theorem dX6_cut_82 : decode cX6_cut 82 = .ok (.iload 7, 2) := by decide +kernel
theorem dX6_cut_84 : decode cX6_cut 84 = .ok (.aload_n 0, 1) := by decide +kernel
theorem dX6_cut_85 : decode cX6_cut 85 = .ok (.getfield 47, 3) := by decide +kernel
theorem dX6_cut_88 : decode cX6_cut 88 = .ok (.iload 6, 2) := by decide +kernel
theorem dX6_cut_90 : decode cX6_cut 90 = .ok (.iaload, 1) := by decide +kernel
theorem dX6_cut_91 : decode cX6_cut 91 = .ok (.iconst 2, 1) := by decide +kernel
theorem dX6_cut_92 : decode cX6_cut 92 = .ok (.idiv, 1) := by decide +kernel
theorem dX6_cut_93 : decode cX6_cut 93 = .ok (.if_icmp .gt 79, 3) := by decide +kernel
theorem dX6_cut_96 : decode cX6_cut 96 = .ok (.aload_n 0, 1) := by decide +kernel
theorem dX6_cut_97 : decode cX6_cut 97 = .ok (.getfield 41, 3) := by decide +kernel
theorem dX6_cut_100 : decode cX6_cut 100 = .ok (.iload 6, 2) := by decide +kernel
theorem dX6_cut_102 : decode cX6_cut 102 = .ok (.iaload, 1) := by decide +kernel
theorem dX6_cut_103 : decode cX6_cut 103 = .ok (.iload_n 1, 1) := by decide +kernel
theorem dX6_cut_104 : decode cX6_cut 104 = .ok (.if_icmp .ne 68, 3) := by decide +kernel
theorem dX6_cut_107 : decode cX6_cut 107 = .ok (.aload_n 0, 1) := by decide +kernel
theorem dX6_cut_108 : decode cX6_cut 108 = .ok (.iload_n 1, 1) := by decide +kernel
theorem dX6_cut_109 : decode cX6_cut 109 = .ok (.iload 6, 2) := by decide +kernel
theorem dX6_cut_111 : decode cX6_cut 111 = .ok (.iload 7, 2) := by decide +kernel
theorem dX6_cut_113 : decode cX6_cut 113 = .ok (.invokevirtual 374, 3) := by decide +kernel
theorem dX6_cut_116 : decode cX6_cut 116 = .ok (.ifCond .ne 26, 3) := by decide +kernel
theorem dX6_cut_119 : decode cX6_cut 119 = .ok (.aload_n 0, 1) := by decide +kernel
theorem dX6_cut_120 : decode cX6_cut 120 = .ok (.iload_n 1, 1) := by decide +kernel
theorem dX6_cut_121 : decode cX6_cut 121 = .ok (.iload 6, 2) := by decide +kernel
theorem dX6_cut_123 : decode cX6_cut 123 = .ok (.aload_n 0, 1) := by decide +kernel
theorem dX6_cut_124 : decode cX6_cut 124 = .ok (.getfield 47, 3) := by decide +kernel
theorem dX6_cut_127 : decode cX6_cut 127 = .ok (.iload 6, 2) := by decide +kernel
theorem dX6_cut_129 : decode cX6_cut 129 = .ok (.iaload, 1) := by decide +kernel
theorem dX6_cut_130 : decode cX6_cut 130 = .ok (.iload 7, 2) := by decide +kernel
theorem dX6_cut_132 : decode cX6_cut 132 = .ok (.isub, 1) := by decide +kernel
theorem dX6_cut_133 : decode cX6_cut 133 = .ok (.invokevirtual 374, 3) := by decide +kernel
theorem dX6_cut_136 : decode cX6_cut 136 = .ok (.ifCond .ne 6, 3) := by decide +kernel
theorem dX6_cut_139 : decode cX6_cut 139 = .ok (.goto 27, 3) := by decide +kernel
theorem dX6_cut_142 : decode cX6_cut 142 = .ok (.iinc 3 1, 3) := by decide +kernel
theorem dX6_cut_145 : decode cX6_cut 145 = .ok (.iload 4, 2) := by decide +kernel
theorem dX6_cut_147 : decode cX6_cut 147 = .ok (.iconst (-1), 1) := by decide +kernel
theorem dX6_cut_148 : decode cX6_cut 148 = .ok (.if_icmp .ne 14, 3) := by decide +kernel
theorem dX6_cut_151 : decode cX6_cut 151 = .ok (.bipush 100, 2) := by decide +kernel
theorem dX6_cut_153 : decode cX6_cut 153 = .ok (.iload 6, 2) := by decide +kernel
theorem dX6_cut_155 : decode cX6_cut 155 = .ok (.imul, 1) := by decide +kernel
theorem dX6_cut_156 : decode cX6_cut 156 = .ok (.iload 7, 2) := by decide +kernel
theorem dX6_cut_158 : decode cX6_cut 158 = .ok (.iadd, 1) := by decide +kernel
theorem dX6_cut_159 : decode cX6_cut 159 = .ok (.goto 5, 3) := by decide +kernel
theorem dX6_cut_162 : decode cX6_cut 162 = .ok (.iload 4, 2) := by decide +kernel
theorem dX6_cut_164 : decode cX6_cut 164 = .ok (.istore 4, 2) := by decide +kernel
theorem dX6_cut_166 : decode cX6_cut 166 = .ok (.iinc 7 1, 3) := by decide +kernel
theorem dX6_cut_169 : decode cX6_cut 169 = .ok (.goto (-87), 3) := by decide +kernel
theorem dX6_cut_172 : decode cX6_cut 172 = .ok (.iinc 6 1, 3) := by decide +kernel
theorem dX6_cut_175 : decode cX6_cut 175 = .ok (.goto (-112), 3) := by decide +kernel
theorem dX6_cut_178 : decode cX6_cut 178 = .ok (.iload_n 2, 1) := by decide +kernel
theorem dX6_cut_179 : decode cX6_cut 179 = .ok (.ifCond .ne 7, 3) := by decide +kernel
theorem dX6_cut_182 : decode cX6_cut 182 = .ok (.iload_n 3, 1) := by decide +kernel
theorem dX6_cut_183 : decode cX6_cut 183 = .ok (.goto 5, 3) := by decide +kernel
theorem dX6_cut_186 : decode cX6_cut 186 = .ok (.iload 4, 2) := by decide +kernel
theorem dX6_cut_188 : decode cX6_cut 188 = .ok (.ireturn, 1) := by decide +kernel
theorem dX6_keep_0 : decode cX6_keep 0 = .ok (.aload_n 0, 1) := by decide +kernel
theorem dX6_keep_1 : decode cX6_keep 1 = .ok (.iconst 0, 1) := by decide +kernel
theorem dX6_keep_2 : decode cX6_keep 2 = .ok (.putfield 128, 3) := by decide +kernel
theorem dX6_keep_5 : decode cX6_keep 5 = .ok (.iload_n 1, 1) := by decide +kernel
theorem dX6_keep_6 : decode cX6_keep 6 = .ok (.iconst 1, 1) := by decide +kernel
theorem dX6_keep_7 : decode cX6_keep 7 = .ok (.sipush 999, 3) := by decide +kernel
theorem dX6_keep_10 : decode cX6_keep 10 = .ok (.invokestatic 131, 3) := by decide +kernel
theorem dX6_keep_13 : decode cX6_keep 13 = .ok (.ifCond .ne 9, 3) := by decide +kernel
theorem dX6_keep_16 : decode cX6_keep 16 = .ok (.aload_n 0, 1) := by decide +kernel
theorem dX6_keep_17 : decode cX6_keep 17 = .ok (.iconst 2, 1) := by decide +kernel
theorem dX6_keep_18 : decode cX6_keep 18 = .ok (.invokevirtual 243, 3) := by decide +kernel
theorem dX6_keep_21 : decode cX6_keep 21 = .ok (.ireturn, 1) := by decide +kernel
theorem dX6_keep_22 : decode cX6_keep 22 = .ok (.iconst 0, 1) := by decide +kernel
theorem dX6_keep_23 : decode cX6_keep 23 = .ok (.istore_n 3, 1) := by decide +kernel
theorem dX6_keep_24 : decode cX6_keep 24 = .ok (.iconst 0, 1) := by decide +kernel
theorem dX6_keep_25 : decode cX6_keep 25 = .ok (.istore 4, 2) := by decide +kernel
theorem dX6_keep_27 : decode cX6_keep 27 = .ok (.iconst 1, 1) := by decide +kernel
theorem dX6_keep_28 : decode cX6_keep 28 = .ok (.istore 5, 2) := by decide +kernel
theorem dX6_keep_30 : decode cX6_keep 30 = .ok (.iload 4, 2) := by decide +kernel
theorem dX6_keep_32 : decode cX6_keep 32 = .ok (.iload_n 1, 1) := by decide +kernel
theorem dX6_keep_33 : decode cX6_keep 33 = .ok (.if_icmp .ge 41, 3) := by decide +kernel
theorem dX6_keep_36 : decode cX6_keep 36 = .ok (.iload 5, 2) := by decide +kernel
theorem dX6_keep_38 : decode cX6_keep 38 = .ok (.iload_n 1, 1) := by decide +kernel
theorem dX6_keep_39 : decode cX6_keep 39 = .ok (.iload 4, 2) := by decide +kernel
theorem dX6_keep_41 : decode cX6_keep 41 = .ok (.isub, 1) := by decide +kernel
theorem dX6_keep_42 : decode cX6_keep 42 = .ok (.invokestatic 165, 3) := by decide +kernel
theorem dX6_keep_45 : decode cX6_keep 45 = .ok (.istore 6, 2) := by decide +kernel
theorem dX6_keep_47 : decode cX6_keep 47 = .ok (.iload_n 3, 1) := by decide +kernel
theorem dX6_keep_48 : decode cX6_keep 48 = .ok (.iload_n 2, 1) := by decide +kernel
theorem dX6_keep_49 : decode cX6_keep 49 = .ok (.if_icmp .ne 6, 3) := by decide +kernel
theorem dX6_keep_52 : decode cX6_keep 52 = .ok (.iload 6, 2) := by decide +kernel
theorem dX6_keep_54 : decode cX6_keep 54 = .ok (.ireturn, 1) := by decide +kernel
theorem dX6_keep_55 : decode cX6_keep 55 = .ok (.iload 4, 2) := by decide +kernel
theorem dX6_keep_57 : decode cX6_keep 57 = .ok (.iload 6, 2) := by decide +kernel
theorem dX6_keep_59 : decode cX6_keep 59 = .ok (.iadd, 1) := by decide +kernel
theorem dX6_keep_60 : decode cX6_keep 60 = .ok (.istore 4, 2) := by decide +kernel
theorem dX6_keep_62 : decode cX6_keep 62 = .ok (.iinc 3 1, 3) := by decide +kernel
theorem dX6_keep_65 : decode cX6_keep 65 = .ok (.iload 5, 2) := by decide +kernel
theorem dX6_keep_67 : decode cX6_keep 67 = .ok (.iconst 2, 1) := by decide +kernel
theorem dX6_keep_68 : decode cX6_keep 68 = .ok (.imul, 1) := by decide +kernel
theorem dX6_keep_69 : decode cX6_keep 69 = .ok (.istore 5, 2) := by decide +kernel
theorem dX6_keep_71 : decode cX6_keep 71 = .ok (.goto (-41), 3) := by decide +kernel
theorem dX6_keep_74 : decode cX6_keep 74 = .ok (.iload_n 2, 1) := by decide +kernel
theorem dX6_keep_75 : decode cX6_keep 75 = .ok (.iconst (-1), 1) := by decide +kernel
theorem dX6_keep_76 : decode cX6_keep 76 = .ok (.if_icmp .ne 7, 3) := by decide +kernel
theorem dX6_keep_79 : decode cX6_keep 79 = .ok (.iload_n 3, 1) := by decide +kernel
theorem dX6_keep_80 : decode cX6_keep 80 = .ok (.goto 8, 3) := by decide +kernel
theorem dX6_keep_83 : decode cX6_keep 83 = .ok (.aload_n 0, 1) := by decide +kernel
theorem dX6_keep_84 : decode cX6_keep 84 = .ok (.iconst 1, 1) := by decide +kernel
theorem dX6_keep_85 : decode cX6_keep 85 = .ok (.invokevirtual 243, 3) := by decide +kernel
theorem dX6_keep_88 : decode cX6_keep 88 = .ok (.ireturn, 1) := by decide +kernel
theorem dX6_tellWeights_0 : decode cX6_tellWeights 0 = .ok (.iconst 0, 1) := by decide +kernel
theorem dX6_tellWeights_1 : decode cX6_tellWeights 1 = .ok (.istore_n 3, 1) := by decide +kernel
theorem dX6_tellWeights_2 : decode cX6_tellWeights 2 = .ok (.iload_n 3, 1) := by decide +kernel
theorem dX6_tellWeights_3 : decode cX6_tellWeights 3 = .ok (.aload_n 0, 1) := by decide +kernel
theorem dX6_tellWeights_4 : decode cX6_tellWeights 4 = .ok (.getfield 106, 3) := by decide +kernel
theorem dX6_tellWeights_7 : decode cX6_tellWeights 7 = .ok (.arraylength, 1) := by decide +kernel
theorem dX6_tellWeights_8 : decode cX6_tellWeights 8 = .ok (.if_icmp .ge 25, 3) := by decide +kernel
theorem dX6_tellWeights_11 : decode cX6_tellWeights 11 = .ok (.aload_n 0, 1) := by decide +kernel
theorem dX6_tellWeights_12 : decode cX6_tellWeights 12 = .ok (.getfield 106, 3) := by decide +kernel
theorem dX6_tellWeights_15 : decode cX6_tellWeights 15 = .ok (.iload_n 3, 1) := by decide +kernel
theorem dX6_tellWeights_16 : decode cX6_tellWeights 16 = .ok (.iload_n 3, 1) := by decide +kernel
theorem dX6_tellWeights_17 : decode cX6_tellWeights 17 = .ok (.iload_n 2, 1) := by decide +kernel
theorem dX6_tellWeights_18 : decode cX6_tellWeights 18 = .ok (.if_icmp .gt 7, 3) := by decide +kernel
theorem dX6_tellWeights_21 : decode cX6_tellWeights 21 = .ok (.iconst 1, 1) := by decide +kernel
theorem dX6_tellWeights_22 : decode cX6_tellWeights 22 = .ok (.goto 4, 3) := by decide +kernel
theorem dX6_tellWeights_25 : decode cX6_tellWeights 25 = .ok (.iconst 0, 1) := by decide +kernel
theorem dX6_tellWeights_26 : decode cX6_tellWeights 26 = .ok (.bastore, 1) := by decide +kernel
theorem dX6_tellWeights_27 : decode cX6_tellWeights 27 = .ok (.iinc 3 1, 3) := by decide +kernel
theorem dX6_tellWeights_30 : decode cX6_tellWeights 30 = .ok (.goto (-28), 3) := by decide +kernel
theorem dX6_tellWeights_33 : decode cX6_tellWeights 33 = .ok (.iconst 0, 1) := by decide +kernel
theorem dX6_tellWeights_34 : decode cX6_tellWeights 34 = .ok (.istore_n 3, 1) := by decide +kernel
theorem dX6_tellWeights_35 : decode cX6_tellWeights 35 = .ok (.iload_n 3, 1) := by decide +kernel
theorem dX6_tellWeights_36 : decode cX6_tellWeights 36 = .ok (.aload_n 0, 1) := by decide +kernel
theorem dX6_tellWeights_37 : decode cX6_tellWeights 37 = .ok (.getfield 25, 3) := by decide +kernel
theorem dX6_tellWeights_40 : decode cX6_tellWeights 40 = .ok (.iconst 1, 1) := by decide +kernel
theorem dX6_tellWeights_41 : decode cX6_tellWeights 41 = .ok (.iaload, 1) := by decide +kernel
theorem dX6_tellWeights_42 : decode cX6_tellWeights 42 = .ok (.if_icmp .ge 70, 3) := by decide +kernel
theorem dX6_tellWeights_45 : decode cX6_tellWeights 45 = .ok (.iload_n 1, 1) := by decide +kernel
theorem dX6_tellWeights_46 : decode cX6_tellWeights 46 = .ok (.iload_n 3, 1) := by decide +kernel
theorem dX6_tellWeights_47 : decode cX6_tellWeights 47 = .ok (.ishr, 1) := by decide +kernel
theorem dX6_tellWeights_48 : decode cX6_tellWeights 48 = .ok (.iconst 1, 1) := by decide +kernel
theorem dX6_tellWeights_49 : decode cX6_tellWeights 49 = .ok (.iand, 1) := by decide +kernel
theorem dX6_tellWeights_50 : decode cX6_tellWeights 50 = .ok (.ifCond .ne 6, 3) := by decide +kernel
theorem dX6_tellWeights_53 : decode cX6_tellWeights 53 = .ok (.goto 53, 3) := by decide +kernel
theorem dX6_tellWeights_56 : decode cX6_tellWeights 56 = .ok (.aload_n 0, 1) := by decide +kernel
theorem dX6_tellWeights_57 : decode cX6_tellWeights 57 = .ok (.getfield 106, 3) := by decide +kernel
theorem dX6_tellWeights_60 : decode cX6_tellWeights 60 = .ok (.arraylength, 1) := by decide +kernel
theorem dX6_tellWeights_61 : decode cX6_tellWeights 61 = .ok (.iconst 1, 1) := by decide +kernel
theorem dX6_tellWeights_62 : decode cX6_tellWeights 62 = .ok (.isub, 1) := by decide +kernel
theorem dX6_tellWeights_63 : decode cX6_tellWeights 63 = .ok (.istore 4, 2) := by decide +kernel
theorem dX6_tellWeights_65 : decode cX6_tellWeights 65 = .ok (.iload 4, 2) := by decide +kernel
theorem dX6_tellWeights_67 : decode cX6_tellWeights 67 = .ok (.aload_n 0, 1) := by decide +kernel
theorem dX6_tellWeights_68 : decode cX6_tellWeights 68 = .ok (.getfield 47, 3) := by decide +kernel
theorem dX6_tellWeights_71 : decode cX6_tellWeights 71 = .ok (.iload_n 3, 1) := by decide +kernel
theorem dX6_tellWeights_72 : decode cX6_tellWeights 72 = .ok (.iaload, 1) := by decide +kernel
theorem dX6_tellWeights_73 : decode cX6_tellWeights 73 = .ok (.if_icmp .lt 33, 3) := by decide +kernel
theorem dX6_tellWeights_76 : decode cX6_tellWeights 76 = .ok (.aload_n 0, 1) := by decide +kernel
theorem dX6_tellWeights_77 : decode cX6_tellWeights 77 = .ok (.getfield 106, 3) := by decide +kernel
theorem dX6_tellWeights_80 : decode cX6_tellWeights 80 = .ok (.iload 4, 2) := by decide +kernel
theorem dX6_tellWeights_82 : decode cX6_tellWeights 82 = .ok (.dup2, 1) := by decide +kernel
theorem dX6_tellWeights_83 : decode cX6_tellWeights 83 = .ok (.baload, 1) := by decide +kernel
theorem dX6_tellWeights_84 : decode cX6_tellWeights 84 = .ok (.aload_n 0, 1) := by decide +kernel
theorem dX6_tellWeights_85 : decode cX6_tellWeights 85 = .ok (.getfield 106, 3) := by decide +kernel
theorem dX6_tellWeights_88 : decode cX6_tellWeights 88 = .ok (.iload 4, 2) := by decide +kernel
theorem dX6_tellWeights_90 : decode cX6_tellWeights 90 = .ok (.aload_n 0, 1) := by decide +kernel
theorem dX6_tellWeights_91 : decode cX6_tellWeights 91 = .ok (.getfield 47, 3) := by decide +kernel
theorem dX6_tellWeights_94 : decode cX6_tellWeights 94 = .ok (.iload_n 3, 1) := by decide +kernel
theorem dX6_tellWeights_95 : decode cX6_tellWeights 95 = .ok (.iaload, 1) := by decide +kernel
theorem dX6_tellWeights_96 : decode cX6_tellWeights 96 = .ok (.isub, 1) := by decide +kernel
theorem dX6_tellWeights_97 : decode cX6_tellWeights 97 = .ok (.baload, 1) := by decide +kernel
theorem dX6_tellWeights_98 : decode cX6_tellWeights 98 = .ok (.ior, 1) := by decide +kernel
theorem dX6_tellWeights_99 : decode cX6_tellWeights 99 = .ok (.bastore, 1) := by decide +kernel
theorem dX6_tellWeights_100 : decode cX6_tellWeights 100 = .ok (.iinc 4 (-1), 3) := by decide +kernel
theorem dX6_tellWeights_103 : decode cX6_tellWeights 103 = .ok (.goto (-38), 3) := by decide +kernel
theorem dX6_tellWeights_106 : decode cX6_tellWeights 106 = .ok (.iinc 3 1, 3) := by decide +kernel
theorem dX6_tellWeights_109 : decode cX6_tellWeights 109 = .ok (.goto (-74), 3) := by decide +kernel
theorem dX6_tellWeights_112 : decode cX6_tellWeights 112 = .ok (.return_, 1) := by decide +kernel
theorem dX6_madeUpTo_0 : decode cX6_madeUpTo 0 = .ok (.iconst 0, 1) := by decide +kernel
theorem dX6_madeUpTo_1 : decode cX6_madeUpTo 1 = .ok (.istore_n 2, 1) := by decide +kernel
theorem dX6_madeUpTo_2 : decode cX6_madeUpTo 2 = .ok (.iconst 1, 1) := by decide +kernel
theorem dX6_madeUpTo_3 : decode cX6_madeUpTo 3 = .ok (.istore_n 3, 1) := by decide +kernel
theorem dX6_madeUpTo_4 : decode cX6_madeUpTo 4 = .ok (.iload_n 3, 1) := by decide +kernel
theorem dX6_madeUpTo_5 : decode cX6_madeUpTo 5 = .ok (.iload_n 1, 1) := by decide +kernel
theorem dX6_madeUpTo_6 : decode cX6_madeUpTo 6 = .ok (.if_icmp .gt 26, 3) := by decide +kernel
theorem dX6_madeUpTo_9 : decode cX6_madeUpTo 9 = .ok (.iload_n 2, 1) := by decide +kernel
theorem dX6_madeUpTo_10 : decode cX6_madeUpTo 10 = .ok (.aload_n 0, 1) := by decide +kernel
theorem dX6_madeUpTo_11 : decode cX6_madeUpTo 11 = .ok (.getfield 106, 3) := by decide +kernel
theorem dX6_madeUpTo_14 : decode cX6_madeUpTo 14 = .ok (.iload_n 3, 1) := by decide +kernel
theorem dX6_madeUpTo_15 : decode cX6_madeUpTo 15 = .ok (.baload, 1) := by decide +kernel
theorem dX6_madeUpTo_16 : decode cX6_madeUpTo 16 = .ok (.ifCond .eq 7, 3) := by decide +kernel
theorem dX6_madeUpTo_19 : decode cX6_madeUpTo 19 = .ok (.iconst 1, 1) := by decide +kernel
theorem dX6_madeUpTo_20 : decode cX6_madeUpTo 20 = .ok (.goto 4, 3) := by decide +kernel
theorem dX6_madeUpTo_23 : decode cX6_madeUpTo 23 = .ok (.iconst 0, 1) := by decide +kernel
theorem dX6_madeUpTo_24 : decode cX6_madeUpTo 24 = .ok (.iadd, 1) := by decide +kernel
theorem dX6_madeUpTo_25 : decode cX6_madeUpTo 25 = .ok (.istore_n 2, 1) := by decide +kernel
theorem dX6_madeUpTo_26 : decode cX6_madeUpTo 26 = .ok (.iinc 3 1, 3) := by decide +kernel
theorem dX6_madeUpTo_29 : decode cX6_madeUpTo 29 = .ok (.goto (-25), 3) := by decide +kernel
theorem dX6_madeUpTo_32 : decode cX6_madeUpTo 32 = .ok (.iload_n 2, 1) := by decide +kernel
theorem dX6_madeUpTo_33 : decode cX6_madeUpTo 33 = .ok (.ireturn, 1) := by decide +kernel
theorem dX6_fewest_0 : decode cX6_fewest 0 = .ok (.aload_n 0, 1) := by decide +kernel
theorem dX6_fewest_1 : decode cX6_fewest 1 = .ok (.iconst 0, 1) := by decide +kernel
theorem dX6_fewest_2 : decode cX6_fewest 2 = .ok (.putfield 128, 3) := by decide +kernel
theorem dX6_fewest_5 : decode cX6_fewest 5 = .ok (.iload_n 1, 1) := by decide +kernel
theorem dX6_fewest_6 : decode cX6_fewest 6 = .ok (.iconst 1, 1) := by decide +kernel
theorem dX6_fewest_7 : decode cX6_fewest 7 = .ok (.sipush 999, 3) := by decide +kernel
theorem dX6_fewest_10 : decode cX6_fewest 10 = .ok (.invokestatic 131, 3) := by decide +kernel
theorem dX6_fewest_13 : decode cX6_fewest 13 = .ok (.ifCond .ne 9, 3) := by decide +kernel
theorem dX6_fewest_16 : decode cX6_fewest 16 = .ok (.aload_n 0, 1) := by decide +kernel
theorem dX6_fewest_17 : decode cX6_fewest 17 = .ok (.iconst 1, 1) := by decide +kernel
theorem dX6_fewest_18 : decode cX6_fewest 18 = .ok (.invokevirtual 243, 3) := by decide +kernel
theorem dX6_fewest_21 : decode cX6_fewest 21 = .ok (.ireturn, 1) := by decide +kernel
theorem dX6_fewest_22 : decode cX6_fewest 22 = .ok (.iconst (-1), 1) := by decide +kernel
theorem dX6_fewest_23 : decode cX6_fewest 23 = .ok (.istore_n 2, 1) := by decide +kernel
theorem dX6_fewest_24 : decode cX6_fewest 24 = .ok (.iconst 0, 1) := by decide +kernel
theorem dX6_fewest_25 : decode cX6_fewest 25 = .ok (.istore_n 3, 1) := by decide +kernel
theorem dX6_fewest_26 : decode cX6_fewest 26 = .ok (.iload_n 3, 1) := by decide +kernel
theorem dX6_fewest_27 : decode cX6_fewest 27 = .ok (.iconst 1, 1) := by decide +kernel
theorem dX6_fewest_28 : decode cX6_fewest 28 = .ok (.aload_n 0, 1) := by decide +kernel
theorem dX6_fewest_29 : decode cX6_fewest 29 = .ok (.getfield 25, 3) := by decide +kernel
theorem dX6_fewest_32 : decode cX6_fewest 32 = .ok (.iconst 1, 1) := by decide +kernel
theorem dX6_fewest_33 : decode cX6_fewest 33 = .ok (.iaload, 1) := by decide +kernel
theorem dX6_fewest_34 : decode cX6_fewest 34 = .ok (.ishl, 1) := by decide +kernel
theorem dX6_fewest_35 : decode cX6_fewest 35 = .ok (.if_icmp .ge 54, 3) := by decide +kernel
theorem dX6_fewest_38 : decode cX6_fewest 38 = .ok (.aload_n 0, 1) := by decide +kernel
theorem dX6_fewest_39 : decode cX6_fewest 39 = .ok (.iload_n 3, 1) := by decide +kernel
theorem dX6_fewest_40 : decode cX6_fewest 40 = .ok (.invokevirtual 273, 3) := by decide +kernel
theorem dX6_fewest_43 : decode cX6_fewest 43 = .ok (.iload_n 1, 1) := by decide +kernel
theorem dX6_fewest_44 : decode cX6_fewest 44 = .ok (.if_icmp .lt 39, 3) := by decide +kernel
theorem dX6_fewest_47 : decode cX6_fewest 47 = .ok (.iload_n 2, 1) := by decide +kernel
theorem dX6_fewest_48 : decode cX6_fewest 48 = .ok (.iconst (-1), 1) := by decide +kernel
theorem dX6_fewest_49 : decode cX6_fewest 49 = .ok (.if_icmp .eq 17, 3) := by decide +kernel
theorem dX6_fewest_52 : decode cX6_fewest 52 = .ok (.iload_n 3, 1) := by decide +kernel
theorem dX6_fewest_53 : decode cX6_fewest 53 = .ok (.invokestatic 305, 3) := by decide +kernel
theorem dX6_fewest_56 : decode cX6_fewest 56 = .ok (.iload_n 2, 1) := by decide +kernel
theorem dX6_fewest_57 : decode cX6_fewest 57 = .ok (.invokestatic 305, 3) := by decide +kernel
theorem dX6_fewest_60 : decode cX6_fewest 60 = .ok (.if_icmp .lt 6, 3) := by decide +kernel
theorem dX6_fewest_63 : decode cX6_fewest 63 = .ok (.goto 20, 3) := by decide +kernel
theorem dX6_fewest_66 : decode cX6_fewest 66 = .ok (.aload_n 0, 1) := by decide +kernel
theorem dX6_fewest_67 : decode cX6_fewest 67 = .ok (.iload_n 3, 1) := by decide +kernel
theorem dX6_fewest_68 : decode cX6_fewest 68 = .ok (.iconst 0, 1) := by decide +kernel
theorem dX6_fewest_69 : decode cX6_fewest 69 = .ok (.invokevirtual 377, 3) := by decide +kernel
theorem dX6_fewest_72 : decode cX6_fewest 72 = .ok (.aload_n 0, 1) := by decide +kernel
theorem dX6_fewest_73 : decode cX6_fewest 73 = .ok (.iload_n 1, 1) := by decide +kernel
theorem dX6_fewest_74 : decode cX6_fewest 74 = .ok (.invokevirtual 380, 3) := by decide +kernel
theorem dX6_fewest_77 : decode cX6_fewest 77 = .ok (.iload_n 1, 1) := by decide +kernel
theorem dX6_fewest_78 : decode cX6_fewest 78 = .ok (.if_icmp .ne 5, 3) := by decide +kernel
theorem dX6_fewest_81 : decode cX6_fewest 81 = .ok (.iload_n 3, 1) := by decide +kernel
theorem dX6_fewest_82 : decode cX6_fewest 82 = .ok (.istore_n 2, 1) := by decide +kernel
theorem dX6_fewest_83 : decode cX6_fewest 83 = .ok (.iinc 3 1, 3) := by decide +kernel
theorem dX6_fewest_86 : decode cX6_fewest 86 = .ok (.goto (-60), 3) := by decide +kernel
theorem dX6_fewest_89 : decode cX6_fewest 89 = .ok (.iload_n 2, 1) := by decide +kernel
theorem dX6_fewest_90 : decode cX6_fewest 90 = .ok (.ireturn, 1) := by decide +kernel
theorem dX6_answers_0 : decode cX6_answers 0 = .ok (.aload_n 0, 1) := by decide +kernel
theorem dX6_answers_1 : decode cX6_answers 1 = .ok (.iconst 0, 1) := by decide +kernel
theorem dX6_answers_2 : decode cX6_answers 2 = .ok (.putfield 128, 3) := by decide +kernel
theorem dX6_answers_5 : decode cX6_answers 5 = .ok (.aload_n 0, 1) := by decide +kernel
theorem dX6_answers_6 : decode cX6_answers 6 = .ok (.iload_n 1, 1) := by decide +kernel
theorem dX6_answers_7 : decode cX6_answers 7 = .ok (.invokevirtual 263, 3) := by decide +kernel
theorem dX6_answers_10 : decode cX6_answers 10 = .ok (.ifCond .ne 9, 3) := by decide +kernel
theorem dX6_answers_13 : decode cX6_answers 13 = .ok (.aload_n 0, 1) := by decide +kernel
theorem dX6_answers_14 : decode cX6_answers 14 = .ok (.iconst 1, 1) := by decide +kernel
theorem dX6_answers_15 : decode cX6_answers 15 = .ok (.invokevirtual 243, 3) := by decide +kernel
theorem dX6_answers_18 : decode cX6_answers 18 = .ok (.ireturn, 1) := by decide +kernel
theorem dX6_answers_19 : decode cX6_answers 19 = .ok (.iload_n 2, 1) := by decide +kernel
theorem dX6_answers_20 : decode cX6_answers 20 = .ok (.iconst 1, 1) := by decide +kernel
theorem dX6_answers_21 : decode cX6_answers 21 = .ok (.sipush 999, 3) := by decide +kernel
theorem dX6_answers_24 : decode cX6_answers 24 = .ok (.invokestatic 131, 3) := by decide +kernel
theorem dX6_answers_27 : decode cX6_answers 27 = .ok (.ifCond .ne 9, 3) := by decide +kernel
theorem dX6_answers_30 : decode cX6_answers 30 = .ok (.aload_n 0, 1) := by decide +kernel
theorem dX6_answers_31 : decode cX6_answers 31 = .ok (.iconst 2, 1) := by decide +kernel
theorem dX6_answers_32 : decode cX6_answers 32 = .ok (.invokevirtual 243, 3) := by decide +kernel
theorem dX6_answers_35 : decode cX6_answers 35 = .ok (.ireturn, 1) := by decide +kernel
theorem dX6_answers_36 : decode cX6_answers 36 = .ok (.aload_n 0, 1) := by decide +kernel
theorem dX6_answers_37 : decode cX6_answers 37 = .ok (.aload_n 0, 1) := by decide +kernel
theorem dX6_answers_38 : decode cX6_answers 38 = .ok (.aload_n 0, 1) := by decide +kernel
theorem dX6_answers_39 : decode cX6_answers 39 = .ok (.getfield 41, 3) := by decide +kernel
theorem dX6_answers_42 : decode cX6_answers 42 = .ok (.iload_n 1, 1) := by decide +kernel
theorem dX6_answers_43 : decode cX6_answers 43 = .ok (.invokevirtual 266, 3) := by decide +kernel
theorem dX6_answers_46 : decode cX6_answers 46 = .ok (.iload_n 3, 1) := by decide +kernel
theorem dX6_answers_47 : decode cX6_answers 47 = .ok (.ifCond .eq 15, 3) := by decide +kernel
theorem dX6_answers_50 : decode cX6_answers 50 = .ok (.aload_n 0, 1) := by decide +kernel
theorem dX6_answers_51 : decode cX6_answers 51 = .ok (.getfield 41, 3) := by decide +kernel
theorem dX6_answers_54 : decode cX6_answers 54 = .ok (.bipush 12, 2) := by decide +kernel
theorem dX6_answers_56 : decode cX6_answers 56 = .ok (.iload_n 1, 1) := by decide +kernel
theorem dX6_answers_57 : decode cX6_answers 57 = .ok (.iadd, 1) := by decide +kernel
theorem dX6_answers_58 : decode cX6_answers 58 = .ok (.iaload, 1) := by decide +kernel
theorem dX6_answers_59 : decode cX6_answers 59 = .ok (.goto 4, 3) := by decide +kernel
theorem dX6_answers_62 : decode cX6_answers 62 = .ok (.iconst 0, 1) := by decide +kernel
theorem dX6_answers_63 : decode cX6_answers 63 = .ok (.invokevirtual 377, 3) := by decide +kernel
theorem dX6_answers_66 : decode cX6_answers 66 = .ok (.aload_n 0, 1) := by decide +kernel
theorem dX6_answers_67 : decode cX6_answers 67 = .ok (.iload_n 2, 1) := by decide +kernel
theorem dX6_answers_68 : decode cX6_answers 68 = .ok (.invokevirtual 380, 3) := by decide +kernel
theorem dX6_answers_71 : decode cX6_answers 71 = .ok (.ireturn, 1) := by decide +kernel
theorem dX6_round_0 : decode cX6_round 0 = .ok (.aload_n 0, 1) := by decide +kernel
theorem dX6_round_1 : decode cX6_round 1 = .ok (.iconst 0, 1) := by decide +kernel
theorem dX6_round_2 : decode cX6_round 2 = .ok (.putfield 128, 3) := by decide +kernel
theorem dX6_round_5 : decode cX6_round 5 = .ok (.aload_n 0, 1) := by decide +kernel
theorem dX6_round_6 : decode cX6_round 6 = .ok (.iload_n 1, 1) := by decide +kernel
theorem dX6_round_7 : decode cX6_round 7 = .ok (.invokevirtual 263, 3) := by decide +kernel
theorem dX6_round_10 : decode cX6_round 10 = .ok (.ifCond .eq 12, 3) := by decide +kernel
theorem dX6_round_13 : decode cX6_round 13 = .ok (.iload_n 2, 1) := by decide +kernel
theorem dX6_round_14 : decode cX6_round 14 = .ok (.iconst 0, 1) := by decide +kernel
theorem dX6_round_15 : decode cX6_round 15 = .ok (.iconst 2, 1) := by decide +kernel
theorem dX6_round_16 : decode cX6_round 16 = .ok (.invokestatic 131, 3) := by decide +kernel
theorem dX6_round_19 : decode cX6_round 19 = .ok (.ifCond .ne 9, 3) := by decide +kernel
theorem dX6_round_22 : decode cX6_round 22 = .ok (.aload_n 0, 1) := by decide +kernel
theorem dX6_round_23 : decode cX6_round 23 = .ok (.iconst 1, 1) := by decide +kernel
theorem dX6_round_24 : decode cX6_round 24 = .ok (.invokevirtual 243, 3) := by decide +kernel
theorem dX6_round_27 : decode cX6_round 27 = .ok (.ireturn, 1) := by decide +kernel
theorem dX6_round_28 : decode cX6_round 28 = .ok (.aload_n 0, 1) := by decide +kernel
theorem dX6_round_29 : decode cX6_round 29 = .ok (.getfield 41, 3) := by decide +kernel
theorem dX6_round_32 : decode cX6_round 32 = .ok (.aload_n 0, 1) := by decide +kernel
theorem dX6_round_33 : decode cX6_round 33 = .ok (.getfield 100, 3) := by decide +kernel
theorem dX6_round_36 : decode cX6_round 36 = .ok (.invokestatic 249, 3) := by decide +kernel
theorem dX6_round_39 : decode cX6_round 39 = .ok (.iconst 0, 1) := by decide +kernel
theorem dX6_round_40 : decode cX6_round 40 = .ok (.istore_n 3, 1) := by decide +kernel
theorem dX6_round_41 : decode cX6_round 41 = .ok (.iload_n 1, 1) := by decide +kernel
theorem dX6_round_42 : decode cX6_round 42 = .ok (.istore 4, 2) := by decide +kernel
theorem dX6_round_44 : decode cX6_round 44 = .ok (.aload_n 0, 1) := by decide +kernel
theorem dX6_round_45 : decode cX6_round 45 = .ok (.aload_n 0, 1) := by decide +kernel
theorem dX6_round_46 : decode cX6_round 46 = .ok (.getfield 100, 3) := by decide +kernel
theorem dX6_round_49 : decode cX6_round 49 = .ok (.iload_n 1, 1) := by decide +kernel
theorem dX6_round_50 : decode cX6_round 50 = .ok (.aload_n 0, 1) := by decide +kernel
theorem dX6_round_51 : decode cX6_round 51 = .ok (.getfield 253, 3) := by decide +kernel
theorem dX6_round_54 : decode cX6_round 54 = .ok (.invokevirtual 311, 3) := by decide +kernel
theorem dX6_round_57 : decode cX6_round 57 = .ok (.istore 5, 2) := by decide +kernel
theorem dX6_round_59 : decode cX6_round 59 = .ok (.iload 5, 2) := by decide +kernel
theorem dX6_round_61 : decode cX6_round 61 = .ok (.iconst (-1), 1) := by decide +kernel
theorem dX6_round_62 : decode cX6_round 62 = .ok (.if_icmp .eq 104, 3) := by decide +kernel
theorem dX6_round_65 : decode cX6_round 65 = .ok (.iload_n 3, 1) := by decide +kernel
theorem dX6_round_66 : decode cX6_round 66 = .ok (.bipush 20, 2) := by decide +kernel
theorem dX6_round_68 : decode cX6_round 68 = .ok (.if_icmp .ge 98, 3) := by decide +kernel
theorem dX6_round_71 : decode cX6_round 71 = .ok (.aload_n 0, 1) := by decide +kernel
theorem dX6_round_72 : decode cX6_round 72 = .ok (.aload_n 0, 1) := by decide +kernel
theorem dX6_round_73 : decode cX6_round 73 = .ok (.getfield 100, 3) := by decide +kernel
theorem dX6_round_76 : decode cX6_round 76 = .ok (.iload 4, 2) := by decide +kernel
theorem dX6_round_78 : decode cX6_round 78 = .ok (.aload_n 0, 1) := by decide +kernel
theorem dX6_round_79 : decode cX6_round 79 = .ok (.getfield 100, 3) := by decide +kernel
theorem dX6_round_82 : decode cX6_round 82 = .ok (.bipush 24, 2) := by decide +kernel
theorem dX6_round_84 : decode cX6_round 84 = .ok (.iload 4, 2) := by decide +kernel
theorem dX6_round_86 : decode cX6_round 86 = .ok (.iadd, 1) := by decide +kernel
theorem dX6_round_87 : decode cX6_round 87 = .ok (.iaload, 1) := by decide +kernel
theorem dX6_round_88 : decode cX6_round 88 = .ok (.invokevirtual 315, 3) := by decide +kernel
theorem dX6_round_91 : decode cX6_round 91 = .ok (.istore 6, 2) := by decide +kernel
theorem dX6_round_93 : decode cX6_round 93 = .ok (.aload_n 0, 1) := by decide +kernel
theorem dX6_round_94 : decode cX6_round 94 = .ok (.aload_n 0, 1) := by decide +kernel
theorem dX6_round_95 : decode cX6_round 95 = .ok (.getfield 100, 3) := by decide +kernel
theorem dX6_round_98 : decode cX6_round 98 = .ok (.iload 4, 2) := by decide +kernel
theorem dX6_round_100 : decode cX6_round 100 = .ok (.iload 5, 2) := by decide +kernel
theorem dX6_round_102 : decode cX6_round 102 = .ok (.aload_n 0, 1) := by decide +kernel
theorem dX6_round_103 : decode cX6_round 103 = .ok (.aload_n 0, 1) := by decide +kernel
theorem dX6_round_104 : decode cX6_round 104 = .ok (.getfield 100, 3) := by decide +kernel
theorem dX6_round_107 : decode cX6_round 107 = .ok (.iload 4, 2) := by decide +kernel
theorem dX6_round_109 : decode cX6_round 109 = .ok (.iload 5, 2) := by decide +kernel
theorem dX6_round_111 : decode cX6_round 111 = .ok (.aload_n 0, 1) := by decide +kernel
theorem dX6_round_112 : decode cX6_round 112 = .ok (.getfield 100, 3) := by decide +kernel
theorem dX6_round_115 : decode cX6_round 115 = .ok (.bipush 18, 2) := by decide +kernel
theorem dX6_round_117 : decode cX6_round 117 = .ok (.iload 4, 2) := by decide +kernel
theorem dX6_round_119 : decode cX6_round 119 = .ok (.iadd, 1) := by decide +kernel
theorem dX6_round_120 : decode cX6_round 120 = .ok (.iaload, 1) := by decide +kernel
theorem dX6_round_121 : decode cX6_round 121 = .ok (.invokevirtual 297, 3) := by decide +kernel
theorem dX6_round_124 : decode cX6_round 124 = .ok (.iload 6, 2) := by decide +kernel
theorem dX6_round_126 : decode cX6_round 126 = .ok (.invokevirtual 285, 3) := by decide +kernel
theorem dX6_round_129 : decode cX6_round 129 = .ok (.pop, 1) := by decide +kernel
theorem dX6_round_130 : decode cX6_round 130 = .ok (.iload 6, 2) := by decide +kernel
theorem dX6_round_132 : decode cX6_round 132 = .ok (.istore 4, 2) := by decide +kernel
theorem dX6_round_134 : decode cX6_round 134 = .ok (.iinc 3 1, 3) := by decide +kernel
theorem dX6_round_137 : decode cX6_round 137 = .ok (.iload 4, 2) := by decide +kernel
theorem dX6_round_139 : decode cX6_round 139 = .ok (.iload_n 1, 1) := by decide +kernel
theorem dX6_round_140 : decode cX6_round 140 = .ok (.if_icmp .ne 7, 3) := by decide +kernel
theorem dX6_round_143 : decode cX6_round 143 = .ok (.iconst (-1), 1) := by decide +kernel
theorem dX6_round_144 : decode cX6_round 144 = .ok (.goto 17, 3) := by decide +kernel
theorem dX6_round_147 : decode cX6_round 147 = .ok (.aload_n 0, 1) := by decide +kernel
theorem dX6_round_148 : decode cX6_round 148 = .ok (.aload_n 0, 1) := by decide +kernel
theorem dX6_round_149 : decode cX6_round 149 = .ok (.getfield 100, 3) := by decide +kernel
theorem dX6_round_152 : decode cX6_round 152 = .ok (.iload 4, 2) := by decide +kernel
theorem dX6_round_154 : decode cX6_round 154 = .ok (.aload_n 0, 1) := by decide +kernel
theorem dX6_round_155 : decode cX6_round 155 = .ok (.getfield 253, 3) := by decide +kernel
theorem dX6_round_158 : decode cX6_round 158 = .ok (.invokevirtual 311, 3) := by decide +kernel
theorem dX6_round_161 : decode cX6_round 161 = .ok (.istore 5, 2) := by decide +kernel
theorem dX6_round_163 : decode cX6_round 163 = .ok (.goto (-104), 3) := by decide +kernel
theorem dX6_round_166 : decode cX6_round 166 = .ok (.iload_n 2, 1) := by decide +kernel
theorem dX6_round_167 : decode cX6_round 167 = .ok (.ifCond .ne 7, 3) := by decide +kernel
theorem dX6_round_170 : decode cX6_round 170 = .ok (.iload_n 3, 1) := by decide +kernel
theorem dX6_round_171 : decode cX6_round 171 = .ok (.goto 40, 3) := by decide +kernel
theorem dX6_round_174 : decode cX6_round 174 = .ok (.iload_n 2, 1) := by decide +kernel
theorem dX6_round_175 : decode cX6_round 175 = .ok (.iconst 1, 1) := by decide +kernel
theorem dX6_round_176 : decode cX6_round 176 = .ok (.if_icmp .ne 8, 3) := by decide +kernel
theorem dX6_round_179 : decode cX6_round 179 = .ok (.iload 4, 2) := by decide +kernel
theorem dX6_round_181 : decode cX6_round 181 = .ok (.goto 30, 3) := by decide +kernel
theorem dX6_round_184 : decode cX6_round 184 = .ok (.aload_n 0, 1) := by decide +kernel
theorem dX6_round_185 : decode cX6_round 185 = .ok (.aload_n 0, 1) := by decide +kernel
theorem dX6_round_186 : decode cX6_round 186 = .ok (.aload_n 0, 1) := by decide +kernel
theorem dX6_round_187 : decode cX6_round 187 = .ok (.getfield 100, 3) := by decide +kernel
theorem dX6_round_190 : decode cX6_round 190 = .ok (.iload_n 1, 1) := by decide +kernel
theorem dX6_round_191 : decode cX6_round 191 = .ok (.invokevirtual 266, 3) := by decide +kernel
theorem dX6_round_194 : decode cX6_round 194 = .ok (.invokevirtual 270, 3) := by decide +kernel
theorem dX6_round_197 : decode cX6_round 197 = .ok (.aload_n 0, 1) := by decide +kernel
theorem dX6_round_198 : decode cX6_round 198 = .ok (.aload_n 0, 1) := by decide +kernel
theorem dX6_round_199 : decode cX6_round 199 = .ok (.aload_n 0, 1) := by decide +kernel
theorem dX6_round_200 : decode cX6_round 200 = .ok (.getfield 41, 3) := by decide +kernel
theorem dX6_round_203 : decode cX6_round 203 = .ok (.iload_n 1, 1) := by decide +kernel
theorem dX6_round_204 : decode cX6_round 204 = .ok (.invokevirtual 266, 3) := by decide +kernel
theorem dX6_round_207 : decode cX6_round 207 = .ok (.invokevirtual 270, 3) := by decide +kernel
theorem dX6_round_210 : decode cX6_round 210 = .ok (.isub, 1) := by decide +kernel
theorem dX6_round_211 : decode cX6_round 211 = .ok (.ireturn, 1) := by decide +kernel
theorem dX6_dry_0 : decode cX6_dry 0 = .ok (.iconst 0, 1) := by decide +kernel
theorem dX6_dry_1 : decode cX6_dry 1 = .ok (.istore_n 1, 1) := by decide +kernel
theorem dX6_dry_2 : decode cX6_dry 2 = .ok (.iload_n 1, 1) := by decide +kernel
theorem dX6_dry_3 : decode cX6_dry 3 = .ok (.aload_n 0, 1) := by decide +kernel
theorem dX6_dry_4 : decode cX6_dry 4 = .ok (.getfield 25, 3) := by decide +kernel
theorem dX6_dry_7 : decode cX6_dry 7 = .ok (.iconst 1, 1) := by decide +kernel
theorem dX6_dry_8 : decode cX6_dry 8 = .ok (.iaload, 1) := by decide +kernel
theorem dX6_dry_9 : decode cX6_dry 9 = .ok (.if_icmp .ge 38, 3) := by decide +kernel
theorem dX6_dry_12 : decode cX6_dry 12 = .ok (.aload_n 0, 1) := by decide +kernel
theorem dX6_dry_13 : decode cX6_dry 13 = .ok (.getfield 53, 3) := by decide +kernel
theorem dX6_dry_16 : decode cX6_dry 16 = .ok (.iload_n 1, 1) := by decide +kernel
theorem dX6_dry_17 : decode cX6_dry 17 = .ok (.baload, 1) := by decide +kernel
theorem dX6_dry_18 : decode cX6_dry 18 = .ok (.ifCond .eq 23, 3) := by decide +kernel
theorem dX6_dry_21 : decode cX6_dry 21 = .ok (.aload_n 0, 1) := by decide +kernel
theorem dX6_dry_22 : decode cX6_dry 22 = .ok (.getfield 47, 3) := by decide +kernel
theorem dX6_dry_25 : decode cX6_dry 25 = .ok (.iload_n 1, 1) := by decide +kernel
theorem dX6_dry_26 : decode cX6_dry 26 = .ok (.iaload, 1) := by decide +kernel
theorem dX6_dry_27 : decode cX6_dry 27 = .ok (.iconst 1, 1) := by decide +kernel
theorem dX6_dry_28 : decode cX6_dry 28 = .ok (.if_icmp .le 13, 3) := by decide +kernel
theorem dX6_dry_31 : decode cX6_dry 31 = .ok (.aload_n 0, 1) := by decide +kernel
theorem dX6_dry_32 : decode cX6_dry 32 = .ok (.getfield 47, 3) := by decide +kernel
theorem dX6_dry_35 : decode cX6_dry 35 = .ok (.iload_n 1, 1) := by decide +kernel
theorem dX6_dry_36 : decode cX6_dry 36 = .ok (.dup2, 1) := by decide +kernel
theorem dX6_dry_37 : decode cX6_dry 37 = .ok (.iaload, 1) := by decide +kernel
theorem dX6_dry_38 : decode cX6_dry 38 = .ok (.iconst 1, 1) := by decide +kernel
theorem dX6_dry_39 : decode cX6_dry 39 = .ok (.isub, 1) := by decide +kernel
theorem dX6_dry_40 : decode cX6_dry 40 = .ok (.iastore, 1) := by decide +kernel
theorem dX6_dry_41 : decode cX6_dry 41 = .ok (.iinc 1 1, 3) := by decide +kernel
theorem dX6_dry_44 : decode cX6_dry 44 = .ok (.goto (-42), 3) := by decide +kernel
theorem dX6_dry_47 : decode cX6_dry 47 = .ok (.return_, 1) := by decide +kernel
theorem dX6_days_0 : decode cX6_days 0 = .ok (.aload_n 0, 1) := by decide +kernel
theorem dX6_days_1 : decode cX6_days 1 = .ok (.iconst 0, 1) := by decide +kernel
theorem dX6_days_2 : decode cX6_days 2 = .ok (.putfield 128, 3) := by decide +kernel
theorem dX6_days_5 : decode cX6_days 5 = .ok (.iload_n 1, 1) := by decide +kernel
theorem dX6_days_6 : decode cX6_days 6 = .ok (.iconst 0, 1) := by decide +kernel
theorem dX6_days_7 : decode cX6_days 7 = .ok (.bipush 60, 2) := by decide +kernel
theorem dX6_days_9 : decode cX6_days 9 = .ok (.invokestatic 131, 3) := by decide +kernel
theorem dX6_days_12 : decode cX6_days 12 = .ok (.ifCond .ne 9, 3) := by decide +kernel
theorem dX6_days_15 : decode cX6_days 15 = .ok (.aload_n 0, 1) := by decide +kernel
theorem dX6_days_16 : decode cX6_days 16 = .ok (.iconst 1, 1) := by decide +kernel
theorem dX6_days_17 : decode cX6_days 17 = .ok (.invokevirtual 243, 3) := by decide +kernel
theorem dX6_days_20 : decode cX6_days 20 = .ok (.ireturn, 1) := by decide +kernel
theorem dX6_days_21 : decode cX6_days 21 = .ok (.iconst 0, 1) := by decide +kernel
theorem dX6_days_22 : decode cX6_days 22 = .ok (.istore_n 2, 1) := by decide +kernel
theorem dX6_days_23 : decode cX6_days 23 = .ok (.iconst 0, 1) := by decide +kernel
theorem dX6_days_24 : decode cX6_days 24 = .ok (.istore_n 3, 1) := by decide +kernel
theorem dX6_days_25 : decode cX6_days 25 = .ok (.iload_n 3, 1) := by decide +kernel
theorem dX6_days_26 : decode cX6_days 26 = .ok (.iload_n 1, 1) := by decide +kernel
theorem dX6_days_27 : decode cX6_days 27 = .ok (.if_icmp .ge 131, 3) := by decide +kernel
theorem dX6_days_30 : decode cX6_days 30 = .ok (.iconst 0, 1) := by decide +kernel
theorem dX6_days_31 : decode cX6_days 31 = .ok (.istore 4, 2) := by decide +kernel
theorem dX6_days_33 : decode cX6_days 33 = .ok (.iload 4, 2) := by decide +kernel
theorem dX6_days_35 : decode cX6_days 35 = .ok (.aload_n 0, 1) := by decide +kernel
theorem dX6_days_36 : decode cX6_days 36 = .ok (.getfield 25, 3) := by decide +kernel
theorem dX6_days_39 : decode cX6_days 39 = .ok (.iconst 0, 1) := by decide +kernel
theorem dX6_days_40 : decode cX6_days 40 = .ok (.iaload, 1) := by decide +kernel
theorem dX6_days_41 : decode cX6_days 41 = .ok (.if_icmp .ge 97, 3) := by decide +kernel
theorem dX6_days_44 : decode cX6_days 44 = .ok (.aload_n 0, 1) := by decide +kernel
theorem dX6_days_45 : decode cX6_days 45 = .ok (.aload_n 0, 1) := by decide +kernel
theorem dX6_days_46 : decode cX6_days 46 = .ok (.getfield 41, 3) := by decide +kernel
theorem dX6_days_49 : decode cX6_days 49 = .ok (.iload 4, 2) := by decide +kernel
theorem dX6_days_51 : decode cX6_days 51 = .ok (.aload_n 0, 1) := by decide +kernel
theorem dX6_days_52 : decode cX6_days 52 = .ok (.getfield 253, 3) := by decide +kernel
theorem dX6_days_55 : decode cX6_days 55 = .ok (.invokevirtual 311, 3) := by decide +kernel
theorem dX6_days_58 : decode cX6_days 58 = .ok (.istore 5, 2) := by decide +kernel
theorem dX6_days_60 : decode cX6_days 60 = .ok (.iload 5, 2) := by decide +kernel
theorem dX6_days_62 : decode cX6_days 62 = .ok (.iconst (-1), 1) := by decide +kernel
theorem dX6_days_63 : decode cX6_days 63 = .ok (.if_icmp .eq 69, 3) := by decide +kernel
theorem dX6_days_66 : decode cX6_days 66 = .ok (.aload_n 0, 1) := by decide +kernel
theorem dX6_days_67 : decode cX6_days 67 = .ok (.getfield 256, 3) := by decide +kernel
theorem dX6_days_70 : decode cX6_days 70 = .ok (.sipush 200, 3) := by decide +kernel
theorem dX6_days_73 : decode cX6_days 73 = .ok (.if_icmp .ne 6, 3) := by decide +kernel
theorem dX6_days_76 : decode cX6_days 76 = .ok (.goto 56, 3) := by decide +kernel
theorem dX6_days_79 : decode cX6_days 79 = .ok (.aload_n 0, 1) := by decide +kernel
theorem dX6_days_80 : decode cX6_days 80 = .ok (.iload 4, 2) := by decide +kernel
theorem dX6_days_82 : decode cX6_days 82 = .ok (.iload 5, 2) := by decide +kernel
theorem dX6_days_84 : decode cX6_days 84 = .ok (.aload_n 0, 1) := by decide +kernel
theorem dX6_days_85 : decode cX6_days 85 = .ok (.aload_n 0, 1) := by decide +kernel
theorem dX6_days_86 : decode cX6_days 86 = .ok (.getfield 41, 3) := by decide +kernel
theorem dX6_days_89 : decode cX6_days 89 = .ok (.iload 4, 2) := by decide +kernel
theorem dX6_days_91 : decode cX6_days 91 = .ok (.iload 5, 2) := by decide +kernel
theorem dX6_days_93 : decode cX6_days 93 = .ok (.aload_n 0, 1) := by decide +kernel
theorem dX6_days_94 : decode cX6_days 94 = .ok (.getfield 41, 3) := by decide +kernel
theorem dX6_days_97 : decode cX6_days 97 = .ok (.bipush 18, 2) := by decide +kernel
theorem dX6_days_99 : decode cX6_days 99 = .ok (.iload 4, 2) := by decide +kernel
theorem dX6_days_101 : decode cX6_days 101 = .ok (.iadd, 1) := by decide +kernel
theorem dX6_days_102 : decode cX6_days 102 = .ok (.iaload, 1) := by decide +kernel
theorem dX6_days_103 : decode cX6_days 103 = .ok (.invokevirtual 297, 3) := by decide +kernel
theorem dX6_days_106 : decode cX6_days 106 = .ok (.aload_n 0, 1) := by decide +kernel
theorem dX6_days_107 : decode cX6_days 107 = .ok (.aload_n 0, 1) := by decide +kernel
theorem dX6_days_108 : decode cX6_days 108 = .ok (.getfield 41, 3) := by decide +kernel
theorem dX6_days_111 : decode cX6_days 111 = .ok (.iload 4, 2) := by decide +kernel
theorem dX6_days_113 : decode cX6_days 113 = .ok (.aload_n 0, 1) := by decide +kernel
theorem dX6_days_114 : decode cX6_days 114 = .ok (.getfield 41, 3) := by decide +kernel
theorem dX6_days_117 : decode cX6_days 117 = .ok (.bipush 24, 2) := by decide +kernel
theorem dX6_days_119 : decode cX6_days 119 = .ok (.iload 4, 2) := by decide +kernel
theorem dX6_days_121 : decode cX6_days 121 = .ok (.iadd, 1) := by decide +kernel
theorem dX6_days_122 : decode cX6_days 122 = .ok (.iaload, 1) := by decide +kernel
theorem dX6_days_123 : decode cX6_days 123 = .ok (.invokevirtual 315, 3) := by decide +kernel
theorem dX6_days_126 : decode cX6_days 126 = .ok (.invokevirtual 293, 3) := by decide +kernel
theorem dX6_days_129 : decode cX6_days 129 = .ok (.iinc 2 1, 3) := by decide +kernel
theorem dX6_days_132 : decode cX6_days 132 = .ok (.iinc 4 1, 3) := by decide +kernel
theorem dX6_days_135 : decode cX6_days 135 = .ok (.goto (-102), 3) := by decide +kernel
theorem dX6_days_138 : decode cX6_days 138 = .ok (.aload_n 0, 1) := by decide +kernel
theorem dX6_days_139 : decode cX6_days 139 = .ok (.invokevirtual 383, 3) := by decide +kernel
theorem dX6_days_142 : decode cX6_days 142 = .ok (.aload_n 0, 1) := by decide +kernel
theorem dX6_days_143 : decode cX6_days 143 = .ok (.dup, 1) := by decide +kernel
theorem dX6_days_144 : decode cX6_days 144 = .ok (.getfield 253, 3) := by decide +kernel
theorem dX6_days_147 : decode cX6_days 147 = .ok (.iconst 1, 1) := by decide +kernel
theorem dX6_days_148 : decode cX6_days 148 = .ok (.iadd, 1) := by decide +kernel
theorem dX6_days_149 : decode cX6_days 149 = .ok (.putfield 253, 3) := by decide +kernel
theorem dX6_days_152 : decode cX6_days 152 = .ok (.iinc 3 1, 3) := by decide +kernel
theorem dX6_days_155 : decode cX6_days 155 = .ok (.goto (-130), 3) := by decide +kernel
theorem dX6_days_158 : decode cX6_days 158 = .ok (.iload_n 2, 1) := by decide +kernel
theorem dX6_days_159 : decode cX6_days 159 = .ok (.ireturn, 1) := by decide +kernel
theorem dX6_isStill_0 : decode cX6_isStill 0 = .ok (.iconst 0, 1) := by decide +kernel
theorem dX6_isStill_1 : decode cX6_isStill 1 = .ok (.istore_n 3, 1) := by decide +kernel
theorem dX6_isStill_2 : decode cX6_isStill 2 = .ok (.iload_n 3, 1) := by decide +kernel
theorem dX6_isStill_3 : decode cX6_isStill 3 = .ok (.aload_n 0, 1) := by decide +kernel
theorem dX6_isStill_4 : decode cX6_isStill 4 = .ok (.getfield 25, 3) := by decide +kernel
theorem dX6_isStill_7 : decode cX6_isStill 7 = .ok (.iconst 0, 1) := by decide +kernel
theorem dX6_isStill_8 : decode cX6_isStill 8 = .ok (.iaload, 1) := by decide +kernel
theorem dX6_isStill_9 : decode cX6_isStill 9 = .ok (.if_icmp .ge 40, 3) := by decide +kernel
theorem dX6_isStill_12 : decode cX6_isStill 12 = .ok (.aload_n 0, 1) := by decide +kernel
theorem dX6_isStill_13 : decode cX6_isStill 13 = .ok (.getfield 29, 3) := by decide +kernel
theorem dX6_isStill_16 : decode cX6_isStill 16 = .ok (.iload_n 3, 1) := by decide +kernel
theorem dX6_isStill_17 : decode cX6_isStill 17 = .ok (.iaload, 1) := by decide +kernel
theorem dX6_isStill_18 : decode cX6_isStill 18 = .ok (.iconst 4, 1) := by decide +kernel
theorem dX6_isStill_19 : decode cX6_isStill 19 = .ok (.if_icmp .ne 24, 3) := by decide +kernel
theorem dX6_isStill_22 : decode cX6_isStill 22 = .ok (.iload_n 2, 1) := by decide +kernel
theorem dX6_isStill_23 : decode cX6_isStill 23 = .ok (.aload_n 0, 1) := by decide +kernel
theorem dX6_isStill_24 : decode cX6_isStill 24 = .ok (.getfield 32, 3) := by decide +kernel
theorem dX6_isStill_27 : decode cX6_isStill 27 = .ok (.iload_n 3, 1) := by decide +kernel
theorem dX6_isStill_28 : decode cX6_isStill 28 = .ok (.iaload, 1) := by decide +kernel
theorem dX6_isStill_29 : decode cX6_isStill 29 = .ok (.if_icmp .ge 14, 3) := by decide +kernel
theorem dX6_isStill_32 : decode cX6_isStill 32 = .ok (.aload_n 1, 1) := by decide +kernel
theorem dX6_isStill_33 : decode cX6_isStill 33 = .ok (.bipush 18, 2) := by decide +kernel
theorem dX6_isStill_35 : decode cX6_isStill 35 = .ok (.iload_n 3, 1) := by decide +kernel
theorem dX6_isStill_36 : decode cX6_isStill 36 = .ok (.iadd, 1) := by decide +kernel
theorem dX6_isStill_37 : decode cX6_isStill 37 = .ok (.iaload, 1) := by decide +kernel
theorem dX6_isStill_38 : decode cX6_isStill 38 = .ok (.ifCond .le 5, 3) := by decide +kernel
theorem dX6_isStill_41 : decode cX6_isStill 41 = .ok (.iconst 0, 1) := by decide +kernel
theorem dX6_isStill_42 : decode cX6_isStill 42 = .ok (.ireturn, 1) := by decide +kernel
theorem dX6_isStill_43 : decode cX6_isStill 43 = .ok (.iinc 3 1, 3) := by decide +kernel
theorem dX6_isStill_46 : decode cX6_isStill 46 = .ok (.goto (-44), 3) := by decide +kernel
theorem dX6_isStill_49 : decode cX6_isStill 49 = .ok (.iconst 0, 1) := by decide +kernel
theorem dX6_isStill_50 : decode cX6_isStill 50 = .ok (.istore_n 3, 1) := by decide +kernel
theorem dX6_isStill_51 : decode cX6_isStill 51 = .ok (.iload_n 3, 1) := by decide +kernel
theorem dX6_isStill_52 : decode cX6_isStill 52 = .ok (.aload_n 0, 1) := by decide +kernel
theorem dX6_isStill_53 : decode cX6_isStill 53 = .ok (.getfield 25, 3) := by decide +kernel
theorem dX6_isStill_56 : decode cX6_isStill 56 = .ok (.iconst 1, 1) := by decide +kernel
theorem dX6_isStill_57 : decode cX6_isStill 57 = .ok (.iaload, 1) := by decide +kernel
theorem dX6_isStill_58 : decode cX6_isStill 58 = .ok (.if_icmp .ge 30, 3) := by decide +kernel
theorem dX6_isStill_61 : decode cX6_isStill 61 = .ok (.aload_n 0, 1) := by decide +kernel
theorem dX6_isStill_62 : decode cX6_isStill 62 = .ok (.getfield 53, 3) := by decide +kernel
theorem dX6_isStill_65 : decode cX6_isStill 65 = .ok (.iload_n 3, 1) := by decide +kernel
theorem dX6_isStill_66 : decode cX6_isStill 66 = .ok (.baload, 1) := by decide +kernel
theorem dX6_isStill_67 : decode cX6_isStill 67 = .ok (.ifCond .eq 15, 3) := by decide +kernel
theorem dX6_isStill_70 : decode cX6_isStill 70 = .ok (.aload_n 0, 1) := by decide +kernel
theorem dX6_isStill_71 : decode cX6_isStill 71 = .ok (.getfield 47, 3) := by decide +kernel
theorem dX6_isStill_74 : decode cX6_isStill 74 = .ok (.iload_n 3, 1) := by decide +kernel
theorem dX6_isStill_75 : decode cX6_isStill 75 = .ok (.iaload, 1) := by decide +kernel
theorem dX6_isStill_76 : decode cX6_isStill 76 = .ok (.iconst 1, 1) := by decide +kernel
theorem dX6_isStill_77 : decode cX6_isStill 77 = .ok (.if_icmp .le 5, 3) := by decide +kernel
theorem dX6_isStill_80 : decode cX6_isStill 80 = .ok (.iconst 0, 1) := by decide +kernel
theorem dX6_isStill_81 : decode cX6_isStill 81 = .ok (.ireturn, 1) := by decide +kernel
theorem dX6_isStill_82 : decode cX6_isStill 82 = .ok (.iinc 3 1, 3) := by decide +kernel
theorem dX6_isStill_85 : decode cX6_isStill 85 = .ok (.goto (-34), 3) := by decide +kernel
theorem dX6_isStill_88 : decode cX6_isStill 88 = .ok (.iconst 1, 1) := by decide +kernel
theorem dX6_isStill_89 : decode cX6_isStill 89 = .ok (.ireturn, 1) := by decide +kernel
theorem dX6_stillFrom_0 : decode cX6_stillFrom 0 = .ok (.aload_n 0, 1) := by decide +kernel
theorem dX6_stillFrom_1 : decode cX6_stillFrom 1 = .ok (.getfield 253, 3) := by decide +kernel
theorem dX6_stillFrom_4 : decode cX6_stillFrom 4 = .ok (.istore_n 1, 1) := by decide +kernel
theorem dX6_stillFrom_5 : decode cX6_stillFrom 5 = .ok (.iload_n 1, 1) := by decide +kernel
theorem dX6_stillFrom_6 : decode cX6_stillFrom 6 = .ok (.aload_n 0, 1) := by decide +kernel
theorem dX6_stillFrom_7 : decode cX6_stillFrom 7 = .ok (.getfield 253, 3) := by decide +kernel
theorem dX6_stillFrom_10 : decode cX6_stillFrom 10 = .ok (.bipush 100, 2) := by decide +kernel
theorem dX6_stillFrom_12 : decode cX6_stillFrom 12 = .ok (.iadd, 1) := by decide +kernel
theorem dX6_stillFrom_13 : decode cX6_stillFrom 13 = .ok (.if_icmp .ge 124, 3) := by decide +kernel
theorem dX6_stillFrom_16 : decode cX6_stillFrom 16 = .ok (.iconst 0, 1) := by decide +kernel
theorem dX6_stillFrom_17 : decode cX6_stillFrom 17 = .ok (.istore_n 2, 1) := by decide +kernel
theorem dX6_stillFrom_18 : decode cX6_stillFrom 18 = .ok (.iconst 0, 1) := by decide +kernel
theorem dX6_stillFrom_19 : decode cX6_stillFrom 19 = .ok (.istore_n 3, 1) := by decide +kernel
theorem dX6_stillFrom_20 : decode cX6_stillFrom 20 = .ok (.iload_n 3, 1) := by decide +kernel
theorem dX6_stillFrom_21 : decode cX6_stillFrom 21 = .ok (.aload_n 0, 1) := by decide +kernel
theorem dX6_stillFrom_22 : decode cX6_stillFrom 22 = .ok (.getfield 25, 3) := by decide +kernel
theorem dX6_stillFrom_25 : decode cX6_stillFrom 25 = .ok (.iconst 0, 1) := by decide +kernel
theorem dX6_stillFrom_26 : decode cX6_stillFrom 26 = .ok (.iaload, 1) := by decide +kernel
theorem dX6_stillFrom_27 : decode cX6_stillFrom 27 = .ok (.if_icmp .ge 82, 3) := by decide +kernel
theorem dX6_stillFrom_30 : decode cX6_stillFrom 30 = .ok (.aload_n 0, 1) := by decide +kernel
theorem dX6_stillFrom_31 : decode cX6_stillFrom 31 = .ok (.aload_n 0, 1) := by decide +kernel
theorem dX6_stillFrom_32 : decode cX6_stillFrom 32 = .ok (.getfield 100, 3) := by decide +kernel
theorem dX6_stillFrom_35 : decode cX6_stillFrom 35 = .ok (.iload_n 3, 1) := by decide +kernel
theorem dX6_stillFrom_36 : decode cX6_stillFrom 36 = .ok (.iload_n 1, 1) := by decide +kernel
theorem dX6_stillFrom_37 : decode cX6_stillFrom 37 = .ok (.invokevirtual 311, 3) := by decide +kernel
theorem dX6_stillFrom_40 : decode cX6_stillFrom 40 = .ok (.istore 4, 2) := by decide +kernel
theorem dX6_stillFrom_42 : decode cX6_stillFrom 42 = .ok (.iload 4, 2) := by decide +kernel
theorem dX6_stillFrom_44 : decode cX6_stillFrom 44 = .ok (.iconst (-1), 1) := by decide +kernel
theorem dX6_stillFrom_45 : decode cX6_stillFrom 45 = .ok (.if_icmp .ne 6, 3) := by decide +kernel
theorem dX6_stillFrom_48 : decode cX6_stillFrom 48 = .ok (.goto 55, 3) := by decide +kernel
theorem dX6_stillFrom_51 : decode cX6_stillFrom 51 = .ok (.aload_n 0, 1) := by decide +kernel
theorem dX6_stillFrom_52 : decode cX6_stillFrom 52 = .ok (.aload_n 0, 1) := by decide +kernel
theorem dX6_stillFrom_53 : decode cX6_stillFrom 53 = .ok (.getfield 100, 3) := by decide +kernel
theorem dX6_stillFrom_56 : decode cX6_stillFrom 56 = .ok (.iload_n 3, 1) := by decide +kernel
theorem dX6_stillFrom_57 : decode cX6_stillFrom 57 = .ok (.iload 4, 2) := by decide +kernel
theorem dX6_stillFrom_59 : decode cX6_stillFrom 59 = .ok (.aload_n 0, 1) := by decide +kernel
theorem dX6_stillFrom_60 : decode cX6_stillFrom 60 = .ok (.aload_n 0, 1) := by decide +kernel
theorem dX6_stillFrom_61 : decode cX6_stillFrom 61 = .ok (.getfield 100, 3) := by decide +kernel
theorem dX6_stillFrom_64 : decode cX6_stillFrom 64 = .ok (.iload_n 3, 1) := by decide +kernel
theorem dX6_stillFrom_65 : decode cX6_stillFrom 65 = .ok (.iload 4, 2) := by decide +kernel
theorem dX6_stillFrom_67 : decode cX6_stillFrom 67 = .ok (.aload_n 0, 1) := by decide +kernel
theorem dX6_stillFrom_68 : decode cX6_stillFrom 68 = .ok (.getfield 100, 3) := by decide +kernel
theorem dX6_stillFrom_71 : decode cX6_stillFrom 71 = .ok (.bipush 18, 2) := by decide +kernel
theorem dX6_stillFrom_73 : decode cX6_stillFrom 73 = .ok (.iload_n 3, 1) := by decide +kernel
theorem dX6_stillFrom_74 : decode cX6_stillFrom 74 = .ok (.iadd, 1) := by decide +kernel
theorem dX6_stillFrom_75 : decode cX6_stillFrom 75 = .ok (.iaload, 1) := by decide +kernel
theorem dX6_stillFrom_76 : decode cX6_stillFrom 76 = .ok (.invokevirtual 297, 3) := by decide +kernel
theorem dX6_stillFrom_79 : decode cX6_stillFrom 79 = .ok (.aload_n 0, 1) := by decide +kernel
theorem dX6_stillFrom_80 : decode cX6_stillFrom 80 = .ok (.aload_n 0, 1) := by decide +kernel
theorem dX6_stillFrom_81 : decode cX6_stillFrom 81 = .ok (.getfield 100, 3) := by decide +kernel
theorem dX6_stillFrom_84 : decode cX6_stillFrom 84 = .ok (.iload_n 3, 1) := by decide +kernel
theorem dX6_stillFrom_85 : decode cX6_stillFrom 85 = .ok (.aload_n 0, 1) := by decide +kernel
theorem dX6_stillFrom_86 : decode cX6_stillFrom 86 = .ok (.getfield 100, 3) := by decide +kernel
theorem dX6_stillFrom_89 : decode cX6_stillFrom 89 = .ok (.bipush 24, 2) := by decide +kernel
theorem dX6_stillFrom_91 : decode cX6_stillFrom 91 = .ok (.iload_n 3, 1) := by decide +kernel
theorem dX6_stillFrom_92 : decode cX6_stillFrom 92 = .ok (.iadd, 1) := by decide +kernel
theorem dX6_stillFrom_93 : decode cX6_stillFrom 93 = .ok (.iaload, 1) := by decide +kernel
theorem dX6_stillFrom_94 : decode cX6_stillFrom 94 = .ok (.invokevirtual 315, 3) := by decide +kernel
theorem dX6_stillFrom_97 : decode cX6_stillFrom 97 = .ok (.invokevirtual 285, 3) := by decide +kernel
theorem dX6_stillFrom_100 : decode cX6_stillFrom 100 = .ok (.pop, 1) := by decide +kernel
theorem dX6_stillFrom_101 : decode cX6_stillFrom 101 = .ok (.iconst 1, 1) := by decide +kernel
theorem dX6_stillFrom_102 : decode cX6_stillFrom 102 = .ok (.istore_n 2, 1) := by decide +kernel
theorem dX6_stillFrom_103 : decode cX6_stillFrom 103 = .ok (.iinc 3 1, 3) := by decide +kernel
theorem dX6_stillFrom_106 : decode cX6_stillFrom 106 = .ok (.goto (-86), 3) := by decide +kernel
theorem dX6_stillFrom_109 : decode cX6_stillFrom 109 = .ok (.iload_n 2, 1) := by decide +kernel
theorem dX6_stillFrom_110 : decode cX6_stillFrom 110 = .ok (.ifCond .ne 17, 3) := by decide +kernel
theorem dX6_stillFrom_113 : decode cX6_stillFrom 113 = .ok (.aload_n 0, 1) := by decide +kernel
theorem dX6_stillFrom_114 : decode cX6_stillFrom 114 = .ok (.aload_n 0, 1) := by decide +kernel
theorem dX6_stillFrom_115 : decode cX6_stillFrom 115 = .ok (.getfield 100, 3) := by decide +kernel
theorem dX6_stillFrom_118 : decode cX6_stillFrom 118 = .ok (.iload_n 1, 1) := by decide +kernel
theorem dX6_stillFrom_119 : decode cX6_stillFrom 119 = .ok (.invokevirtual 386, 3) := by decide +kernel
theorem dX6_stillFrom_122 : decode cX6_stillFrom 122 = .ok (.ifCond .eq 5, 3) := by decide +kernel
theorem dX6_stillFrom_125 : decode cX6_stillFrom 125 = .ok (.iload_n 1, 1) := by decide +kernel
theorem dX6_stillFrom_126 : decode cX6_stillFrom 126 = .ok (.ireturn, 1) := by decide +kernel
theorem dX6_stillFrom_127 : decode cX6_stillFrom 127 = .ok (.aload_n 0, 1) := by decide +kernel
theorem dX6_stillFrom_128 : decode cX6_stillFrom 128 = .ok (.invokevirtual 383, 3) := by decide +kernel
theorem dX6_stillFrom_131 : decode cX6_stillFrom 131 = .ok (.iinc 1 1, 3) := by decide +kernel
theorem dX6_stillFrom_134 : decode cX6_stillFrom 134 = .ok (.goto (-129), 3) := by decide +kernel
theorem dX6_stillFrom_137 : decode cX6_stillFrom 137 = .ok (.iconst (-1), 1) := by decide +kernel
theorem dX6_stillFrom_138 : decode cX6_stillFrom 138 = .ok (.ireturn, 1) := by decide +kernel
theorem dX6_still_0 : decode cX6_still 0 = .ok (.aload_n 0, 1) := by decide +kernel
theorem dX6_still_1 : decode cX6_still 1 = .ok (.iconst 0, 1) := by decide +kernel
theorem dX6_still_2 : decode cX6_still 2 = .ok (.putfield 128, 3) := by decide +kernel
theorem dX6_still_5 : decode cX6_still 5 = .ok (.aload_n 0, 1) := by decide +kernel
theorem dX6_still_6 : decode cX6_still 6 = .ok (.getfield 41, 3) := by decide +kernel
theorem dX6_still_9 : decode cX6_still 9 = .ok (.aload_n 0, 1) := by decide +kernel
theorem dX6_still_10 : decode cX6_still 10 = .ok (.getfield 100, 3) := by decide +kernel
theorem dX6_still_13 : decode cX6_still 13 = .ok (.invokestatic 249, 3) := by decide +kernel
theorem dX6_still_16 : decode cX6_still 16 = .ok (.iconst 0, 1) := by decide +kernel
theorem dX6_still_17 : decode cX6_still 17 = .ok (.istore_n 1, 1) := by decide +kernel
theorem dX6_still_18 : decode cX6_still 18 = .ok (.iload_n 1, 1) := by decide +kernel
theorem dX6_still_19 : decode cX6_still 19 = .ok (.bipush 12, 2) := by decide +kernel
theorem dX6_still_21 : decode cX6_still 21 = .ok (.if_icmp .ge 21, 3) := by decide +kernel
theorem dX6_still_24 : decode cX6_still 24 = .ok (.aload_n 0, 1) := by decide +kernel
theorem dX6_still_25 : decode cX6_still 25 = .ok (.getfield 109, 3) := by decide +kernel
theorem dX6_still_28 : decode cX6_still 28 = .ok (.iload_n 1, 1) := by decide +kernel
theorem dX6_still_29 : decode cX6_still 29 = .ok (.aload_n 0, 1) := by decide +kernel
theorem dX6_still_30 : decode cX6_still 30 = .ok (.getfield 47, 3) := by decide +kernel
theorem dX6_still_33 : decode cX6_still 33 = .ok (.iload_n 1, 1) := by decide +kernel
theorem dX6_still_34 : decode cX6_still 34 = .ok (.iaload, 1) := by decide +kernel
theorem dX6_still_35 : decode cX6_still 35 = .ok (.iastore, 1) := by decide +kernel
theorem dX6_still_36 : decode cX6_still 36 = .ok (.iinc 1 1, 3) := by decide +kernel
theorem dX6_still_39 : decode cX6_still 39 = .ok (.goto (-21), 3) := by decide +kernel
theorem dX6_still_42 : decode cX6_still 42 = .ok (.aload_n 0, 1) := by decide +kernel
theorem dX6_still_43 : decode cX6_still 43 = .ok (.invokevirtual 390, 3) := by decide +kernel
theorem dX6_still_46 : decode cX6_still 46 = .ok (.istore_n 1, 1) := by decide +kernel
theorem dX6_still_47 : decode cX6_still 47 = .ok (.iconst 0, 1) := by decide +kernel
theorem dX6_still_48 : decode cX6_still 48 = .ok (.istore_n 2, 1) := by decide +kernel
theorem dX6_still_49 : decode cX6_still 49 = .ok (.iload_n 2, 1) := by decide +kernel
theorem dX6_still_50 : decode cX6_still 50 = .ok (.bipush 12, 2) := by decide +kernel
theorem dX6_still_52 : decode cX6_still 52 = .ok (.if_icmp .ge 21, 3) := by decide +kernel
theorem dX6_still_55 : decode cX6_still 55 = .ok (.aload_n 0, 1) := by decide +kernel
theorem dX6_still_56 : decode cX6_still 56 = .ok (.getfield 47, 3) := by decide +kernel
theorem dX6_still_59 : decode cX6_still 59 = .ok (.iload_n 2, 1) := by decide +kernel
theorem dX6_still_60 : decode cX6_still 60 = .ok (.aload_n 0, 1) := by decide +kernel
theorem dX6_still_61 : decode cX6_still 61 = .ok (.getfield 109, 3) := by decide +kernel
theorem dX6_still_64 : decode cX6_still 64 = .ok (.iload_n 2, 1) := by decide +kernel
theorem dX6_still_65 : decode cX6_still 65 = .ok (.iaload, 1) := by decide +kernel
theorem dX6_still_66 : decode cX6_still 66 = .ok (.iastore, 1) := by decide +kernel
theorem dX6_still_67 : decode cX6_still 67 = .ok (.iinc 2 1, 3) := by decide +kernel
theorem dX6_still_70 : decode cX6_still 70 = .ok (.goto (-21), 3) := by decide +kernel
theorem dX6_still_73 : decode cX6_still 73 = .ok (.iload_n 1, 1) := by decide +kernel
theorem dX6_still_74 : decode cX6_still 74 = .ok (.ireturn, 1) := by decide +kernel
theorem dX6_image_0 : decode cX6_image 0 = .ok (.aload_n 0, 1) := by decide +kernel
theorem dX6_image_1 : decode cX6_image 1 = .ok (.iconst 0, 1) := by decide +kernel
theorem dX6_image_2 : decode cX6_image 2 = .ok (.putfield 128, 3) := by decide +kernel
theorem dX6_image_5 : decode cX6_image 5 = .ok (.aload_n 0, 1) := by decide +kernel
theorem dX6_image_6 : decode cX6_image 6 = .ok (.iconst 1, 1) := by decide +kernel
theorem dX6_image_7 : decode cX6_image 7 = .ok (.putfield 259, 3) := by decide +kernel
theorem dX6_image_10 : decode cX6_image 10 = .ok (.aload_n 0, 1) := by decide +kernel
theorem dX6_image_11 : decode cX6_image 11 = .ok (.aload_n 0, 1) := by decide +kernel
theorem dX6_image_12 : decode cX6_image 12 = .ok (.getfield 256, 3) := by decide +kernel
theorem dX6_image_15 : decode cX6_image 15 = .ok (.putfield 393, 3) := by decide +kernel
theorem dX6_image_18 : decode cX6_image 18 = .ok (.aload_n 0, 1) := by decide +kernel
theorem dX6_image_19 : decode cX6_image 19 = .ok (.aload_n 0, 1) := by decide +kernel
theorem dX6_image_20 : decode cX6_image 20 = .ok (.getfield 253, 3) := by decide +kernel
theorem dX6_image_23 : decode cX6_image 23 = .ok (.putfield 396, 3) := by decide +kernel
theorem dX6_image_26 : decode cX6_image 26 = .ok (.aload_n 0, 1) := by decide +kernel
theorem dX6_image_27 : decode cX6_image 27 = .ok (.getfield 41, 3) := by decide +kernel
theorem dX6_image_30 : decode cX6_image 30 = .ok (.aload_n 0, 1) := by decide +kernel
theorem dX6_image_31 : decode cX6_image 31 = .ok (.getfield 112, 3) := by decide +kernel
theorem dX6_image_34 : decode cX6_image 34 = .ok (.invokestatic 249, 3) := by decide +kernel
theorem dX6_image_37 : decode cX6_image 37 = .ok (.iconst 0, 1) := by decide +kernel
theorem dX6_image_38 : decode cX6_image 38 = .ok (.istore_n 1, 1) := by decide +kernel
theorem dX6_image_39 : decode cX6_image 39 = .ok (.iload_n 1, 1) := by decide +kernel
theorem dX6_image_40 : decode cX6_image 40 = .ok (.bipush 12, 2) := by decide +kernel
theorem dX6_image_42 : decode cX6_image 42 = .ok (.if_icmp .ge 21, 3) := by decide +kernel
theorem dX6_image_45 : decode cX6_image 45 = .ok (.aload_n 0, 1) := by decide +kernel
theorem dX6_image_46 : decode cX6_image 46 = .ok (.getfield 115, 3) := by decide +kernel
theorem dX6_image_49 : decode cX6_image 49 = .ok (.iload_n 1, 1) := by decide +kernel
theorem dX6_image_50 : decode cX6_image 50 = .ok (.aload_n 0, 1) := by decide +kernel
theorem dX6_image_51 : decode cX6_image 51 = .ok (.getfield 47, 3) := by decide +kernel
theorem dX6_image_54 : decode cX6_image 54 = .ok (.iload_n 1, 1) := by decide +kernel
theorem dX6_image_55 : decode cX6_image 55 = .ok (.iaload, 1) := by decide +kernel
theorem dX6_image_56 : decode cX6_image 56 = .ok (.iastore, 1) := by decide +kernel
theorem dX6_image_57 : decode cX6_image 57 = .ok (.iinc 1 1, 3) := by decide +kernel
theorem dX6_image_60 : decode cX6_image 60 = .ok (.goto (-21), 3) := by decide +kernel
theorem dX6_image_63 : decode cX6_image 63 = .ok (.iconst 0, 1) := by decide +kernel
theorem dX6_image_64 : decode cX6_image 64 = .ok (.istore_n 1, 1) := by decide +kernel
theorem dX6_image_65 : decode cX6_image 65 = .ok (.iload_n 1, 1) := by decide +kernel
theorem dX6_image_66 : decode cX6_image 66 = .ok (.bipush 9, 2) := by decide +kernel
theorem dX6_image_68 : decode cX6_image 68 = .ok (.aload_n 0, 1) := by decide +kernel
theorem dX6_image_69 : decode cX6_image 69 = .ok (.getfield 256, 3) := by decide +kernel
theorem dX6_image_72 : decode cX6_image 72 = .ok (.imul, 1) := by decide +kernel
theorem dX6_image_73 : decode cX6_image 73 = .ok (.if_icmp .ge 21, 3) := by decide +kernel
theorem dX6_image_76 : decode cX6_image 76 = .ok (.aload_n 0, 1) := by decide +kernel
theorem dX6_image_77 : decode cX6_image 77 = .ok (.getfield 118, 3) := by decide +kernel
theorem dX6_image_80 : decode cX6_image 80 = .ok (.iload_n 1, 1) := by decide +kernel
theorem dX6_image_81 : decode cX6_image 81 = .ok (.aload_n 0, 1) := by decide +kernel
theorem dX6_image_82 : decode cX6_image 82 = .ok (.getfield 64, 3) := by decide +kernel
theorem dX6_image_85 : decode cX6_image 85 = .ok (.iload_n 1, 1) := by decide +kernel
theorem dX6_image_86 : decode cX6_image 86 = .ok (.iaload, 1) := by decide +kernel
theorem dX6_image_87 : decode cX6_image 87 = .ok (.iastore, 1) := by decide +kernel
theorem dX6_image_88 : decode cX6_image 88 = .ok (.iinc 1 1, 3) := by decide +kernel
theorem dX6_image_91 : decode cX6_image 91 = .ok (.goto (-26), 3) := by decide +kernel
theorem dX6_image_94 : decode cX6_image 94 = .ok (.aload_n 0, 1) := by decide +kernel
theorem dX6_image_95 : decode cX6_image 95 = .ok (.getfield 121, 3) := by decide +kernel
theorem dX6_image_98 : decode cX6_image 98 = .ok (.iconst 0, 1) := by decide +kernel
theorem dX6_image_99 : decode cX6_image 99 = .ok (.aload_n 0, 1) := by decide +kernel
theorem dX6_image_100 : decode cX6_image 100 = .ok (.getfield 38, 3) := by decide +kernel
theorem dX6_image_103 : decode cX6_image 103 = .ok (.iconst 0, 1) := by decide +kernel
theorem dX6_image_104 : decode cX6_image 104 = .ok (.iaload, 1) := by decide +kernel
theorem dX6_image_105 : decode cX6_image 105 = .ok (.iastore, 1) := by decide +kernel
theorem dX6_image_106 : decode cX6_image 106 = .ok (.aload_n 0, 1) := by decide +kernel
theorem dX6_image_107 : decode cX6_image 107 = .ok (.getfield 121, 3) := by decide +kernel
theorem dX6_image_110 : decode cX6_image 110 = .ok (.iconst 1, 1) := by decide +kernel
theorem dX6_image_111 : decode cX6_image 111 = .ok (.aload_n 0, 1) := by decide +kernel
theorem dX6_image_112 : decode cX6_image 112 = .ok (.getfield 38, 3) := by decide +kernel
theorem dX6_image_115 : decode cX6_image 115 = .ok (.iconst 1, 1) := by decide +kernel
theorem dX6_image_116 : decode cX6_image 116 = .ok (.iaload, 1) := by decide +kernel
theorem dX6_image_117 : decode cX6_image 117 = .ok (.iastore, 1) := by decide +kernel
theorem dX6_image_118 : decode cX6_image 118 = .ok (.return_, 1) := by decide +kernel
theorem dX6_restore_0 : decode cX6_restore 0 = .ok (.aload_n 0, 1) := by decide +kernel
theorem dX6_restore_1 : decode cX6_restore 1 = .ok (.iconst 0, 1) := by decide +kernel
theorem dX6_restore_2 : decode cX6_restore 2 = .ok (.putfield 128, 3) := by decide +kernel
theorem dX6_restore_5 : decode cX6_restore 5 = .ok (.aload_n 0, 1) := by decide +kernel
theorem dX6_restore_6 : decode cX6_restore 6 = .ok (.getfield 259, 3) := by decide +kernel
theorem dX6_restore_9 : decode cX6_restore 9 = .ok (.ifCond .ne 5, 3) := by decide +kernel
theorem dX6_restore_12 : decode cX6_restore 12 = .ok (.iconst 0, 1) := by decide +kernel
theorem dX6_restore_13 : decode cX6_restore 13 = .ok (.ireturn, 1) := by decide +kernel
theorem dX6_restore_14 : decode cX6_restore 14 = .ok (.aload_n 0, 1) := by decide +kernel
theorem dX6_restore_15 : decode cX6_restore 15 = .ok (.aload_n 0, 1) := by decide +kernel
theorem dX6_restore_16 : decode cX6_restore 16 = .ok (.getfield 393, 3) := by decide +kernel
theorem dX6_restore_19 : decode cX6_restore 19 = .ok (.putfield 256, 3) := by decide +kernel
theorem dX6_restore_22 : decode cX6_restore 22 = .ok (.aload_n 0, 1) := by decide +kernel
theorem dX6_restore_23 : decode cX6_restore 23 = .ok (.aload_n 0, 1) := by decide +kernel
theorem dX6_restore_24 : decode cX6_restore 24 = .ok (.getfield 396, 3) := by decide +kernel
theorem dX6_restore_27 : decode cX6_restore 27 = .ok (.putfield 253, 3) := by decide +kernel
theorem dX6_restore_30 : decode cX6_restore 30 = .ok (.aload_n 0, 1) := by decide +kernel
theorem dX6_restore_31 : decode cX6_restore 31 = .ok (.getfield 112, 3) := by decide +kernel
theorem dX6_restore_34 : decode cX6_restore 34 = .ok (.aload_n 0, 1) := by decide +kernel
theorem dX6_restore_35 : decode cX6_restore 35 = .ok (.getfield 41, 3) := by decide +kernel
theorem dX6_restore_38 : decode cX6_restore 38 = .ok (.invokestatic 249, 3) := by decide +kernel
theorem dX6_restore_41 : decode cX6_restore 41 = .ok (.iconst 0, 1) := by decide +kernel
theorem dX6_restore_42 : decode cX6_restore 42 = .ok (.istore_n 1, 1) := by decide +kernel
theorem dX6_restore_43 : decode cX6_restore 43 = .ok (.iload_n 1, 1) := by decide +kernel
theorem dX6_restore_44 : decode cX6_restore 44 = .ok (.bipush 12, 2) := by decide +kernel
theorem dX6_restore_46 : decode cX6_restore 46 = .ok (.if_icmp .ge 21, 3) := by decide +kernel
theorem dX6_restore_49 : decode cX6_restore 49 = .ok (.aload_n 0, 1) := by decide +kernel
theorem dX6_restore_50 : decode cX6_restore 50 = .ok (.getfield 47, 3) := by decide +kernel
theorem dX6_restore_53 : decode cX6_restore 53 = .ok (.iload_n 1, 1) := by decide +kernel
theorem dX6_restore_54 : decode cX6_restore 54 = .ok (.aload_n 0, 1) := by decide +kernel
theorem dX6_restore_55 : decode cX6_restore 55 = .ok (.getfield 115, 3) := by decide +kernel
theorem dX6_restore_58 : decode cX6_restore 58 = .ok (.iload_n 1, 1) := by decide +kernel
theorem dX6_restore_59 : decode cX6_restore 59 = .ok (.iaload, 1) := by decide +kernel
theorem dX6_restore_60 : decode cX6_restore 60 = .ok (.iastore, 1) := by decide +kernel
theorem dX6_restore_61 : decode cX6_restore 61 = .ok (.iinc 1 1, 3) := by decide +kernel
theorem dX6_restore_64 : decode cX6_restore 64 = .ok (.goto (-21), 3) := by decide +kernel
theorem dX6_restore_67 : decode cX6_restore 67 = .ok (.iconst 0, 1) := by decide +kernel
theorem dX6_restore_68 : decode cX6_restore 68 = .ok (.istore_n 1, 1) := by decide +kernel
theorem dX6_restore_69 : decode cX6_restore 69 = .ok (.iload_n 1, 1) := by decide +kernel
theorem dX6_restore_70 : decode cX6_restore 70 = .ok (.bipush 9, 2) := by decide +kernel
theorem dX6_restore_72 : decode cX6_restore 72 = .ok (.aload_n 0, 1) := by decide +kernel
theorem dX6_restore_73 : decode cX6_restore 73 = .ok (.getfield 256, 3) := by decide +kernel
theorem dX6_restore_76 : decode cX6_restore 76 = .ok (.imul, 1) := by decide +kernel
theorem dX6_restore_77 : decode cX6_restore 77 = .ok (.if_icmp .ge 21, 3) := by decide +kernel
theorem dX6_restore_80 : decode cX6_restore 80 = .ok (.aload_n 0, 1) := by decide +kernel
theorem dX6_restore_81 : decode cX6_restore 81 = .ok (.getfield 64, 3) := by decide +kernel
theorem dX6_restore_84 : decode cX6_restore 84 = .ok (.iload_n 1, 1) := by decide +kernel
theorem dX6_restore_85 : decode cX6_restore 85 = .ok (.aload_n 0, 1) := by decide +kernel
theorem dX6_restore_86 : decode cX6_restore 86 = .ok (.getfield 118, 3) := by decide +kernel
theorem dX6_restore_89 : decode cX6_restore 89 = .ok (.iload_n 1, 1) := by decide +kernel
theorem dX6_restore_90 : decode cX6_restore 90 = .ok (.iaload, 1) := by decide +kernel
theorem dX6_restore_91 : decode cX6_restore 91 = .ok (.iastore, 1) := by decide +kernel
theorem dX6_restore_92 : decode cX6_restore 92 = .ok (.iinc 1 1, 3) := by decide +kernel
theorem dX6_restore_95 : decode cX6_restore 95 = .ok (.goto (-26), 3) := by decide +kernel
theorem dX6_restore_98 : decode cX6_restore 98 = .ok (.aload_n 0, 1) := by decide +kernel
theorem dX6_restore_99 : decode cX6_restore 99 = .ok (.getfield 38, 3) := by decide +kernel
theorem dX6_restore_102 : decode cX6_restore 102 = .ok (.iconst 0, 1) := by decide +kernel
theorem dX6_restore_103 : decode cX6_restore 103 = .ok (.aload_n 0, 1) := by decide +kernel
theorem dX6_restore_104 : decode cX6_restore 104 = .ok (.getfield 121, 3) := by decide +kernel
theorem dX6_restore_107 : decode cX6_restore 107 = .ok (.iconst 0, 1) := by decide +kernel
theorem dX6_restore_108 : decode cX6_restore 108 = .ok (.iaload, 1) := by decide +kernel
theorem dX6_restore_109 : decode cX6_restore 109 = .ok (.iastore, 1) := by decide +kernel
theorem dX6_restore_110 : decode cX6_restore 110 = .ok (.aload_n 0, 1) := by decide +kernel
theorem dX6_restore_111 : decode cX6_restore 111 = .ok (.getfield 38, 3) := by decide +kernel
theorem dX6_restore_114 : decode cX6_restore 114 = .ok (.iconst 1, 1) := by decide +kernel
theorem dX6_restore_115 : decode cX6_restore 115 = .ok (.aload_n 0, 1) := by decide +kernel
theorem dX6_restore_116 : decode cX6_restore 116 = .ok (.getfield 121, 3) := by decide +kernel
theorem dX6_restore_119 : decode cX6_restore 119 = .ok (.iconst 1, 1) := by decide +kernel
theorem dX6_restore_120 : decode cX6_restore 120 = .ok (.iaload, 1) := by decide +kernel
theorem dX6_restore_121 : decode cX6_restore 121 = .ok (.iastore, 1) := by decide +kernel
theorem dX6_restore_122 : decode cX6_restore 122 = .ok (.iconst 1, 1) := by decide +kernel
theorem dX6_restore_123 : decode cX6_restore 123 = .ok (.ireturn, 1) := by decide +kernel
