theorem dX5_cut_41 : decode cX5_cut 41 = .ok (.istore 5, 2) := by decide +kernel
theorem dX5_cut_43 : decode cX5_cut 43 = .ok (.iload 5, 2) := by decide +kernel
theorem dX5_cut_45 : decode cX5_cut 45 = .ok (.aload_n 0, 1) := by decide +kernel
theorem dX5_cut_46 : decode cX5_cut 46 = .ok (.getfield 10, 3) := by decide +kernel
theorem dX5_cut_49 : decode cX5_cut 49 = .ok (.getfield 116, 3) := by decide +kernel
theorem dX5_cut_52 : decode cX5_cut 52 = .ok (.if_icmp .ge 95, 3) := by decide +kernel
theorem dX5_cut_55 : decode cX5_cut 55 = .ok (.aload_n 0, 1) := by decide +kernel
theorem dX5_cut_56 : decode cX5_cut 56 = .ok (.getfield 10, 3) := by decide +kernel
theorem dX5_cut_59 : decode cX5_cut 59 = .ok (.iload_n 1, 1) := by decide +kernel
theorem dX5_cut_60 : decode cX5_cut 60 = .ok (.iload 5, 2) := by decide +kernel
theorem dX5_cut_62 : decode cX5_cut 62 = .ok (.invokevirtual 254, 3) := by decide +kernel
theorem dX5_cut_65 : decode cX5_cut 65 = .ok (.ifCond .eq 18, 3) := by decide +kernel
theorem dX5_cut_68 : decode cX5_cut 68 = .ok (.aload_n 0, 1) := by decide +kernel
theorem dX5_cut_69 : decode cX5_cut 69 = .ok (.getfield 10, 3) := by decide +kernel
theorem dX5_cut_72 : decode cX5_cut 72 = .ok (.getfield 159, 3) := by decide +kernel
theorem dX5_cut_75 : decode cX5_cut 75 = .ok (.iload 5, 2) := by decide +kernel
theorem dX5_cut_77 : decode cX5_cut 77 = .ok (.iaload, 1) := by decide +kernel
theorem dX5_cut_78 : decode cX5_cut 78 = .ok (.iconst 2, 1) := by decide +kernel
theorem dX5_cut_79 : decode cX5_cut 79 = .ok (.idiv, 1) := by decide +kernel
theorem dX5_cut_80 : decode cX5_cut 80 = .ok (.goto 4, 3) := by decide +kernel
theorem dX5_cut_83 : decode cX5_cut 83 = .ok (.iconst 0, 1) := by decide +kernel
theorem dX5_cut_84 : decode cX5_cut 84 = .ok (.istore 6, 2) := by decide +kernel
theorem dX5_cut_86 : decode cX5_cut 86 = .ok (.iconst 1, 1) := by decide +kernel
theorem dX5_cut_87 : decode cX5_cut 87 = .ok (.istore 7, 2) := by decide +kernel
theorem dX5_cut_89 : decode cX5_cut 89 = .ok (.iload 7, 2) := by decide +kernel
theorem dX5_cut_91 : decode cX5_cut 91 = .ok (.iload 6, 2) := by decide +kernel
theorem dX5_cut_93 : decode cX5_cut 93 = .ok (.if_icmp .gt 48, 3) := by decide +kernel
theorem dX5_cut_96 : decode cX5_cut 96 = .ok (.aload_n 0, 1) := by decide +kernel
theorem dX5_cut_97 : decode cX5_cut 97 = .ok (.getfield 10, 3) := by decide +kernel
theorem dX5_cut_100 : decode cX5_cut 100 = .ok (.iload_n 1, 1) := by decide +kernel
theorem dX5_cut_101 : decode cX5_cut 101 = .ok (.iload 5, 2) := by decide +kernel
theorem dX5_cut_103 : decode cX5_cut 103 = .ok (.iload 7, 2) := by decide +kernel
theorem dX5_cut_105 : decode cX5_cut 105 = .ok (.invokevirtual 258, 3) := by decide +kernel
theorem dX5_cut_108 : decode cX5_cut 108 = .ok (.ifCond .eq 27, 3) := by decide +kernel
theorem dX5_cut_111 : decode cX5_cut 111 = .ok (.iload 4, 2) := by decide +kernel
theorem dX5_cut_113 : decode cX5_cut 113 = .ok (.iconst (-1), 1) := by decide +kernel
theorem dX5_cut_114 : decode cX5_cut 114 = .ok (.if_icmp .ne 14, 3) := by decide +kernel
theorem dX5_cut_117 : decode cX5_cut 117 = .ok (.bipush 100, 2) := by decide +kernel
theorem dX5_cut_119 : decode cX5_cut 119 = .ok (.iload 5, 2) := by decide +kernel
theorem dX5_cut_121 : decode cX5_cut 121 = .ok (.imul, 1) := by decide +kernel
theorem dX5_cut_122 : decode cX5_cut 122 = .ok (.iload 7, 2) := by decide +kernel
theorem dX5_cut_124 : decode cX5_cut 124 = .ok (.iadd, 1) := by decide +kernel
theorem dX5_cut_125 : decode cX5_cut 125 = .ok (.goto 5, 3) := by decide +kernel
theorem dX5_cut_128 : decode cX5_cut 128 = .ok (.iload 4, 2) := by decide +kernel
theorem dX5_cut_130 : decode cX5_cut 130 = .ok (.istore 4, 2) := by decide +kernel
theorem dX5_cut_132 : decode cX5_cut 132 = .ok (.iinc 3 1, 3) := by decide +kernel
theorem dX5_cut_135 : decode cX5_cut 135 = .ok (.iinc 7 1, 3) := by decide +kernel
theorem dX5_cut_138 : decode cX5_cut 138 = .ok (.goto (-49), 3) := by decide +kernel
theorem dX5_cut_141 : decode cX5_cut 141 = .ok (.iinc 5 1, 3) := by decide +kernel
theorem dX5_cut_144 : decode cX5_cut 144 = .ok (.goto (-101), 3) := by decide +kernel
theorem dX5_cut_147 : decode cX5_cut 147 = .ok (.iload_n 2, 1) := by decide +kernel
theorem dX5_cut_148 : decode cX5_cut 148 = .ok (.ifCond .ne 7, 3) := by decide +kernel
theorem dX5_cut_151 : decode cX5_cut 151 = .ok (.iload_n 3, 1) := by decide +kernel
theorem dX5_cut_152 : decode cX5_cut 152 = .ok (.goto 5, 3) := by decide +kernel
theorem dX5_cut_155 : decode cX5_cut 155 = .ok (.iload 4, 2) := by decide +kernel
theorem dX5_cut_157 : decode cX5_cut 157 = .ok (.ireturn, 1) := by decide +kernel
theorem dX5_keep_0 : decode cX5_keep 0 = .ok (.aload_n 0, 1) := by decide +kernel
theorem dX5_keep_1 : decode cX5_keep 1 = .ok (.iload_n 1, 1) := by decide +kernel
theorem dX5_keep_2 : decode cX5_keep 2 = .ok (.invokevirtual 262, 3) := by decide +kernel
theorem dX5_keep_5 : decode cX5_keep 5 = .ok (.iconst 0, 1) := by decide +kernel
theorem dX5_keep_6 : decode cX5_keep 6 = .ok (.istore_n 3, 1) := by decide +kernel
theorem dX5_keep_7 : decode cX5_keep 7 = .ok (.iconst 0, 1) := by decide +kernel
theorem dX5_keep_8 : decode cX5_keep 8 = .ok (.istore 4, 2) := by decide +kernel
theorem dX5_keep_10 : decode cX5_keep 10 = .ok (.iload 4, 2) := by decide +kernel
theorem dX5_keep_12 : decode cX5_keep 12 = .ok (.bipush 10, 2) := by decide +kernel
theorem dX5_keep_14 : decode cX5_keep 14 = .ok (.if_icmp .ge 40, 3) := by decide +kernel
theorem dX5_keep_17 : decode cX5_keep 17 = .ok (.iload_n 3, 1) := by decide +kernel
theorem dX5_keep_18 : decode cX5_keep 18 = .ok (.iload_n 1, 1) := by decide +kernel
theorem dX5_keep_19 : decode cX5_keep 19 = .ok (.if_icmp .ge 35, 3) := by decide +kernel
theorem dX5_keep_22 : decode cX5_keep 22 = .ok (.iconst 1, 1) := by decide +kernel
theorem dX5_keep_23 : decode cX5_keep 23 = .ok (.iload 4, 2) := by decide +kernel
theorem dX5_keep_25 : decode cX5_keep 25 = .ok (.ishl, 1) := by decide +kernel
theorem dX5_keep_26 : decode cX5_keep 26 = .ok (.iload_n 1, 1) := by decide +kernel
theorem dX5_keep_27 : decode cX5_keep 27 = .ok (.iload_n 3, 1) := by decide +kernel
theorem dX5_keep_28 : decode cX5_keep 28 = .ok (.isub, 1) := by decide +kernel
theorem dX5_keep_29 : decode cX5_keep 29 = .ok (.invokestatic 238, 3) := by decide +kernel
theorem dX5_keep_32 : decode cX5_keep 32 = .ok (.istore 5, 2) := by decide +kernel
theorem dX5_keep_34 : decode cX5_keep 34 = .ok (.iload 4, 2) := by decide +kernel
theorem dX5_keep_36 : decode cX5_keep 36 = .ok (.iload_n 2, 1) := by decide +kernel
theorem dX5_keep_37 : decode cX5_keep 37 = .ok (.if_icmp .ne 6, 3) := by decide +kernel
theorem dX5_keep_40 : decode cX5_keep 40 = .ok (.iload 5, 2) := by decide +kernel
theorem dX5_keep_42 : decode cX5_keep 42 = .ok (.ireturn, 1) := by decide +kernel
theorem dX5_keep_43 : decode cX5_keep 43 = .ok (.iload_n 3, 1) := by decide +kernel
theorem dX5_keep_44 : decode cX5_keep 44 = .ok (.iload 5, 2) := by decide +kernel
theorem dX5_keep_46 : decode cX5_keep 46 = .ok (.iadd, 1) := by decide +kernel
theorem dX5_keep_47 : decode cX5_keep 47 = .ok (.istore_n 3, 1) := by decide +kernel
theorem dX5_keep_48 : decode cX5_keep 48 = .ok (.iinc 4 1, 3) := by decide +kernel
theorem dX5_keep_51 : decode cX5_keep 51 = .ok (.goto (-41), 3) := by decide +kernel
theorem dX5_keep_54 : decode cX5_keep 54 = .ok (.iload_n 2, 1) := by decide +kernel
theorem dX5_keep_55 : decode cX5_keep 55 = .ok (.iconst (-1), 1) := by decide +kernel
theorem dX5_keep_56 : decode cX5_keep 56 = .ok (.if_icmp .eq 11, 3) := by decide +kernel
theorem dX5_keep_59 : decode cX5_keep 59 = .ok (.new 129, 3) := by decide +kernel
theorem dX5_keep_62 : decode cX5_keep 62 = .ok (.dup, 1) := by decide +kernel
theorem dX5_keep_63 : decode cX5_keep 63 = .ok (.invokespecial 131, 3) := by decide +kernel
theorem dX5_keep_66 : decode cX5_keep 66 = .ok (.athrow, 1) := by decide +kernel
theorem dX5_keep_67 : decode cX5_keep 67 = .ok (.iload 4, 2) := by decide +kernel
theorem dX5_keep_69 : decode cX5_keep 69 = .ok (.ireturn, 1) := by decide +kernel
theorem dX5_fewest_0 : decode cX5_fewest 0 = .ok (.aload_n 0, 1) := by decide +kernel
theorem dX5_fewest_1 : decode cX5_fewest 1 = .ok (.iload_n 1, 1) := by decide +kernel
theorem dX5_fewest_2 : decode cX5_fewest 2 = .ok (.invokevirtual 262, 3) := by decide +kernel
theorem dX5_fewest_5 : decode cX5_fewest 5 = .ok (.aload_n 0, 1) := by decide +kernel
theorem dX5_fewest_6 : decode cX5_fewest 6 = .ok (.invokevirtual 265, 3) := by decide +kernel
theorem dX5_fewest_9 : decode cX5_fewest 9 = .ok (.iconst (-1), 1) := by decide +kernel
theorem dX5_fewest_10 : decode cX5_fewest 10 = .ok (.istore_n 2, 1) := by decide +kernel
theorem dX5_fewest_11 : decode cX5_fewest 11 = .ok (.bipush 13, 2) := by decide +kernel
theorem dX5_fewest_13 : decode cX5_fewest 13 = .ok (.istore_n 3, 1) := by decide +kernel
theorem dX5_fewest_14 : decode cX5_fewest 14 = .ok (.iconst 1, 1) := by decide +kernel
theorem dX5_fewest_15 : decode cX5_fewest 15 = .ok (.istore 4, 2) := by decide +kernel
theorem dX5_fewest_17 : decode cX5_fewest 17 = .ok (.iload 4, 2) := by decide +kernel
theorem dX5_fewest_19 : decode cX5_fewest 19 = .ok (.iconst 1, 1) := by decide +kernel
theorem dX5_fewest_20 : decode cX5_fewest 20 = .ok (.aload_n 0, 1) := by decide +kernel
theorem dX5_fewest_21 : decode cX5_fewest 21 = .ok (.getfield 10, 3) := by decide +kernel
theorem dX5_fewest_24 : decode cX5_fewest 24 = .ok (.getfield 116, 3) := by decide +kernel
theorem dX5_fewest_27 : decode cX5_fewest 27 = .ok (.ishl, 1) := by decide +kernel
theorem dX5_fewest_28 : decode cX5_fewest 28 = .ok (.if_icmp .ge 38, 3) := by decide +kernel
theorem dX5_fewest_31 : decode cX5_fewest 31 = .ok (.iload 4, 2) := by decide +kernel
theorem dX5_fewest_33 : decode cX5_fewest 33 = .ok (.invokestatic 268, 3) := by decide +kernel
theorem dX5_fewest_36 : decode cX5_fewest 36 = .ok (.istore 5, 2) := by decide +kernel
theorem dX5_fewest_38 : decode cX5_fewest 38 = .ok (.iload 5, 2) := by decide +kernel
theorem dX5_fewest_40 : decode cX5_fewest 40 = .ok (.iload_n 3, 1) := by decide +kernel
theorem dX5_fewest_41 : decode cX5_fewest 41 = .ok (.if_icmp .ge 19, 3) := by decide +kernel
theorem dX5_fewest_44 : decode cX5_fewest 44 = .ok (.aload_n 0, 1) := by decide +kernel
theorem dX5_fewest_45 : decode cX5_fewest 45 = .ok (.iload 4, 2) := by decide +kernel
theorem dX5_fewest_47 : decode cX5_fewest 47 = .ok (.iload_n 1, 1) := by decide +kernel
theorem dX5_fewest_48 : decode cX5_fewest 48 = .ok (.invokevirtual 273, 3) := by decide +kernel
theorem dX5_fewest_51 : decode cX5_fewest 51 = .ok (.ifCond .eq 9, 3) := by decide +kernel
theorem dX5_fewest_54 : decode cX5_fewest 54 = .ok (.iload 4, 2) := by decide +kernel
theorem dX5_fewest_56 : decode cX5_fewest 56 = .ok (.istore_n 2, 1) := by decide +kernel
theorem dX5_fewest_57 : decode cX5_fewest 57 = .ok (.iload 5, 2) := by decide +kernel
theorem dX5_fewest_59 : decode cX5_fewest 59 = .ok (.istore_n 3, 1) := by decide +kernel
theorem dX5_fewest_60 : decode cX5_fewest 60 = .ok (.iinc 4 1, 3) := by decide +kernel
theorem dX5_fewest_63 : decode cX5_fewest 63 = .ok (.goto (-46), 3) := by decide +kernel
theorem dX5_fewest_66 : decode cX5_fewest 66 = .ok (.iload_n 2, 1) := by decide +kernel
theorem dX5_fewest_67 : decode cX5_fewest 67 = .ok (.ireturn, 1) := by decide +kernel
theorem dX5_sortByWeight_0 : decode cX5_sortByWeight 0 = .ok (.iconst 0, 1) := by decide +kernel
theorem dX5_sortByWeight_1 : decode cX5_sortByWeight 1 = .ok (.istore_n 1, 1) := by decide +kernel
theorem dX5_sortByWeight_2 : decode cX5_sortByWeight 2 = .ok (.iload_n 1, 1) := by decide +kernel
theorem dX5_sortByWeight_3 : decode cX5_sortByWeight 3 = .ok (.aload_n 0, 1) := by decide +kernel
theorem dX5_sortByWeight_4 : decode cX5_sortByWeight 4 = .ok (.getfield 10, 3) := by decide +kernel
theorem dX5_sortByWeight_7 : decode cX5_sortByWeight 7 = .ok (.getfield 116, 3) := by decide +kernel
theorem dX5_sortByWeight_10 : decode cX5_sortByWeight 10 = .ok (.if_icmp .ge 70, 3) := by decide +kernel
theorem dX5_sortByWeight_13 : decode cX5_sortByWeight 13 = .ok (.iload_n 1, 1) := by decide +kernel
theorem dX5_sortByWeight_14 : decode cX5_sortByWeight 14 = .ok (.istore_n 2, 1) := by decide +kernel
theorem dX5_sortByWeight_15 : decode cX5_sortByWeight 15 = .ok (.iload_n 2, 1) := by decide +kernel
theorem dX5_sortByWeight_16 : decode cX5_sortByWeight 16 = .ok (.ifCond .le 51, 3) := by decide +kernel
theorem dX5_sortByWeight_19 : decode cX5_sortByWeight 19 = .ok (.aload_n 0, 1) := by decide +kernel
theorem dX5_sortByWeight_20 : decode cX5_sortByWeight 20 = .ok (.getfield 10, 3) := by decide +kernel
theorem dX5_sortByWeight_23 : decode cX5_sortByWeight 23 = .ok (.getfield 159, 3) := by decide +kernel
theorem dX5_sortByWeight_26 : decode cX5_sortByWeight 26 = .ok (.aload_n 0, 1) := by decide +kernel
theorem dX5_sortByWeight_27 : decode cX5_sortByWeight 27 = .ok (.getfield 80, 3) := by decide +kernel
theorem dX5_sortByWeight_30 : decode cX5_sortByWeight 30 = .ok (.iload_n 2, 1) := by decide +kernel
theorem dX5_sortByWeight_31 : decode cX5_sortByWeight 31 = .ok (.iconst 1, 1) := by decide +kernel
theorem dX5_sortByWeight_32 : decode cX5_sortByWeight 32 = .ok (.isub, 1) := by decide +kernel
theorem dX5_sortByWeight_33 : decode cX5_sortByWeight 33 = .ok (.iaload, 1) := by decide +kernel
theorem dX5_sortByWeight_34 : decode cX5_sortByWeight 34 = .ok (.iaload, 1) := by decide +kernel
theorem dX5_sortByWeight_35 : decode cX5_sortByWeight 35 = .ok (.aload_n 0, 1) := by decide +kernel
theorem dX5_sortByWeight_36 : decode cX5_sortByWeight 36 = .ok (.getfield 10, 3) := by decide +kernel
theorem dX5_sortByWeight_39 : decode cX5_sortByWeight 39 = .ok (.getfield 159, 3) := by decide +kernel
theorem dX5_sortByWeight_42 : decode cX5_sortByWeight 42 = .ok (.iload_n 1, 1) := by decide +kernel
theorem dX5_sortByWeight_43 : decode cX5_sortByWeight 43 = .ok (.iaload, 1) := by decide +kernel
theorem dX5_sortByWeight_44 : decode cX5_sortByWeight 44 = .ok (.if_icmp .le 23, 3) := by decide +kernel
theorem dX5_sortByWeight_47 : decode cX5_sortByWeight 47 = .ok (.aload_n 0, 1) := by decide +kernel
theorem dX5_sortByWeight_48 : decode cX5_sortByWeight 48 = .ok (.getfield 80, 3) := by decide +kernel
theorem dX5_sortByWeight_51 : decode cX5_sortByWeight 51 = .ok (.iload_n 2, 1) := by decide +kernel
theorem dX5_sortByWeight_52 : decode cX5_sortByWeight 52 = .ok (.aload_n 0, 1) := by decide +kernel
theorem dX5_sortByWeight_53 : decode cX5_sortByWeight 53 = .ok (.getfield 80, 3) := by decide +kernel
theorem dX5_sortByWeight_56 : decode cX5_sortByWeight 56 = .ok (.iload_n 2, 1) := by decide +kernel
theorem dX5_sortByWeight_57 : decode cX5_sortByWeight 57 = .ok (.iconst 1, 1) := by decide +kernel
theorem dX5_sortByWeight_58 : decode cX5_sortByWeight 58 = .ok (.isub, 1) := by decide +kernel
theorem dX5_sortByWeight_59 : decode cX5_sortByWeight 59 = .ok (.iaload, 1) := by decide +kernel
theorem dX5_sortByWeight_60 : decode cX5_sortByWeight 60 = .ok (.iastore, 1) := by decide +kernel
theorem dX5_sortByWeight_61 : decode cX5_sortByWeight 61 = .ok (.iinc 2 (-1), 3) := by decide +kernel
theorem dX5_sortByWeight_64 : decode cX5_sortByWeight 64 = .ok (.goto (-49), 3) := by decide +kernel
theorem dX5_sortByWeight_67 : decode cX5_sortByWeight 67 = .ok (.aload_n 0, 1) := by decide +kernel
theorem dX5_sortByWeight_68 : decode cX5_sortByWeight 68 = .ok (.getfield 80, 3) := by decide +kernel
theorem dX5_sortByWeight_71 : decode cX5_sortByWeight 71 = .ok (.iload_n 2, 1) := by decide +kernel
theorem dX5_sortByWeight_72 : decode cX5_sortByWeight 72 = .ok (.iload_n 1, 1) := by decide +kernel
theorem dX5_sortByWeight_73 : decode cX5_sortByWeight 73 = .ok (.iastore, 1) := by decide +kernel
theorem dX5_sortByWeight_74 : decode cX5_sortByWeight 74 = .ok (.iinc 1 1, 3) := by decide +kernel
theorem dX5_sortByWeight_77 : decode cX5_sortByWeight 77 = .ok (.goto (-75), 3) := by decide +kernel
theorem dX5_sortByWeight_80 : decode cX5_sortByWeight 80 = .ok (.return_, 1) := by decide +kernel
theorem dX5_makesAllTo_0 : decode cX5_makesAllTo 0 = .ok (.iconst 0, 1) := by decide +kernel
theorem dX5_makesAllTo_1 : decode cX5_makesAllTo 1 = .ok (.istore_n 3, 1) := by decide +kernel
theorem dX5_makesAllTo_2 : decode cX5_makesAllTo 2 = .ok (.iconst 0, 1) := by decide +kernel
theorem dX5_makesAllTo_3 : decode cX5_makesAllTo 3 = .ok (.istore 4, 2) := by decide +kernel
theorem dX5_makesAllTo_5 : decode cX5_makesAllTo 5 = .ok (.iload 4, 2) := by decide +kernel
theorem dX5_makesAllTo_7 : decode cX5_makesAllTo 7 = .ok (.aload_n 0, 1) := by decide +kernel
theorem dX5_makesAllTo_8 : decode cX5_makesAllTo 8 = .ok (.getfield 10, 3) := by decide +kernel
theorem dX5_makesAllTo_11 : decode cX5_makesAllTo 11 = .ok (.getfield 116, 3) := by decide +kernel
theorem dX5_makesAllTo_14 : decode cX5_makesAllTo 14 = .ok (.if_icmp .ge 64, 3) := by decide +kernel
theorem dX5_makesAllTo_17 : decode cX5_makesAllTo 17 = .ok (.iload_n 3, 1) := by decide +kernel
theorem dX5_makesAllTo_18 : decode cX5_makesAllTo 18 = .ok (.iload_n 2, 1) := by decide +kernel
theorem dX5_makesAllTo_19 : decode cX5_makesAllTo 19 = .ok (.if_icmp .ge 59, 3) := by decide +kernel
theorem dX5_makesAllTo_22 : decode cX5_makesAllTo 22 = .ok (.aload_n 0, 1) := by decide +kernel
theorem dX5_makesAllTo_23 : decode cX5_makesAllTo 23 = .ok (.getfield 80, 3) := by decide +kernel
theorem dX5_makesAllTo_26 : decode cX5_makesAllTo 26 = .ok (.iload 4, 2) := by decide +kernel
theorem dX5_makesAllTo_28 : decode cX5_makesAllTo 28 = .ok (.iaload, 1) := by decide +kernel
theorem dX5_makesAllTo_29 : decode cX5_makesAllTo 29 = .ok (.istore 5, 2) := by decide +kernel
theorem dX5_makesAllTo_31 : decode cX5_makesAllTo 31 = .ok (.iload_n 1, 1) := by decide +kernel
theorem dX5_makesAllTo_32 : decode cX5_makesAllTo 32 = .ok (.iload 5, 2) := by decide +kernel
theorem dX5_makesAllTo_34 : decode cX5_makesAllTo 34 = .ok (.iushr, 1) := by decide +kernel
theorem dX5_makesAllTo_35 : decode cX5_makesAllTo 35 = .ok (.iconst 1, 1) := by decide +kernel
theorem dX5_makesAllTo_36 : decode cX5_makesAllTo 36 = .ok (.iand, 1) := by decide +kernel
theorem dX5_makesAllTo_37 : decode cX5_makesAllTo 37 = .ok (.iconst 1, 1) := by decide +kernel
theorem dX5_makesAllTo_38 : decode cX5_makesAllTo 38 = .ok (.if_icmp .ne 34, 3) := by decide +kernel
theorem dX5_makesAllTo_41 : decode cX5_makesAllTo 41 = .ok (.aload_n 0, 1) := by decide +kernel
theorem dX5_makesAllTo_42 : decode cX5_makesAllTo 42 = .ok (.getfield 10, 3) := by decide +kernel
theorem dX5_makesAllTo_45 : decode cX5_makesAllTo 45 = .ok (.getfield 159, 3) := by decide +kernel
theorem dX5_makesAllTo_48 : decode cX5_makesAllTo 48 = .ok (.iload 5, 2) := by decide +kernel
theorem dX5_makesAllTo_50 : decode cX5_makesAllTo 50 = .ok (.iaload, 1) := by decide +kernel
theorem dX5_makesAllTo_51 : decode cX5_makesAllTo 51 = .ok (.iload_n 3, 1) := by decide +kernel
theorem dX5_makesAllTo_52 : decode cX5_makesAllTo 52 = .ok (.iconst 1, 1) := by decide +kernel
theorem dX5_makesAllTo_53 : decode cX5_makesAllTo 53 = .ok (.iadd, 1) := by decide +kernel
theorem dX5_makesAllTo_54 : decode cX5_makesAllTo 54 = .ok (.if_icmp .le 5, 3) := by decide +kernel
theorem dX5_makesAllTo_57 : decode cX5_makesAllTo 57 = .ok (.iconst 0, 1) := by decide +kernel
theorem dX5_makesAllTo_58 : decode cX5_makesAllTo 58 = .ok (.ireturn, 1) := by decide +kernel
theorem dX5_makesAllTo_59 : decode cX5_makesAllTo 59 = .ok (.iload_n 3, 1) := by decide +kernel
theorem dX5_makesAllTo_60 : decode cX5_makesAllTo 60 = .ok (.aload_n 0, 1) := by decide +kernel
theorem dX5_makesAllTo_61 : decode cX5_makesAllTo 61 = .ok (.getfield 10, 3) := by decide +kernel
theorem dX5_makesAllTo_64 : decode cX5_makesAllTo 64 = .ok (.getfield 159, 3) := by decide +kernel
theorem dX5_makesAllTo_67 : decode cX5_makesAllTo 67 = .ok (.iload 5, 2) := by decide +kernel
theorem dX5_makesAllTo_69 : decode cX5_makesAllTo 69 = .ok (.iaload, 1) := by decide +kernel
theorem dX5_makesAllTo_70 : decode cX5_makesAllTo 70 = .ok (.iadd, 1) := by decide +kernel
theorem dX5_makesAllTo_71 : decode cX5_makesAllTo 71 = .ok (.istore_n 3, 1) := by decide +kernel
theorem dX5_makesAllTo_72 : decode cX5_makesAllTo 72 = .ok (.iinc 4 1, 3) := by decide +kernel
theorem dX5_makesAllTo_75 : decode cX5_makesAllTo 75 = .ok (.goto (-70), 3) := by decide +kernel
theorem dX5_makesAllTo_78 : decode cX5_makesAllTo 78 = .ok (.iload_n 3, 1) := by decide +kernel
theorem dX5_makesAllTo_79 : decode cX5_makesAllTo 79 = .ok (.iload_n 2, 1) := by decide +kernel
theorem dX5_makesAllTo_80 : decode cX5_makesAllTo 80 = .ok (.if_icmp .lt 7, 3) := by decide +kernel
theorem dX5_makesAllTo_83 : decode cX5_makesAllTo 83 = .ok (.iconst 1, 1) := by decide +kernel
theorem dX5_makesAllTo_84 : decode cX5_makesAllTo 84 = .ok (.goto 4, 3) := by decide +kernel
theorem dX5_makesAllTo_87 : decode cX5_makesAllTo 87 = .ok (.iconst 0, 1) := by decide +kernel
theorem dX5_makesAllTo_88 : decode cX5_makesAllTo 88 = .ok (.ireturn, 1) := by decide +kernel
theorem dX5_answers_0 : decode cX5_answers 0 = .ok (.aload_n 0, 1) := by decide +kernel
theorem dX5_answers_1 : decode cX5_answers 1 = .ok (.iload_n 1, 1) := by decide +kernel
theorem dX5_answers_2 : decode cX5_answers 2 = .ok (.invokevirtual 132, 3) := by decide +kernel
theorem dX5_answers_5 : decode cX5_answers 5 = .ok (.aload_n 0, 1) := by decide +kernel
theorem dX5_answers_6 : decode cX5_answers 6 = .ok (.iload_n 2, 1) := by decide +kernel
theorem dX5_answers_7 : decode cX5_answers 7 = .ok (.invokevirtual 262, 3) := by decide +kernel
theorem dX5_answers_10 : decode cX5_answers 10 = .ok (.aload_n 0, 1) := by decide +kernel
theorem dX5_answers_11 : decode cX5_answers 11 = .ok (.iload_n 1, 1) := by decide +kernel
theorem dX5_answers_12 : decode cX5_answers 12 = .ok (.iload_n 2, 1) := by decide +kernel
theorem dX5_answers_13 : decode cX5_answers 13 = .ok (.invokevirtual 276, 3) := by decide +kernel
theorem dX5_answers_16 : decode cX5_answers 16 = .ok (.iload_n 3, 1) := by decide +kernel
theorem dX5_answers_17 : decode cX5_answers 17 = .ok (.ifCond .eq 15, 3) := by decide +kernel
theorem dX5_answers_20 : decode cX5_answers 20 = .ok (.aload_n 0, 1) := by decide +kernel
theorem dX5_answers_21 : decode cX5_answers 21 = .ok (.getfield 10, 3) := by decide +kernel
theorem dX5_answers_24 : decode cX5_answers 24 = .ok (.getfield 138, 3) := by decide +kernel
theorem dX5_answers_27 : decode cX5_answers 27 = .ok (.iload_n 1, 1) := by decide +kernel
theorem dX5_answers_28 : decode cX5_answers 28 = .ok (.iaload, 1) := by decide +kernel
theorem dX5_answers_29 : decode cX5_answers 29 = .ok (.goto 4, 3) := by decide +kernel
theorem dX5_answers_32 : decode cX5_answers 32 = .ok (.iconst 0, 1) := by decide +kernel
theorem dX5_answers_33 : decode cX5_answers 33 = .ok (.istore 4, 2) := by decide +kernel
theorem dX5_answers_35 : decode cX5_answers 35 = .ok (.iconst 0, 1) := by decide +kernel
theorem dX5_answers_36 : decode cX5_answers 36 = .ok (.istore 5, 2) := by decide +kernel
theorem dX5_answers_38 : decode cX5_answers 38 = .ok (.iconst 0, 1) := by decide +kernel
theorem dX5_answers_39 : decode cX5_answers 39 = .ok (.istore 6, 2) := by decide +kernel
theorem dX5_answers_41 : decode cX5_answers 41 = .ok (.iconst 1, 1) := by decide +kernel
theorem dX5_answers_42 : decode cX5_answers 42 = .ok (.istore 7, 2) := by decide +kernel
theorem dX5_answers_44 : decode cX5_answers 44 = .ok (.iload 7, 2) := by decide +kernel
theorem dX5_answers_46 : decode cX5_answers 46 = .ok (.iload_n 2, 1) := by decide +kernel
theorem dX5_answers_47 : decode cX5_answers 47 = .ok (.if_icmp .gt 37, 3) := by decide +kernel
theorem dX5_answers_50 : decode cX5_answers 50 = .ok (.aload_n 0, 1) := by decide +kernel
theorem dX5_answers_51 : decode cX5_answers 51 = .ok (.getfield 77, 3) := by decide +kernel
theorem dX5_answers_54 : decode cX5_answers 54 = .ok (.iload 7, 2) := by decide +kernel
theorem dX5_answers_56 : decode cX5_answers 56 = .ok (.iaload, 1) := by decide +kernel
theorem dX5_answers_57 : decode cX5_answers 57 = .ok (.iconst 1, 1) := by decide +kernel
theorem dX5_answers_58 : decode cX5_answers 58 = .ok (.if_icmp .ne 7, 3) := by decide +kernel
theorem dX5_answers_61 : decode cX5_answers 61 = .ok (.iload 7, 2) := by decide +kernel
theorem dX5_answers_63 : decode cX5_answers 63 = .ok (.istore 6, 2) := by decide +kernel
theorem dX5_answers_65 : decode cX5_answers 65 = .ok (.iload 7, 2) := by decide +kernel
theorem dX5_answers_67 : decode cX5_answers 67 = .ok (.iload 6, 2) := by decide +kernel
theorem dX5_answers_69 : decode cX5_answers 69 = .ok (.isub, 1) := by decide +kernel
theorem dX5_answers_70 : decode cX5_answers 70 = .ok (.iload 4, 2) := by decide +kernel
theorem dX5_answers_72 : decode cX5_answers 72 = .ok (.if_icmp .gt 6, 3) := by decide +kernel
theorem dX5_answers_75 : decode cX5_answers 75 = .ok (.iinc 5 1, 3) := by decide +kernel
theorem dX5_answers_78 : decode cX5_answers 78 = .ok (.iinc 7 1, 3) := by decide +kernel
theorem dX5_answers_81 : decode cX5_answers 81 = .ok (.goto (-37), 3) := by decide +kernel
theorem dX5_answers_84 : decode cX5_answers 84 = .ok (.iload 5, 2) := by decide +kernel
theorem dX5_answers_86 : decode cX5_answers 86 = .ok (.ireturn, 1) := by decide +kernel
theorem dX5_markMadeByThings_0 : decode cX5_markMadeByThings 0 = .ok (.aload_n 0, 1) := by decide +kernel
theorem dX5_markMadeByThings_1 : decode cX5_markMadeByThings 1 = .ok (.getfield 77, 3) := by decide +kernel
theorem dX5_markMadeByThings_4 : decode cX5_markMadeByThings 4 = .ok (.iconst 0, 1) := by decide +kernel
theorem dX5_markMadeByThings_5 : decode cX5_markMadeByThings 5 = .ok (.invokestatic 279, 3) := by decide +kernel
theorem dX5_markMadeByThings_8 : decode cX5_markMadeByThings 8 = .ok (.aload_n 0, 1) := by decide +kernel
theorem dX5_markMadeByThings_9 : decode cX5_markMadeByThings 9 = .ok (.getfield 77, 3) := by decide +kernel
theorem dX5_markMadeByThings_12 : decode cX5_markMadeByThings 12 = .ok (.iconst 0, 1) := by decide +kernel
theorem dX5_markMadeByThings_13 : decode cX5_markMadeByThings 13 = .ok (.iconst 1, 1) := by decide +kernel
theorem dX5_markMadeByThings_14 : decode cX5_markMadeByThings 14 = .ok (.iastore, 1) := by decide +kernel
theorem dX5_markMadeByThings_15 : decode cX5_markMadeByThings 15 = .ok (.iconst 0, 1) := by decide +kernel
theorem dX5_markMadeByThings_16 : decode cX5_markMadeByThings 16 = .ok (.istore_n 3, 1) := by decide +kernel
theorem dX5_markMadeByThings_17 : decode cX5_markMadeByThings 17 = .ok (.iload_n 3, 1) := by decide +kernel
theorem dX5_markMadeByThings_18 : decode cX5_markMadeByThings 18 = .ok (.aload_n 0, 1) := by decide +kernel
theorem dX5_markMadeByThings_19 : decode cX5_markMadeByThings 19 = .ok (.getfield 10, 3) := by decide +kernel
theorem dX5_markMadeByThings_22 : decode cX5_markMadeByThings 22 = .ok (.getfield 116, 3) := by decide +kernel
theorem dX5_markMadeByThings_25 : decode cX5_markMadeByThings 25 = .ok (.if_icmp .ge 68, 3) := by decide +kernel
theorem dX5_markMadeByThings_28 : decode cX5_markMadeByThings 28 = .ok (.aload_n 0, 1) := by decide +kernel
theorem dX5_markMadeByThings_29 : decode cX5_markMadeByThings 29 = .ok (.getfield 10, 3) := by decide +kernel
theorem dX5_markMadeByThings_32 : decode cX5_markMadeByThings 32 = .ok (.iload_n 1, 1) := by decide +kernel
theorem dX5_markMadeByThings_33 : decode cX5_markMadeByThings 33 = .ok (.iload_n 3, 1) := by decide +kernel
theorem dX5_markMadeByThings_34 : decode cX5_markMadeByThings 34 = .ok (.invokevirtual 254, 3) := by decide +kernel
theorem dX5_markMadeByThings_37 : decode cX5_markMadeByThings 37 = .ok (.ifCond .eq 50, 3) := by decide +kernel
theorem dX5_markMadeByThings_40 : decode cX5_markMadeByThings 40 = .ok (.aload_n 0, 1) := by decide +kernel
theorem dX5_markMadeByThings_41 : decode cX5_markMadeByThings 41 = .ok (.getfield 10, 3) := by decide +kernel
theorem dX5_markMadeByThings_44 : decode cX5_markMadeByThings 44 = .ok (.getfield 159, 3) := by decide +kernel
theorem dX5_markMadeByThings_47 : decode cX5_markMadeByThings 47 = .ok (.iload_n 3, 1) := by decide +kernel
theorem dX5_markMadeByThings_48 : decode cX5_markMadeByThings 48 = .ok (.iaload, 1) := by decide +kernel
theorem dX5_markMadeByThings_49 : decode cX5_markMadeByThings 49 = .ok (.istore 4, 2) := by decide +kernel
theorem dX5_markMadeByThings_51 : decode cX5_markMadeByThings 51 = .ok (.iload_n 2, 1) := by decide +kernel
theorem dX5_markMadeByThings_52 : decode cX5_markMadeByThings 52 = .ok (.istore 5, 2) := by decide +kernel
theorem dX5_markMadeByThings_54 : decode cX5_markMadeByThings 54 = .ok (.iload 5, 2) := by decide +kernel
theorem dX5_markMadeByThings_56 : decode cX5_markMadeByThings 56 = .ok (.iload 4, 2) := by decide +kernel
theorem dX5_markMadeByThings_58 : decode cX5_markMadeByThings 58 = .ok (.if_icmp .lt 29, 3) := by decide +kernel
theorem dX5_markMadeByThings_61 : decode cX5_markMadeByThings 61 = .ok (.aload_n 0, 1) := by decide +kernel
theorem dX5_markMadeByThings_62 : decode cX5_markMadeByThings 62 = .ok (.getfield 77, 3) := by decide +kernel
theorem dX5_markMadeByThings_65 : decode cX5_markMadeByThings 65 = .ok (.iload 5, 2) := by decide +kernel
theorem dX5_markMadeByThings_67 : decode cX5_markMadeByThings 67 = .ok (.dup2, 1) := by decide +kernel
theorem dX5_markMadeByThings_68 : decode cX5_markMadeByThings 68 = .ok (.iaload, 1) := by decide +kernel
theorem dX5_markMadeByThings_69 : decode cX5_markMadeByThings 69 = .ok (.aload_n 0, 1) := by decide +kernel
theorem dX5_markMadeByThings_70 : decode cX5_markMadeByThings 70 = .ok (.getfield 77, 3) := by decide +kernel
theorem dX5_markMadeByThings_73 : decode cX5_markMadeByThings 73 = .ok (.iload 5, 2) := by decide +kernel
theorem dX5_markMadeByThings_75 : decode cX5_markMadeByThings 75 = .ok (.iload 4, 2) := by decide +kernel
theorem dX5_markMadeByThings_77 : decode cX5_markMadeByThings 77 = .ok (.isub, 1) := by decide +kernel
theorem dX5_markMadeByThings_78 : decode cX5_markMadeByThings 78 = .ok (.iaload, 1) := by decide +kernel
theorem dX5_markMadeByThings_79 : decode cX5_markMadeByThings 79 = .ok (.ior, 1) := by decide +kernel
theorem dX5_markMadeByThings_80 : decode cX5_markMadeByThings 80 = .ok (.iastore, 1) := by decide +kernel
theorem dX5_markMadeByThings_81 : decode cX5_markMadeByThings 81 = .ok (.iinc 5 (-1), 3) := by decide +kernel
theorem dX5_markMadeByThings_84 : decode cX5_markMadeByThings 84 = .ok (.goto (-30), 3) := by decide +kernel
theorem dX5_markMadeByThings_87 : decode cX5_markMadeByThings 87 = .ok (.iinc 3 1, 3) := by decide +kernel
theorem dX5_markMadeByThings_90 : decode cX5_markMadeByThings 90 = .ok (.goto (-73), 3) := by decide +kernel
theorem dX5_markMadeByThings_93 : decode cX5_markMadeByThings 93 = .ok (.return_, 1) := by decide +kernel
theorem dX5_round_0 : decode cX5_round 0 = .ok (.aload_n 0, 1) := by decide +kernel
theorem dX5_round_1 : decode cX5_round 1 = .ok (.iload_n 1, 1) := by decide +kernel
theorem dX5_round_2 : decode cX5_round 2 = .ok (.invokevirtual 132, 3) := by decide +kernel
theorem dX5_round_5 : decode cX5_round 5 = .ok (.aload_n 0, 1) := by decide +kernel
theorem dX5_round_6 : decode cX5_round 6 = .ok (.iload_n 2, 1) := by decide +kernel
theorem dX5_round_7 : decode cX5_round 7 = .ok (.iconst 2, 1) := by decide +kernel
theorem dX5_round_8 : decode cX5_round 8 = .ok (.invokevirtual 200, 3) := by decide +kernel
theorem dX5_round_11 : decode cX5_round 11 = .ok (.aload_n 0, 1) := by decide +kernel
theorem dX5_round_12 : decode cX5_round 12 = .ok (.getfield 16, 3) := by decide +kernel
theorem dX5_round_15 : decode cX5_round 15 = .ok (.aload_n 0, 1) := by decide +kernel
theorem dX5_round_16 : decode cX5_round 16 = .ok (.getfield 10, 3) := by decide +kernel
theorem dX5_round_19 : decode cX5_round 19 = .ok (.invokevirtual 106, 3) := by decide +kernel
theorem dX5_round_22 : decode cX5_round 22 = .ok (.iconst 0, 1) := by decide +kernel
theorem dX5_round_23 : decode cX5_round 23 = .ok (.istore_n 3, 1) := by decide +kernel
theorem dX5_round_24 : decode cX5_round 24 = .ok (.iload_n 1, 1) := by decide +kernel
theorem dX5_round_25 : decode cX5_round 25 = .ok (.istore 4, 2) := by decide +kernel
theorem dX5_round_27 : decode cX5_round 27 = .ok (.iload_n 3, 1) := by decide +kernel
theorem dX5_round_28 : decode cX5_round 28 = .ok (.bipush 20, 2) := by decide +kernel
theorem dX5_round_30 : decode cX5_round 30 = .ok (.if_icmp .ge 49, 3) := by decide +kernel
theorem dX5_round_33 : decode cX5_round 33 = .ok (.iload_n 3, 1) := by decide +kernel
theorem dX5_round_34 : decode cX5_round 34 = .ok (.ifCond .eq 9, 3) := by decide +kernel
theorem dX5_round_37 : decode cX5_round 37 = .ok (.iload 4, 2) := by decide +kernel
theorem dX5_round_39 : decode cX5_round 39 = .ok (.iload_n 1, 1) := by decide +kernel
theorem dX5_round_40 : decode cX5_round 40 = .ok (.if_icmp .eq 39, 3) := by decide +kernel
theorem dX5_round_43 : decode cX5_round 43 = .ok (.aload_n 0, 1) := by decide +kernel
theorem dX5_round_44 : decode cX5_round 44 = .ok (.getfield 16, 3) := by decide +kernel
theorem dX5_round_47 : decode cX5_round 47 = .ok (.iload 4, 2) := by decide +kernel
theorem dX5_round_49 : decode cX5_round 49 = .ok (.invokevirtual 210, 3) := by decide +kernel
theorem dX5_round_52 : decode cX5_round 52 = .ok (.istore 5, 2) := by decide +kernel
theorem dX5_round_54 : decode cX5_round 54 = .ok (.aload_n 0, 1) := by decide +kernel
theorem dX5_round_55 : decode cX5_round 55 = .ok (.getfield 16, 3) := by decide +kernel
theorem dX5_round_58 : decode cX5_round 58 = .ok (.iload 4, 2) := by decide +kernel
theorem dX5_round_60 : decode cX5_round 60 = .ok (.invokevirtual 285, 3) := by decide +kernel
theorem dX5_round_63 : decode cX5_round 63 = .ok (.ifCond .ne 6, 3) := by decide +kernel
theorem dX5_round_66 : decode cX5_round 66 = .ok (.goto 13, 3) := by decide +kernel
theorem dX5_round_69 : decode cX5_round 69 = .ok (.iload 5, 2) := by decide +kernel
theorem dX5_round_71 : decode cX5_round 71 = .ok (.istore 4, 2) := by decide +kernel
theorem dX5_round_73 : decode cX5_round 73 = .ok (.iinc 3 1, 3) := by decide +kernel
theorem dX5_round_76 : decode cX5_round 76 = .ok (.goto (-49), 3) := by decide +kernel
theorem dX5_round_79 : decode cX5_round 79 = .ok (.iload_n 2, 1) := by decide +kernel
theorem dX5_round_80 : decode cX5_round 80 = .ok (.lookupswitch 33 #[(0, 28), (1, 30)], 28) := by decide +kernel
theorem dX5_round_108 : decode cX5_round 108 = .ok (.iload_n 3, 1) := by decide +kernel
theorem dX5_round_109 : decode cX5_round 109 = .ok (.ireturn, 1) := by decide +kernel
theorem dX5_round_110 : decode cX5_round 110 = .ok (.iload 4, 2) := by decide +kernel
theorem dX5_round_112 : decode cX5_round 112 = .ok (.ireturn, 1) := by decide +kernel
theorem dX5_round_113 : decode cX5_round 113 = .ok (.aload_n 0, 1) := by decide +kernel
theorem dX5_round_114 : decode cX5_round 114 = .ok (.getfield 16, 3) := by decide +kernel
theorem dX5_round_117 : decode cX5_round 117 = .ok (.aload_n 0, 1) := by decide +kernel
theorem dX5_round_118 : decode cX5_round 118 = .ok (.getfield 16, 3) := by decide +kernel
theorem dX5_round_121 : decode cX5_round 121 = .ok (.getfield 147, 3) := by decide +kernel
theorem dX5_round_124 : decode cX5_round 124 = .ok (.iload_n 1, 1) := by decide +kernel
theorem dX5_round_125 : decode cX5_round 125 = .ok (.iaload, 1) := by decide +kernel
theorem dX5_round_126 : decode cX5_round 126 = .ok (.invokevirtual 150, 3) := by decide +kernel
theorem dX5_round_129 : decode cX5_round 129 = .ok (.aload_n 0, 1) := by decide +kernel
theorem dX5_round_130 : decode cX5_round 130 = .ok (.getfield 10, 3) := by decide +kernel
theorem dX5_round_133 : decode cX5_round 133 = .ok (.aload_n 0, 1) := by decide +kernel
theorem dX5_round_134 : decode cX5_round 134 = .ok (.getfield 10, 3) := by decide +kernel
theorem dX5_round_137 : decode cX5_round 137 = .ok (.getfield 147, 3) := by decide +kernel
theorem dX5_round_140 : decode cX5_round 140 = .ok (.iload_n 1, 1) := by decide +kernel
theorem dX5_round_141 : decode cX5_round 141 = .ok (.iaload, 1) := by decide +kernel
theorem dX5_round_142 : decode cX5_round 142 = .ok (.invokevirtual 150, 3) := by decide +kernel
theorem dX5_round_145 : decode cX5_round 145 = .ok (.isub, 1) := by decide +kernel
theorem dX5_round_146 : decode cX5_round 146 = .ok (.ireturn, 1) := by decide +kernel
theorem dX5_days_0 : decode cX5_days 0 = .ok (.iload_n 1, 1) := by decide +kernel
theorem dX5_days_1 : decode cX5_days 1 = .ok (.ifCond .lt 9, 3) := by decide +kernel
theorem dX5_days_4 : decode cX5_days 4 = .ok (.iload_n 1, 1) := by decide +kernel
theorem dX5_days_5 : decode cX5_days 5 = .ok (.bipush 60, 2) := by decide +kernel
theorem dX5_days_7 : decode cX5_days 7 = .ok (.if_icmp .le 11, 3) := by decide +kernel
theorem dX5_days_10 : decode cX5_days 10 = .ok (.new 95, 3) := by decide +kernel
theorem dX5_days_13 : decode cX5_days 13 = .ok (.dup, 1) := by decide +kernel
theorem dX5_days_14 : decode cX5_days 14 = .ok (.invokespecial 97, 3) := by decide +kernel
theorem dX5_days_17 : decode cX5_days 17 = .ok (.athrow, 1) := by decide +kernel
theorem dX5_days_18 : decode cX5_days 18 = .ok (.aload_n 0, 1) := by decide +kernel
theorem dX5_days_19 : decode cX5_days 19 = .ok (.getfield 22, 3) := by decide +kernel
theorem dX5_days_22 : decode cX5_days 22 = .ok (.invokevirtual 128, 3) := by decide +kernel
theorem dX5_days_25 : decode cX5_days 25 = .ok (.istore_n 2, 1) := by decide +kernel
theorem dX5_days_26 : decode cX5_days 26 = .ok (.iconst 0, 1) := by decide +kernel
theorem dX5_days_27 : decode cX5_days 27 = .ok (.istore_n 3, 1) := by decide +kernel
theorem dX5_days_28 : decode cX5_days 28 = .ok (.iload_n 3, 1) := by decide +kernel
theorem dX5_days_29 : decode cX5_days 29 = .ok (.iload_n 1, 1) := by decide +kernel
theorem dX5_days_30 : decode cX5_days 30 = .ok (.if_icmp .ge 13, 3) := by decide +kernel
theorem dX5_days_33 : decode cX5_days 33 = .ok (.aload_n 0, 1) := by decide +kernel
theorem dX5_days_34 : decode cX5_days 34 = .ok (.invokevirtual 288, 3) := by decide +kernel
theorem dX5_days_37 : decode cX5_days 37 = .ok (.iinc 3 1, 3) := by decide +kernel
theorem dX5_days_40 : decode cX5_days 40 = .ok (.goto (-12), 3) := by decide +kernel
theorem dX5_days_43 : decode cX5_days 43 = .ok (.aload_n 0, 1) := by decide +kernel
theorem dX5_days_44 : decode cX5_days 44 = .ok (.getfield 22, 3) := by decide +kernel
theorem dX5_days_47 : decode cX5_days 47 = .ok (.invokevirtual 128, 3) := by decide +kernel
theorem dX5_days_50 : decode cX5_days 50 = .ok (.iload_n 2, 1) := by decide +kernel
theorem dX5_days_51 : decode cX5_days 51 = .ok (.isub, 1) := by decide +kernel
theorem dX5_days_52 : decode cX5_days 52 = .ok (.ireturn, 1) := by decide +kernel
theorem dX5_passDayByBook_0 : decode cX5_passDayByBook 0 = .ok (.iconst 0, 1) := by decide +kernel
theorem dX5_passDayByBook_1 : decode cX5_passDayByBook 1 = .ok (.istore_n 1, 1) := by decide +kernel
theorem dX5_passDayByBook_2 : decode cX5_passDayByBook 2 = .ok (.iload_n 1, 1) := by decide +kernel
theorem dX5_passDayByBook_3 : decode cX5_passDayByBook 3 = .ok (.aload_n 0, 1) := by decide +kernel
theorem dX5_passDayByBook_4 : decode cX5_passDayByBook 4 = .ok (.getfield 10, 3) := by decide +kernel
theorem dX5_passDayByBook_7 : decode cX5_passDayByBook 7 = .ok (.getfield 113, 3) := by decide +kernel
theorem dX5_passDayByBook_10 : decode cX5_passDayByBook 10 = .ok (.if_icmp .ge 56, 3) := by decide +kernel
theorem dX5_passDayByBook_13 : decode cX5_passDayByBook 13 = .ok (.aload_n 0, 1) := by decide +kernel
theorem dX5_passDayByBook_14 : decode cX5_passDayByBook 14 = .ok (.getfield 10, 3) := by decide +kernel
theorem dX5_passDayByBook_17 : decode cX5_passDayByBook 17 = .ok (.iload_n 1, 1) := by decide +kernel
theorem dX5_passDayByBook_18 : decode cX5_passDayByBook 18 = .ok (.invokevirtual 204, 3) := by decide +kernel
theorem dX5_passDayByBook_21 : decode cX5_passDayByBook 21 = .ok (.istore_n 2, 1) := by decide +kernel
theorem dX5_passDayByBook_22 : decode cX5_passDayByBook 22 = .ok (.iload_n 2, 1) := by decide +kernel
theorem dX5_passDayByBook_23 : decode cX5_passDayByBook 23 = .ok (.iconst (-1), 1) := by decide +kernel
theorem dX5_passDayByBook_24 : decode cX5_passDayByBook 24 = .ok (.if_icmp .eq 36, 3) := by decide +kernel
theorem dX5_passDayByBook_27 : decode cX5_passDayByBook 27 = .ok (.aload_n 0, 1) := by decide +kernel
theorem dX5_passDayByBook_28 : decode cX5_passDayByBook 28 = .ok (.getfield 22, 3) := by decide +kernel
theorem dX5_passDayByBook_31 : decode cX5_passDayByBook 31 = .ok (.invokevirtual 175, 3) := by decide +kernel
theorem dX5_passDayByBook_34 : decode cX5_passDayByBook 34 = .ok (.ifCond .ne 26, 3) := by decide +kernel
theorem dX5_passDayByBook_37 : decode cX5_passDayByBook 37 = .ok (.aload_n 0, 1) := by decide +kernel
theorem dX5_passDayByBook_38 : decode cX5_passDayByBook 38 = .ok (.iload_n 1, 1) := by decide +kernel
theorem dX5_passDayByBook_39 : decode cX5_passDayByBook 39 = .ok (.iload_n 2, 1) := by decide +kernel
theorem dX5_passDayByBook_40 : decode cX5_passDayByBook 40 = .ok (.aload_n 0, 1) := by decide +kernel
theorem dX5_passDayByBook_41 : decode cX5_passDayByBook 41 = .ok (.getfield 10, 3) := by decide +kernel
theorem dX5_passDayByBook_44 : decode cX5_passDayByBook 44 = .ok (.iload_n 1, 1) := by decide +kernel
theorem dX5_passDayByBook_45 : decode cX5_passDayByBook 45 = .ok (.iload_n 2, 1) := by decide +kernel
theorem dX5_passDayByBook_46 : decode cX5_passDayByBook 46 = .ok (.invokevirtual 207, 3) := by decide +kernel
theorem dX5_passDayByBook_49 : decode cX5_passDayByBook 49 = .ok (.aload_n 0, 1) := by decide +kernel
theorem dX5_passDayByBook_50 : decode cX5_passDayByBook 50 = .ok (.getfield 10, 3) := by decide +kernel
theorem dX5_passDayByBook_53 : decode cX5_passDayByBook 53 = .ok (.iload_n 1, 1) := by decide +kernel
theorem dX5_passDayByBook_54 : decode cX5_passDayByBook 54 = .ok (.invokevirtual 210, 3) := by decide +kernel
theorem dX5_passDayByBook_57 : decode cX5_passDayByBook 57 = .ok (.invokevirtual 179, 3) := by decide +kernel
theorem dX5_passDayByBook_60 : decode cX5_passDayByBook 60 = .ok (.iinc 1 1, 3) := by decide +kernel
theorem dX5_passDayByBook_63 : decode cX5_passDayByBook 63 = .ok (.goto (-61), 3) := by decide +kernel
theorem dX5_passDayByBook_66 : decode cX5_passDayByBook 66 = .ok (.aload_n 0, 1) := by decide +kernel
theorem dX5_passDayByBook_67 : decode cX5_passDayByBook 67 = .ok (.getfield 10, 3) := by decide +kernel
theorem dX5_passDayByBook_70 : decode cX5_passDayByBook 70 = .ok (.invokevirtual 291, 3) := by decide +kernel
theorem dX5_passDayByBook_73 : decode cX5_passDayByBook 73 = .ok (.return_, 1) := by decide +kernel
theorem dX5_still_0 : decode cX5_still 0 = .ok (.aload_n 0, 1) := by decide +kernel
theorem dX5_still_1 : decode cX5_still 1 = .ok (.getfield 16, 3) := by decide +kernel
theorem dX5_still_4 : decode cX5_still 4 = .ok (.aload_n 0, 1) := by decide +kernel
theorem dX5_still_5 : decode cX5_still 5 = .ok (.getfield 10, 3) := by decide +kernel
theorem dX5_still_8 : decode cX5_still 8 = .ok (.invokevirtual 106, 3) := by decide +kernel
theorem dX5_still_11 : decode cX5_still 11 = .ok (.iconst 0, 1) := by decide +kernel
theorem dX5_still_12 : decode cX5_still 12 = .ok (.istore_n 1, 1) := by decide +kernel
theorem dX5_still_13 : decode cX5_still 13 = .ok (.iload_n 1, 1) := by decide +kernel
theorem dX5_still_14 : decode cX5_still 14 = .ok (.bipush 100, 2) := by decide +kernel
theorem dX5_still_16 : decode cX5_still 16 = .ok (.if_icmp .ge 80, 3) := by decide +kernel
theorem dX5_still_19 : decode cX5_still 19 = .ok (.iconst 0, 1) := by decide +kernel
theorem dX5_still_20 : decode cX5_still 20 = .ok (.istore_n 2, 1) := by decide +kernel
theorem dX5_still_21 : decode cX5_still 21 = .ok (.iconst 0, 1) := by decide +kernel
theorem dX5_still_22 : decode cX5_still 22 = .ok (.istore_n 3, 1) := by decide +kernel
theorem dX5_still_23 : decode cX5_still 23 = .ok (.iload_n 3, 1) := by decide +kernel
theorem dX5_still_24 : decode cX5_still 24 = .ok (.aload_n 0, 1) := by decide +kernel
theorem dX5_still_25 : decode cX5_still 25 = .ok (.getfield 16, 3) := by decide +kernel
theorem dX5_still_28 : decode cX5_still 28 = .ok (.getfield 113, 3) := by decide +kernel
theorem dX5_still_31 : decode cX5_still 31 = .ok (.if_icmp .ge 20, 3) := by decide +kernel
theorem dX5_still_34 : decode cX5_still 34 = .ok (.iload_n 2, 1) := by decide +kernel
theorem dX5_still_35 : decode cX5_still 35 = .ok (.aload_n 0, 1) := by decide +kernel
theorem dX5_still_36 : decode cX5_still 36 = .ok (.getfield 16, 3) := by decide +kernel
theorem dX5_still_39 : decode cX5_still 39 = .ok (.iload_n 3, 1) := by decide +kernel
theorem dX5_still_40 : decode cX5_still 40 = .ok (.invokevirtual 285, 3) := by decide +kernel
theorem dX5_still_43 : decode cX5_still 43 = .ok (.ior, 1) := by decide +kernel
theorem dX5_still_44 : decode cX5_still 44 = .ok (.istore_n 2, 1) := by decide +kernel
theorem dX5_still_45 : decode cX5_still 45 = .ok (.iinc 3 1, 3) := by decide +kernel
theorem dX5_still_48 : decode cX5_still 48 = .ok (.goto (-25), 3) := by decide +kernel
theorem dX5_still_51 : decode cX5_still 51 = .ok (.iload_n 2, 1) := by decide +kernel
theorem dX5_still_52 : decode cX5_still 52 = .ok (.ifCond .ne 31, 3) := by decide +kernel
theorem dX5_still_55 : decode cX5_still 55 = .ok (.aload_n 0, 1) := by decide +kernel
theorem dX5_still_56 : decode cX5_still 56 = .ok (.getfield 16, 3) := by decide +kernel
theorem dX5_still_59 : decode cX5_still 59 = .ok (.invokevirtual 294, 3) := by decide +kernel
theorem dX5_still_62 : decode cX5_still 62 = .ok (.ifCond .ne 21, 3) := by decide +kernel
theorem dX5_still_65 : decode cX5_still 65 = .ok (.aload_n 0, 1) := by decide +kernel
theorem dX5_still_66 : decode cX5_still 66 = .ok (.getfield 16, 3) := by decide +kernel
theorem dX5_still_69 : decode cX5_still 69 = .ok (.invokevirtual 297, 3) := by decide +kernel
theorem dX5_still_72 : decode cX5_still 72 = .ok (.ifCond .ne 11, 3) := by decide +kernel
theorem dX5_still_75 : decode cX5_still 75 = .ok (.aload_n 0, 1) := by decide +kernel
theorem dX5_still_76 : decode cX5_still 76 = .ok (.getfield 16, 3) := by decide +kernel
theorem dX5_still_79 : decode cX5_still 79 = .ok (.getfield 125, 3) := by decide +kernel
theorem dX5_still_82 : decode cX5_still 82 = .ok (.ireturn, 1) := by decide +kernel
theorem dX5_still_83 : decode cX5_still 83 = .ok (.aload_n 0, 1) := by decide +kernel
theorem dX5_still_84 : decode cX5_still 84 = .ok (.getfield 16, 3) := by decide +kernel
theorem dX5_still_87 : decode cX5_still 87 = .ok (.invokevirtual 291, 3) := by decide +kernel
theorem dX5_still_90 : decode cX5_still 90 = .ok (.iinc 1 1, 3) := by decide +kernel
theorem dX5_still_93 : decode cX5_still 93 = .ok (.goto (-80), 3) := by decide +kernel
theorem dX5_still_96 : decode cX5_still 96 = .ok (.iconst (-1), 1) := by decide +kernel
theorem dX5_still_97 : decode cX5_still 97 = .ok (.ireturn, 1) := by decide +kernel
theorem dX5_image_0 : decode cX5_image 0 = .ok (.aload_n 0, 1) := by decide +kernel
theorem dX5_image_1 : decode cX5_image 1 = .ok (.getfield 37, 3) := by decide +kernel
theorem dX5_image_4 : decode cX5_image 4 = .ok (.aload_n 0, 1) := by decide +kernel
theorem dX5_image_5 : decode cX5_image 5 = .ok (.getfield 10, 3) := by decide +kernel
theorem dX5_image_8 : decode cX5_image 8 = .ok (.invokevirtual 106, 3) := by decide +kernel
theorem dX5_image_11 : decode cX5_image 11 = .ok (.aload_n 0, 1) := by decide +kernel
theorem dX5_image_12 : decode cX5_image 12 = .ok (.getfield 40, 3) := by decide +kernel
theorem dX5_image_15 : decode cX5_image 15 = .ok (.aload_n 0, 1) := by decide +kernel
theorem dX5_image_16 : decode cX5_image 16 = .ok (.getfield 22, 3) := by decide +kernel
theorem dX5_image_19 : decode cX5_image 19 = .ok (.invokevirtual 300, 3) := by decide +kernel
theorem dX5_image_22 : decode cX5_image 22 = .ok (.aload_n 0, 1) := by decide +kernel
theorem dX5_image_23 : decode cX5_image 23 = .ok (.aload_n 0, 1) := by decide +kernel
theorem dX5_image_24 : decode cX5_image 24 = .ok (.getfield 26, 3) := by decide +kernel
theorem dX5_image_27 : decode cX5_image 27 = .ok (.putfield 43, 3) := by decide +kernel
theorem dX5_image_30 : decode cX5_image 30 = .ok (.aload_n 0, 1) := by decide +kernel
theorem dX5_image_31 : decode cX5_image 31 = .ok (.aload_n 0, 1) := by decide +kernel
theorem dX5_image_32 : decode cX5_image 32 = .ok (.getfield 30, 3) := by decide +kernel
theorem dX5_image_35 : decode cX5_image 35 = .ok (.putfield 46, 3) := by decide +kernel
theorem dX5_image_38 : decode cX5_image 38 = .ok (.aload_n 0, 1) := by decide +kernel
theorem dX5_image_39 : decode cX5_image 39 = .ok (.iconst 1, 1) := by decide +kernel
theorem dX5_image_40 : decode cX5_image 40 = .ok (.putfield 33, 3) := by decide +kernel
theorem dX5_image_43 : decode cX5_image 43 = .ok (.return_, 1) := by decide +kernel
theorem dX5_restore_0 : decode cX5_restore 0 = .ok (.aload_n 0, 1) := by decide +kernel
theorem dX5_restore_1 : decode cX5_restore 1 = .ok (.getfield 33, 3) := by decide +kernel
theorem dX5_restore_4 : decode cX5_restore 4 = .ok (.ifCond .ne 5, 3) := by decide +kernel
theorem dX5_restore_7 : decode cX5_restore 7 = .ok (.iconst 0, 1) := by decide +kernel
theorem dX5_restore_8 : decode cX5_restore 8 = .ok (.ireturn, 1) := by decide +kernel
theorem dX5_restore_9 : decode cX5_restore 9 = .ok (.aload_n 0, 1) := by decide +kernel
theorem dX5_restore_10 : decode cX5_restore 10 = .ok (.getfield 10, 3) := by decide +kernel
theorem dX5_restore_13 : decode cX5_restore 13 = .ok (.aload_n 0, 1) := by decide +kernel
theorem dX5_restore_14 : decode cX5_restore 14 = .ok (.getfield 37, 3) := by decide +kernel
theorem dX5_restore_17 : decode cX5_restore 17 = .ok (.invokevirtual 106, 3) := by decide +kernel
theorem dX5_restore_20 : decode cX5_restore 20 = .ok (.aload_n 0, 1) := by decide +kernel
theorem dX5_restore_21 : decode cX5_restore 21 = .ok (.getfield 22, 3) := by decide +kernel
theorem dX5_restore_24 : decode cX5_restore 24 = .ok (.aload_n 0, 1) := by decide +kernel
theorem dX5_restore_25 : decode cX5_restore 25 = .ok (.getfield 40, 3) := by decide +kernel
theorem dX5_restore_28 : decode cX5_restore 28 = .ok (.invokevirtual 300, 3) := by decide +kernel
theorem dX5_restore_31 : decode cX5_restore 31 = .ok (.aload_n 0, 1) := by decide +kernel
theorem dX5_restore_32 : decode cX5_restore 32 = .ok (.aload_n 0, 1) := by decide +kernel
theorem dX5_restore_33 : decode cX5_restore 33 = .ok (.getfield 43, 3) := by decide +kernel
theorem dX5_restore_36 : decode cX5_restore 36 = .ok (.putfield 26, 3) := by decide +kernel
theorem dX5_restore_39 : decode cX5_restore 39 = .ok (.aload_n 0, 1) := by decide +kernel
theorem dX5_restore_40 : decode cX5_restore 40 = .ok (.aload_n 0, 1) := by decide +kernel
theorem dX5_restore_41 : decode cX5_restore 41 = .ok (.getfield 46, 3) := by decide +kernel
theorem dX5_restore_44 : decode cX5_restore 44 = .ok (.putfield 30, 3) := by decide +kernel
theorem dX5_restore_47 : decode cX5_restore 47 = .ok (.iconst 1, 1) := by decide +kernel
theorem dX5_restore_48 : decode cX5_restore 48 = .ok (.ireturn, 1) := by decide +kernel
theorem dX5_requirePerson_0 : decode cX5_requirePerson 0 = .ok (.iload_n 1, 1) := by decide +kernel
theorem dX5_requirePerson_1 : decode cX5_requirePerson 1 = .ok (.ifCond .lt 14, 3) := by decide +kernel
theorem dX5_requirePerson_4 : decode cX5_requirePerson 4 = .ok (.iload_n 1, 1) := by decide +kernel
theorem dX5_requirePerson_5 : decode cX5_requirePerson 5 = .ok (.aload_n 0, 1) := by decide +kernel
theorem dX5_requirePerson_6 : decode cX5_requirePerson 6 = .ok (.getfield 10, 3) := by decide +kernel
theorem dX5_requirePerson_9 : decode cX5_requirePerson 9 = .ok (.getfield 113, 3) := by decide +kernel
theorem dX5_requirePerson_12 : decode cX5_requirePerson 12 = .ok (.if_icmp .lt 11, 3) := by decide +kernel
theorem dX5_requirePerson_15 : decode cX5_requirePerson 15 = .ok (.new 129, 3) := by decide +kernel
theorem dX5_requirePerson_18 : decode cX5_requirePerson 18 = .ok (.dup, 1) := by decide +kernel
theorem dX5_requirePerson_19 : decode cX5_requirePerson 19 = .ok (.invokespecial 131, 3) := by decide +kernel
theorem dX5_requirePerson_22 : decode cX5_requirePerson 22 = .ok (.athrow, 1) := by decide +kernel
theorem dX5_requirePerson_23 : decode cX5_requirePerson 23 = .ok (.return_, 1) := by decide +kernel
theorem dX5_requireThing_0 : decode cX5_requireThing 0 = .ok (.iload_n 1, 1) := by decide +kernel
theorem dX5_requireThing_1 : decode cX5_requireThing 1 = .ok (.ifCond .lt 14, 3) := by decide +kernel
theorem dX5_requireThing_4 : decode cX5_requireThing 4 = .ok (.iload_n 1, 1) := by decide +kernel
theorem dX5_requireThing_5 : decode cX5_requireThing 5 = .ok (.aload_n 0, 1) := by decide +kernel
theorem dX5_requireThing_6 : decode cX5_requireThing 6 = .ok (.getfield 10, 3) := by decide +kernel
theorem dX5_requireThing_9 : decode cX5_requireThing 9 = .ok (.getfield 116, 3) := by decide +kernel
theorem dX5_requireThing_12 : decode cX5_requireThing 12 = .ok (.if_icmp .lt 11, 3) := by decide +kernel
theorem dX5_requireThing_15 : decode cX5_requireThing 15 = .ok (.new 129, 3) := by decide +kernel
theorem dX5_requireThing_18 : decode cX5_requireThing 18 = .ok (.dup, 1) := by decide +kernel
theorem dX5_requireThing_19 : decode cX5_requireThing 19 = .ok (.invokespecial 131, 3) := by decide +kernel
theorem dX5_requireThing_22 : decode cX5_requireThing 22 = .ok (.athrow, 1) := by decide +kernel
theorem dX5_requireThing_23 : decode cX5_requireThing 23 = .ok (.return_, 1) := by decide +kernel
theorem dX5_requireWhat_0 : decode cX5_requireWhat 0 = .ok (.iload_n 1, 1) := by decide +kernel
theorem dX5_requireWhat_1 : decode cX5_requireWhat 1 = .ok (.ifCond .lt 8, 3) := by decide +kernel
theorem dX5_requireWhat_4 : decode cX5_requireWhat 4 = .ok (.iload_n 1, 1) := by decide +kernel
theorem dX5_requireWhat_5 : decode cX5_requireWhat 5 = .ok (.iload_n 2, 1) := by decide +kernel
theorem dX5_requireWhat_6 : decode cX5_requireWhat 6 = .ok (.if_icmp .le 11, 3) := by decide +kernel
theorem dX5_requireWhat_9 : decode cX5_requireWhat 9 = .ok (.new 129, 3) := by decide +kernel
theorem dX5_requireWhat_12 : decode cX5_requireWhat 12 = .ok (.dup, 1) := by decide +kernel
theorem dX5_requireWhat_13 : decode cX5_requireWhat 13 = .ok (.invokespecial 131, 3) := by decide +kernel
theorem dX5_requireWhat_16 : decode cX5_requireWhat 16 = .ok (.athrow, 1) := by decide +kernel
theorem dX5_requireWhat_17 : decode cX5_requireWhat 17 = .ok (.return_, 1) := by decide +kernel
theorem dX5_requireWeights_0 : decode cX5_requireWeights 0 = .ok (.iload_n 1, 1) := by decide +kernel
theorem dX5_requireWeights_1 : decode cX5_requireWeights 1 = .ok (.iconst 1, 1) := by decide +kernel
theorem dX5_requireWeights_2 : decode cX5_requireWeights 2 = .ok (.if_icmp .lt 10, 3) := by decide +kernel
theorem dX5_requireWeights_5 : decode cX5_requireWeights 5 = .ok (.iload_n 1, 1) := by decide +kernel
theorem dX5_requireWeights_6 : decode cX5_requireWeights 6 = .ok (.sipush 999, 3) := by decide +kernel
theorem dX5_requireWeights_9 : decode cX5_requireWeights 9 = .ok (.if_icmp .le 11, 3) := by decide +kernel
theorem dX5_requireWeights_12 : decode cX5_requireWeights 12 = .ok (.new 95, 3) := by decide +kernel
theorem dX5_requireWeights_15 : decode cX5_requireWeights 15 = .ok (.dup, 1) := by decide +kernel
theorem dX5_requireWeights_16 : decode cX5_requireWeights 16 = .ok (.invokespecial 97, 3) := by decide +kernel
theorem dX5_requireWeights_19 : decode cX5_requireWeights 19 = .ok (.athrow, 1) := by decide +kernel
theorem dX5_requireWeights_20 : decode cX5_requireWeights 20 = .ok (.return_, 1) := by decide +kernel
