theorem dX1_init_0 : decode cX1_init 0 = .ok (.aload_n 0, 1) := by decide +kernel
theorem dX1_init_1 : decode cX1_init 1 = .ok (.invokespecial 3, 3) := by decide +kernel
theorem dX1_init_4 : decode cX1_init 4 = .ok (.aload_n 0, 1) := by decide +kernel
theorem dX1_init_5 : decode cX1_init 5 = .ok (.sipush 6000, 3) := by decide +kernel
theorem dX1_init_8 : decode cX1_init 8 = .ok (.newarray .long, 2) := by decide +kernel
theorem dX1_init_10 : decode cX1_init 10 = .ok (.putfield 11, 3) := by decide +kernel
theorem dX1_init_13 : decode cX1_init 13 = .ok (.aload_n 0, 1) := by decide +kernel
theorem dX1_init_14 : decode cX1_init 14 = .ok (.sipush 2048, 3) := by decide +kernel
theorem dX1_init_17 : decode cX1_init 17 = .ok (.newarray .short, 2) := by decide +kernel
theorem dX1_init_19 : decode cX1_init 19 = .ok (.putfield 15, 3) := by decide +kernel
theorem dX1_init_22 : decode cX1_init 22 = .ok (.aload_n 0, 1) := by decide +kernel
theorem dX1_init_23 : decode cX1_init 23 = .ok (.bipush 6, 2) := by decide +kernel
theorem dX1_init_25 : decode cX1_init 25 = .ok (.newarray .long, 2) := by decide +kernel
theorem dX1_init_27 : decode cX1_init 27 = .ok (.putfield 19, 3) := by decide +kernel
theorem dX1_init_30 : decode cX1_init 30 = .ok (.aload_n 0, 1) := by decide +kernel
theorem dX1_init_31 : decode cX1_init 31 = .ok (.new 22, 3) := by decide +kernel
theorem dX1_init_34 : decode cX1_init 34 = .ok (.dup, 1) := by decide +kernel
theorem dX1_init_35 : decode cX1_init 35 = .ok (.invokespecial 24, 3) := by decide +kernel
theorem dX1_init_38 : decode cX1_init 38 = .ok (.putfield 25, 3) := by decide +kernel
theorem dX1_init_41 : decode cX1_init 41 = .ok (.aload_n 0, 1) := by decide +kernel
theorem dX1_init_42 : decode cX1_init 42 = .ok (.iconst 0, 1) := by decide +kernel
theorem dX1_init_43 : decode cX1_init 43 = .ok (.putfield 29, 3) := by decide +kernel
theorem dX1_init_46 : decode cX1_init 46 = .ok (.aload_n 0, 1) := by decide +kernel
theorem dX1_init_47 : decode cX1_init 47 = .ok (.iconst 0, 1) := by decide +kernel
theorem dX1_init_48 : decode cX1_init 48 = .ok (.putfield 33, 3) := by decide +kernel
theorem dX1_init_51 : decode cX1_init 51 = .ok (.return_, 1) := by decide +kernel
theorem dX1_fewestGifts_0 : decode cX1_fewestGifts 0 = .ok (.aload_n 0, 1) := by decide +kernel
theorem dX1_fewestGifts_1 : decode cX1_fewestGifts 1 = .ok (.getfield 25, 3) := by decide +kernel
theorem dX1_fewestGifts_4 : decode cX1_fewestGifts 4 = .ok (.aload_n 1, 1) := by decide +kernel
theorem dX1_fewestGifts_5 : decode cX1_fewestGifts 5 = .ok (.invokevirtual 37, 3) := by decide +kernel
theorem dX1_fewestGifts_8 : decode cX1_fewestGifts 8 = .ok (.aload_n 0, 1) := by decide +kernel
theorem dX1_fewestGifts_9 : decode cX1_fewestGifts 9 = .ok (.getfield 15, 3) := by decide +kernel
theorem dX1_fewestGifts_12 : decode cX1_fewestGifts 12 = .ok (.iconst 0, 1) := by decide +kernel
theorem dX1_fewestGifts_13 : decode cX1_fewestGifts 13 = .ok (.invokestatic 41, 3) := by decide +kernel
theorem dX1_fewestGifts_16 : decode cX1_fewestGifts 16 = .ok (.aload_n 0, 1) := by decide +kernel
theorem dX1_fewestGifts_17 : decode cX1_fewestGifts 17 = .ok (.iconst 0, 1) := by decide +kernel
theorem dX1_fewestGifts_18 : decode cX1_fewestGifts 18 = .ok (.putfield 29, 3) := by decide +kernel
theorem dX1_fewestGifts_21 : decode cX1_fewestGifts 21 = .ok (.aload_n 0, 1) := by decide +kernel
theorem dX1_fewestGifts_22 : decode cX1_fewestGifts 22 = .ok (.iconst 0, 1) := by decide +kernel
theorem dX1_fewestGifts_23 : decode cX1_fewestGifts 23 = .ok (.putfield 33, 3) := by decide +kernel
theorem dX1_fewestGifts_26 : decode cX1_fewestGifts 26 = .ok (.aload_n 0, 1) := by decide +kernel
theorem dX1_fewestGifts_27 : decode cX1_fewestGifts 27 = .ok (.invokevirtual 47, 3) := by decide +kernel
theorem dX1_fewestGifts_30 : decode cX1_fewestGifts 30 = .ok (.iconst 0, 1) := by decide +kernel
theorem dX1_fewestGifts_31 : decode cX1_fewestGifts 31 = .ok (.istore 4, 2) := by decide +kernel
theorem dX1_fewestGifts_33 : decode cX1_fewestGifts 33 = .ok (.iconst (-1), 1) := by decide +kernel
theorem dX1_fewestGifts_34 : decode cX1_fewestGifts 34 = .ok (.istore 5, 2) := by decide +kernel
theorem dX1_fewestGifts_36 : decode cX1_fewestGifts 36 = .ok (.aload_n 0, 1) := by decide +kernel
theorem dX1_fewestGifts_37 : decode cX1_fewestGifts 37 = .ok (.getfield 29, 3) := by decide +kernel
theorem dX1_fewestGifts_40 : decode cX1_fewestGifts 40 = .ok (.istore 6, 2) := by decide +kernel
theorem dX1_fewestGifts_42 : decode cX1_fewestGifts 42 = .ok (.iconst 0, 1) := by decide +kernel
theorem dX1_fewestGifts_43 : decode cX1_fewestGifts 43 = .ok (.istore 7, 2) := by decide +kernel
theorem dX1_fewestGifts_45 : decode cX1_fewestGifts 45 = .ok (.iload 7, 2) := by decide +kernel
theorem dX1_fewestGifts_47 : decode cX1_fewestGifts 47 = .ok (.sipush 1000, 3) := by decide +kernel
theorem dX1_fewestGifts_50 : decode cX1_fewestGifts 50 = .ok (.if_icmp .ge 79, 3) := by decide +kernel
theorem dX1_fewestGifts_53 : decode cX1_fewestGifts 53 = .ok (.iload 7, 2) := by decide +kernel
theorem dX1_fewestGifts_55 : decode cX1_fewestGifts 55 = .ok (.aload_n 0, 1) := by decide +kernel
theorem dX1_fewestGifts_56 : decode cX1_fewestGifts 56 = .ok (.getfield 29, 3) := by decide +kernel
theorem dX1_fewestGifts_59 : decode cX1_fewestGifts 59 = .ok (.if_icmp .ge 70, 3) := by decide +kernel
theorem dX1_fewestGifts_62 : decode cX1_fewestGifts 62 = .ok (.aload_n 0, 1) := by decide +kernel
theorem dX1_fewestGifts_63 : decode cX1_fewestGifts 63 = .ok (.getfield 33, 3) := by decide +kernel
theorem dX1_fewestGifts_66 : decode cX1_fewestGifts 66 = .ok (.ifCond .ne 63, 3) := by decide +kernel
theorem dX1_fewestGifts_69 : decode cX1_fewestGifts 69 = .ok (.iload 7, 2) := by decide +kernel
theorem dX1_fewestGifts_71 : decode cX1_fewestGifts 71 = .ok (.iload 6, 2) := by decide +kernel
theorem dX1_fewestGifts_73 : decode cX1_fewestGifts 73 = .ok (.if_icmp .ne 12, 3) := by decide +kernel
theorem dX1_fewestGifts_76 : decode cX1_fewestGifts 76 = .ok (.iinc 4 1, 3) := by decide +kernel
theorem dX1_fewestGifts_79 : decode cX1_fewestGifts 79 = .ok (.aload_n 0, 1) := by decide +kernel
theorem dX1_fewestGifts_80 : decode cX1_fewestGifts 80 = .ok (.getfield 29, 3) := by decide +kernel
theorem dX1_fewestGifts_83 : decode cX1_fewestGifts 83 = .ok (.istore 6, 2) := by decide +kernel
theorem dX1_fewestGifts_85 : decode cX1_fewestGifts 85 = .ok (.aload_n 0, 1) := by decide +kernel
theorem dX1_fewestGifts_86 : decode cX1_fewestGifts 86 = .ok (.iload 7, 2) := by decide +kernel
theorem dX1_fewestGifts_88 : decode cX1_fewestGifts 88 = .ok (.invokevirtual 50, 3) := by decide +kernel
theorem dX1_fewestGifts_91 : decode cX1_fewestGifts 91 = .ok (.aload_n 0, 1) := by decide +kernel
theorem dX1_fewestGifts_92 : decode cX1_fewestGifts 92 = .ok (.getfield 25, 3) := by decide +kernel
theorem dX1_fewestGifts_95 : decode cX1_fewestGifts 95 = .ok (.iload_n 2, 1) := by decide +kernel
theorem dX1_fewestGifts_96 : decode cX1_fewestGifts 96 = .ok (.iload_n 3, 1) := by decide +kernel
theorem dX1_fewestGifts_97 : decode cX1_fewestGifts 97 = .ok (.invokevirtual 54, 3) := by decide +kernel
theorem dX1_fewestGifts_100 : decode cX1_fewestGifts 100 = .ok (.ifCond .ne 13, 3) := by decide +kernel
theorem dX1_fewestGifts_103 : decode cX1_fewestGifts 103 = .ok (.aload_n 0, 1) := by decide +kernel
theorem dX1_fewestGifts_104 : decode cX1_fewestGifts 104 = .ok (.iload 7, 2) := by decide +kernel
theorem dX1_fewestGifts_106 : decode cX1_fewestGifts 106 = .ok (.iload_n 2, 1) := by decide +kernel
theorem dX1_fewestGifts_107 : decode cX1_fewestGifts 107 = .ok (.invokevirtual 58, 3) := by decide +kernel
theorem dX1_fewestGifts_110 : decode cX1_fewestGifts 110 = .ok (.goto 13, 3) := by decide +kernel
theorem dX1_fewestGifts_113 : decode cX1_fewestGifts 113 = .ok (.iload 5, 2) := by decide +kernel
theorem dX1_fewestGifts_115 : decode cX1_fewestGifts 115 = .ok (.iconst (-1), 1) := by decide +kernel
theorem dX1_fewestGifts_116 : decode cX1_fewestGifts 116 = .ok (.if_icmp .ne 7, 3) := by decide +kernel
theorem dX1_fewestGifts_119 : decode cX1_fewestGifts 119 = .ok (.iload 4, 2) := by decide +kernel
theorem dX1_fewestGifts_121 : decode cX1_fewestGifts 121 = .ok (.istore 5, 2) := by decide +kernel
theorem dX1_fewestGifts_123 : decode cX1_fewestGifts 123 = .ok (.iinc 7 1, 3) := by decide +kernel
theorem dX1_fewestGifts_126 : decode cX1_fewestGifts 126 = .ok (.goto (-81), 3) := by decide +kernel
theorem dX1_fewestGifts_129 : decode cX1_fewestGifts 129 = .ok (.aload_n 0, 1) := by decide +kernel
theorem dX1_fewestGifts_130 : decode cX1_fewestGifts 130 = .ok (.getfield 33, 3) := by decide +kernel
theorem dX1_fewestGifts_133 : decode cX1_fewestGifts 133 = .ok (.ifCond .eq 8, 3) := by decide +kernel
theorem dX1_fewestGifts_136 : decode cX1_fewestGifts 136 = .ok (.bipush (-2), 2) := by decide +kernel
theorem dX1_fewestGifts_138 : decode cX1_fewestGifts 138 = .ok (.goto 5, 3) := by decide +kernel
theorem dX1_fewestGifts_141 : decode cX1_fewestGifts 141 = .ok (.iload 5, 2) := by decide +kernel
theorem dX1_fewestGifts_143 : decode cX1_fewestGifts 143 = .ok (.ireturn, 1) := by decide +kernel
theorem dX1_spread_0 : decode cX1_spread 0 = .ok (.iconst 0, 1) := by decide +kernel
theorem dX1_spread_1 : decode cX1_spread 1 = .ok (.istore_n 3, 1) := by decide +kernel
theorem dX1_spread_2 : decode cX1_spread 2 = .ok (.iload_n 3, 1) := by decide +kernel
theorem dX1_spread_3 : decode cX1_spread 3 = .ok (.aload_n 0, 1) := by decide +kernel
theorem dX1_spread_4 : decode cX1_spread 4 = .ok (.getfield 25, 3) := by decide +kernel
theorem dX1_spread_7 : decode cX1_spread 7 = .ok (.getfield 62, 3) := by decide +kernel
theorem dX1_spread_10 : decode cX1_spread 10 = .ok (.if_icmp .ge 50, 3) := by decide +kernel
theorem dX1_spread_13 : decode cX1_spread 13 = .ok (.aload_n 0, 1) := by decide +kernel
theorem dX1_spread_14 : decode cX1_spread 14 = .ok (.getfield 33, 3) := by decide +kernel
theorem dX1_spread_17 : decode cX1_spread 17 = .ok (.ifCond .ne 43, 3) := by decide +kernel
theorem dX1_spread_20 : decode cX1_spread 20 = .ok (.iload_n 3, 1) := by decide +kernel
theorem dX1_spread_21 : decode cX1_spread 21 = .ok (.iload_n 2, 1) := by decide +kernel
theorem dX1_spread_22 : decode cX1_spread 22 = .ok (.if_icmp .ne 12, 3) := by decide +kernel
theorem dX1_spread_25 : decode cX1_spread 25 = .ok (.aload_n 0, 1) := by decide +kernel
theorem dX1_spread_26 : decode cX1_spread 26 = .ok (.iload_n 1, 1) := by decide +kernel
theorem dX1_spread_27 : decode cX1_spread 27 = .ok (.iload_n 3, 1) := by decide +kernel
theorem dX1_spread_28 : decode cX1_spread 28 = .ok (.invokevirtual 65, 3) := by decide +kernel
theorem dX1_spread_31 : decode cX1_spread 31 = .ok (.goto 23, 3) := by decide +kernel
theorem dX1_spread_34 : decode cX1_spread 34 = .ok (.aload_n 0, 1) := by decide +kernel
theorem dX1_spread_35 : decode cX1_spread 35 = .ok (.getfield 25, 3) := by decide +kernel
theorem dX1_spread_38 : decode cX1_spread 38 = .ok (.iload_n 3, 1) := by decide +kernel
theorem dX1_spread_39 : decode cX1_spread 39 = .ok (.invokevirtual 68, 3) := by decide +kernel
theorem dX1_spread_42 : decode cX1_spread 42 = .ok (.ifCond .eq 12, 3) := by decide +kernel
theorem dX1_spread_45 : decode cX1_spread 45 = .ok (.aload_n 0, 1) := by decide +kernel
theorem dX1_spread_46 : decode cX1_spread 46 = .ok (.invokevirtual 47, 3) := by decide +kernel
theorem dX1_spread_49 : decode cX1_spread 49 = .ok (.aload_n 0, 1) := by decide +kernel
theorem dX1_spread_50 : decode cX1_spread 50 = .ok (.iload_n 1, 1) := by decide +kernel
theorem dX1_spread_51 : decode cX1_spread 51 = .ok (.invokevirtual 50, 3) := by decide +kernel
theorem dX1_spread_54 : decode cX1_spread 54 = .ok (.iinc 3 1, 3) := by decide +kernel
theorem dX1_spread_57 : decode cX1_spread 57 = .ok (.goto (-55), 3) := by decide +kernel
theorem dX1_spread_60 : decode cX1_spread 60 = .ok (.return_, 1) := by decide +kernel
theorem dX1_spreadBySets_0 : decode cX1_spreadBySets 0 = .ok (.aload_n 0, 1) := by decide +kernel
theorem dX1_spreadBySets_1 : decode cX1_spreadBySets 1 = .ok (.getfield 25, 3) := by decide +kernel
theorem dX1_spreadBySets_4 : decode cX1_spreadBySets 4 = .ok (.iload_n 2, 1) := by decide +kernel
theorem dX1_spreadBySets_5 : decode cX1_spreadBySets 5 = .ok (.iconst (-1), 1) := by decide +kernel
theorem dX1_spreadBySets_6 : decode cX1_spreadBySets 6 = .ok (.invokevirtual 72, 3) := by decide +kernel
theorem dX1_spreadBySets_9 : decode cX1_spreadBySets 9 = .ok (.istore_n 3, 1) := by decide +kernel
theorem dX1_spreadBySets_10 : decode cX1_spreadBySets 10 = .ok (.iconst 0, 1) := by decide +kernel
theorem dX1_spreadBySets_11 : decode cX1_spreadBySets 11 = .ok (.istore 4, 2) := by decide +kernel
theorem dX1_spreadBySets_13 : decode cX1_spreadBySets 13 = .ok (.iload 4, 2) := by decide +kernel
theorem dX1_spreadBySets_15 : decode cX1_spreadBySets 15 = .ok (.sipush 4096, 3) := by decide +kernel
theorem dX1_spreadBySets_18 : decode cX1_spreadBySets 18 = .ok (.if_icmp .ge 38, 3) := by decide +kernel
theorem dX1_spreadBySets_21 : decode cX1_spreadBySets 21 = .ok (.iload_n 3, 1) := by decide +kernel
theorem dX1_spreadBySets_22 : decode cX1_spreadBySets 22 = .ok (.iconst (-1), 1) := by decide +kernel
theorem dX1_spreadBySets_23 : decode cX1_spreadBySets 23 = .ok (.if_icmp .eq 33, 3) := by decide +kernel
theorem dX1_spreadBySets_26 : decode cX1_spreadBySets 26 = .ok (.aload_n 0, 1) := by decide +kernel
theorem dX1_spreadBySets_27 : decode cX1_spreadBySets 27 = .ok (.getfield 33, 3) := by decide +kernel
theorem dX1_spreadBySets_30 : decode cX1_spreadBySets 30 = .ok (.ifCond .ne 26, 3) := by decide +kernel
theorem dX1_spreadBySets_33 : decode cX1_spreadBySets 33 = .ok (.aload_n 0, 1) := by decide +kernel
theorem dX1_spreadBySets_34 : decode cX1_spreadBySets 34 = .ok (.iload_n 1, 1) := by decide +kernel
theorem dX1_spreadBySets_35 : decode cX1_spreadBySets 35 = .ok (.iload_n 2, 1) := by decide +kernel
theorem dX1_spreadBySets_36 : decode cX1_spreadBySets 36 = .ok (.iload_n 3, 1) := by decide +kernel
theorem dX1_spreadBySets_37 : decode cX1_spreadBySets 37 = .ok (.invokevirtual 76, 3) := by decide +kernel
theorem dX1_spreadBySets_40 : decode cX1_spreadBySets 40 = .ok (.aload_n 0, 1) := by decide +kernel
theorem dX1_spreadBySets_41 : decode cX1_spreadBySets 41 = .ok (.getfield 25, 3) := by decide +kernel
theorem dX1_spreadBySets_44 : decode cX1_spreadBySets 44 = .ok (.iload_n 2, 1) := by decide +kernel
theorem dX1_spreadBySets_45 : decode cX1_spreadBySets 45 = .ok (.iload_n 3, 1) := by decide +kernel
theorem dX1_spreadBySets_46 : decode cX1_spreadBySets 46 = .ok (.invokevirtual 72, 3) := by decide +kernel
theorem dX1_spreadBySets_49 : decode cX1_spreadBySets 49 = .ok (.istore_n 3, 1) := by decide +kernel
theorem dX1_spreadBySets_50 : decode cX1_spreadBySets 50 = .ok (.iinc 4 1, 3) := by decide +kernel
theorem dX1_spreadBySets_53 : decode cX1_spreadBySets 53 = .ok (.goto (-40), 3) := by decide +kernel
theorem dX1_spreadBySets_56 : decode cX1_spreadBySets 56 = .ok (.return_, 1) := by decide +kernel
theorem dX1_spreadSet_0 : decode cX1_spreadSet 0 = .ok (.aload_n 0, 1) := by decide +kernel
theorem dX1_spreadSet_1 : decode cX1_spreadSet 1 = .ok (.getfield 25, 3) := by decide +kernel
theorem dX1_spreadSet_4 : decode cX1_spreadSet 4 = .ok (.iload_n 2, 1) := by decide +kernel
theorem dX1_spreadSet_5 : decode cX1_spreadSet 5 = .ok (.iload_n 3, 1) := by decide +kernel
theorem dX1_spreadSet_6 : decode cX1_spreadSet 6 = .ok (.invokevirtual 80, 3) := by decide +kernel
theorem dX1_spreadSet_9 : decode cX1_spreadSet 9 = .ok (.istore 4, 2) := by decide +kernel
theorem dX1_spreadSet_11 : decode cX1_spreadSet 11 = .ok (.aload_n 0, 1) := by decide +kernel
theorem dX1_spreadSet_12 : decode cX1_spreadSet 12 = .ok (.getfield 25, 3) := by decide +kernel
theorem dX1_spreadSet_15 : decode cX1_spreadSet 15 = .ok (.getfield 83, 3) := by decide +kernel
theorem dX1_spreadSet_18 : decode cX1_spreadSet 18 = .ok (.iload_n 2, 1) := by decide +kernel
theorem dX1_spreadSet_19 : decode cX1_spreadSet 19 = .ok (.iaload, 1) := by decide +kernel
theorem dX1_spreadSet_20 : decode cX1_spreadSet 20 = .ok (.istore 5, 2) := by decide +kernel
theorem dX1_spreadSet_22 : decode cX1_spreadSet 22 = .ok (.iconst 0, 1) := by decide +kernel
theorem dX1_spreadSet_23 : decode cX1_spreadSet 23 = .ok (.istore 6, 2) := by decide +kernel
theorem dX1_spreadSet_25 : decode cX1_spreadSet 25 = .ok (.iload 6, 2) := by decide +kernel
theorem dX1_spreadSet_27 : decode cX1_spreadSet 27 = .ok (.aload_n 0, 1) := by decide +kernel
theorem dX1_spreadSet_28 : decode cX1_spreadSet 28 = .ok (.getfield 25, 3) := by decide +kernel
theorem dX1_spreadSet_31 : decode cX1_spreadSet 31 = .ok (.getfield 62, 3) := by decide +kernel
theorem dX1_spreadSet_34 : decode cX1_spreadSet 34 = .ok (.if_icmp .ge 57, 3) := by decide +kernel
theorem dX1_spreadSet_37 : decode cX1_spreadSet 37 = .ok (.aload_n 0, 1) := by decide +kernel
theorem dX1_spreadSet_38 : decode cX1_spreadSet 38 = .ok (.getfield 33, 3) := by decide +kernel
theorem dX1_spreadSet_41 : decode cX1_spreadSet 41 = .ok (.ifCond .ne 50, 3) := by decide +kernel
theorem dX1_spreadSet_44 : decode cX1_spreadSet 44 = .ok (.iload 6, 2) := by decide +kernel
theorem dX1_spreadSet_46 : decode cX1_spreadSet 46 = .ok (.iload_n 2, 1) := by decide +kernel
theorem dX1_spreadSet_47 : decode cX1_spreadSet 47 = .ok (.if_icmp .eq 38, 3) := by decide +kernel
theorem dX1_spreadSet_50 : decode cX1_spreadSet 50 = .ok (.iload 5, 2) := by decide +kernel
theorem dX1_spreadSet_52 : decode cX1_spreadSet 52 = .ok (.iconst (-1), 1) := by decide +kernel
theorem dX1_spreadSet_53 : decode cX1_spreadSet 53 = .ok (.if_icmp .eq 10, 3) := by decide +kernel
theorem dX1_spreadSet_56 : decode cX1_spreadSet 56 = .ok (.iload 5, 2) := by decide +kernel
theorem dX1_spreadSet_58 : decode cX1_spreadSet 58 = .ok (.iload 6, 2) := by decide +kernel
theorem dX1_spreadSet_60 : decode cX1_spreadSet 60 = .ok (.if_icmp .ne 25, 3) := by decide +kernel
theorem dX1_spreadSet_63 : decode cX1_spreadSet 63 = .ok (.aload_n 0, 1) := by decide +kernel
theorem dX1_spreadSet_64 : decode cX1_spreadSet 64 = .ok (.getfield 25, 3) := by decide +kernel
theorem dX1_spreadSet_67 : decode cX1_spreadSet 67 = .ok (.iload_n 2, 1) := by decide +kernel
theorem dX1_spreadSet_68 : decode cX1_spreadSet 68 = .ok (.iload_n 3, 1) := by decide +kernel
theorem dX1_spreadSet_69 : decode cX1_spreadSet 69 = .ok (.iload 4, 2) := by decide +kernel
theorem dX1_spreadSet_71 : decode cX1_spreadSet 71 = .ok (.iload 6, 2) := by decide +kernel
theorem dX1_spreadSet_73 : decode cX1_spreadSet 73 = .ok (.invokevirtual 87, 3) := by decide +kernel
theorem dX1_spreadSet_76 : decode cX1_spreadSet 76 = .ok (.aload_n 0, 1) := by decide +kernel
theorem dX1_spreadSet_77 : decode cX1_spreadSet 77 = .ok (.invokevirtual 47, 3) := by decide +kernel
theorem dX1_spreadSet_80 : decode cX1_spreadSet 80 = .ok (.aload_n 0, 1) := by decide +kernel
theorem dX1_spreadSet_81 : decode cX1_spreadSet 81 = .ok (.iload_n 1, 1) := by decide +kernel
theorem dX1_spreadSet_82 : decode cX1_spreadSet 82 = .ok (.invokevirtual 50, 3) := by decide +kernel
theorem dX1_spreadSet_85 : decode cX1_spreadSet 85 = .ok (.iinc 6 1, 3) := by decide +kernel
theorem dX1_spreadSet_88 : decode cX1_spreadSet 88 = .ok (.goto (-63), 3) := by decide +kernel
theorem dX1_spreadSet_91 : decode cX1_spreadSet 91 = .ok (.return_, 1) := by decide +kernel
theorem dX1_noteState_0 : decode cX1_noteState 0 = .ok (.aload_n 0, 1) := by decide +kernel
theorem dX1_noteState_1 : decode cX1_noteState 1 = .ok (.invokevirtual 91, 3) := by decide +kernel
theorem dX1_noteState_4 : decode cX1_noteState 4 = .ok (.aload_n 0, 1) := by decide +kernel
theorem dX1_noteState_5 : decode cX1_noteState 5 = .ok (.invokevirtual 94, 3) := by decide +kernel
theorem dX1_noteState_8 : decode cX1_noteState 8 = .ok (.istore_n 1, 1) := by decide +kernel
theorem dX1_noteState_9 : decode cX1_noteState 9 = .ok (.iconst 0, 1) := by decide +kernel
theorem dX1_noteState_10 : decode cX1_noteState 10 = .ok (.istore_n 2, 1) := by decide +kernel
theorem dX1_noteState_11 : decode cX1_noteState 11 = .ok (.iload_n 2, 1) := by decide +kernel
theorem dX1_noteState_12 : decode cX1_noteState 12 = .ok (.sipush 2048, 3) := by decide +kernel
theorem dX1_noteState_15 : decode cX1_noteState 15 = .ok (.if_icmp .ge 42, 3) := by decide +kernel
theorem dX1_noteState_18 : decode cX1_noteState 18 = .ok (.aload_n 0, 1) := by decide +kernel
theorem dX1_noteState_19 : decode cX1_noteState 19 = .ok (.getfield 15, 3) := by decide +kernel
theorem dX1_noteState_22 : decode cX1_noteState 22 = .ok (.iload_n 1, 1) := by decide +kernel
theorem dX1_noteState_23 : decode cX1_noteState 23 = .ok (.saload, 1) := by decide +kernel
theorem dX1_noteState_24 : decode cX1_noteState 24 = .ok (.ifCond .eq 33, 3) := by decide +kernel
theorem dX1_noteState_27 : decode cX1_noteState 27 = .ok (.aload_n 0, 1) := by decide +kernel
theorem dX1_noteState_28 : decode cX1_noteState 28 = .ok (.aload_n 0, 1) := by decide +kernel
theorem dX1_noteState_29 : decode cX1_noteState 29 = .ok (.getfield 15, 3) := by decide +kernel
theorem dX1_noteState_32 : decode cX1_noteState 32 = .ok (.iload_n 1, 1) := by decide +kernel
theorem dX1_noteState_33 : decode cX1_noteState 33 = .ok (.saload, 1) := by decide +kernel
theorem dX1_noteState_34 : decode cX1_noteState 34 = .ok (.iconst 1, 1) := by decide +kernel
theorem dX1_noteState_35 : decode cX1_noteState 35 = .ok (.isub, 1) := by decide +kernel
theorem dX1_noteState_36 : decode cX1_noteState 36 = .ok (.invokevirtual 98, 3) := by decide +kernel
theorem dX1_noteState_39 : decode cX1_noteState 39 = .ok (.ifCond .eq 4, 3) := by decide +kernel
theorem dX1_noteState_42 : decode cX1_noteState 42 = .ok (.return_, 1) := by decide +kernel
theorem dX1_noteState_43 : decode cX1_noteState 43 = .ok (.iload_n 1, 1) := by decide +kernel
theorem dX1_noteState_44 : decode cX1_noteState 44 = .ok (.iconst 1, 1) := by decide +kernel
theorem dX1_noteState_45 : decode cX1_noteState 45 = .ok (.iadd, 1) := by decide +kernel
theorem dX1_noteState_46 : decode cX1_noteState 46 = .ok (.sipush 2047, 3) := by decide +kernel
theorem dX1_noteState_49 : decode cX1_noteState 49 = .ok (.iand, 1) := by decide +kernel
theorem dX1_noteState_50 : decode cX1_noteState 50 = .ok (.istore_n 1, 1) := by decide +kernel
theorem dX1_noteState_51 : decode cX1_noteState 51 = .ok (.iinc 2 1, 3) := by decide +kernel
theorem dX1_noteState_54 : decode cX1_noteState 54 = .ok (.goto (-43), 3) := by decide +kernel
theorem dX1_noteState_57 : decode cX1_noteState 57 = .ok (.aload_n 0, 1) := by decide +kernel
theorem dX1_noteState_58 : decode cX1_noteState 58 = .ok (.getfield 29, 3) := by decide +kernel
theorem dX1_noteState_61 : decode cX1_noteState 61 = .ok (.sipush 1000, 3) := by decide +kernel
theorem dX1_noteState_64 : decode cX1_noteState 64 = .ok (.if_icmp .lt 9, 3) := by decide +kernel
theorem dX1_noteState_67 : decode cX1_noteState 67 = .ok (.aload_n 0, 1) := by decide +kernel
theorem dX1_noteState_68 : decode cX1_noteState 68 = .ok (.iconst 1, 1) := by decide +kernel
theorem dX1_noteState_69 : decode cX1_noteState 69 = .ok (.putfield 33, 3) := by decide +kernel
theorem dX1_noteState_72 : decode cX1_noteState 72 = .ok (.return_, 1) := by decide +kernel
theorem dX1_noteState_73 : decode cX1_noteState 73 = .ok (.aload_n 0, 1) := by decide +kernel
theorem dX1_noteState_74 : decode cX1_noteState 74 = .ok (.getfield 19, 3) := by decide +kernel
theorem dX1_noteState_77 : decode cX1_noteState 77 = .ok (.iconst 0, 1) := by decide +kernel
theorem dX1_noteState_78 : decode cX1_noteState 78 = .ok (.aload_n 0, 1) := by decide +kernel
theorem dX1_noteState_79 : decode cX1_noteState 79 = .ok (.getfield 11, 3) := by decide +kernel
theorem dX1_noteState_82 : decode cX1_noteState 82 = .ok (.aload_n 0, 1) := by decide +kernel
theorem dX1_noteState_83 : decode cX1_noteState 83 = .ok (.getfield 29, 3) := by decide +kernel
theorem dX1_noteState_86 : decode cX1_noteState 86 = .ok (.bipush 6, 2) := by decide +kernel
theorem dX1_noteState_88 : decode cX1_noteState 88 = .ok (.imul, 1) := by decide +kernel
theorem dX1_noteState_89 : decode cX1_noteState 89 = .ok (.bipush 6, 2) := by decide +kernel
theorem dX1_noteState_91 : decode cX1_noteState 91 = .ok (.invokestatic 101, 3) := by decide +kernel
theorem dX1_noteState_94 : decode cX1_noteState 94 = .ok (.aload_n 0, 1) := by decide +kernel
theorem dX1_noteState_95 : decode cX1_noteState 95 = .ok (.dup, 1) := by decide +kernel
theorem dX1_noteState_96 : decode cX1_noteState 96 = .ok (.getfield 29, 3) := by decide +kernel
theorem dX1_noteState_99 : decode cX1_noteState 99 = .ok (.iconst 1, 1) := by decide +kernel
theorem dX1_noteState_100 : decode cX1_noteState 100 = .ok (.iadd, 1) := by decide +kernel
theorem dX1_noteState_101 : decode cX1_noteState 101 = .ok (.putfield 29, 3) := by decide +kernel
theorem dX1_noteState_104 : decode cX1_noteState 104 = .ok (.aload_n 0, 1) := by decide +kernel
theorem dX1_noteState_105 : decode cX1_noteState 105 = .ok (.getfield 15, 3) := by decide +kernel
theorem dX1_noteState_108 : decode cX1_noteState 108 = .ok (.iload_n 1, 1) := by decide +kernel
theorem dX1_noteState_109 : decode cX1_noteState 109 = .ok (.aload_n 0, 1) := by decide +kernel
theorem dX1_noteState_110 : decode cX1_noteState 110 = .ok (.getfield 29, 3) := by decide +kernel
theorem dX1_noteState_113 : decode cX1_noteState 113 = .ok (.i2s, 1) := by decide +kernel
theorem dX1_noteState_114 : decode cX1_noteState 114 = .ok (.sastore, 1) := by decide +kernel
theorem dX1_noteState_115 : decode cX1_noteState 115 = .ok (.return_, 1) := by decide +kernel
theorem dX1_pack_0 : decode cX1_pack 0 = .ok (.iconst 0, 1) := by decide +kernel
theorem dX1_pack_1 : decode cX1_pack 1 = .ok (.istore_n 1, 1) := by decide +kernel
theorem dX1_pack_2 : decode cX1_pack 2 = .ok (.iload_n 1, 1) := by decide +kernel
theorem dX1_pack_3 : decode cX1_pack 3 = .ok (.aload_n 0, 1) := by decide +kernel
theorem dX1_pack_4 : decode cX1_pack 4 = .ok (.getfield 25, 3) := by decide +kernel
theorem dX1_pack_7 : decode cX1_pack 7 = .ok (.getfield 62, 3) := by decide +kernel
theorem dX1_pack_10 : decode cX1_pack 10 = .ok (.if_icmp .ge 71, 3) := by decide +kernel
theorem dX1_pack_13 : decode cX1_pack 13 = .ok (.aload_n 0, 1) := by decide +kernel
theorem dX1_pack_14 : decode cX1_pack 14 = .ok (.getfield 25, 3) := by decide +kernel
theorem dX1_pack_17 : decode cX1_pack 17 = .ok (.getfield 83, 3) := by decide +kernel
theorem dX1_pack_20 : decode cX1_pack 20 = .ok (.iload_n 1, 1) := by decide +kernel
theorem dX1_pack_21 : decode cX1_pack 21 = .ok (.iaload, 1) := by decide +kernel
theorem dX1_pack_22 : decode cX1_pack 22 = .ok (.iconst 1, 1) := by decide +kernel
theorem dX1_pack_23 : decode cX1_pack 23 = .ok (.iadd, 1) := by decide +kernel
theorem dX1_pack_24 : decode cX1_pack 24 = .ok (.i2l, 1) := by decide +kernel
theorem dX1_pack_25 : decode cX1_pack 25 = .ok (.bipush 12, 2) := by decide +kernel
theorem dX1_pack_27 : decode cX1_pack 27 = .ok (.lshl, 1) := by decide +kernel
theorem dX1_pack_28 : decode cX1_pack 28 = .ok (.aload_n 0, 1) := by decide +kernel
theorem dX1_pack_29 : decode cX1_pack 29 = .ok (.getfield 25, 3) := by decide +kernel
theorem dX1_pack_32 : decode cX1_pack 32 = .ok (.getfield 107, 3) := by decide +kernel
theorem dX1_pack_35 : decode cX1_pack 35 = .ok (.iload_n 1, 1) := by decide +kernel
theorem dX1_pack_36 : decode cX1_pack 36 = .ok (.iaload, 1) := by decide +kernel
theorem dX1_pack_37 : decode cX1_pack 37 = .ok (.i2l, 1) := by decide +kernel
theorem dX1_pack_38 : decode cX1_pack 38 = .ok (.lor, 1) := by decide +kernel
theorem dX1_pack_39 : decode cX1_pack 39 = .ok (.lstore_n 2, 1) := by decide +kernel
theorem dX1_pack_40 : decode cX1_pack 40 = .ok (.aload_n 0, 1) := by decide +kernel
theorem dX1_pack_41 : decode cX1_pack 41 = .ok (.getfield 19, 3) := by decide +kernel
theorem dX1_pack_44 : decode cX1_pack 44 = .ok (.iload_n 1, 1) := by decide +kernel
theorem dX1_pack_45 : decode cX1_pack 45 = .ok (.lload_n 2, 1) := by decide +kernel
theorem dX1_pack_46 : decode cX1_pack 46 = .ok (.bipush 24, 2) := by decide +kernel
theorem dX1_pack_48 : decode cX1_pack 48 = .ok (.lshl, 1) := by decide +kernel
theorem dX1_pack_49 : decode cX1_pack 49 = .ok (.aload_n 0, 1) := by decide +kernel
theorem dX1_pack_50 : decode cX1_pack 50 = .ok (.getfield 25, 3) := by decide +kernel
theorem dX1_pack_53 : decode cX1_pack 53 = .ok (.getfield 110, 3) := by decide +kernel
theorem dX1_pack_56 : decode cX1_pack 56 = .ok (.iload_n 1, 1) := by decide +kernel
theorem dX1_pack_57 : decode cX1_pack 57 = .ok (.iaload, 1) := by decide +kernel
theorem dX1_pack_58 : decode cX1_pack 58 = .ok (.i2l, 1) := by decide +kernel
theorem dX1_pack_59 : decode cX1_pack 59 = .ok (.bipush 12, 2) := by decide +kernel
theorem dX1_pack_61 : decode cX1_pack 61 = .ok (.lshl, 1) := by decide +kernel
theorem dX1_pack_62 : decode cX1_pack 62 = .ok (.lor, 1) := by decide +kernel
theorem dX1_pack_63 : decode cX1_pack 63 = .ok (.aload_n 0, 1) := by decide +kernel
theorem dX1_pack_64 : decode cX1_pack 64 = .ok (.getfield 25, 3) := by decide +kernel
theorem dX1_pack_67 : decode cX1_pack 67 = .ok (.getfield 113, 3) := by decide +kernel
theorem dX1_pack_70 : decode cX1_pack 70 = .ok (.iload_n 1, 1) := by decide +kernel
theorem dX1_pack_71 : decode cX1_pack 71 = .ok (.iaload, 1) := by decide +kernel
theorem dX1_pack_72 : decode cX1_pack 72 = .ok (.i2l, 1) := by decide +kernel
theorem dX1_pack_73 : decode cX1_pack 73 = .ok (.lor, 1) := by decide +kernel
theorem dX1_pack_74 : decode cX1_pack 74 = .ok (.lastore, 1) := by decide +kernel
theorem dX1_pack_75 : decode cX1_pack 75 = .ok (.iinc 1 1, 3) := by decide +kernel
theorem dX1_pack_78 : decode cX1_pack 78 = .ok (.goto (-76), 3) := by decide +kernel
theorem dX1_pack_81 : decode cX1_pack 81 = .ok (.aload_n 0, 1) := by decide +kernel
theorem dX1_pack_82 : decode cX1_pack 82 = .ok (.getfield 25, 3) := by decide +kernel
theorem dX1_pack_85 : decode cX1_pack 85 = .ok (.getfield 62, 3) := by decide +kernel
theorem dX1_pack_88 : decode cX1_pack 88 = .ok (.istore_n 1, 1) := by decide +kernel
theorem dX1_pack_89 : decode cX1_pack 89 = .ok (.iload_n 1, 1) := by decide +kernel
theorem dX1_pack_90 : decode cX1_pack 90 = .ok (.bipush 6, 2) := by decide +kernel
theorem dX1_pack_92 : decode cX1_pack 92 = .ok (.if_icmp .ge 16, 3) := by decide +kernel
theorem dX1_pack_95 : decode cX1_pack 95 = .ok (.aload_n 0, 1) := by decide +kernel
theorem dX1_pack_96 : decode cX1_pack 96 = .ok (.getfield 19, 3) := by decide +kernel
theorem dX1_pack_99 : decode cX1_pack 99 = .ok (.iload_n 1, 1) := by decide +kernel
theorem dX1_pack_100 : decode cX1_pack 100 = .ok (.lconst 0, 1) := by decide +kernel
theorem dX1_pack_101 : decode cX1_pack 101 = .ok (.lastore, 1) := by decide +kernel
theorem dX1_pack_102 : decode cX1_pack 102 = .ok (.iinc 1 1, 3) := by decide +kernel
theorem dX1_pack_105 : decode cX1_pack 105 = .ok (.goto (-16), 3) := by decide +kernel
theorem dX1_pack_108 : decode cX1_pack 108 = .ok (.return_, 1) := by decide +kernel
theorem dX1_load_0 : decode cX1_load 0 = .ok (.iconst 0, 1) := by decide +kernel
theorem dX1_load_1 : decode cX1_load 1 = .ok (.istore_n 2, 1) := by decide +kernel
theorem dX1_load_2 : decode cX1_load 2 = .ok (.iload_n 2, 1) := by decide +kernel
theorem dX1_load_3 : decode cX1_load 3 = .ok (.aload_n 0, 1) := by decide +kernel
theorem dX1_load_4 : decode cX1_load 4 = .ok (.getfield 25, 3) := by decide +kernel
theorem dX1_load_7 : decode cX1_load 7 = .ok (.getfield 62, 3) := by decide +kernel
theorem dX1_load_10 : decode cX1_load 10 = .ok (.if_icmp .ge 88, 3) := by decide +kernel
theorem dX1_load_13 : decode cX1_load 13 = .ok (.aload_n 0, 1) := by decide +kernel
theorem dX1_load_14 : decode cX1_load 14 = .ok (.getfield 11, 3) := by decide +kernel
theorem dX1_load_17 : decode cX1_load 17 = .ok (.iload_n 1, 1) := by decide +kernel
theorem dX1_load_18 : decode cX1_load 18 = .ok (.bipush 6, 2) := by decide +kernel
theorem dX1_load_20 : decode cX1_load 20 = .ok (.imul, 1) := by decide +kernel
theorem dX1_load_21 : decode cX1_load 21 = .ok (.iload_n 2, 1) := by decide +kernel
theorem dX1_load_22 : decode cX1_load 22 = .ok (.iadd, 1) := by decide +kernel
theorem dX1_load_23 : decode cX1_load 23 = .ok (.laload, 1) := by decide +kernel
theorem dX1_load_24 : decode cX1_load 24 = .ok (.lstore_n 3, 1) := by decide +kernel
theorem dX1_load_25 : decode cX1_load 25 = .ok (.aload_n 0, 1) := by decide +kernel
theorem dX1_load_26 : decode cX1_load 26 = .ok (.getfield 25, 3) := by decide +kernel
theorem dX1_load_29 : decode cX1_load 29 = .ok (.getfield 113, 3) := by decide +kernel
theorem dX1_load_32 : decode cX1_load 32 = .ok (.iload_n 2, 1) := by decide +kernel
theorem dX1_load_33 : decode cX1_load 33 = .ok (.lload_n 3, 1) := by decide +kernel
theorem dX1_load_34 : decode cX1_load 34 = .ok (.l2i, 1) := by decide +kernel
theorem dX1_load_35 : decode cX1_load 35 = .ok (.sipush 4095, 3) := by decide +kernel
theorem dX1_load_38 : decode cX1_load 38 = .ok (.iand, 1) := by decide +kernel
theorem dX1_load_39 : decode cX1_load 39 = .ok (.iastore, 1) := by decide +kernel
theorem dX1_load_40 : decode cX1_load 40 = .ok (.aload_n 0, 1) := by decide +kernel
theorem dX1_load_41 : decode cX1_load 41 = .ok (.getfield 25, 3) := by decide +kernel
theorem dX1_load_44 : decode cX1_load 44 = .ok (.getfield 110, 3) := by decide +kernel
theorem dX1_load_47 : decode cX1_load 47 = .ok (.iload_n 2, 1) := by decide +kernel
theorem dX1_load_48 : decode cX1_load 48 = .ok (.lload_n 3, 1) := by decide +kernel
theorem dX1_load_49 : decode cX1_load 49 = .ok (.bipush 12, 2) := by decide +kernel
theorem dX1_load_51 : decode cX1_load 51 = .ok (.lushr, 1) := by decide +kernel
theorem dX1_load_52 : decode cX1_load 52 = .ok (.l2i, 1) := by decide +kernel
theorem dX1_load_53 : decode cX1_load 53 = .ok (.sipush 4095, 3) := by decide +kernel
theorem dX1_load_56 : decode cX1_load 56 = .ok (.iand, 1) := by decide +kernel
theorem dX1_load_57 : decode cX1_load 57 = .ok (.iastore, 1) := by decide +kernel
theorem dX1_load_58 : decode cX1_load 58 = .ok (.aload_n 0, 1) := by decide +kernel
theorem dX1_load_59 : decode cX1_load 59 = .ok (.getfield 25, 3) := by decide +kernel
theorem dX1_load_62 : decode cX1_load 62 = .ok (.getfield 107, 3) := by decide +kernel
theorem dX1_load_65 : decode cX1_load 65 = .ok (.iload_n 2, 1) := by decide +kernel
theorem dX1_load_66 : decode cX1_load 66 = .ok (.lload_n 3, 1) := by decide +kernel
theorem dX1_load_67 : decode cX1_load 67 = .ok (.bipush 24, 2) := by decide +kernel
theorem dX1_load_69 : decode cX1_load 69 = .ok (.lushr, 1) := by decide +kernel
theorem dX1_load_70 : decode cX1_load 70 = .ok (.l2i, 1) := by decide +kernel
theorem dX1_load_71 : decode cX1_load 71 = .ok (.sipush 4095, 3) := by decide +kernel
theorem dX1_load_74 : decode cX1_load 74 = .ok (.iand, 1) := by decide +kernel
theorem dX1_load_75 : decode cX1_load 75 = .ok (.iastore, 1) := by decide +kernel
theorem dX1_load_76 : decode cX1_load 76 = .ok (.aload_n 0, 1) := by decide +kernel
theorem dX1_load_77 : decode cX1_load 77 = .ok (.getfield 25, 3) := by decide +kernel
theorem dX1_load_80 : decode cX1_load 80 = .ok (.getfield 83, 3) := by decide +kernel
theorem dX1_load_83 : decode cX1_load 83 = .ok (.iload_n 2, 1) := by decide +kernel
theorem dX1_load_84 : decode cX1_load 84 = .ok (.lload_n 3, 1) := by decide +kernel
theorem dX1_load_85 : decode cX1_load 85 = .ok (.bipush 36, 2) := by decide +kernel
theorem dX1_load_87 : decode cX1_load 87 = .ok (.lushr, 1) := by decide +kernel
theorem dX1_load_88 : decode cX1_load 88 = .ok (.l2i, 1) := by decide +kernel
theorem dX1_load_89 : decode cX1_load 89 = .ok (.iconst 1, 1) := by decide +kernel
theorem dX1_load_90 : decode cX1_load 90 = .ok (.isub, 1) := by decide +kernel
theorem dX1_load_91 : decode cX1_load 91 = .ok (.iastore, 1) := by decide +kernel
theorem dX1_load_92 : decode cX1_load 92 = .ok (.iinc 2 1, 3) := by decide +kernel
theorem dX1_load_95 : decode cX1_load 95 = .ok (.goto (-93), 3) := by decide +kernel
theorem dX1_load_98 : decode cX1_load 98 = .ok (.return_, 1) := by decide +kernel
theorem dX1_isPacked_0 : decode cX1_isPacked 0 = .ok (.iconst 0, 1) := by decide +kernel
theorem dX1_isPacked_1 : decode cX1_isPacked 1 = .ok (.istore_n 2, 1) := by decide +kernel
theorem dX1_isPacked_2 : decode cX1_isPacked 2 = .ok (.iload_n 2, 1) := by decide +kernel
theorem dX1_isPacked_3 : decode cX1_isPacked 3 = .ok (.bipush 6, 2) := by decide +kernel
theorem dX1_isPacked_5 : decode cX1_isPacked 5 = .ok (.if_icmp .ge 32, 3) := by decide +kernel
theorem dX1_isPacked_8 : decode cX1_isPacked 8 = .ok (.aload_n 0, 1) := by decide +kernel
theorem dX1_isPacked_9 : decode cX1_isPacked 9 = .ok (.getfield 11, 3) := by decide +kernel
theorem dX1_isPacked_12 : decode cX1_isPacked 12 = .ok (.iload_n 1, 1) := by decide +kernel
theorem dX1_isPacked_13 : decode cX1_isPacked 13 = .ok (.bipush 6, 2) := by decide +kernel
theorem dX1_isPacked_15 : decode cX1_isPacked 15 = .ok (.imul, 1) := by decide +kernel
theorem dX1_isPacked_16 : decode cX1_isPacked 16 = .ok (.iload_n 2, 1) := by decide +kernel
theorem dX1_isPacked_17 : decode cX1_isPacked 17 = .ok (.iadd, 1) := by decide +kernel
theorem dX1_isPacked_18 : decode cX1_isPacked 18 = .ok (.laload, 1) := by decide +kernel
theorem dX1_isPacked_19 : decode cX1_isPacked 19 = .ok (.aload_n 0, 1) := by decide +kernel
theorem dX1_isPacked_20 : decode cX1_isPacked 20 = .ok (.getfield 19, 3) := by decide +kernel
theorem dX1_isPacked_23 : decode cX1_isPacked 23 = .ok (.iload_n 2, 1) := by decide +kernel
theorem dX1_isPacked_24 : decode cX1_isPacked 24 = .ok (.laload, 1) := by decide +kernel
theorem dX1_isPacked_25 : decode cX1_isPacked 25 = .ok (.lcmp, 1) := by decide +kernel
theorem dX1_isPacked_26 : decode cX1_isPacked 26 = .ok (.ifCond .eq 5, 3) := by decide +kernel
theorem dX1_isPacked_29 : decode cX1_isPacked 29 = .ok (.iconst 0, 1) := by decide +kernel
theorem dX1_isPacked_30 : decode cX1_isPacked 30 = .ok (.ireturn, 1) := by decide +kernel
theorem dX1_isPacked_31 : decode cX1_isPacked 31 = .ok (.iinc 2 1, 3) := by decide +kernel
theorem dX1_isPacked_34 : decode cX1_isPacked 34 = .ok (.goto (-32), 3) := by decide +kernel
theorem dX1_isPacked_37 : decode cX1_isPacked 37 = .ok (.iconst 1, 1) := by decide +kernel
theorem dX1_isPacked_38 : decode cX1_isPacked 38 = .ok (.ireturn, 1) := by decide +kernel
theorem dX1_sumOfPacked_0 : decode cX1_sumOfPacked 0 = .ok (.lconst 0, 1) := by decide +kernel
theorem dX1_sumOfPacked_1 : decode cX1_sumOfPacked 1 = .ok (.lstore_n 1, 1) := by decide +kernel
theorem dX1_sumOfPacked_2 : decode cX1_sumOfPacked 2 = .ok (.iconst 0, 1) := by decide +kernel
theorem dX1_sumOfPacked_3 : decode cX1_sumOfPacked 3 = .ok (.istore_n 3, 1) := by decide +kernel
theorem dX1_sumOfPacked_4 : decode cX1_sumOfPacked 4 = .ok (.iload_n 3, 1) := by decide +kernel
theorem dX1_sumOfPacked_5 : decode cX1_sumOfPacked 5 = .ok (.bipush 6, 2) := by decide +kernel
theorem dX1_sumOfPacked_7 : decode cX1_sumOfPacked 7 = .ok (.if_icmp .ge 29, 3) := by decide +kernel
theorem dX1_sumOfPacked_10 : decode cX1_sumOfPacked 10 = .ok (.lload_n 1, 1) := by decide +kernel
theorem dX1_sumOfPacked_11 : decode cX1_sumOfPacked 11 = .ok (.aload_n 0, 1) := by decide +kernel
theorem dX1_sumOfPacked_12 : decode cX1_sumOfPacked 12 = .ok (.getfield 19, 3) := by decide +kernel
theorem dX1_sumOfPacked_15 : decode cX1_sumOfPacked 15 = .ok (.iload_n 3, 1) := by decide +kernel
theorem dX1_sumOfPacked_16 : decode cX1_sumOfPacked 16 = .ok (.laload, 1) := by decide +kernel
theorem dX1_sumOfPacked_17 : decode cX1_sumOfPacked 17 = .ok (.lxor, 1) := by decide +kernel
theorem dX1_sumOfPacked_18 : decode cX1_sumOfPacked 18 = .ok (.ldc2_w 116, 3) := by decide +kernel
theorem dX1_sumOfPacked_21 : decode cX1_sumOfPacked 21 = .ok (.lmul, 1) := by decide +kernel
theorem dX1_sumOfPacked_22 : decode cX1_sumOfPacked 22 = .ok (.lstore_n 1, 1) := by decide +kernel
theorem dX1_sumOfPacked_23 : decode cX1_sumOfPacked 23 = .ok (.lload_n 1, 1) := by decide +kernel
theorem dX1_sumOfPacked_24 : decode cX1_sumOfPacked 24 = .ok (.lload_n 1, 1) := by decide +kernel
theorem dX1_sumOfPacked_25 : decode cX1_sumOfPacked 25 = .ok (.bipush 29, 2) := by decide +kernel
theorem dX1_sumOfPacked_27 : decode cX1_sumOfPacked 27 = .ok (.lushr, 1) := by decide +kernel
theorem dX1_sumOfPacked_28 : decode cX1_sumOfPacked 28 = .ok (.lxor, 1) := by decide +kernel
theorem dX1_sumOfPacked_29 : decode cX1_sumOfPacked 29 = .ok (.lstore_n 1, 1) := by decide +kernel
theorem dX1_sumOfPacked_30 : decode cX1_sumOfPacked 30 = .ok (.iinc 3 1, 3) := by decide +kernel
theorem dX1_sumOfPacked_33 : decode cX1_sumOfPacked 33 = .ok (.goto (-29), 3) := by decide +kernel
theorem dX1_sumOfPacked_36 : decode cX1_sumOfPacked 36 = .ok (.lload_n 1, 1) := by decide +kernel
theorem dX1_sumOfPacked_37 : decode cX1_sumOfPacked 37 = .ok (.bipush 40, 2) := by decide +kernel
theorem dX1_sumOfPacked_39 : decode cX1_sumOfPacked 39 = .ok (.lushr, 1) := by decide +kernel
theorem dX1_sumOfPacked_40 : decode cX1_sumOfPacked 40 = .ok (.l2i, 1) := by decide +kernel
theorem dX1_sumOfPacked_41 : decode cX1_sumOfPacked 41 = .ok (.sipush 2047, 3) := by decide +kernel
theorem dX1_sumOfPacked_44 : decode cX1_sumOfPacked 44 = .ok (.iand, 1) := by decide +kernel
theorem dX1_sumOfPacked_45 : decode cX1_sumOfPacked 45 = .ok (.ireturn, 1) := by decide +kernel
