theorem dX6_thing_2 : decode cX6_thing 2 = .ok (.putfield 128, 3) := by decide +kernel
theorem dX6_thing_5 : decode cX6_thing 5 = .ok (.aload_n 0, 1) := by decide +kernel
theorem dX6_thing_6 : decode cX6_thing 6 = .ok (.iload_n 1, 1) := by decide +kernel
theorem dX6_thing_7 : decode cX6_thing 7 = .ok (.invokevirtual 276, 3) := by decide +kernel
theorem dX6_thing_10 : decode cX6_thing 10 = .ok (.ifCond .ne 9, 3) := by decide +kernel
theorem dX6_thing_13 : decode cX6_thing 13 = .ok (.aload_n 0, 1) := by decide +kernel
theorem dX6_thing_14 : decode cX6_thing 14 = .ok (.iconst 1, 1) := by decide +kernel
theorem dX6_thing_15 : decode cX6_thing 15 = .ok (.invokevirtual 243, 3) := by decide +kernel
theorem dX6_thing_18 : decode cX6_thing 18 = .ok (.ireturn, 1) := by decide +kernel
theorem dX6_thing_19 : decode cX6_thing 19 = .ok (.iload_n 2, 1) := by decide +kernel
theorem dX6_thing_20 : decode cX6_thing 20 = .ok (.ifCond .ne 12, 3) := by decide +kernel
theorem dX6_thing_23 : decode cX6_thing 23 = .ok (.aload_n 0, 1) := by decide +kernel
theorem dX6_thing_24 : decode cX6_thing 24 = .ok (.getfield 47, 3) := by decide +kernel
theorem dX6_thing_27 : decode cX6_thing 27 = .ok (.iload_n 1, 1) := by decide +kernel
theorem dX6_thing_28 : decode cX6_thing 28 = .ok (.iaload, 1) := by decide +kernel
theorem dX6_thing_29 : decode cX6_thing 29 = .ok (.goto 58, 3) := by decide +kernel
theorem dX6_thing_32 : decode cX6_thing 32 = .ok (.iload_n 2, 1) := by decide +kernel
theorem dX6_thing_33 : decode cX6_thing 33 = .ok (.iconst 1, 1) := by decide +kernel
theorem dX6_thing_34 : decode cX6_thing 34 = .ok (.if_icmp .ne 12, 3) := by decide +kernel
theorem dX6_thing_37 : decode cX6_thing 37 = .ok (.aload_n 0, 1) := by decide +kernel
theorem dX6_thing_38 : decode cX6_thing 38 = .ok (.getfield 35, 3) := by decide +kernel
theorem dX6_thing_41 : decode cX6_thing 41 = .ok (.iload_n 1, 1) := by decide +kernel
theorem dX6_thing_42 : decode cX6_thing 42 = .ok (.iaload, 1) := by decide +kernel
theorem dX6_thing_43 : decode cX6_thing 43 = .ok (.goto 44, 3) := by decide +kernel
theorem dX6_thing_46 : decode cX6_thing 46 = .ok (.iload_n 2, 1) := by decide +kernel
theorem dX6_thing_47 : decode cX6_thing 47 = .ok (.iconst 2, 1) := by decide +kernel
theorem dX6_thing_48 : decode cX6_thing 48 = .ok (.if_icmp .ne 12, 3) := by decide +kernel
theorem dX6_thing_51 : decode cX6_thing 51 = .ok (.aload_n 0, 1) := by decide +kernel
theorem dX6_thing_52 : decode cX6_thing 52 = .ok (.getfield 41, 3) := by decide +kernel
theorem dX6_thing_55 : decode cX6_thing 55 = .ok (.iload_n 1, 1) := by decide +kernel
theorem dX6_thing_56 : decode cX6_thing 56 = .ok (.iaload, 1) := by decide +kernel
theorem dX6_thing_57 : decode cX6_thing 57 = .ok (.goto 30, 3) := by decide +kernel
theorem dX6_thing_60 : decode cX6_thing 60 = .ok (.iload_n 2, 1) := by decide +kernel
theorem dX6_thing_61 : decode cX6_thing 61 = .ok (.iconst 3, 1) := by decide +kernel
theorem dX6_thing_62 : decode cX6_thing 62 = .ok (.if_icmp .ne 20, 3) := by decide +kernel
theorem dX6_thing_65 : decode cX6_thing 65 = .ok (.aload_n 0, 1) := by decide +kernel
theorem dX6_thing_66 : decode cX6_thing 66 = .ok (.getfield 53, 3) := by decide +kernel
theorem dX6_thing_69 : decode cX6_thing 69 = .ok (.iload_n 1, 1) := by decide +kernel
theorem dX6_thing_70 : decode cX6_thing 70 = .ok (.baload, 1) := by decide +kernel
theorem dX6_thing_71 : decode cX6_thing 71 = .ok (.ifCond .eq 7, 3) := by decide +kernel
theorem dX6_thing_74 : decode cX6_thing 74 = .ok (.iconst 1, 1) := by decide +kernel
theorem dX6_thing_75 : decode cX6_thing 75 = .ok (.goto 12, 3) := by decide +kernel
theorem dX6_thing_78 : decode cX6_thing 78 = .ok (.iconst 0, 1) := by decide +kernel
theorem dX6_thing_79 : decode cX6_thing 79 = .ok (.goto 8, 3) := by decide +kernel
theorem dX6_thing_82 : decode cX6_thing 82 = .ok (.aload_n 0, 1) := by decide +kernel
theorem dX6_thing_83 : decode cX6_thing 83 = .ok (.iconst 1, 1) := by decide +kernel
theorem dX6_thing_84 : decode cX6_thing 84 = .ok (.invokevirtual 243, 3) := by decide +kernel
theorem dX6_thing_87 : decode cX6_thing 87 = .ok (.ireturn, 1) := by decide +kernel
theorem dX6_troubleOf_0 : decode cX6_troubleOf 0 = .ok (.aload_n 0, 1) := by decide +kernel
theorem dX6_troubleOf_1 : decode cX6_troubleOf 1 = .ok (.iload_n 1, 1) := by decide +kernel
theorem dX6_troubleOf_2 : decode cX6_troubleOf 2 = .ok (.invokevirtual 263, 3) := by decide +kernel
theorem dX6_troubleOf_5 : decode cX6_troubleOf 5 = .ok (.ifCond .eq 32, 3) := by decide +kernel
theorem dX6_troubleOf_8 : decode cX6_troubleOf 8 = .ok (.aload_n 0, 1) := by decide +kernel
theorem dX6_troubleOf_9 : decode cX6_troubleOf 9 = .ok (.iload 4, 2) := by decide +kernel
theorem dX6_troubleOf_11 : decode cX6_troubleOf 11 = .ok (.invokevirtual 263, 3) := by decide +kernel
theorem dX6_troubleOf_14 : decode cX6_troubleOf 14 = .ok (.ifCond .eq 23, 3) := by decide +kernel
theorem dX6_troubleOf_17 : decode cX6_troubleOf 17 = .ok (.iload_n 2, 1) := by decide +kernel
theorem dX6_troubleOf_18 : decode cX6_troubleOf 18 = .ok (.ifCond .lt 19, 3) := by decide +kernel
theorem dX6_troubleOf_21 : decode cX6_troubleOf 21 = .ok (.iload_n 2, 1) := by decide +kernel
theorem dX6_troubleOf_22 : decode cX6_troubleOf 22 = .ok (.iconst 1, 1) := by decide +kernel
theorem dX6_troubleOf_23 : decode cX6_troubleOf 23 = .ok (.aload_n 0, 1) := by decide +kernel
theorem dX6_troubleOf_24 : decode cX6_troubleOf 24 = .ok (.getfield 25, 3) := by decide +kernel
theorem dX6_troubleOf_27 : decode cX6_troubleOf 27 = .ok (.iconst 1, 1) := by decide +kernel
theorem dX6_troubleOf_28 : decode cX6_troubleOf 28 = .ok (.iaload, 1) := by decide +kernel
theorem dX6_troubleOf_29 : decode cX6_troubleOf 29 = .ok (.ishl, 1) := by decide +kernel
theorem dX6_troubleOf_30 : decode cX6_troubleOf 30 = .ok (.if_icmp .ge 7, 3) := by decide +kernel
theorem dX6_troubleOf_33 : decode cX6_troubleOf 33 = .ok (.iload_n 3, 1) := by decide +kernel
theorem dX6_troubleOf_34 : decode cX6_troubleOf 34 = .ok (.ifCond .ge 5, 3) := by decide +kernel
theorem dX6_troubleOf_37 : decode cX6_troubleOf 37 = .ok (.iconst 1, 1) := by decide +kernel
theorem dX6_troubleOf_38 : decode cX6_troubleOf 38 = .ok (.ireturn, 1) := by decide +kernel
theorem dX6_troubleOf_39 : decode cX6_troubleOf 39 = .ok (.aload_n 0, 1) := by decide +kernel
theorem dX6_troubleOf_40 : decode cX6_troubleOf 40 = .ok (.getfield 41, 3) := by decide +kernel
theorem dX6_troubleOf_43 : decode cX6_troubleOf 43 = .ok (.bipush 18, 2) := by decide +kernel
theorem dX6_troubleOf_45 : decode cX6_troubleOf 45 = .ok (.iload_n 1, 1) := by decide +kernel
theorem dX6_troubleOf_46 : decode cX6_troubleOf 46 = .ok (.iadd, 1) := by decide +kernel
theorem dX6_troubleOf_47 : decode cX6_troubleOf 47 = .ok (.iaload, 1) := by decide +kernel
theorem dX6_troubleOf_48 : decode cX6_troubleOf 48 = .ok (.ifCond .ne 5, 3) := by decide +kernel
theorem dX6_troubleOf_51 : decode cX6_troubleOf 51 = .ok (.iconst 2, 1) := by decide +kernel
theorem dX6_troubleOf_52 : decode cX6_troubleOf 52 = .ok (.ireturn, 1) := by decide +kernel
theorem dX6_troubleOf_53 : decode cX6_troubleOf 53 = .ok (.iload_n 2, 1) := by decide +kernel
theorem dX6_troubleOf_54 : decode cX6_troubleOf 54 = .ok (.aload_n 0, 1) := by decide +kernel
theorem dX6_troubleOf_55 : decode cX6_troubleOf 55 = .ok (.aload_n 0, 1) := by decide +kernel
theorem dX6_troubleOf_56 : decode cX6_troubleOf 56 = .ok (.getfield 41, 3) := by decide +kernel
theorem dX6_troubleOf_59 : decode cX6_troubleOf 59 = .ok (.iload_n 1, 1) := by decide +kernel
theorem dX6_troubleOf_60 : decode cX6_troubleOf 60 = .ok (.invokevirtual 266, 3) := by decide +kernel
theorem dX6_troubleOf_63 : decode cX6_troubleOf 63 = .ok (.iconst (-1), 1) := by decide +kernel
theorem dX6_troubleOf_64 : decode cX6_troubleOf 64 = .ok (.ixor, 1) := by decide +kernel
theorem dX6_troubleOf_65 : decode cX6_troubleOf 65 = .ok (.iand, 1) := by decide +kernel
theorem dX6_troubleOf_66 : decode cX6_troubleOf 66 = .ok (.ifCond .ne 16, 3) := by decide +kernel
theorem dX6_troubleOf_69 : decode cX6_troubleOf 69 = .ok (.iload_n 3, 1) := by decide +kernel
theorem dX6_troubleOf_70 : decode cX6_troubleOf 70 = .ok (.aload_n 0, 1) := by decide +kernel
theorem dX6_troubleOf_71 : decode cX6_troubleOf 71 = .ok (.getfield 41, 3) := by decide +kernel
theorem dX6_troubleOf_74 : decode cX6_troubleOf 74 = .ok (.bipush 12, 2) := by decide +kernel
theorem dX6_troubleOf_76 : decode cX6_troubleOf 76 = .ok (.iload_n 1, 1) := by decide +kernel
theorem dX6_troubleOf_77 : decode cX6_troubleOf 77 = .ok (.iadd, 1) := by decide +kernel
theorem dX6_troubleOf_78 : decode cX6_troubleOf 78 = .ok (.iaload, 1) := by decide +kernel
theorem dX6_troubleOf_79 : decode cX6_troubleOf 79 = .ok (.if_icmp .le 5, 3) := by decide +kernel
theorem dX6_troubleOf_82 : decode cX6_troubleOf 82 = .ok (.iconst 3, 1) := by decide +kernel
theorem dX6_troubleOf_83 : decode cX6_troubleOf 83 = .ok (.ireturn, 1) := by decide +kernel
theorem dX6_troubleOf_84 : decode cX6_troubleOf 84 = .ok (.iload 4, 2) := by decide +kernel
theorem dX6_troubleOf_86 : decode cX6_troubleOf 86 = .ok (.iload_n 1, 1) := by decide +kernel
theorem dX6_troubleOf_87 : decode cX6_troubleOf 87 = .ok (.if_icmp .eq 30, 3) := by decide +kernel
theorem dX6_troubleOf_90 : decode cX6_troubleOf 90 = .ok (.aload_n 0, 1) := by decide +kernel
theorem dX6_troubleOf_91 : decode cX6_troubleOf 91 = .ok (.getfield 41, 3) := by decide +kernel
theorem dX6_troubleOf_94 : decode cX6_troubleOf 94 = .ok (.bipush 24, 2) := by decide +kernel
theorem dX6_troubleOf_96 : decode cX6_troubleOf 96 = .ok (.iload_n 1, 1) := by decide +kernel
theorem dX6_troubleOf_97 : decode cX6_troubleOf 97 = .ok (.iadd, 1) := by decide +kernel
theorem dX6_troubleOf_98 : decode cX6_troubleOf 98 = .ok (.iaload, 1) := by decide +kernel
theorem dX6_troubleOf_99 : decode cX6_troubleOf 99 = .ok (.iconst (-1), 1) := by decide +kernel
theorem dX6_troubleOf_100 : decode cX6_troubleOf 100 = .ok (.if_icmp .eq 19, 3) := by decide +kernel
theorem dX6_troubleOf_103 : decode cX6_troubleOf 103 = .ok (.aload_n 0, 1) := by decide +kernel
theorem dX6_troubleOf_104 : decode cX6_troubleOf 104 = .ok (.getfield 41, 3) := by decide +kernel
theorem dX6_troubleOf_107 : decode cX6_troubleOf 107 = .ok (.bipush 24, 2) := by decide +kernel
theorem dX6_troubleOf_109 : decode cX6_troubleOf 109 = .ok (.iload_n 1, 1) := by decide +kernel
theorem dX6_troubleOf_110 : decode cX6_troubleOf 110 = .ok (.iadd, 1) := by decide +kernel
theorem dX6_troubleOf_111 : decode cX6_troubleOf 111 = .ok (.iaload, 1) := by decide +kernel
theorem dX6_troubleOf_112 : decode cX6_troubleOf 112 = .ok (.iload 4, 2) := by decide +kernel
theorem dX6_troubleOf_114 : decode cX6_troubleOf 114 = .ok (.if_icmp .eq 5, 3) := by decide +kernel
theorem dX6_troubleOf_117 : decode cX6_troubleOf 117 = .ok (.iconst 4, 1) := by decide +kernel
theorem dX6_troubleOf_118 : decode cX6_troubleOf 118 = .ok (.ireturn, 1) := by decide +kernel
theorem dX6_troubleOf_119 : decode cX6_troubleOf 119 = .ok (.aload_n 0, 1) := by decide +kernel
theorem dX6_troubleOf_120 : decode cX6_troubleOf 120 = .ok (.iload_n 2, 1) := by decide +kernel
theorem dX6_troubleOf_121 : decode cX6_troubleOf 121 = .ok (.invokevirtual 273, 3) := by decide +kernel
theorem dX6_troubleOf_124 : decode cX6_troubleOf 124 = .ok (.iload_n 3, 1) := by decide +kernel
theorem dX6_troubleOf_125 : decode cX6_troubleOf 125 = .ok (.iadd, 1) := by decide +kernel
theorem dX6_troubleOf_126 : decode cX6_troubleOf 126 = .ok (.istore 5, 2) := by decide +kernel
theorem dX6_troubleOf_128 : decode cX6_troubleOf 128 = .ok (.iload 5, 2) := by decide +kernel
theorem dX6_troubleOf_130 : decode cX6_troubleOf 130 = .ok (.aload_n 0, 1) := by decide +kernel
theorem dX6_troubleOf_131 : decode cX6_troubleOf 131 = .ok (.aload_n 0, 1) := by decide +kernel
theorem dX6_troubleOf_132 : decode cX6_troubleOf 132 = .ok (.getfield 41, 3) := by decide +kernel
theorem dX6_troubleOf_135 : decode cX6_troubleOf 135 = .ok (.bipush 18, 2) := by decide +kernel
theorem dX6_troubleOf_137 : decode cX6_troubleOf 137 = .ok (.iload_n 1, 1) := by decide +kernel
theorem dX6_troubleOf_138 : decode cX6_troubleOf 138 = .ok (.iadd, 1) := by decide +kernel
theorem dX6_troubleOf_139 : decode cX6_troubleOf 139 = .ok (.iaload, 1) := by decide +kernel
theorem dX6_troubleOf_140 : decode cX6_troubleOf 140 = .ok (.invokevirtual 279, 3) := by decide +kernel
theorem dX6_troubleOf_143 : decode cX6_troubleOf 143 = .ok (.if_icmp .ge 7, 3) := by decide +kernel
theorem dX6_troubleOf_146 : decode cX6_troubleOf 146 = .ok (.iconst 5, 1) := by decide +kernel
theorem dX6_troubleOf_147 : decode cX6_troubleOf 147 = .ok (.goto 30, 3) := by decide +kernel
theorem dX6_troubleOf_150 : decode cX6_troubleOf 150 = .ok (.iload 5, 2) := by decide +kernel
theorem dX6_troubleOf_152 : decode cX6_troubleOf 152 = .ok (.aload_n 0, 1) := by decide +kernel
theorem dX6_troubleOf_153 : decode cX6_troubleOf 153 = .ok (.getfield 41, 3) := by decide +kernel
theorem dX6_troubleOf_156 : decode cX6_troubleOf 156 = .ok (.bipush 18, 2) := by decide +kernel
theorem dX6_troubleOf_158 : decode cX6_troubleOf 158 = .ok (.iload_n 1, 1) := by decide +kernel
theorem dX6_troubleOf_159 : decode cX6_troubleOf 159 = .ok (.iadd, 1) := by decide +kernel
theorem dX6_troubleOf_160 : decode cX6_troubleOf 160 = .ok (.iaload, 1) := by decide +kernel
theorem dX6_troubleOf_161 : decode cX6_troubleOf 161 = .ok (.aload_n 0, 1) := by decide +kernel
theorem dX6_troubleOf_162 : decode cX6_troubleOf 162 = .ok (.getfield 25, 3) := by decide +kernel
theorem dX6_troubleOf_165 : decode cX6_troubleOf 165 = .ok (.iconst 3, 1) := by decide +kernel
theorem dX6_troubleOf_166 : decode cX6_troubleOf 166 = .ok (.iaload, 1) := by decide +kernel
theorem dX6_troubleOf_167 : decode cX6_troubleOf 167 = .ok (.iadd, 1) := by decide +kernel
theorem dX6_troubleOf_168 : decode cX6_troubleOf 168 = .ok (.if_icmp .le 8, 3) := by decide +kernel
theorem dX6_troubleOf_171 : decode cX6_troubleOf 171 = .ok (.bipush 6, 2) := by decide +kernel
theorem dX6_troubleOf_173 : decode cX6_troubleOf 173 = .ok (.goto 4, 3) := by decide +kernel
theorem dX6_troubleOf_176 : decode cX6_troubleOf 176 = .ok (.iconst 0, 1) := by decide +kernel
theorem dX6_troubleOf_177 : decode cX6_troubleOf 177 = .ok (.ireturn, 1) := by decide +kernel
theorem dX6_lightest_0 : decode cX6_lightest 0 = .ok (.iconst 1, 1) := by decide +kernel
theorem dX6_lightest_1 : decode cX6_lightest 1 = .ok (.iload_n 1, 1) := by decide +kernel
theorem dX6_lightest_2 : decode cX6_lightest 2 = .ok (.aload_n 0, 1) := by decide +kernel
theorem dX6_lightest_3 : decode cX6_lightest 3 = .ok (.getfield 25, 3) := by decide +kernel
theorem dX6_lightest_6 : decode cX6_lightest 6 = .ok (.iconst 3, 1) := by decide +kernel
theorem dX6_lightest_7 : decode cX6_lightest 7 = .ok (.iaload, 1) := by decide +kernel
theorem dX6_lightest_8 : decode cX6_lightest 8 = .ok (.isub, 1) := by decide +kernel
theorem dX6_lightest_9 : decode cX6_lightest 9 = .ok (.invokestatic 282, 3) := by decide +kernel
theorem dX6_lightest_12 : decode cX6_lightest 12 = .ok (.ireturn, 1) := by decide +kernel
theorem dX6_make_0 : decode cX6_make 0 = .ok (.aload_n 0, 1) := by decide +kernel
theorem dX6_make_1 : decode cX6_make 1 = .ok (.iload_n 3, 1) := by decide +kernel
theorem dX6_make_2 : decode cX6_make 2 = .ok (.invokevirtual 273, 3) := by decide +kernel
theorem dX6_make_5 : decode cX6_make 5 = .ok (.iload 4, 2) := by decide +kernel
theorem dX6_make_7 : decode cX6_make 7 = .ok (.iadd, 1) := by decide +kernel
theorem dX6_make_8 : decode cX6_make 8 = .ok (.istore 6, 2) := by decide +kernel
theorem dX6_make_10 : decode cX6_make 10 = .ok (.iconst 0, 1) := by decide +kernel
theorem dX6_make_11 : decode cX6_make 11 = .ok (.istore 7, 2) := by decide +kernel
theorem dX6_make_13 : decode cX6_make 13 = .ok (.iload 7, 2) := by decide +kernel
theorem dX6_make_15 : decode cX6_make 15 = .ok (.aload_n 0, 1) := by decide +kernel
theorem dX6_make_16 : decode cX6_make 16 = .ok (.getfield 25, 3) := by decide +kernel
theorem dX6_make_19 : decode cX6_make 19 = .ok (.iconst 1, 1) := by decide +kernel
theorem dX6_make_20 : decode cX6_make 20 = .ok (.iaload, 1) := by decide +kernel
theorem dX6_make_21 : decode cX6_make 21 = .ok (.if_icmp .ge 25, 3) := by decide +kernel
theorem dX6_make_24 : decode cX6_make 24 = .ok (.iload_n 3, 1) := by decide +kernel
theorem dX6_make_25 : decode cX6_make 25 = .ok (.iload 7, 2) := by decide +kernel
theorem dX6_make_27 : decode cX6_make 27 = .ok (.ishr, 1) := by decide +kernel
theorem dX6_make_28 : decode cX6_make 28 = .ok (.iconst 1, 1) := by decide +kernel
theorem dX6_make_29 : decode cX6_make 29 = .ok (.iand, 1) := by decide +kernel
theorem dX6_make_30 : decode cX6_make 30 = .ok (.iconst 1, 1) := by decide +kernel
theorem dX6_make_31 : decode cX6_make 31 = .ok (.if_icmp .ne 9, 3) := by decide +kernel
theorem dX6_make_34 : decode cX6_make 34 = .ok (.aload_n 1, 1) := by decide +kernel
theorem dX6_make_35 : decode cX6_make 35 = .ok (.iload 7, 2) := by decide +kernel
theorem dX6_make_37 : decode cX6_make 37 = .ok (.iload 5, 2) := by decide +kernel
theorem dX6_make_39 : decode cX6_make 39 = .ok (.iastore, 1) := by decide +kernel
theorem dX6_make_40 : decode cX6_make 40 = .ok (.iinc 7 1, 3) := by decide +kernel
theorem dX6_make_43 : decode cX6_make 43 = .ok (.goto (-30), 3) := by decide +kernel
theorem dX6_make_46 : decode cX6_make 46 = .ok (.aload_n 1, 1) := by decide +kernel
theorem dX6_make_47 : decode cX6_make 47 = .ok (.bipush 12, 2) := by decide +kernel
theorem dX6_make_49 : decode cX6_make 49 = .ok (.iload_n 2, 1) := by decide +kernel
theorem dX6_make_50 : decode cX6_make 50 = .ok (.iadd, 1) := by decide +kernel
theorem dX6_make_51 : decode cX6_make 51 = .ok (.dup2, 1) := by decide +kernel
theorem dX6_make_52 : decode cX6_make 52 = .ok (.iaload, 1) := by decide +kernel
theorem dX6_make_53 : decode cX6_make 53 = .ok (.iload 4, 2) := by decide +kernel
theorem dX6_make_55 : decode cX6_make 55 = .ok (.isub, 1) := by decide +kernel
theorem dX6_make_56 : decode cX6_make 56 = .ok (.iastore, 1) := by decide +kernel
theorem dX6_make_57 : decode cX6_make 57 = .ok (.aload_n 1, 1) := by decide +kernel
theorem dX6_make_58 : decode cX6_make 58 = .ok (.bipush 12, 2) := by decide +kernel
theorem dX6_make_60 : decode cX6_make 60 = .ok (.iload 5, 2) := by decide +kernel
theorem dX6_make_62 : decode cX6_make 62 = .ok (.iadd, 1) := by decide +kernel
theorem dX6_make_63 : decode cX6_make 63 = .ok (.dup2, 1) := by decide +kernel
theorem dX6_make_64 : decode cX6_make 64 = .ok (.iaload, 1) := by decide +kernel
theorem dX6_make_65 : decode cX6_make 65 = .ok (.iload 4, 2) := by decide +kernel
theorem dX6_make_67 : decode cX6_make 67 = .ok (.iadd, 1) := by decide +kernel
theorem dX6_make_68 : decode cX6_make 68 = .ok (.iastore, 1) := by decide +kernel
theorem dX6_make_69 : decode cX6_make 69 = .ok (.aload_n 1, 1) := by decide +kernel
theorem dX6_make_70 : decode cX6_make 70 = .ok (.bipush 18, 2) := by decide +kernel
theorem dX6_make_72 : decode cX6_make 72 = .ok (.iload_n 2, 1) := by decide +kernel
theorem dX6_make_73 : decode cX6_make 73 = .ok (.iadd, 1) := by decide +kernel
theorem dX6_make_74 : decode cX6_make 74 = .ok (.iconst 0, 1) := by decide +kernel
theorem dX6_make_75 : decode cX6_make 75 = .ok (.iastore, 1) := by decide +kernel
theorem dX6_make_76 : decode cX6_make 76 = .ok (.aload_n 1, 1) := by decide +kernel
theorem dX6_make_77 : decode cX6_make 77 = .ok (.bipush 24, 2) := by decide +kernel
theorem dX6_make_79 : decode cX6_make 79 = .ok (.iload_n 2, 1) := by decide +kernel
theorem dX6_make_80 : decode cX6_make 80 = .ok (.iadd, 1) := by decide +kernel
theorem dX6_make_81 : decode cX6_make 81 = .ok (.iconst (-1), 1) := by decide +kernel
theorem dX6_make_82 : decode cX6_make 82 = .ok (.iastore, 1) := by decide +kernel
theorem dX6_make_83 : decode cX6_make 83 = .ok (.aload_n 1, 1) := by decide +kernel
theorem dX6_make_84 : decode cX6_make 84 = .ok (.bipush 18, 2) := by decide +kernel
theorem dX6_make_86 : decode cX6_make 86 = .ok (.iload 5, 2) := by decide +kernel
theorem dX6_make_88 : decode cX6_make 88 = .ok (.iadd, 1) := by decide +kernel
theorem dX6_make_89 : decode cX6_make 89 = .ok (.iload 6, 2) := by decide +kernel
theorem dX6_make_91 : decode cX6_make 91 = .ok (.iastore, 1) := by decide +kernel
theorem dX6_make_92 : decode cX6_make 92 = .ok (.aload_n 1, 1) := by decide +kernel
theorem dX6_make_93 : decode cX6_make 93 = .ok (.bipush 24, 2) := by decide +kernel
theorem dX6_make_95 : decode cX6_make 95 = .ok (.iload 5, 2) := by decide +kernel
theorem dX6_make_97 : decode cX6_make 97 = .ok (.iadd, 1) := by decide +kernel
theorem dX6_make_98 : decode cX6_make 98 = .ok (.aload_n 0, 1) := by decide +kernel
theorem dX6_make_99 : decode cX6_make 99 = .ok (.getfield 25, 3) := by decide +kernel
theorem dX6_make_102 : decode cX6_make 102 = .ok (.iconst 2, 1) := by decide +kernel
theorem dX6_make_103 : decode cX6_make 103 = .ok (.iaload, 1) := by decide +kernel
theorem dX6_make_104 : decode cX6_make 104 = .ok (.ifCond .ne 7, 3) := by decide +kernel
theorem dX6_make_107 : decode cX6_make 107 = .ok (.iload_n 2, 1) := by decide +kernel
theorem dX6_make_108 : decode cX6_make 108 = .ok (.goto 4, 3) := by decide +kernel
theorem dX6_make_111 : decode cX6_make 111 = .ok (.iconst (-1), 1) := by decide +kernel
theorem dX6_make_112 : decode cX6_make 112 = .ok (.iastore, 1) := by decide +kernel
theorem dX6_make_113 : decode cX6_make 113 = .ok (.iload 6, 2) := by decide +kernel
theorem dX6_make_115 : decode cX6_make 115 = .ok (.ireturn, 1) := by decide +kernel
theorem dX6_makeNow_0 : decode cX6_makeNow 0 = .ok (.bipush 9, 2) := by decide +kernel
theorem dX6_makeNow_2 : decode cX6_makeNow 2 = .ok (.aload_n 0, 1) := by decide +kernel
theorem dX6_makeNow_3 : decode cX6_makeNow 3 = .ok (.getfield 256, 3) := by decide +kernel
theorem dX6_makeNow_6 : decode cX6_makeNow 6 = .ok (.imul, 1) := by decide +kernel
theorem dX6_makeNow_7 : decode cX6_makeNow 7 = .ok (.istore 5, 2) := by decide +kernel
theorem dX6_makeNow_9 : decode cX6_makeNow 9 = .ok (.aload_n 0, 1) := by decide +kernel
theorem dX6_makeNow_10 : decode cX6_makeNow 10 = .ok (.getfield 64, 3) := by decide +kernel
theorem dX6_makeNow_13 : decode cX6_makeNow 13 = .ok (.iload 5, 2) := by decide +kernel
theorem dX6_makeNow_15 : decode cX6_makeNow 15 = .ok (.iload_n 1, 1) := by decide +kernel
theorem dX6_makeNow_16 : decode cX6_makeNow 16 = .ok (.iastore, 1) := by decide +kernel
theorem dX6_makeNow_17 : decode cX6_makeNow 17 = .ok (.aload_n 0, 1) := by decide +kernel
theorem dX6_makeNow_18 : decode cX6_makeNow 18 = .ok (.getfield 64, 3) := by decide +kernel
theorem dX6_makeNow_21 : decode cX6_makeNow 21 = .ok (.iload 5, 2) := by decide +kernel
theorem dX6_makeNow_23 : decode cX6_makeNow 23 = .ok (.iconst 1, 1) := by decide +kernel
theorem dX6_makeNow_24 : decode cX6_makeNow 24 = .ok (.iadd, 1) := by decide +kernel
theorem dX6_makeNow_25 : decode cX6_makeNow 25 = .ok (.iload_n 2, 1) := by decide +kernel
theorem dX6_makeNow_26 : decode cX6_makeNow 26 = .ok (.iastore, 1) := by decide +kernel
theorem dX6_makeNow_27 : decode cX6_makeNow 27 = .ok (.aload_n 0, 1) := by decide +kernel
theorem dX6_makeNow_28 : decode cX6_makeNow 28 = .ok (.getfield 64, 3) := by decide +kernel
theorem dX6_makeNow_31 : decode cX6_makeNow 31 = .ok (.iload 5, 2) := by decide +kernel
theorem dX6_makeNow_33 : decode cX6_makeNow 33 = .ok (.iconst 2, 1) := by decide +kernel
theorem dX6_makeNow_34 : decode cX6_makeNow 34 = .ok (.iadd, 1) := by decide +kernel
theorem dX6_makeNow_35 : decode cX6_makeNow 35 = .ok (.iload_n 3, 1) := by decide +kernel
theorem dX6_makeNow_36 : decode cX6_makeNow 36 = .ok (.iastore, 1) := by decide +kernel
theorem dX6_makeNow_37 : decode cX6_makeNow 37 = .ok (.aload_n 0, 1) := by decide +kernel
theorem dX6_makeNow_38 : decode cX6_makeNow 38 = .ok (.getfield 64, 3) := by decide +kernel
theorem dX6_makeNow_41 : decode cX6_makeNow 41 = .ok (.iload 5, 2) := by decide +kernel
theorem dX6_makeNow_43 : decode cX6_makeNow 43 = .ok (.iconst 3, 1) := by decide +kernel
theorem dX6_makeNow_44 : decode cX6_makeNow 44 = .ok (.iadd, 1) := by decide +kernel
theorem dX6_makeNow_45 : decode cX6_makeNow 45 = .ok (.iload 4, 2) := by decide +kernel
theorem dX6_makeNow_47 : decode cX6_makeNow 47 = .ok (.iastore, 1) := by decide +kernel
theorem dX6_makeNow_48 : decode cX6_makeNow 48 = .ok (.aload_n 0, 1) := by decide +kernel
theorem dX6_makeNow_49 : decode cX6_makeNow 49 = .ok (.getfield 64, 3) := by decide +kernel
theorem dX6_makeNow_52 : decode cX6_makeNow 52 = .ok (.iload 5, 2) := by decide +kernel
theorem dX6_makeNow_54 : decode cX6_makeNow 54 = .ok (.iconst 5, 1) := by decide +kernel
theorem dX6_makeNow_55 : decode cX6_makeNow 55 = .ok (.iadd, 1) := by decide +kernel
theorem dX6_makeNow_56 : decode cX6_makeNow 56 = .ok (.aload_n 0, 1) := by decide +kernel
theorem dX6_makeNow_57 : decode cX6_makeNow 57 = .ok (.getfield 41, 3) := by decide +kernel
theorem dX6_makeNow_60 : decode cX6_makeNow 60 = .ok (.bipush 18, 2) := by decide +kernel
theorem dX6_makeNow_62 : decode cX6_makeNow 62 = .ok (.iload_n 1, 1) := by decide +kernel
theorem dX6_makeNow_63 : decode cX6_makeNow 63 = .ok (.iadd, 1) := by decide +kernel
theorem dX6_makeNow_64 : decode cX6_makeNow 64 = .ok (.iaload, 1) := by decide +kernel
theorem dX6_makeNow_65 : decode cX6_makeNow 65 = .ok (.iastore, 1) := by decide +kernel
theorem dX6_makeNow_66 : decode cX6_makeNow 66 = .ok (.aload_n 0, 1) := by decide +kernel
theorem dX6_makeNow_67 : decode cX6_makeNow 67 = .ok (.getfield 64, 3) := by decide +kernel
theorem dX6_makeNow_70 : decode cX6_makeNow 70 = .ok (.iload 5, 2) := by decide +kernel
theorem dX6_makeNow_72 : decode cX6_makeNow 72 = .ok (.bipush 6, 2) := by decide +kernel
theorem dX6_makeNow_74 : decode cX6_makeNow 74 = .ok (.iadd, 1) := by decide +kernel
theorem dX6_makeNow_75 : decode cX6_makeNow 75 = .ok (.aload_n 0, 1) := by decide +kernel
theorem dX6_makeNow_76 : decode cX6_makeNow 76 = .ok (.getfield 41, 3) := by decide +kernel
theorem dX6_makeNow_79 : decode cX6_makeNow 79 = .ok (.bipush 24, 2) := by decide +kernel
theorem dX6_makeNow_81 : decode cX6_makeNow 81 = .ok (.iload_n 1, 1) := by decide +kernel
theorem dX6_makeNow_82 : decode cX6_makeNow 82 = .ok (.iadd, 1) := by decide +kernel
theorem dX6_makeNow_83 : decode cX6_makeNow 83 = .ok (.iaload, 1) := by decide +kernel
theorem dX6_makeNow_84 : decode cX6_makeNow 84 = .ok (.iastore, 1) := by decide +kernel
theorem dX6_makeNow_85 : decode cX6_makeNow 85 = .ok (.aload_n 0, 1) := by decide +kernel
theorem dX6_makeNow_86 : decode cX6_makeNow 86 = .ok (.getfield 64, 3) := by decide +kernel
theorem dX6_makeNow_89 : decode cX6_makeNow 89 = .ok (.iload 5, 2) := by decide +kernel
theorem dX6_makeNow_91 : decode cX6_makeNow 91 = .ok (.bipush 7, 2) := by decide +kernel
theorem dX6_makeNow_93 : decode cX6_makeNow 93 = .ok (.iadd, 1) := by decide +kernel
theorem dX6_makeNow_94 : decode cX6_makeNow 94 = .ok (.aload_n 0, 1) := by decide +kernel
theorem dX6_makeNow_95 : decode cX6_makeNow 95 = .ok (.getfield 41, 3) := by decide +kernel
theorem dX6_makeNow_98 : decode cX6_makeNow 98 = .ok (.bipush 18, 2) := by decide +kernel
theorem dX6_makeNow_100 : decode cX6_makeNow 100 = .ok (.iload 4, 2) := by decide +kernel
theorem dX6_makeNow_102 : decode cX6_makeNow 102 = .ok (.iadd, 1) := by decide +kernel
theorem dX6_makeNow_103 : decode cX6_makeNow 103 = .ok (.iaload, 1) := by decide +kernel
theorem dX6_makeNow_104 : decode cX6_makeNow 104 = .ok (.iastore, 1) := by decide +kernel
theorem dX6_makeNow_105 : decode cX6_makeNow 105 = .ok (.aload_n 0, 1) := by decide +kernel
theorem dX6_makeNow_106 : decode cX6_makeNow 106 = .ok (.getfield 64, 3) := by decide +kernel
theorem dX6_makeNow_109 : decode cX6_makeNow 109 = .ok (.iload 5, 2) := by decide +kernel
theorem dX6_makeNow_111 : decode cX6_makeNow 111 = .ok (.bipush 8, 2) := by decide +kernel
theorem dX6_makeNow_113 : decode cX6_makeNow 113 = .ok (.iadd, 1) := by decide +kernel
theorem dX6_makeNow_114 : decode cX6_makeNow 114 = .ok (.aload_n 0, 1) := by decide +kernel
theorem dX6_makeNow_115 : decode cX6_makeNow 115 = .ok (.getfield 41, 3) := by decide +kernel
theorem dX6_makeNow_118 : decode cX6_makeNow 118 = .ok (.bipush 24, 2) := by decide +kernel
theorem dX6_makeNow_120 : decode cX6_makeNow 120 = .ok (.iload 4, 2) := by decide +kernel
theorem dX6_makeNow_122 : decode cX6_makeNow 122 = .ok (.iadd, 1) := by decide +kernel
theorem dX6_makeNow_123 : decode cX6_makeNow 123 = .ok (.iaload, 1) := by decide +kernel
theorem dX6_makeNow_124 : decode cX6_makeNow 124 = .ok (.iastore, 1) := by decide +kernel
theorem dX6_makeNow_125 : decode cX6_makeNow 125 = .ok (.aload_n 0, 1) := by decide +kernel
theorem dX6_makeNow_126 : decode cX6_makeNow 126 = .ok (.getfield 64, 3) := by decide +kernel
theorem dX6_makeNow_129 : decode cX6_makeNow 129 = .ok (.iload 5, 2) := by decide +kernel
theorem dX6_makeNow_131 : decode cX6_makeNow 131 = .ok (.iconst 4, 1) := by decide +kernel
theorem dX6_makeNow_132 : decode cX6_makeNow 132 = .ok (.iadd, 1) := by decide +kernel
theorem dX6_makeNow_133 : decode cX6_makeNow 133 = .ok (.aload_n 0, 1) := by decide +kernel
theorem dX6_makeNow_134 : decode cX6_makeNow 134 = .ok (.aload_n 0, 1) := by decide +kernel
theorem dX6_makeNow_135 : decode cX6_makeNow 135 = .ok (.getfield 41, 3) := by decide +kernel
theorem dX6_makeNow_138 : decode cX6_makeNow 138 = .ok (.iload_n 1, 1) := by decide +kernel
theorem dX6_makeNow_139 : decode cX6_makeNow 139 = .ok (.iload_n 2, 1) := by decide +kernel
theorem dX6_makeNow_140 : decode cX6_makeNow 140 = .ok (.iload_n 3, 1) := by decide +kernel
theorem dX6_makeNow_141 : decode cX6_makeNow 141 = .ok (.iload 4, 2) := by decide +kernel
theorem dX6_makeNow_143 : decode cX6_makeNow 143 = .ok (.invokevirtual 285, 3) := by decide +kernel
theorem dX6_makeNow_146 : decode cX6_makeNow 146 = .ok (.iastore, 1) := by decide +kernel
theorem dX6_makeNow_147 : decode cX6_makeNow 147 = .ok (.aload_n 0, 1) := by decide +kernel
theorem dX6_makeNow_148 : decode cX6_makeNow 148 = .ok (.dup, 1) := by decide +kernel
theorem dX6_makeNow_149 : decode cX6_makeNow 149 = .ok (.getfield 256, 3) := by decide +kernel
theorem dX6_makeNow_152 : decode cX6_makeNow 152 = .ok (.iconst 1, 1) := by decide +kernel
theorem dX6_makeNow_153 : decode cX6_makeNow 153 = .ok (.iadd, 1) := by decide +kernel
theorem dX6_makeNow_154 : decode cX6_makeNow 154 = .ok (.putfield 256, 3) := by decide +kernel
theorem dX6_makeNow_157 : decode cX6_makeNow 157 = .ok (.return_, 1) := by decide +kernel
theorem dX6_judge_0 : decode cX6_judge 0 = .ok (.aload_n 0, 1) := by decide +kernel
theorem dX6_judge_1 : decode cX6_judge 1 = .ok (.iconst 0, 1) := by decide +kernel
theorem dX6_judge_2 : decode cX6_judge 2 = .ok (.putfield 128, 3) := by decide +kernel
theorem dX6_judge_5 : decode cX6_judge 5 = .ok (.aload_n 0, 1) := by decide +kernel
theorem dX6_judge_6 : decode cX6_judge 6 = .ok (.iload_n 1, 1) := by decide +kernel
theorem dX6_judge_7 : decode cX6_judge 7 = .ok (.iload_n 2, 1) := by decide +kernel
theorem dX6_judge_8 : decode cX6_judge 8 = .ok (.iload_n 3, 1) := by decide +kernel
theorem dX6_judge_9 : decode cX6_judge 9 = .ok (.iload 4, 2) := by decide +kernel
theorem dX6_judge_11 : decode cX6_judge 11 = .ok (.invokevirtual 289, 3) := by decide +kernel
theorem dX6_judge_14 : decode cX6_judge 14 = .ok (.ireturn, 1) := by decide +kernel
theorem dX6_give_0 : decode cX6_give 0 = .ok (.aload_n 0, 1) := by decide +kernel
theorem dX6_give_1 : decode cX6_give 1 = .ok (.iconst 0, 1) := by decide +kernel
theorem dX6_give_2 : decode cX6_give 2 = .ok (.putfield 128, 3) := by decide +kernel
theorem dX6_give_5 : decode cX6_give 5 = .ok (.aload_n 0, 1) := by decide +kernel
theorem dX6_give_6 : decode cX6_give 6 = .ok (.iload_n 1, 1) := by decide +kernel
theorem dX6_give_7 : decode cX6_give 7 = .ok (.iload_n 2, 1) := by decide +kernel
theorem dX6_give_8 : decode cX6_give 8 = .ok (.iload_n 3, 1) := by decide +kernel
theorem dX6_give_9 : decode cX6_give 9 = .ok (.iload 4, 2) := by decide +kernel
theorem dX6_give_11 : decode cX6_give 11 = .ok (.invokevirtual 289, 3) := by decide +kernel
theorem dX6_give_14 : decode cX6_give 14 = .ok (.istore 5, 2) := by decide +kernel
theorem dX6_give_16 : decode cX6_give 16 = .ok (.iload 5, 2) := by decide +kernel
theorem dX6_give_18 : decode cX6_give 18 = .ok (.ifCond .ne 18, 3) := by decide +kernel
theorem dX6_give_21 : decode cX6_give 21 = .ok (.aload_n 0, 1) := by decide +kernel
theorem dX6_give_22 : decode cX6_give 22 = .ok (.getfield 256, 3) := by decide +kernel
theorem dX6_give_25 : decode cX6_give 25 = .ok (.sipush 200, 3) := by decide +kernel
theorem dX6_give_28 : decode cX6_give 28 = .ok (.if_icmp .ne 8, 3) := by decide +kernel
theorem dX6_give_31 : decode cX6_give 31 = .ok (.bipush 7, 2) := by decide +kernel
theorem dX6_give_33 : decode cX6_give 33 = .ok (.goto 5, 3) := by decide +kernel
theorem dX6_give_36 : decode cX6_give 36 = .ok (.iload 5, 2) := by decide +kernel
theorem dX6_give_38 : decode cX6_give 38 = .ok (.istore 5, 2) := by decide +kernel
theorem dX6_give_40 : decode cX6_give 40 = .ok (.iload 5, 2) := by decide +kernel
theorem dX6_give_42 : decode cX6_give 42 = .ok (.ifCond .eq 16, 3) := by decide +kernel
theorem dX6_give_45 : decode cX6_give 45 = .ok (.aload_n 0, 1) := by decide +kernel
theorem dX6_give_46 : decode cX6_give 46 = .ok (.getfield 38, 3) := by decide +kernel
theorem dX6_give_49 : decode cX6_give 49 = .ok (.iconst 1, 1) := by decide +kernel
theorem dX6_give_50 : decode cX6_give 50 = .ok (.dup2, 1) := by decide +kernel
theorem dX6_give_51 : decode cX6_give 51 = .ok (.iaload, 1) := by decide +kernel
theorem dX6_give_52 : decode cX6_give 52 = .ok (.iconst 1, 1) := by decide +kernel
theorem dX6_give_53 : decode cX6_give 53 = .ok (.iadd, 1) := by decide +kernel
theorem dX6_give_54 : decode cX6_give 54 = .ok (.iastore, 1) := by decide +kernel
theorem dX6_give_55 : decode cX6_give 55 = .ok (.iload 5, 2) := by decide +kernel
theorem dX6_give_57 : decode cX6_give 57 = .ok (.ireturn, 1) := by decide +kernel
theorem dX6_give_58 : decode cX6_give 58 = .ok (.aload_n 0, 1) := by decide +kernel
theorem dX6_give_59 : decode cX6_give 59 = .ok (.iload_n 1, 1) := by decide +kernel
theorem dX6_give_60 : decode cX6_give 60 = .ok (.iload_n 2, 1) := by decide +kernel
theorem dX6_give_61 : decode cX6_give 61 = .ok (.iload_n 3, 1) := by decide +kernel
theorem dX6_give_62 : decode cX6_give 62 = .ok (.iload 4, 2) := by decide +kernel
theorem dX6_give_64 : decode cX6_give 64 = .ok (.invokevirtual 293, 3) := by decide +kernel
theorem dX6_give_67 : decode cX6_give 67 = .ok (.iconst 0, 1) := by decide +kernel
theorem dX6_give_68 : decode cX6_give 68 = .ok (.ireturn, 1) := by decide +kernel
theorem dX6_undo_0 : decode cX6_undo 0 = .ok (.aload_n 0, 1) := by decide +kernel
theorem dX6_undo_1 : decode cX6_undo 1 = .ok (.iconst 0, 1) := by decide +kernel
theorem dX6_undo_2 : decode cX6_undo 2 = .ok (.putfield 128, 3) := by decide +kernel
theorem dX6_undo_5 : decode cX6_undo 5 = .ok (.aload_n 0, 1) := by decide +kernel
theorem dX6_undo_6 : decode cX6_undo 6 = .ok (.getfield 256, 3) := by decide +kernel
theorem dX6_undo_9 : decode cX6_undo 9 = .ok (.ifCond .ne 5, 3) := by decide +kernel
theorem dX6_undo_12 : decode cX6_undo 12 = .ok (.iconst (-1), 1) := by decide +kernel
theorem dX6_undo_13 : decode cX6_undo 13 = .ok (.ireturn, 1) := by decide +kernel
theorem dX6_undo_14 : decode cX6_undo 14 = .ok (.aload_n 0, 1) := by decide +kernel
theorem dX6_undo_15 : decode cX6_undo 15 = .ok (.dup, 1) := by decide +kernel
theorem dX6_undo_16 : decode cX6_undo 16 = .ok (.getfield 256, 3) := by decide +kernel
theorem dX6_undo_19 : decode cX6_undo 19 = .ok (.iconst 1, 1) := by decide +kernel
theorem dX6_undo_20 : decode cX6_undo 20 = .ok (.isub, 1) := by decide +kernel
theorem dX6_undo_21 : decode cX6_undo 21 = .ok (.putfield 256, 3) := by decide +kernel
theorem dX6_undo_24 : decode cX6_undo 24 = .ok (.bipush 9, 2) := by decide +kernel
theorem dX6_undo_26 : decode cX6_undo 26 = .ok (.aload_n 0, 1) := by decide +kernel
theorem dX6_undo_27 : decode cX6_undo 27 = .ok (.getfield 256, 3) := by decide +kernel
theorem dX6_undo_30 : decode cX6_undo 30 = .ok (.imul, 1) := by decide +kernel
theorem dX6_undo_31 : decode cX6_undo 31 = .ok (.istore_n 1, 1) := by decide +kernel
theorem dX6_undo_32 : decode cX6_undo 32 = .ok (.aload_n 0, 1) := by decide +kernel
theorem dX6_undo_33 : decode cX6_undo 33 = .ok (.getfield 64, 3) := by decide +kernel
theorem dX6_undo_36 : decode cX6_undo 36 = .ok (.iload_n 1, 1) := by decide +kernel
theorem dX6_undo_37 : decode cX6_undo 37 = .ok (.iaload, 1) := by decide +kernel
theorem dX6_undo_38 : decode cX6_undo 38 = .ok (.istore_n 2, 1) := by decide +kernel
theorem dX6_undo_39 : decode cX6_undo 39 = .ok (.aload_n 0, 1) := by decide +kernel
theorem dX6_undo_40 : decode cX6_undo 40 = .ok (.getfield 64, 3) := by decide +kernel
theorem dX6_undo_43 : decode cX6_undo 43 = .ok (.iload_n 1, 1) := by decide +kernel
theorem dX6_undo_44 : decode cX6_undo 44 = .ok (.iconst 3, 1) := by decide +kernel
theorem dX6_undo_45 : decode cX6_undo 45 = .ok (.iadd, 1) := by decide +kernel
theorem dX6_undo_46 : decode cX6_undo 46 = .ok (.iaload, 1) := by decide +kernel
theorem dX6_undo_47 : decode cX6_undo 47 = .ok (.istore_n 3, 1) := by decide +kernel
theorem dX6_undo_48 : decode cX6_undo 48 = .ok (.iconst 0, 1) := by decide +kernel
theorem dX6_undo_49 : decode cX6_undo 49 = .ok (.istore 4, 2) := by decide +kernel
theorem dX6_undo_51 : decode cX6_undo 51 = .ok (.iload 4, 2) := by decide +kernel
theorem dX6_undo_53 : decode cX6_undo 53 = .ok (.aload_n 0, 1) := by decide +kernel
theorem dX6_undo_54 : decode cX6_undo 54 = .ok (.getfield 25, 3) := by decide +kernel
theorem dX6_undo_57 : decode cX6_undo 57 = .ok (.iconst 1, 1) := by decide +kernel
theorem dX6_undo_58 : decode cX6_undo 58 = .ok (.iaload, 1) := by decide +kernel
theorem dX6_undo_59 : decode cX6_undo 59 = .ok (.if_icmp .ge 34, 3) := by decide +kernel
theorem dX6_undo_62 : decode cX6_undo 62 = .ok (.aload_n 0, 1) := by decide +kernel
theorem dX6_undo_63 : decode cX6_undo 63 = .ok (.getfield 64, 3) := by decide +kernel
theorem dX6_undo_66 : decode cX6_undo 66 = .ok (.iload_n 1, 1) := by decide +kernel
theorem dX6_undo_67 : decode cX6_undo 67 = .ok (.iconst 1, 1) := by decide +kernel
theorem dX6_undo_68 : decode cX6_undo 68 = .ok (.iadd, 1) := by decide +kernel
theorem dX6_undo_69 : decode cX6_undo 69 = .ok (.iaload, 1) := by decide +kernel
theorem dX6_undo_70 : decode cX6_undo 70 = .ok (.iload 4, 2) := by decide +kernel
theorem dX6_undo_72 : decode cX6_undo 72 = .ok (.ishr, 1) := by decide +kernel
theorem dX6_undo_73 : decode cX6_undo 73 = .ok (.iconst 1, 1) := by decide +kernel
theorem dX6_undo_74 : decode cX6_undo 74 = .ok (.iand, 1) := by decide +kernel
theorem dX6_undo_75 : decode cX6_undo 75 = .ok (.iconst 1, 1) := by decide +kernel
theorem dX6_undo_76 : decode cX6_undo 76 = .ok (.if_icmp .ne 11, 3) := by decide +kernel
theorem dX6_undo_79 : decode cX6_undo 79 = .ok (.aload_n 0, 1) := by decide +kernel
theorem dX6_undo_80 : decode cX6_undo 80 = .ok (.getfield 41, 3) := by decide +kernel
theorem dX6_undo_83 : decode cX6_undo 83 = .ok (.iload 4, 2) := by decide +kernel
theorem dX6_undo_85 : decode cX6_undo 85 = .ok (.iload_n 2, 1) := by decide +kernel
theorem dX6_undo_86 : decode cX6_undo 86 = .ok (.iastore, 1) := by decide +kernel
theorem dX6_undo_87 : decode cX6_undo 87 = .ok (.iinc 4 1, 3) := by decide +kernel
theorem dX6_undo_90 : decode cX6_undo 90 = .ok (.goto (-39), 3) := by decide +kernel
theorem dX6_undo_93 : decode cX6_undo 93 = .ok (.aload_n 0, 1) := by decide +kernel
theorem dX6_undo_94 : decode cX6_undo 94 = .ok (.getfield 41, 3) := by decide +kernel
theorem dX6_undo_97 : decode cX6_undo 97 = .ok (.bipush 12, 2) := by decide +kernel
theorem dX6_undo_99 : decode cX6_undo 99 = .ok (.iload_n 2, 1) := by decide +kernel
theorem dX6_undo_100 : decode cX6_undo 100 = .ok (.iadd, 1) := by decide +kernel
theorem dX6_undo_101 : decode cX6_undo 101 = .ok (.dup2, 1) := by decide +kernel
theorem dX6_undo_102 : decode cX6_undo 102 = .ok (.iaload, 1) := by decide +kernel
theorem dX6_undo_103 : decode cX6_undo 103 = .ok (.aload_n 0, 1) := by decide +kernel
theorem dX6_undo_104 : decode cX6_undo 104 = .ok (.getfield 64, 3) := by decide +kernel
theorem dX6_undo_107 : decode cX6_undo 107 = .ok (.iload_n 1, 1) := by decide +kernel
theorem dX6_undo_108 : decode cX6_undo 108 = .ok (.iconst 2, 1) := by decide +kernel
theorem dX6_undo_109 : decode cX6_undo 109 = .ok (.iadd, 1) := by decide +kernel
theorem dX6_undo_110 : decode cX6_undo 110 = .ok (.iaload, 1) := by decide +kernel
theorem dX6_undo_111 : decode cX6_undo 111 = .ok (.iadd, 1) := by decide +kernel
theorem dX6_undo_112 : decode cX6_undo 112 = .ok (.iastore, 1) := by decide +kernel
theorem dX6_undo_113 : decode cX6_undo 113 = .ok (.aload_n 0, 1) := by decide +kernel
theorem dX6_undo_114 : decode cX6_undo 114 = .ok (.getfield 41, 3) := by decide +kernel
theorem dX6_undo_117 : decode cX6_undo 117 = .ok (.bipush 12, 2) := by decide +kernel
theorem dX6_undo_119 : decode cX6_undo 119 = .ok (.iload_n 3, 1) := by decide +kernel
theorem dX6_undo_120 : decode cX6_undo 120 = .ok (.iadd, 1) := by decide +kernel
theorem dX6_undo_121 : decode cX6_undo 121 = .ok (.dup2, 1) := by decide +kernel
theorem dX6_undo_122 : decode cX6_undo 122 = .ok (.iaload, 1) := by decide +kernel
theorem dX6_undo_123 : decode cX6_undo 123 = .ok (.aload_n 0, 1) := by decide +kernel
theorem dX6_undo_124 : decode cX6_undo 124 = .ok (.getfield 64, 3) := by decide +kernel
theorem dX6_undo_127 : decode cX6_undo 127 = .ok (.iload_n 1, 1) := by decide +kernel
theorem dX6_undo_128 : decode cX6_undo 128 = .ok (.iconst 2, 1) := by decide +kernel
theorem dX6_undo_129 : decode cX6_undo 129 = .ok (.iadd, 1) := by decide +kernel
theorem dX6_undo_130 : decode cX6_undo 130 = .ok (.iaload, 1) := by decide +kernel
theorem dX6_undo_131 : decode cX6_undo 131 = .ok (.isub, 1) := by decide +kernel
theorem dX6_undo_132 : decode cX6_undo 132 = .ok (.iastore, 1) := by decide +kernel
theorem dX6_undo_133 : decode cX6_undo 133 = .ok (.aload_n 0, 1) := by decide +kernel
theorem dX6_undo_134 : decode cX6_undo 134 = .ok (.getfield 41, 3) := by decide +kernel
theorem dX6_undo_137 : decode cX6_undo 137 = .ok (.bipush 18, 2) := by decide +kernel
theorem dX6_undo_139 : decode cX6_undo 139 = .ok (.iload_n 2, 1) := by decide +kernel
theorem dX6_undo_140 : decode cX6_undo 140 = .ok (.iadd, 1) := by decide +kernel
theorem dX6_undo_141 : decode cX6_undo 141 = .ok (.aload_n 0, 1) := by decide +kernel
theorem dX6_undo_142 : decode cX6_undo 142 = .ok (.getfield 64, 3) := by decide +kernel
theorem dX6_undo_145 : decode cX6_undo 145 = .ok (.iload_n 1, 1) := by decide +kernel
theorem dX6_undo_146 : decode cX6_undo 146 = .ok (.iconst 5, 1) := by decide +kernel
theorem dX6_undo_147 : decode cX6_undo 147 = .ok (.iadd, 1) := by decide +kernel
theorem dX6_undo_148 : decode cX6_undo 148 = .ok (.iaload, 1) := by decide +kernel
theorem dX6_undo_149 : decode cX6_undo 149 = .ok (.iastore, 1) := by decide +kernel
theorem dX6_undo_150 : decode cX6_undo 150 = .ok (.aload_n 0, 1) := by decide +kernel
theorem dX6_undo_151 : decode cX6_undo 151 = .ok (.getfield 41, 3) := by decide +kernel
theorem dX6_undo_154 : decode cX6_undo 154 = .ok (.bipush 24, 2) := by decide +kernel
theorem dX6_undo_156 : decode cX6_undo 156 = .ok (.iload_n 2, 1) := by decide +kernel
theorem dX6_undo_157 : decode cX6_undo 157 = .ok (.iadd, 1) := by decide +kernel
theorem dX6_undo_158 : decode cX6_undo 158 = .ok (.aload_n 0, 1) := by decide +kernel
theorem dX6_undo_159 : decode cX6_undo 159 = .ok (.getfield 64, 3) := by decide +kernel
theorem dX6_undo_162 : decode cX6_undo 162 = .ok (.iload_n 1, 1) := by decide +kernel
theorem dX6_undo_163 : decode cX6_undo 163 = .ok (.bipush 6, 2) := by decide +kernel
theorem dX6_undo_165 : decode cX6_undo 165 = .ok (.iadd, 1) := by decide +kernel
theorem dX6_undo_166 : decode cX6_undo 166 = .ok (.iaload, 1) := by decide +kernel
theorem dX6_undo_167 : decode cX6_undo 167 = .ok (.iastore, 1) := by decide +kernel
theorem dX6_undo_168 : decode cX6_undo 168 = .ok (.aload_n 0, 1) := by decide +kernel
theorem dX6_undo_169 : decode cX6_undo 169 = .ok (.getfield 41, 3) := by decide +kernel
theorem dX6_undo_172 : decode cX6_undo 172 = .ok (.bipush 18, 2) := by decide +kernel
theorem dX6_undo_174 : decode cX6_undo 174 = .ok (.iload_n 3, 1) := by decide +kernel
theorem dX6_undo_175 : decode cX6_undo 175 = .ok (.iadd, 1) := by decide +kernel
theorem dX6_undo_176 : decode cX6_undo 176 = .ok (.aload_n 0, 1) := by decide +kernel
theorem dX6_undo_177 : decode cX6_undo 177 = .ok (.getfield 64, 3) := by decide +kernel
theorem dX6_undo_180 : decode cX6_undo 180 = .ok (.iload_n 1, 1) := by decide +kernel
theorem dX6_undo_181 : decode cX6_undo 181 = .ok (.bipush 7, 2) := by decide +kernel
theorem dX6_undo_183 : decode cX6_undo 183 = .ok (.iadd, 1) := by decide +kernel
theorem dX6_undo_184 : decode cX6_undo 184 = .ok (.iaload, 1) := by decide +kernel
theorem dX6_undo_185 : decode cX6_undo 185 = .ok (.iastore, 1) := by decide +kernel
theorem dX6_undo_186 : decode cX6_undo 186 = .ok (.aload_n 0, 1) := by decide +kernel
theorem dX6_undo_187 : decode cX6_undo 187 = .ok (.getfield 41, 3) := by decide +kernel
theorem dX6_undo_190 : decode cX6_undo 190 = .ok (.bipush 24, 2) := by decide +kernel
theorem dX6_undo_192 : decode cX6_undo 192 = .ok (.iload_n 3, 1) := by decide +kernel
theorem dX6_undo_193 : decode cX6_undo 193 = .ok (.iadd, 1) := by decide +kernel
theorem dX6_undo_194 : decode cX6_undo 194 = .ok (.aload_n 0, 1) := by decide +kernel
theorem dX6_undo_195 : decode cX6_undo 195 = .ok (.getfield 64, 3) := by decide +kernel
theorem dX6_undo_198 : decode cX6_undo 198 = .ok (.iload_n 1, 1) := by decide +kernel
theorem dX6_undo_199 : decode cX6_undo 199 = .ok (.bipush 8, 2) := by decide +kernel
theorem dX6_undo_201 : decode cX6_undo 201 = .ok (.iadd, 1) := by decide +kernel
theorem dX6_undo_202 : decode cX6_undo 202 = .ok (.iaload, 1) := by decide +kernel
theorem dX6_undo_203 : decode cX6_undo 203 = .ok (.iastore, 1) := by decide +kernel
theorem dX6_undo_204 : decode cX6_undo 204 = .ok (.aload_n 0, 1) := by decide +kernel
theorem dX6_undo_205 : decode cX6_undo 205 = .ok (.getfield 256, 3) := by decide +kernel
theorem dX6_undo_208 : decode cX6_undo 208 = .ok (.ireturn, 1) := by decide +kernel
theorem dX6_gift_0 : decode cX6_gift 0 = .ok (.aload_n 0, 1) := by decide +kernel
theorem dX6_gift_1 : decode cX6_gift 1 = .ok (.iconst 0, 1) := by decide +kernel
theorem dX6_gift_2 : decode cX6_gift 2 = .ok (.putfield 128, 3) := by decide +kernel
theorem dX6_gift_5 : decode cX6_gift 5 = .ok (.iload_n 1, 1) := by decide +kernel
theorem dX6_gift_6 : decode cX6_gift 6 = .ok (.iconst 0, 1) := by decide +kernel
theorem dX6_gift_7 : decode cX6_gift 7 = .ok (.aload_n 0, 1) := by decide +kernel
theorem dX6_gift_8 : decode cX6_gift 8 = .ok (.getfield 256, 3) := by decide +kernel
theorem dX6_gift_11 : decode cX6_gift 11 = .ok (.iconst 1, 1) := by decide +kernel
theorem dX6_gift_12 : decode cX6_gift 12 = .ok (.isub, 1) := by decide +kernel
theorem dX6_gift_13 : decode cX6_gift 13 = .ok (.invokestatic 131, 3) := by decide +kernel
theorem dX6_gift_16 : decode cX6_gift 16 = .ok (.ifCond .eq 26, 3) := by decide +kernel
theorem dX6_gift_19 : decode cX6_gift 19 = .ok (.iload_n 2, 1) := by decide +kernel
theorem dX6_gift_20 : decode cX6_gift 20 = .ok (.iconst 0, 1) := by decide +kernel
theorem dX6_gift_21 : decode cX6_gift 21 = .ok (.iconst 4, 1) := by decide +kernel
theorem dX6_gift_22 : decode cX6_gift 22 = .ok (.invokestatic 131, 3) := by decide +kernel
theorem dX6_gift_25 : decode cX6_gift 25 = .ok (.ifCond .eq 17, 3) := by decide +kernel
theorem dX6_gift_28 : decode cX6_gift 28 = .ok (.aload_n 0, 1) := by decide +kernel
theorem dX6_gift_29 : decode cX6_gift 29 = .ok (.getfield 64, 3) := by decide +kernel
theorem dX6_gift_32 : decode cX6_gift 32 = .ok (.bipush 9, 2) := by decide +kernel
theorem dX6_gift_34 : decode cX6_gift 34 = .ok (.iload_n 1, 1) := by decide +kernel
theorem dX6_gift_35 : decode cX6_gift 35 = .ok (.imul, 1) := by decide +kernel
theorem dX6_gift_36 : decode cX6_gift 36 = .ok (.iload_n 2, 1) := by decide +kernel
theorem dX6_gift_37 : decode cX6_gift 37 = .ok (.iadd, 1) := by decide +kernel
theorem dX6_gift_38 : decode cX6_gift 38 = .ok (.iaload, 1) := by decide +kernel
theorem dX6_gift_39 : decode cX6_gift 39 = .ok (.goto 8, 3) := by decide +kernel
theorem dX6_gift_42 : decode cX6_gift 42 = .ok (.aload_n 0, 1) := by decide +kernel
theorem dX6_gift_43 : decode cX6_gift 43 = .ok (.iconst 1, 1) := by decide +kernel
theorem dX6_gift_44 : decode cX6_gift 44 = .ok (.invokevirtual 243, 3) := by decide +kernel
theorem dX6_gift_47 : decode cX6_gift 47 = .ok (.ireturn, 1) := by decide +kernel
theorem dX6_sandFor_0 : decode cX6_sandFor 0 = .ok (.iload 4, 2) := by decide +kernel
theorem dX6_sandFor_2 : decode cX6_sandFor 2 = .ok (.ifCond .eq 26, 3) := by decide +kernel
theorem dX6_sandFor_5 : decode cX6_sandFor 5 = .ok (.aload_n 0, 1) := by decide +kernel
theorem dX6_sandFor_6 : decode cX6_sandFor 6 = .ok (.getfield 25, 3) := by decide +kernel
theorem dX6_sandFor_9 : decode cX6_sandFor 9 = .ok (.iconst 0, 1) := by decide +kernel
theorem dX6_sandFor_10 : decode cX6_sandFor 10 = .ok (.iaload, 1) := by decide +kernel
theorem dX6_sandFor_11 : decode cX6_sandFor 11 = .ok (.iconst 2, 1) := by decide +kernel
theorem dX6_sandFor_12 : decode cX6_sandFor 12 = .ok (.if_icmp .lt 16, 3) := by decide +kernel
theorem dX6_sandFor_15 : decode cX6_sandFor 15 = .ok (.iload_n 3, 1) := by decide +kernel
theorem dX6_sandFor_16 : decode cX6_sandFor 16 = .ok (.aload_n 0, 1) := by decide +kernel
theorem dX6_sandFor_17 : decode cX6_sandFor 17 = .ok (.aload_n 1, 1) := by decide +kernel
theorem dX6_sandFor_18 : decode cX6_sandFor 18 = .ok (.iload_n 2, 1) := by decide +kernel
theorem dX6_sandFor_19 : decode cX6_sandFor 19 = .ok (.invokevirtual 266, 3) := by decide +kernel
theorem dX6_sandFor_22 : decode cX6_sandFor 22 = .ok (.iconst (-1), 1) := by decide +kernel
theorem dX6_sandFor_23 : decode cX6_sandFor 23 = .ok (.ixor, 1) := by decide +kernel
theorem dX6_sandFor_24 : decode cX6_sandFor 24 = .ok (.iand, 1) := by decide +kernel
theorem dX6_sandFor_25 : decode cX6_sandFor 25 = .ok (.ifCond .eq 5, 3) := by decide +kernel
theorem dX6_sandFor_28 : decode cX6_sandFor 28 = .ok (.iconst (-1), 1) := by decide +kernel
theorem dX6_sandFor_29 : decode cX6_sandFor 29 = .ok (.ireturn, 1) := by decide +kernel
theorem dX6_sandFor_30 : decode cX6_sandFor 30 = .ok (.aload_n 0, 1) := by decide +kernel
theorem dX6_sandFor_31 : decode cX6_sandFor 31 = .ok (.iload_n 3, 1) := by decide +kernel
theorem dX6_sandFor_32 : decode cX6_sandFor 32 = .ok (.invokevirtual 273, 3) := by decide +kernel
theorem dX6_sandFor_35 : decode cX6_sandFor 35 = .ok (.istore 5, 2) := by decide +kernel
theorem dX6_sandFor_37 : decode cX6_sandFor 37 = .ok (.iconst 0, 1) := by decide +kernel
theorem dX6_sandFor_38 : decode cX6_sandFor 38 = .ok (.aload_n 0, 1) := by decide +kernel
theorem dX6_sandFor_39 : decode cX6_sandFor 39 = .ok (.iload 4, 2) := by decide +kernel
theorem dX6_sandFor_41 : decode cX6_sandFor 41 = .ok (.invokevirtual 279, 3) := by decide +kernel
theorem dX6_sandFor_44 : decode cX6_sandFor 44 = .ok (.iload 5, 2) := by decide +kernel
theorem dX6_sandFor_46 : decode cX6_sandFor 46 = .ok (.isub, 1) := by decide +kernel
theorem dX6_sandFor_47 : decode cX6_sandFor 47 = .ok (.invokestatic 282, 3) := by decide +kernel
theorem dX6_sandFor_50 : decode cX6_sandFor 50 = .ok (.istore 6, 2) := by decide +kernel
theorem dX6_sandFor_52 : decode cX6_sandFor 52 = .ok (.iload 5, 2) := by decide +kernel
theorem dX6_sandFor_54 : decode cX6_sandFor 54 = .ok (.iload 6, 2) := by decide +kernel
theorem dX6_sandFor_56 : decode cX6_sandFor 56 = .ok (.iadd, 1) := by decide +kernel
theorem dX6_sandFor_57 : decode cX6_sandFor 57 = .ok (.iload 4, 2) := by decide +kernel
theorem dX6_sandFor_59 : decode cX6_sandFor 59 = .ok (.aload_n 0, 1) := by decide +kernel
theorem dX6_sandFor_60 : decode cX6_sandFor 60 = .ok (.getfield 25, 3) := by decide +kernel
theorem dX6_sandFor_63 : decode cX6_sandFor 63 = .ok (.iconst 3, 1) := by decide +kernel
theorem dX6_sandFor_64 : decode cX6_sandFor 64 = .ok (.iaload, 1) := by decide +kernel
theorem dX6_sandFor_65 : decode cX6_sandFor 65 = .ok (.iadd, 1) := by decide +kernel
theorem dX6_sandFor_66 : decode cX6_sandFor 66 = .ok (.if_icmp .gt 19, 3) := by decide +kernel
theorem dX6_sandFor_69 : decode cX6_sandFor 69 = .ok (.iload 6, 2) := by decide +kernel
theorem dX6_sandFor_71 : decode cX6_sandFor 71 = .ok (.aload_n 1, 1) := by decide +kernel
theorem dX6_sandFor_72 : decode cX6_sandFor 72 = .ok (.bipush 12, 2) := by decide +kernel
theorem dX6_sandFor_74 : decode cX6_sandFor 74 = .ok (.iload_n 2, 1) := by decide +kernel
theorem dX6_sandFor_75 : decode cX6_sandFor 75 = .ok (.iadd, 1) := by decide +kernel
theorem dX6_sandFor_76 : decode cX6_sandFor 76 = .ok (.iaload, 1) := by decide +kernel
theorem dX6_sandFor_77 : decode cX6_sandFor 77 = .ok (.if_icmp .gt 8, 3) := by decide +kernel
theorem dX6_sandFor_80 : decode cX6_sandFor 80 = .ok (.iload 6, 2) := by decide +kernel
theorem dX6_sandFor_82 : decode cX6_sandFor 82 = .ok (.goto 4, 3) := by decide +kernel
theorem dX6_sandFor_85 : decode cX6_sandFor 85 = .ok (.iconst (-1), 1) := by decide +kernel
theorem dX6_sandFor_86 : decode cX6_sandFor 86 = .ok (.ireturn, 1) := by decide +kernel
theorem dX6_fits_0 : decode cX6_fits 0 = .ok (.aload_n 0, 1) := by decide +kernel
theorem dX6_fits_1 : decode cX6_fits 1 = .ok (.aload_n 1, 1) := by decide +kernel
theorem dX6_fits_2 : decode cX6_fits 2 = .ok (.iload_n 2, 1) := by decide +kernel
theorem dX6_fits_3 : decode cX6_fits 3 = .ok (.iload_n 3, 1) := by decide +kernel
theorem dX6_fits_4 : decode cX6_fits 4 = .ok (.aload_n 1, 1) := by decide +kernel
theorem dX6_fits_5 : decode cX6_fits 5 = .ok (.bipush 18, 2) := by decide +kernel
theorem dX6_fits_7 : decode cX6_fits 7 = .ok (.iload_n 2, 1) := by decide +kernel
theorem dX6_fits_8 : decode cX6_fits 8 = .ok (.iadd, 1) := by decide +kernel
theorem dX6_fits_9 : decode cX6_fits 9 = .ok (.iaload, 1) := by decide +kernel
theorem dX6_fits_10 : decode cX6_fits 10 = .ok (.invokevirtual 297, 3) := by decide +kernel
theorem dX6_fits_13 : decode cX6_fits 13 = .ok (.iconst (-1), 1) := by decide +kernel
theorem dX6_fits_14 : decode cX6_fits 14 = .ok (.if_icmp .eq 7, 3) := by decide +kernel
theorem dX6_fits_17 : decode cX6_fits 17 = .ok (.iconst 1, 1) := by decide +kernel
theorem dX6_fits_18 : decode cX6_fits 18 = .ok (.goto 4, 3) := by decide +kernel
theorem dX6_fits_21 : decode cX6_fits 21 = .ok (.iconst 0, 1) := by decide +kernel
theorem dX6_fits_22 : decode cX6_fits 22 = .ok (.ireturn, 1) := by decide +kernel
theorem dX6_sets_0 : decode cX6_sets 0 = .ok (.aload_n 0, 1) := by decide +kernel
theorem dX6_sets_1 : decode cX6_sets 1 = .ok (.iconst 0, 1) := by decide +kernel
theorem dX6_sets_2 : decode cX6_sets 2 = .ok (.putfield 128, 3) := by decide +kernel
theorem dX6_sets_5 : decode cX6_sets 5 = .ok (.aload_n 0, 1) := by decide +kernel
theorem dX6_sets_6 : decode cX6_sets 6 = .ok (.iload_n 1, 1) := by decide +kernel
theorem dX6_sets_7 : decode cX6_sets 7 = .ok (.invokevirtual 263, 3) := by decide +kernel
theorem dX6_sets_10 : decode cX6_sets 10 = .ok (.ifCond .ne 9, 3) := by decide +kernel
theorem dX6_sets_13 : decode cX6_sets 13 = .ok (.aload_n 0, 1) := by decide +kernel
theorem dX6_sets_14 : decode cX6_sets 14 = .ok (.iconst 1, 1) := by decide +kernel
theorem dX6_sets_15 : decode cX6_sets 15 = .ok (.invokevirtual 243, 3) := by decide +kernel
theorem dX6_sets_18 : decode cX6_sets 18 = .ok (.ireturn, 1) := by decide +kernel
theorem dX6_sets_19 : decode cX6_sets 19 = .ok (.iconst 0, 1) := by decide +kernel
theorem dX6_sets_20 : decode cX6_sets 20 = .ok (.istore_n 2, 1) := by decide +kernel
theorem dX6_sets_21 : decode cX6_sets 21 = .ok (.iconst 0, 1) := by decide +kernel
theorem dX6_sets_22 : decode cX6_sets 22 = .ok (.istore_n 3, 1) := by decide +kernel
theorem dX6_sets_23 : decode cX6_sets 23 = .ok (.iload_n 3, 1) := by decide +kernel
theorem dX6_sets_24 : decode cX6_sets 24 = .ok (.iconst 1, 1) := by decide +kernel
theorem dX6_sets_25 : decode cX6_sets 25 = .ok (.aload_n 0, 1) := by decide +kernel
theorem dX6_sets_26 : decode cX6_sets 26 = .ok (.getfield 25, 3) := by decide +kernel
theorem dX6_sets_29 : decode cX6_sets 29 = .ok (.iconst 1, 1) := by decide +kernel
theorem dX6_sets_30 : decode cX6_sets 30 = .ok (.iaload, 1) := by decide +kernel
theorem dX6_sets_31 : decode cX6_sets 31 = .ok (.ishl, 1) := by decide +kernel
theorem dX6_sets_32 : decode cX6_sets 32 = .ok (.if_icmp .ge 30, 3) := by decide +kernel
theorem dX6_sets_35 : decode cX6_sets 35 = .ok (.iload_n 2, 1) := by decide +kernel
theorem dX6_sets_36 : decode cX6_sets 36 = .ok (.aload_n 0, 1) := by decide +kernel
theorem dX6_sets_37 : decode cX6_sets 37 = .ok (.aload_n 0, 1) := by decide +kernel
theorem dX6_sets_38 : decode cX6_sets 38 = .ok (.getfield 41, 3) := by decide +kernel
theorem dX6_sets_41 : decode cX6_sets 41 = .ok (.iload_n 1, 1) := by decide +kernel
theorem dX6_sets_42 : decode cX6_sets 42 = .ok (.iload_n 3, 1) := by decide +kernel
theorem dX6_sets_43 : decode cX6_sets 43 = .ok (.invokevirtual 301, 3) := by decide +kernel
theorem dX6_sets_46 : decode cX6_sets 46 = .ok (.ifCond .eq 7, 3) := by decide +kernel
theorem dX6_sets_49 : decode cX6_sets 49 = .ok (.iconst 1, 1) := by decide +kernel
theorem dX6_sets_50 : decode cX6_sets 50 = .ok (.goto 4, 3) := by decide +kernel
theorem dX6_sets_53 : decode cX6_sets 53 = .ok (.iconst 0, 1) := by decide +kernel
theorem dX6_sets_54 : decode cX6_sets 54 = .ok (.iadd, 1) := by decide +kernel
theorem dX6_sets_55 : decode cX6_sets 55 = .ok (.istore_n 2, 1) := by decide +kernel
theorem dX6_sets_56 : decode cX6_sets 56 = .ok (.iinc 3 1, 3) := by decide +kernel
theorem dX6_sets_59 : decode cX6_sets 59 = .ok (.goto (-36), 3) := by decide +kernel
theorem dX6_sets_62 : decode cX6_sets 62 = .ok (.iload_n 2, 1) := by decide +kernel
theorem dX6_sets_63 : decode cX6_sets 63 = .ok (.ireturn, 1) := by decide +kernel
theorem dX6_bitsOf_0 : decode cX6_bitsOf 0 = .ok (.iconst 0, 1) := by decide +kernel
theorem dX6_bitsOf_1 : decode cX6_bitsOf 1 = .ok (.istore_n 1, 1) := by decide +kernel
theorem dX6_bitsOf_2 : decode cX6_bitsOf 2 = .ok (.iload_n 0, 1) := by decide +kernel
theorem dX6_bitsOf_3 : decode cX6_bitsOf 3 = .ok (.istore_n 2, 1) := by decide +kernel
theorem dX6_bitsOf_4 : decode cX6_bitsOf 4 = .ok (.iload_n 2, 1) := by decide +kernel
theorem dX6_bitsOf_5 : decode cX6_bitsOf 5 = .ok (.ifCond .eq 15, 3) := by decide +kernel
theorem dX6_bitsOf_8 : decode cX6_bitsOf 8 = .ok (.iinc 1 1, 3) := by decide +kernel
theorem dX6_bitsOf_11 : decode cX6_bitsOf 11 = .ok (.iload_n 2, 1) := by decide +kernel
theorem dX6_bitsOf_12 : decode cX6_bitsOf 12 = .ok (.iload_n 2, 1) := by decide +kernel
theorem dX6_bitsOf_13 : decode cX6_bitsOf 13 = .ok (.iconst 1, 1) := by decide +kernel
theorem dX6_bitsOf_14 : decode cX6_bitsOf 14 = .ok (.isub, 1) := by decide +kernel
theorem dX6_bitsOf_15 : decode cX6_bitsOf 15 = .ok (.iand, 1) := by decide +kernel
theorem dX6_bitsOf_16 : decode cX6_bitsOf 16 = .ok (.istore_n 2, 1) := by decide +kernel
theorem dX6_bitsOf_17 : decode cX6_bitsOf 17 = .ok (.goto (-13), 3) := by decide +kernel
theorem dX6_bitsOf_20 : decode cX6_bitsOf 20 = .ok (.iload_n 1, 1) := by decide +kernel
theorem dX6_bitsOf_21 : decode cX6_bitsOf 21 = .ok (.ireturn, 1) := by decide +kernel
theorem dX6_rankOf_0 : decode cX6_rankOf 0 = .ok (.aload_n 0, 1) := by decide +kernel
theorem dX6_rankOf_1 : decode cX6_rankOf 1 = .ok (.getfield 29, 3) := by decide +kernel
theorem dX6_rankOf_4 : decode cX6_rankOf 4 = .ok (.iload_n 1, 1) := by decide +kernel
theorem dX6_rankOf_5 : decode cX6_rankOf 5 = .ok (.iaload, 1) := by decide +kernel
theorem dX6_rankOf_6 : decode cX6_rankOf 6 = .ok (.iconst 1, 1) := by decide +kernel
theorem dX6_rankOf_7 : decode cX6_rankOf 7 = .ok (.if_icmp .ne 11, 3) := by decide +kernel
theorem dX6_rankOf_10 : decode cX6_rankOf 10 = .ok (.aload_n 0, 1) := by decide +kernel
theorem dX6_rankOf_11 : decode cX6_rankOf 11 = .ok (.iload_n 2, 1) := by decide +kernel
theorem dX6_rankOf_12 : decode cX6_rankOf 12 = .ok (.invokevirtual 270, 3) := by decide +kernel
theorem dX6_rankOf_15 : decode cX6_rankOf 15 = .ok (.goto 21, 3) := by decide +kernel
theorem dX6_rankOf_18 : decode cX6_rankOf 18 = .ok (.aload_n 0, 1) := by decide +kernel
theorem dX6_rankOf_19 : decode cX6_rankOf 19 = .ok (.getfield 29, 3) := by decide +kernel
theorem dX6_rankOf_22 : decode cX6_rankOf 22 = .ok (.iload_n 1, 1) := by decide +kernel
theorem dX6_rankOf_23 : decode cX6_rankOf 23 = .ok (.iaload, 1) := by decide +kernel
theorem dX6_rankOf_24 : decode cX6_rankOf 24 = .ok (.iconst 2, 1) := by decide +kernel
theorem dX6_rankOf_25 : decode cX6_rankOf 25 = .ok (.if_icmp .ne 10, 3) := by decide +kernel
theorem dX6_rankOf_28 : decode cX6_rankOf 28 = .ok (.iload_n 2, 1) := by decide +kernel
theorem dX6_rankOf_29 : decode cX6_rankOf 29 = .ok (.invokestatic 305, 3) := by decide +kernel
theorem dX6_rankOf_32 : decode cX6_rankOf 32 = .ok (.goto 4, 3) := by decide +kernel
theorem dX6_rankOf_35 : decode cX6_rankOf 35 = .ok (.iconst 0, 1) := by decide +kernel
theorem dX6_rankOf_36 : decode cX6_rankOf 36 = .ok (.ireturn, 1) := by decide +kernel
theorem dX6_choiceOf_0 : decode cX6_choiceOf 0 = .ok (.iconst (-1), 1) := by decide +kernel
theorem dX6_choiceOf_1 : decode cX6_choiceOf 1 = .ok (.istore 4, 2) := by decide +kernel
theorem dX6_choiceOf_3 : decode cX6_choiceOf 3 = .ok (.aload_n 0, 1) := by decide +kernel
theorem dX6_choiceOf_4 : decode cX6_choiceOf 4 = .ok (.getfield 29, 3) := by decide +kernel
theorem dX6_choiceOf_7 : decode cX6_choiceOf 7 = .ok (.iload_n 2, 1) := by decide +kernel
theorem dX6_choiceOf_8 : decode cX6_choiceOf 8 = .ok (.iaload, 1) := by decide +kernel
theorem dX6_choiceOf_9 : decode cX6_choiceOf 9 = .ok (.iconst 4, 1) := by decide +kernel
theorem dX6_choiceOf_10 : decode cX6_choiceOf 10 = .ok (.if_icmp .ne 15, 3) := by decide +kernel
theorem dX6_choiceOf_13 : decode cX6_choiceOf 13 = .ok (.iload_n 3, 1) := by decide +kernel
theorem dX6_choiceOf_14 : decode cX6_choiceOf 14 = .ok (.aload_n 0, 1) := by decide +kernel
theorem dX6_choiceOf_15 : decode cX6_choiceOf 15 = .ok (.getfield 32, 3) := by decide +kernel
theorem dX6_choiceOf_18 : decode cX6_choiceOf 18 = .ok (.iload_n 2, 1) := by decide +kernel
theorem dX6_choiceOf_19 : decode cX6_choiceOf 19 = .ok (.iaload, 1) := by decide +kernel
theorem dX6_choiceOf_20 : decode cX6_choiceOf 20 = .ok (.if_icmp .ge 5, 3) := by decide +kernel
theorem dX6_choiceOf_23 : decode cX6_choiceOf 23 = .ok (.iconst (-1), 1) := by decide +kernel
theorem dX6_choiceOf_24 : decode cX6_choiceOf 24 = .ok (.ireturn, 1) := by decide +kernel
theorem dX6_choiceOf_25 : decode cX6_choiceOf 25 = .ok (.iconst 0, 1) := by decide +kernel
theorem dX6_choiceOf_26 : decode cX6_choiceOf 26 = .ok (.istore 5, 2) := by decide +kernel
theorem dX6_choiceOf_28 : decode cX6_choiceOf 28 = .ok (.iload 5, 2) := by decide +kernel
theorem dX6_choiceOf_30 : decode cX6_choiceOf 30 = .ok (.iconst 1, 1) := by decide +kernel
theorem dX6_choiceOf_31 : decode cX6_choiceOf 31 = .ok (.aload_n 0, 1) := by decide +kernel
theorem dX6_choiceOf_32 : decode cX6_choiceOf 32 = .ok (.getfield 25, 3) := by decide +kernel
theorem dX6_choiceOf_35 : decode cX6_choiceOf 35 = .ok (.iconst 1, 1) := by decide +kernel
theorem dX6_choiceOf_36 : decode cX6_choiceOf 36 = .ok (.iaload, 1) := by decide +kernel
theorem dX6_choiceOf_37 : decode cX6_choiceOf 37 = .ok (.ishl, 1) := by decide +kernel
theorem dX6_choiceOf_38 : decode cX6_choiceOf 38 = .ok (.if_icmp .ge 75, 3) := by decide +kernel
theorem dX6_choiceOf_41 : decode cX6_choiceOf 41 = .ok (.aload_n 0, 1) := by decide +kernel
theorem dX6_choiceOf_42 : decode cX6_choiceOf 42 = .ok (.getfield 29, 3) := by decide +kernel
theorem dX6_choiceOf_45 : decode cX6_choiceOf 45 = .ok (.iload_n 2, 1) := by decide +kernel
theorem dX6_choiceOf_46 : decode cX6_choiceOf 46 = .ok (.iaload, 1) := by decide +kernel
theorem dX6_choiceOf_47 : decode cX6_choiceOf 47 = .ok (.iconst 3, 1) := by decide +kernel
theorem dX6_choiceOf_48 : decode cX6_choiceOf 48 = .ok (.if_icmp .ne 18, 3) := by decide +kernel
theorem dX6_choiceOf_51 : decode cX6_choiceOf 51 = .ok (.iload 5, 2) := by decide +kernel
theorem dX6_choiceOf_53 : decode cX6_choiceOf 53 = .ok (.aload_n 0, 1) := by decide +kernel
theorem dX6_choiceOf_54 : decode cX6_choiceOf 54 = .ok (.getfield 32, 3) := by decide +kernel
theorem dX6_choiceOf_57 : decode cX6_choiceOf 57 = .ok (.iload_n 2, 1) := by decide +kernel
theorem dX6_choiceOf_58 : decode cX6_choiceOf 58 = .ok (.iaload, 1) := by decide +kernel
theorem dX6_choiceOf_59 : decode cX6_choiceOf 59 = .ok (.ishr, 1) := by decide +kernel
theorem dX6_choiceOf_60 : decode cX6_choiceOf 60 = .ok (.iconst 1, 1) := by decide +kernel
theorem dX6_choiceOf_61 : decode cX6_choiceOf 61 = .ok (.iand, 1) := by decide +kernel
theorem dX6_choiceOf_62 : decode cX6_choiceOf 62 = .ok (.iconst 1, 1) := by decide +kernel
theorem dX6_choiceOf_63 : decode cX6_choiceOf 63 = .ok (.if_icmp .eq 44, 3) := by decide +kernel
theorem dX6_choiceOf_66 : decode cX6_choiceOf 66 = .ok (.aload_n 0, 1) := by decide +kernel
theorem dX6_choiceOf_67 : decode cX6_choiceOf 67 = .ok (.aload_n 1, 1) := by decide +kernel
theorem dX6_choiceOf_68 : decode cX6_choiceOf 68 = .ok (.iload_n 2, 1) := by decide +kernel
theorem dX6_choiceOf_69 : decode cX6_choiceOf 69 = .ok (.iload 5, 2) := by decide +kernel
theorem dX6_choiceOf_71 : decode cX6_choiceOf 71 = .ok (.invokevirtual 301, 3) := by decide +kernel
theorem dX6_choiceOf_74 : decode cX6_choiceOf 74 = .ok (.ifCond .ne 6, 3) := by decide +kernel
theorem dX6_choiceOf_77 : decode cX6_choiceOf 77 = .ok (.goto 30, 3) := by decide +kernel
theorem dX6_choiceOf_80 : decode cX6_choiceOf 80 = .ok (.iload 4, 2) := by decide +kernel
theorem dX6_choiceOf_82 : decode cX6_choiceOf 82 = .ok (.iconst (-1), 1) := by decide +kernel
theorem dX6_choiceOf_83 : decode cX6_choiceOf 83 = .ok (.if_icmp .eq 20, 3) := by decide +kernel
theorem dX6_choiceOf_86 : decode cX6_choiceOf 86 = .ok (.aload_n 0, 1) := by decide +kernel
theorem dX6_choiceOf_87 : decode cX6_choiceOf 87 = .ok (.iload_n 2, 1) := by decide +kernel
theorem dX6_choiceOf_88 : decode cX6_choiceOf 88 = .ok (.iload 5, 2) := by decide +kernel
theorem dX6_choiceOf_90 : decode cX6_choiceOf 90 = .ok (.invokevirtual 308, 3) := by decide +kernel
theorem dX6_choiceOf_93 : decode cX6_choiceOf 93 = .ok (.aload_n 0, 1) := by decide +kernel
theorem dX6_choiceOf_94 : decode cX6_choiceOf 94 = .ok (.iload_n 2, 1) := by decide +kernel
theorem dX6_choiceOf_95 : decode cX6_choiceOf 95 = .ok (.iload 4, 2) := by decide +kernel
theorem dX6_choiceOf_97 : decode cX6_choiceOf 97 = .ok (.invokevirtual 308, 3) := by decide +kernel
theorem dX6_choiceOf_100 : decode cX6_choiceOf 100 = .ok (.if_icmp .ge 7, 3) := by decide +kernel
theorem dX6_choiceOf_103 : decode cX6_choiceOf 103 = .ok (.iload 5, 2) := by decide +kernel
theorem dX6_choiceOf_105 : decode cX6_choiceOf 105 = .ok (.istore 4, 2) := by decide +kernel
theorem dX6_choiceOf_107 : decode cX6_choiceOf 107 = .ok (.iinc 5 1, 3) := by decide +kernel
theorem dX6_choiceOf_110 : decode cX6_choiceOf 110 = .ok (.goto (-82), 3) := by decide +kernel
theorem dX6_choiceOf_113 : decode cX6_choiceOf 113 = .ok (.iload 4, 2) := by decide +kernel
theorem dX6_choiceOf_115 : decode cX6_choiceOf 115 = .ok (.ireturn, 1) := by decide +kernel
theorem dX6_whomOf_0 : decode cX6_whomOf 0 = .ok (.iload_n 3, 1) := by decide +kernel
theorem dX6_whomOf_1 : decode cX6_whomOf 1 = .ok (.iconst (-1), 1) := by decide +kernel
theorem dX6_whomOf_2 : decode cX6_whomOf 2 = .ok (.if_icmp .eq 5, 3) := by decide +kernel
theorem dX6_whomOf_5 : decode cX6_whomOf 5 = .ok (.iload_n 3, 1) := by decide +kernel
theorem dX6_whomOf_6 : decode cX6_whomOf 6 = .ok (.ireturn, 1) := by decide +kernel
theorem dX6_whomOf_7 : decode cX6_whomOf 7 = .ok (.aload_n 0, 1) := by decide +kernel
theorem dX6_whomOf_8 : decode cX6_whomOf 8 = .ok (.getfield 29, 3) := by decide +kernel
theorem dX6_whomOf_11 : decode cX6_whomOf 11 = .ok (.iload_n 2, 1) := by decide +kernel
theorem dX6_whomOf_12 : decode cX6_whomOf 12 = .ok (.iaload, 1) := by decide +kernel
theorem dX6_whomOf_13 : decode cX6_whomOf 13 = .ok (.iconst 3, 1) := by decide +kernel
theorem dX6_whomOf_14 : decode cX6_whomOf 14 = .ok (.if_icmp .ne 39, 3) := by decide +kernel
theorem dX6_whomOf_17 : decode cX6_whomOf 17 = .ok (.aload_n 0, 1) := by decide +kernel
theorem dX6_whomOf_18 : decode cX6_whomOf 18 = .ok (.getfield 32, 3) := by decide +kernel
theorem dX6_whomOf_21 : decode cX6_whomOf 21 = .ok (.iload_n 2, 1) := by decide +kernel
theorem dX6_whomOf_22 : decode cX6_whomOf 22 = .ok (.iaload, 1) := by decide +kernel
theorem dX6_whomOf_23 : decode cX6_whomOf 23 = .ok (.aload_n 0, 1) := by decide +kernel
theorem dX6_whomOf_24 : decode cX6_whomOf 24 = .ok (.getfield 25, 3) := by decide +kernel
theorem dX6_whomOf_27 : decode cX6_whomOf 27 = .ok (.iconst 1, 1) := by decide +kernel
theorem dX6_whomOf_28 : decode cX6_whomOf 28 = .ok (.iaload, 1) := by decide +kernel
theorem dX6_whomOf_29 : decode cX6_whomOf 29 = .ok (.if_icmp .ge 24, 3) := by decide +kernel
theorem dX6_whomOf_32 : decode cX6_whomOf 32 = .ok (.aload_n 1, 1) := by decide +kernel
theorem dX6_whomOf_33 : decode cX6_whomOf 33 = .ok (.aload_n 0, 1) := by decide +kernel
theorem dX6_whomOf_34 : decode cX6_whomOf 34 = .ok (.getfield 32, 3) := by decide +kernel
theorem dX6_whomOf_37 : decode cX6_whomOf 37 = .ok (.iload_n 2, 1) := by decide +kernel
theorem dX6_whomOf_38 : decode cX6_whomOf 38 = .ok (.iaload, 1) := by decide +kernel
theorem dX6_whomOf_39 : decode cX6_whomOf 39 = .ok (.iaload, 1) := by decide +kernel
theorem dX6_whomOf_40 : decode cX6_whomOf 40 = .ok (.iload_n 2, 1) := by decide +kernel
theorem dX6_whomOf_41 : decode cX6_whomOf 41 = .ok (.if_icmp .eq 12, 3) := by decide +kernel
theorem dX6_whomOf_44 : decode cX6_whomOf 44 = .ok (.aload_n 1, 1) := by decide +kernel
theorem dX6_whomOf_45 : decode cX6_whomOf 45 = .ok (.aload_n 0, 1) := by decide +kernel
theorem dX6_whomOf_46 : decode cX6_whomOf 46 = .ok (.getfield 32, 3) := by decide +kernel
theorem dX6_whomOf_49 : decode cX6_whomOf 49 = .ok (.iload_n 2, 1) := by decide +kernel
theorem dX6_whomOf_50 : decode cX6_whomOf 50 = .ok (.iaload, 1) := by decide +kernel
theorem dX6_whomOf_51 : decode cX6_whomOf 51 = .ok (.iaload, 1) := by decide +kernel
theorem dX6_whomOf_52 : decode cX6_whomOf 52 = .ok (.ireturn, 1) := by decide +kernel
theorem dX6_whomOf_53 : decode cX6_whomOf 53 = .ok (.iload_n 2, 1) := by decide +kernel
theorem dX6_whomOf_54 : decode cX6_whomOf 54 = .ok (.iconst 1, 1) := by decide +kernel
theorem dX6_whomOf_55 : decode cX6_whomOf 55 = .ok (.iadd, 1) := by decide +kernel
theorem dX6_whomOf_56 : decode cX6_whomOf 56 = .ok (.aload_n 0, 1) := by decide +kernel
theorem dX6_whomOf_57 : decode cX6_whomOf 57 = .ok (.getfield 25, 3) := by decide +kernel
theorem dX6_whomOf_60 : decode cX6_whomOf 60 = .ok (.iconst 0, 1) := by decide +kernel
theorem dX6_whomOf_61 : decode cX6_whomOf 61 = .ok (.iaload, 1) := by decide +kernel
theorem dX6_whomOf_62 : decode cX6_whomOf 62 = .ok (.irem, 1) := by decide +kernel
theorem dX6_whomOf_63 : decode cX6_whomOf 63 = .ok (.ireturn, 1) := by decide +kernel
theorem dX6_choice_0 : decode cX6_choice 0 = .ok (.aload_n 0, 1) := by decide +kernel
theorem dX6_choice_1 : decode cX6_choice 1 = .ok (.iconst 0, 1) := by decide +kernel
theorem dX6_choice_2 : decode cX6_choice 2 = .ok (.putfield 128, 3) := by decide +kernel
theorem dX6_choice_5 : decode cX6_choice 5 = .ok (.aload_n 0, 1) := by decide +kernel
theorem dX6_choice_6 : decode cX6_choice 6 = .ok (.iload_n 1, 1) := by decide +kernel
theorem dX6_choice_7 : decode cX6_choice 7 = .ok (.invokevirtual 263, 3) := by decide +kernel
theorem dX6_choice_10 : decode cX6_choice 10 = .ok (.ifCond .eq 12, 3) := by decide +kernel
theorem dX6_choice_13 : decode cX6_choice 13 = .ok (.iload_n 2, 1) := by decide +kernel
theorem dX6_choice_14 : decode cX6_choice 14 = .ok (.iconst 0, 1) := by decide +kernel
theorem dX6_choice_15 : decode cX6_choice 15 = .ok (.iconst 2, 1) := by decide +kernel
theorem dX6_choice_16 : decode cX6_choice 16 = .ok (.invokestatic 131, 3) := by decide +kernel
theorem dX6_choice_19 : decode cX6_choice 19 = .ok (.ifCond .ne 9, 3) := by decide +kernel
theorem dX6_choice_22 : decode cX6_choice 22 = .ok (.aload_n 0, 1) := by decide +kernel
theorem dX6_choice_23 : decode cX6_choice 23 = .ok (.iconst 1, 1) := by decide +kernel
theorem dX6_choice_24 : decode cX6_choice 24 = .ok (.invokevirtual 243, 3) := by decide +kernel
theorem dX6_choice_27 : decode cX6_choice 27 = .ok (.ireturn, 1) := by decide +kernel
theorem dX6_choice_28 : decode cX6_choice 28 = .ok (.aload_n 0, 1) := by decide +kernel
theorem dX6_choice_29 : decode cX6_choice 29 = .ok (.aload_n 0, 1) := by decide +kernel
theorem dX6_choice_30 : decode cX6_choice 30 = .ok (.getfield 41, 3) := by decide +kernel
theorem dX6_choice_33 : decode cX6_choice 33 = .ok (.iload_n 1, 1) := by decide +kernel
theorem dX6_choice_34 : decode cX6_choice 34 = .ok (.aload_n 0, 1) := by decide +kernel
theorem dX6_choice_35 : decode cX6_choice 35 = .ok (.getfield 253, 3) := by decide +kernel
theorem dX6_choice_38 : decode cX6_choice 38 = .ok (.invokevirtual 311, 3) := by decide +kernel
theorem dX6_choice_41 : decode cX6_choice 41 = .ok (.istore_n 3, 1) := by decide +kernel
theorem dX6_choice_42 : decode cX6_choice 42 = .ok (.iload_n 3, 1) := by decide +kernel
theorem dX6_choice_43 : decode cX6_choice 43 = .ok (.iconst (-1), 1) := by decide +kernel
theorem dX6_choice_44 : decode cX6_choice 44 = .ok (.if_icmp .ne 5, 3) := by decide +kernel
theorem dX6_choice_47 : decode cX6_choice 47 = .ok (.iconst (-1), 1) := by decide +kernel
theorem dX6_choice_48 : decode cX6_choice 48 = .ok (.ireturn, 1) := by decide +kernel
theorem dX6_choice_49 : decode cX6_choice 49 = .ok (.iload_n 2, 1) := by decide +kernel
theorem dX6_choice_50 : decode cX6_choice 50 = .ok (.ifCond .ne 7, 3) := by decide +kernel
theorem dX6_choice_53 : decode cX6_choice 53 = .ok (.iload_n 3, 1) := by decide +kernel
theorem dX6_choice_54 : decode cX6_choice 54 = .ok (.goto 48, 3) := by decide +kernel
theorem dX6_choice_57 : decode cX6_choice 57 = .ok (.iload_n 2, 1) := by decide +kernel
theorem dX6_choice_58 : decode cX6_choice 58 = .ok (.iconst 1, 1) := by decide +kernel
theorem dX6_choice_59 : decode cX6_choice 59 = .ok (.if_icmp .ne 25, 3) := by decide +kernel
theorem dX6_choice_62 : decode cX6_choice 62 = .ok (.aload_n 0, 1) := by decide +kernel
theorem dX6_choice_63 : decode cX6_choice 63 = .ok (.aload_n 0, 1) := by decide +kernel
theorem dX6_choice_64 : decode cX6_choice 64 = .ok (.getfield 41, 3) := by decide +kernel
theorem dX6_choice_67 : decode cX6_choice 67 = .ok (.iload_n 1, 1) := by decide +kernel
theorem dX6_choice_68 : decode cX6_choice 68 = .ok (.iload_n 3, 1) := by decide +kernel
theorem dX6_choice_69 : decode cX6_choice 69 = .ok (.aload_n 0, 1) := by decide +kernel
theorem dX6_choice_70 : decode cX6_choice 70 = .ok (.getfield 41, 3) := by decide +kernel
theorem dX6_choice_73 : decode cX6_choice 73 = .ok (.bipush 18, 2) := by decide +kernel
theorem dX6_choice_75 : decode cX6_choice 75 = .ok (.iload_n 1, 1) := by decide +kernel
theorem dX6_choice_76 : decode cX6_choice 76 = .ok (.iadd, 1) := by decide +kernel
theorem dX6_choice_77 : decode cX6_choice 77 = .ok (.iaload, 1) := by decide +kernel
theorem dX6_choice_78 : decode cX6_choice 78 = .ok (.invokevirtual 297, 3) := by decide +kernel
theorem dX6_choice_81 : decode cX6_choice 81 = .ok (.goto 21, 3) := by decide +kernel
theorem dX6_choice_84 : decode cX6_choice 84 = .ok (.aload_n 0, 1) := by decide +kernel
theorem dX6_choice_85 : decode cX6_choice 85 = .ok (.aload_n 0, 1) := by decide +kernel
theorem dX6_choice_86 : decode cX6_choice 86 = .ok (.getfield 41, 3) := by decide +kernel
theorem dX6_choice_89 : decode cX6_choice 89 = .ok (.iload_n 1, 1) := by decide +kernel
theorem dX6_choice_90 : decode cX6_choice 90 = .ok (.aload_n 0, 1) := by decide +kernel
theorem dX6_choice_91 : decode cX6_choice 91 = .ok (.getfield 41, 3) := by decide +kernel
theorem dX6_choice_94 : decode cX6_choice 94 = .ok (.bipush 24, 2) := by decide +kernel
theorem dX6_choice_96 : decode cX6_choice 96 = .ok (.iload_n 1, 1) := by decide +kernel
theorem dX6_choice_97 : decode cX6_choice 97 = .ok (.iadd, 1) := by decide +kernel
theorem dX6_choice_98 : decode cX6_choice 98 = .ok (.iaload, 1) := by decide +kernel
theorem dX6_choice_99 : decode cX6_choice 99 = .ok (.invokevirtual 315, 3) := by decide +kernel
theorem dX6_choice_102 : decode cX6_choice 102 = .ok (.ireturn, 1) := by decide +kernel
theorem dX6_gap_0 : decode cX6_gap 0 = .ok (.aload_n 0, 1) := by decide +kernel
theorem dX6_gap_1 : decode cX6_gap 1 = .ok (.iconst 0, 1) := by decide +kernel
theorem dX6_gap_2 : decode cX6_gap 2 = .ok (.putfield 128, 3) := by decide +kernel
theorem dX6_gap_5 : decode cX6_gap 5 = .ok (.aload_n 0, 1) := by decide +kernel
theorem dX6_gap_6 : decode cX6_gap 6 = .ok (.iload_n 1, 1) := by decide +kernel
theorem dX6_gap_7 : decode cX6_gap 7 = .ok (.invokevirtual 263, 3) := by decide +kernel
theorem dX6_gap_10 : decode cX6_gap 10 = .ok (.ifCond .ne 9, 3) := by decide +kernel
theorem dX6_gap_13 : decode cX6_gap 13 = .ok (.aload_n 0, 1) := by decide +kernel
theorem dX6_gap_14 : decode cX6_gap 14 = .ok (.iconst 1, 1) := by decide +kernel
theorem dX6_gap_15 : decode cX6_gap 15 = .ok (.invokevirtual 243, 3) := by decide +kernel
theorem dX6_gap_18 : decode cX6_gap 18 = .ok (.ireturn, 1) := by decide +kernel
theorem dX6_gap_19 : decode cX6_gap 19 = .ok (.aload_n 0, 1) := by decide +kernel
theorem dX6_gap_20 : decode cX6_gap 20 = .ok (.getfield 41, 3) := by decide +kernel
theorem dX6_gap_23 : decode cX6_gap 23 = .ok (.bipush 18, 2) := by decide +kernel
theorem dX6_gap_25 : decode cX6_gap 25 = .ok (.iload_n 1, 1) := by decide +kernel
theorem dX6_gap_26 : decode cX6_gap 26 = .ok (.iadd, 1) := by decide +kernel
theorem dX6_gap_27 : decode cX6_gap 27 = .ok (.iaload, 1) := by decide +kernel
theorem dX6_gap_28 : decode cX6_gap 28 = .ok (.istore_n 2, 1) := by decide +kernel
theorem dX6_gap_29 : decode cX6_gap 29 = .ok (.iload_n 2, 1) := by decide +kernel
theorem dX6_gap_30 : decode cX6_gap 30 = .ok (.ifCond .ne 5, 3) := by decide +kernel
theorem dX6_gap_33 : decode cX6_gap 33 = .ok (.iconst (-1), 1) := by decide +kernel
theorem dX6_gap_34 : decode cX6_gap 34 = .ok (.ireturn, 1) := by decide +kernel
theorem dX6_gap_35 : decode cX6_gap 35 = .ok (.iconst (-1), 1) := by decide +kernel
theorem dX6_gap_36 : decode cX6_gap 36 = .ok (.istore_n 3, 1) := by decide +kernel
theorem dX6_gap_37 : decode cX6_gap 37 = .ok (.aload_n 0, 1) := by decide +kernel
theorem dX6_gap_38 : decode cX6_gap 38 = .ok (.aload_n 0, 1) := by decide +kernel
theorem dX6_gap_39 : decode cX6_gap 39 = .ok (.getfield 41, 3) := by decide +kernel
theorem dX6_gap_42 : decode cX6_gap 42 = .ok (.iload_n 1, 1) := by decide +kernel
theorem dX6_gap_43 : decode cX6_gap 43 = .ok (.invokevirtual 266, 3) := by decide +kernel
theorem dX6_gap_46 : decode cX6_gap 46 = .ok (.istore 4, 2) := by decide +kernel
theorem dX6_gap_48 : decode cX6_gap 48 = .ok (.iconst 0, 1) := by decide +kernel
theorem dX6_gap_49 : decode cX6_gap 49 = .ok (.istore 5, 2) := by decide +kernel
theorem dX6_gap_51 : decode cX6_gap 51 = .ok (.iload 5, 2) := by decide +kernel
theorem dX6_gap_53 : decode cX6_gap 53 = .ok (.iconst 1, 1) := by decide +kernel
theorem dX6_gap_54 : decode cX6_gap 54 = .ok (.aload_n 0, 1) := by decide +kernel
theorem dX6_gap_55 : decode cX6_gap 55 = .ok (.getfield 25, 3) := by decide +kernel
theorem dX6_gap_58 : decode cX6_gap 58 = .ok (.iconst 1, 1) := by decide +kernel
theorem dX6_gap_59 : decode cX6_gap 59 = .ok (.iaload, 1) := by decide +kernel
theorem dX6_gap_60 : decode cX6_gap 60 = .ok (.ishl, 1) := by decide +kernel
theorem dX6_gap_61 : decode cX6_gap 61 = .ok (.if_icmp .ge 95, 3) := by decide +kernel
theorem dX6_gap_64 : decode cX6_gap 64 = .ok (.iload 5, 2) := by decide +kernel
theorem dX6_gap_66 : decode cX6_gap 66 = .ok (.iload 4, 2) := by decide +kernel
theorem dX6_gap_68 : decode cX6_gap 68 = .ok (.iconst (-1), 1) := by decide +kernel
theorem dX6_gap_69 : decode cX6_gap 69 = .ok (.ixor, 1) := by decide +kernel
theorem dX6_gap_70 : decode cX6_gap 70 = .ok (.iand, 1) := by decide +kernel
theorem dX6_gap_71 : decode cX6_gap 71 = .ok (.ifCond .eq 6, 3) := by decide +kernel
theorem dX6_gap_74 : decode cX6_gap 74 = .ok (.goto 76, 3) := by decide +kernel
theorem dX6_gap_77 : decode cX6_gap 77 = .ok (.iconst 0, 1) := by decide +kernel
theorem dX6_gap_78 : decode cX6_gap 78 = .ok (.istore 6, 2) := by decide +kernel
theorem dX6_gap_80 : decode cX6_gap 80 = .ok (.iload 6, 2) := by decide +kernel
theorem dX6_gap_82 : decode cX6_gap 82 = .ok (.aload_n 0, 1) := by decide +kernel
theorem dX6_gap_83 : decode cX6_gap 83 = .ok (.getfield 41, 3) := by decide +kernel
theorem dX6_gap_86 : decode cX6_gap 86 = .ok (.bipush 12, 2) := by decide +kernel
theorem dX6_gap_88 : decode cX6_gap 88 = .ok (.iload_n 1, 1) := by decide +kernel
theorem dX6_gap_89 : decode cX6_gap 89 = .ok (.iadd, 1) := by decide +kernel
theorem dX6_gap_90 : decode cX6_gap 90 = .ok (.iaload, 1) := by decide +kernel
theorem dX6_gap_91 : decode cX6_gap 91 = .ok (.if_icmp .gt 59, 3) := by decide +kernel
theorem dX6_gap_94 : decode cX6_gap 94 = .ok (.aload_n 0, 1) := by decide +kernel
theorem dX6_gap_95 : decode cX6_gap 95 = .ok (.iload 5, 2) := by decide +kernel
theorem dX6_gap_97 : decode cX6_gap 97 = .ok (.invokevirtual 273, 3) := by decide +kernel
theorem dX6_gap_100 : decode cX6_gap 100 = .ok (.iload 6, 2) := by decide +kernel
theorem dX6_gap_102 : decode cX6_gap 102 = .ok (.iadd, 1) := by decide +kernel
theorem dX6_gap_103 : decode cX6_gap 103 = .ok (.istore 7, 2) := by decide +kernel
theorem dX6_gap_105 : decode cX6_gap 105 = .ok (.iconst 0, 1) := by decide +kernel
theorem dX6_gap_106 : decode cX6_gap 106 = .ok (.iload 7, 2) := by decide +kernel
theorem dX6_gap_108 : decode cX6_gap 108 = .ok (.iload_n 2, 1) := by decide +kernel
theorem dX6_gap_109 : decode cX6_gap 109 = .ok (.isub, 1) := by decide +kernel
theorem dX6_gap_110 : decode cX6_gap 110 = .ok (.invokestatic 318, 3) := by decide +kernel
theorem dX6_gap_113 : decode cX6_gap 113 = .ok (.aload_n 0, 1) := by decide +kernel
theorem dX6_gap_114 : decode cX6_gap 114 = .ok (.getfield 25, 3) := by decide +kernel
theorem dX6_gap_117 : decode cX6_gap 117 = .ok (.iconst 3, 1) := by decide +kernel
theorem dX6_gap_118 : decode cX6_gap 118 = .ok (.iaload, 1) := by decide +kernel
theorem dX6_gap_119 : decode cX6_gap 119 = .ok (.isub, 1) := by decide +kernel
theorem dX6_gap_120 : decode cX6_gap 120 = .ok (.invokestatic 282, 3) := by decide +kernel
theorem dX6_gap_123 : decode cX6_gap 123 = .ok (.istore 8, 2) := by decide +kernel
theorem dX6_gap_125 : decode cX6_gap 125 = .ok (.iload 7, 2) := by decide +kernel
theorem dX6_gap_127 : decode cX6_gap 127 = .ok (.ifCond .le 17, 3) := by decide +kernel
theorem dX6_gap_130 : decode cX6_gap 130 = .ok (.iload_n 3, 1) := by decide +kernel
theorem dX6_gap_131 : decode cX6_gap 131 = .ok (.iconst (-1), 1) := by decide +kernel
theorem dX6_gap_132 : decode cX6_gap 132 = .ok (.if_icmp .eq 9, 3) := by decide +kernel
theorem dX6_gap_135 : decode cX6_gap 135 = .ok (.iload 8, 2) := by decide +kernel
theorem dX6_gap_137 : decode cX6_gap 137 = .ok (.iload_n 3, 1) := by decide +kernel
theorem dX6_gap_138 : decode cX6_gap 138 = .ok (.if_icmp .ge 6, 3) := by decide +kernel
theorem dX6_gap_141 : decode cX6_gap 141 = .ok (.iload 8, 2) := by decide +kernel
theorem dX6_gap_143 : decode cX6_gap 143 = .ok (.istore_n 3, 1) := by decide +kernel
theorem dX6_gap_144 : decode cX6_gap 144 = .ok (.iinc 6 1, 3) := by decide +kernel
theorem dX6_gap_147 : decode cX6_gap 147 = .ok (.goto (-67), 3) := by decide +kernel
theorem dX6_gap_150 : decode cX6_gap 150 = .ok (.iinc 5 1, 3) := by decide +kernel
theorem dX6_gap_153 : decode cX6_gap 153 = .ok (.goto (-102), 3) := by decide +kernel
theorem dX6_gap_156 : decode cX6_gap 156 = .ok (.iload_n 3, 1) := by decide +kernel
theorem dX6_gap_157 : decode cX6_gap 157 = .ok (.iconst (-1), 1) := by decide +kernel
theorem dX6_gap_158 : decode cX6_gap 158 = .ok (.if_icmp .ne 7, 3) := by decide +kernel
theorem dX6_gap_161 : decode cX6_gap 161 = .ok (.iload_n 2, 1) := by decide +kernel
theorem dX6_gap_162 : decode cX6_gap 162 = .ok (.goto 4, 3) := by decide +kernel
theorem dX6_gap_165 : decode cX6_gap 165 = .ok (.iload_n 3, 1) := by decide +kernel
theorem dX6_gap_166 : decode cX6_gap 166 = .ok (.ireturn, 1) := by decide +kernel
theorem dX6_loadRow_0 : decode cX6_loadRow 0 = .ok (.iconst 0, 1) := by decide +kernel
theorem dX6_loadRow_1 : decode cX6_loadRow 1 = .ok (.istore_n 2, 1) := by decide +kernel
theorem dX6_loadRow_2 : decode cX6_loadRow 2 = .ok (.iload_n 2, 1) := by decide +kernel
theorem dX6_loadRow_3 : decode cX6_loadRow 3 = .ok (.bipush 30, 2) := by decide +kernel
theorem dX6_loadRow_5 : decode cX6_loadRow 5 = .ok (.if_icmp .ge 26, 3) := by decide +kernel
theorem dX6_loadRow_8 : decode cX6_loadRow 8 = .ok (.aload_n 0, 1) := by decide +kernel
theorem dX6_loadRow_9 : decode cX6_loadRow 9 = .ok (.getfield 70, 3) := by decide +kernel
theorem dX6_loadRow_12 : decode cX6_loadRow 12 = .ok (.iload_n 2, 1) := by decide +kernel
theorem dX6_loadRow_13 : decode cX6_loadRow 13 = .ok (.aload_n 0, 1) := by decide +kernel
theorem dX6_loadRow_14 : decode cX6_loadRow 14 = .ok (.getfield 67, 3) := by decide +kernel
theorem dX6_loadRow_17 : decode cX6_loadRow 17 = .ok (.bipush 30, 2) := by decide +kernel
theorem dX6_loadRow_19 : decode cX6_loadRow 19 = .ok (.iload_n 1, 1) := by decide +kernel
theorem dX6_loadRow_20 : decode cX6_loadRow 20 = .ok (.imul, 1) := by decide +kernel
theorem dX6_loadRow_21 : decode cX6_loadRow 21 = .ok (.iload_n 2, 1) := by decide +kernel
theorem dX6_loadRow_22 : decode cX6_loadRow 22 = .ok (.iadd, 1) := by decide +kernel
theorem dX6_loadRow_23 : decode cX6_loadRow 23 = .ok (.iaload, 1) := by decide +kernel
theorem dX6_loadRow_24 : decode cX6_loadRow 24 = .ok (.iastore, 1) := by decide +kernel
theorem dX6_loadRow_25 : decode cX6_loadRow 25 = .ok (.iinc 2 1, 3) := by decide +kernel
theorem dX6_loadRow_28 : decode cX6_loadRow 28 = .ok (.goto (-26), 3) := by decide +kernel
theorem dX6_loadRow_31 : decode cX6_loadRow 31 = .ok (.return_, 1) := by decide +kernel
theorem dX6_weekOn_0 : decode cX6_weekOn 0 = .ok (.aload_n 0, 1) := by decide +kernel
theorem dX6_weekOn_1 : decode cX6_weekOn 1 = .ok (.aload_n 0, 1) := by decide +kernel
theorem dX6_weekOn_2 : decode cX6_weekOn 2 = .ok (.getfield 321, 3) := by decide +kernel
theorem dX6_weekOn_5 : decode cX6_weekOn 5 = .ok (.iload_n 1, 1) := by decide +kernel
theorem dX6_weekOn_6 : decode cX6_weekOn 6 = .ok (.invokestatic 282, 3) := by decide +kernel
theorem dX6_weekOn_9 : decode cX6_weekOn 9 = .ok (.putfield 321, 3) := by decide +kernel
theorem dX6_weekOn_12 : decode cX6_weekOn 12 = .ok (.iload_n 1, 1) := by decide +kernel
theorem dX6_weekOn_13 : decode cX6_weekOn 13 = .ok (.aload_n 0, 1) := by decide +kernel
theorem dX6_weekOn_14 : decode cX6_weekOn 14 = .ok (.getfield 324, 3) := by decide +kernel
theorem dX6_weekOn_17 : decode cX6_weekOn 17 = .ok (.if_icmp .ne 9, 3) := by decide +kernel
theorem dX6_weekOn_20 : decode cX6_weekOn 20 = .ok (.aload_n 0, 1) := by decide +kernel
theorem dX6_weekOn_21 : decode cX6_weekOn 21 = .ok (.iconst 1, 1) := by decide +kernel
theorem dX6_weekOn_22 : decode cX6_weekOn 22 = .ok (.putfield 327, 3) := by decide +kernel
theorem dX6_weekOn_25 : decode cX6_weekOn 25 = .ok (.return_, 1) := by decide +kernel
theorem dX6_weekOn_26 : decode cX6_weekOn 26 = .ok (.iconst 0, 1) := by decide +kernel
theorem dX6_weekOn_27 : decode cX6_weekOn 27 = .ok (.istore_n 3, 1) := by decide +kernel
theorem dX6_weekOn_28 : decode cX6_weekOn 28 = .ok (.iload_n 3, 1) := by decide +kernel
theorem dX6_weekOn_29 : decode cX6_weekOn 29 = .ok (.aload_n 0, 1) := by decide +kernel
theorem dX6_weekOn_30 : decode cX6_weekOn 30 = .ok (.getfield 25, 3) := by decide +kernel
theorem dX6_weekOn_33 : decode cX6_weekOn 33 = .ok (.iconst 0, 1) := by decide +kernel
theorem dX6_weekOn_34 : decode cX6_weekOn 34 = .ok (.iaload, 1) := by decide +kernel
theorem dX6_weekOn_35 : decode cX6_weekOn 35 = .ok (.if_icmp .ge 58, 3) := by decide +kernel
theorem dX6_weekOn_38 : decode cX6_weekOn 38 = .ok (.aload_n 0, 1) := by decide +kernel
theorem dX6_weekOn_39 : decode cX6_weekOn 39 = .ok (.getfield 327, 3) := by decide +kernel
theorem dX6_weekOn_42 : decode cX6_weekOn 42 = .ok (.ifCond .ne 51, 3) := by decide +kernel
theorem dX6_weekOn_45 : decode cX6_weekOn 45 = .ok (.aload_n 0, 1) := by decide +kernel
theorem dX6_weekOn_46 : decode cX6_weekOn 46 = .ok (.getfield 330, 3) := by decide +kernel
theorem dX6_weekOn_49 : decode cX6_weekOn 49 = .ok (.ifCond .ne 44, 3) := by decide +kernel
theorem dX6_weekOn_52 : decode cX6_weekOn 52 = .ok (.aload_n 0, 1) := by decide +kernel
theorem dX6_weekOn_53 : decode cX6_weekOn 53 = .ok (.getfield 73, 3) := by decide +kernel
theorem dX6_weekOn_56 : decode cX6_weekOn 56 = .ok (.iload_n 3, 1) := by decide +kernel
theorem dX6_weekOn_57 : decode cX6_weekOn 57 = .ok (.iaload, 1) := by decide +kernel
theorem dX6_weekOn_58 : decode cX6_weekOn 58 = .ok (.ifCond .eq 29, 3) := by decide +kernel
theorem dX6_weekOn_61 : decode cX6_weekOn 61 = .ok (.iload_n 2, 1) := by decide +kernel
theorem dX6_weekOn_62 : decode cX6_weekOn 62 = .ok (.iload_n 3, 1) := by decide +kernel
theorem dX6_weekOn_63 : decode cX6_weekOn 63 = .ok (.ishr, 1) := by decide +kernel
theorem dX6_weekOn_64 : decode cX6_weekOn 64 = .ok (.iconst 1, 1) := by decide +kernel
theorem dX6_weekOn_65 : decode cX6_weekOn 65 = .ok (.iand, 1) := by decide +kernel
theorem dX6_weekOn_66 : decode cX6_weekOn 66 = .ok (.iconst 1, 1) := by decide +kernel
theorem dX6_weekOn_67 : decode cX6_weekOn 67 = .ok (.if_icmp .ne 6, 3) := by decide +kernel
theorem dX6_weekOn_70 : decode cX6_weekOn 70 = .ok (.goto 17, 3) := by decide +kernel
theorem dX6_weekOn_73 : decode cX6_weekOn 73 = .ok (.aload_n 0, 1) := by decide +kernel
theorem dX6_weekOn_74 : decode cX6_weekOn 74 = .ok (.getfield 79, 3) := by decide +kernel
theorem dX6_weekOn_77 : decode cX6_weekOn 77 = .ok (.iload_n 1, 1) := by decide +kernel
theorem dX6_weekOn_78 : decode cX6_weekOn 78 = .ok (.iload_n 3, 1) := by decide +kernel
theorem dX6_weekOn_79 : decode cX6_weekOn 79 = .ok (.iastore, 1) := by decide +kernel
theorem dX6_weekOn_80 : decode cX6_weekOn 80 = .ok (.aload_n 0, 1) := by decide +kernel
theorem dX6_weekOn_81 : decode cX6_weekOn 81 = .ok (.iload_n 1, 1) := by decide +kernel
theorem dX6_weekOn_82 : decode cX6_weekOn 82 = .ok (.iload_n 2, 1) := by decide +kernel
theorem dX6_weekOn_83 : decode cX6_weekOn 83 = .ok (.iload_n 3, 1) := by decide +kernel
theorem dX6_weekOn_84 : decode cX6_weekOn 84 = .ok (.invokevirtual 333, 3) := by decide +kernel
theorem dX6_weekOn_87 : decode cX6_weekOn 87 = .ok (.iinc 3 1, 3) := by decide +kernel
theorem dX6_weekOn_90 : decode cX6_weekOn 90 = .ok (.goto (-62), 3) := by decide +kernel
theorem dX6_weekOn_93 : decode cX6_weekOn 93 = .ok (.return_, 1) := by decide +kernel
theorem dX6_answerOn_0 : decode cX6_answerOn 0 = .ok (.iconst 0, 1) := by decide +kernel
theorem dX6_answerOn_1 : decode cX6_answerOn 1 = .ok (.istore 4, 2) := by decide +kernel
theorem dX6_answerOn_3 : decode cX6_answerOn 3 = .ok (.iload 4, 2) := by decide +kernel
theorem dX6_answerOn_5 : decode cX6_answerOn 5 = .ok (.iconst 1, 1) := by decide +kernel
theorem dX6_answerOn_6 : decode cX6_answerOn 6 = .ok (.aload_n 0, 1) := by decide +kernel
theorem dX6_answerOn_7 : decode cX6_answerOn 7 = .ok (.getfield 25, 3) := by decide +kernel
theorem dX6_answerOn_10 : decode cX6_answerOn 10 = .ok (.iconst 1, 1) := by decide +kernel
theorem dX6_answerOn_11 : decode cX6_answerOn 11 = .ok (.iaload, 1) := by decide +kernel
theorem dX6_answerOn_12 : decode cX6_answerOn 12 = .ok (.ishl, 1) := by decide +kernel
theorem dX6_answerOn_13 : decode cX6_answerOn 13 = .ok (.if_icmp .ge 217, 3) := by decide +kernel
theorem dX6_answerOn_16 : decode cX6_answerOn 16 = .ok (.aload_n 0, 1) := by decide +kernel
theorem dX6_answerOn_17 : decode cX6_answerOn 17 = .ok (.getfield 327, 3) := by decide +kernel
theorem dX6_answerOn_20 : decode cX6_answerOn 20 = .ok (.ifCond .ne 210, 3) := by decide +kernel
theorem dX6_answerOn_23 : decode cX6_answerOn 23 = .ok (.aload_n 0, 1) := by decide +kernel
theorem dX6_answerOn_24 : decode cX6_answerOn 24 = .ok (.getfield 330, 3) := by decide +kernel
theorem dX6_answerOn_27 : decode cX6_answerOn 27 = .ok (.ifCond .ne 203, 3) := by decide +kernel
theorem dX6_answerOn_30 : decode cX6_answerOn 30 = .ok (.aload_n 0, 1) := by decide +kernel
theorem dX6_answerOn_31 : decode cX6_answerOn 31 = .ok (.iload_n 1, 1) := by decide +kernel
theorem dX6_answerOn_32 : decode cX6_answerOn 32 = .ok (.invokevirtual 337, 3) := by decide +kernel
theorem dX6_answerOn_35 : decode cX6_answerOn 35 = .ok (.aload_n 0, 1) := by decide +kernel
theorem dX6_answerOn_36 : decode cX6_answerOn 36 = .ok (.aload_n 0, 1) := by decide +kernel
theorem dX6_answerOn_37 : decode cX6_answerOn 37 = .ok (.getfield 70, 3) := by decide +kernel
theorem dX6_answerOn_40 : decode cX6_answerOn 40 = .ok (.iload_n 3, 1) := by decide +kernel
theorem dX6_answerOn_41 : decode cX6_answerOn 41 = .ok (.iload 4, 2) := by decide +kernel
theorem dX6_answerOn_43 : decode cX6_answerOn 43 = .ok (.aload_n 0, 1) := by decide +kernel
theorem dX6_answerOn_44 : decode cX6_answerOn 44 = .ok (.getfield 73, 3) := by decide +kernel
theorem dX6_answerOn_47 : decode cX6_answerOn 47 = .ok (.iload_n 3, 1) := by decide +kernel
theorem dX6_answerOn_48 : decode cX6_answerOn 48 = .ok (.iaload, 1) := by decide +kernel
theorem dX6_answerOn_49 : decode cX6_answerOn 49 = .ok (.invokevirtual 297, 3) := by decide +kernel
theorem dX6_answerOn_52 : decode cX6_answerOn 52 = .ok (.istore 5, 2) := by decide +kernel
theorem dX6_answerOn_54 : decode cX6_answerOn 54 = .ok (.iload 5, 2) := by decide +kernel
theorem dX6_answerOn_56 : decode cX6_answerOn 56 = .ok (.iconst (-1), 1) := by decide +kernel
theorem dX6_answerOn_57 : decode cX6_answerOn 57 = .ok (.if_icmp .ne 6, 3) := by decide +kernel
theorem dX6_answerOn_60 : decode cX6_answerOn 60 = .ok (.goto 164, 3) := by decide +kernel
theorem dX6_answerOn_63 : decode cX6_answerOn 63 = .ok (.aload_n 0, 1) := by decide +kernel
theorem dX6_answerOn_64 : decode cX6_answerOn 64 = .ok (.getfield 340, 3) := by decide +kernel
theorem dX6_answerOn_67 : decode cX6_answerOn 67 = .ok (.sipush 20000, 3) := by decide +kernel
theorem dX6_answerOn_70 : decode cX6_answerOn 70 = .ok (.if_icmp .ne 9, 3) := by decide +kernel
theorem dX6_answerOn_73 : decode cX6_answerOn 73 = .ok (.aload_n 0, 1) := by decide +kernel
theorem dX6_answerOn_74 : decode cX6_answerOn 74 = .ok (.iconst 1, 1) := by decide +kernel
theorem dX6_answerOn_75 : decode cX6_answerOn 75 = .ok (.putfield 330, 3) := by decide +kernel
theorem dX6_answerOn_78 : decode cX6_answerOn 78 = .ok (.return_, 1) := by decide +kernel
theorem dX6_answerOn_79 : decode cX6_answerOn 79 = .ok (.aload_n 0, 1) := by decide +kernel
theorem dX6_answerOn_80 : decode cX6_answerOn 80 = .ok (.dup, 1) := by decide +kernel
theorem dX6_answerOn_81 : decode cX6_answerOn 81 = .ok (.getfield 340, 3) := by decide +kernel
theorem dX6_answerOn_84 : decode cX6_answerOn 84 = .ok (.iconst 1, 1) := by decide +kernel
theorem dX6_answerOn_85 : decode cX6_answerOn 85 = .ok (.iadd, 1) := by decide +kernel
theorem dX6_answerOn_86 : decode cX6_answerOn 86 = .ok (.putfield 340, 3) := by decide +kernel
theorem dX6_answerOn_89 : decode cX6_answerOn 89 = .ok (.aload_n 0, 1) := by decide +kernel
theorem dX6_answerOn_90 : decode cX6_answerOn 90 = .ok (.aload_n 0, 1) := by decide +kernel
theorem dX6_answerOn_91 : decode cX6_answerOn 91 = .ok (.getfield 70, 3) := by decide +kernel
theorem dX6_answerOn_94 : decode cX6_answerOn 94 = .ok (.iload_n 3, 1) := by decide +kernel
theorem dX6_answerOn_95 : decode cX6_answerOn 95 = .ok (.aload_n 0, 1) := by decide +kernel
theorem dX6_answerOn_96 : decode cX6_answerOn 96 = .ok (.getfield 76, 3) := by decide +kernel
theorem dX6_answerOn_99 : decode cX6_answerOn 99 = .ok (.iload_n 3, 1) := by decide +kernel
theorem dX6_answerOn_100 : decode cX6_answerOn 100 = .ok (.iaload, 1) := by decide +kernel
theorem dX6_answerOn_101 : decode cX6_answerOn 101 = .ok (.invokevirtual 315, 3) := by decide +kernel
theorem dX6_answerOn_104 : decode cX6_answerOn 104 = .ok (.istore 6, 2) := by decide +kernel
theorem dX6_answerOn_106 : decode cX6_answerOn 106 = .ok (.iconst 0, 1) := by decide +kernel
theorem dX6_answerOn_107 : decode cX6_answerOn 107 = .ok (.istore 7, 2) := by decide +kernel
theorem dX6_answerOn_109 : decode cX6_answerOn 109 = .ok (.iload 7, 2) := by decide +kernel
theorem dX6_answerOn_111 : decode cX6_answerOn 111 = .ok (.aload_n 0, 1) := by decide +kernel
theorem dX6_answerOn_112 : decode cX6_answerOn 112 = .ok (.getfield 25, 3) := by decide +kernel
theorem dX6_answerOn_115 : decode cX6_answerOn 115 = .ok (.iconst 1, 1) := by decide +kernel
theorem dX6_answerOn_116 : decode cX6_answerOn 116 = .ok (.iaload, 1) := by decide +kernel
theorem dX6_answerOn_117 : decode cX6_answerOn 117 = .ok (.if_icmp .ge 29, 3) := by decide +kernel
theorem dX6_answerOn_120 : decode cX6_answerOn 120 = .ok (.iload 4, 2) := by decide +kernel
theorem dX6_answerOn_122 : decode cX6_answerOn 122 = .ok (.iload 7, 2) := by decide +kernel
theorem dX6_answerOn_124 : decode cX6_answerOn 124 = .ok (.ishr, 1) := by decide +kernel
theorem dX6_answerOn_125 : decode cX6_answerOn 125 = .ok (.iconst 1, 1) := by decide +kernel
theorem dX6_answerOn_126 : decode cX6_answerOn 126 = .ok (.iand, 1) := by decide +kernel
theorem dX6_answerOn_127 : decode cX6_answerOn 127 = .ok (.iconst 1, 1) := by decide +kernel
theorem dX6_answerOn_128 : decode cX6_answerOn 128 = .ok (.if_icmp .ne 12, 3) := by decide +kernel
theorem dX6_answerOn_131 : decode cX6_answerOn 131 = .ok (.aload_n 0, 1) := by decide +kernel
theorem dX6_answerOn_132 : decode cX6_answerOn 132 = .ok (.getfield 70, 3) := by decide +kernel
theorem dX6_answerOn_135 : decode cX6_answerOn 135 = .ok (.iload 7, 2) := by decide +kernel
theorem dX6_answerOn_137 : decode cX6_answerOn 137 = .ok (.iload 6, 2) := by decide +kernel
theorem dX6_answerOn_139 : decode cX6_answerOn 139 = .ok (.iastore, 1) := by decide +kernel
theorem dX6_answerOn_140 : decode cX6_answerOn 140 = .ok (.iinc 7 1, 3) := by decide +kernel
theorem dX6_answerOn_143 : decode cX6_answerOn 143 = .ok (.goto (-34), 3) := by decide +kernel
theorem dX6_answerOn_146 : decode cX6_answerOn 146 = .ok (.aload_n 0, 1) := by decide +kernel
theorem dX6_answerOn_147 : decode cX6_answerOn 147 = .ok (.getfield 70, 3) := by decide +kernel
theorem dX6_answerOn_150 : decode cX6_answerOn 150 = .ok (.bipush 12, 2) := by decide +kernel
theorem dX6_answerOn_152 : decode cX6_answerOn 152 = .ok (.iload_n 3, 1) := by decide +kernel
theorem dX6_answerOn_153 : decode cX6_answerOn 153 = .ok (.iadd, 1) := by decide +kernel
theorem dX6_answerOn_154 : decode cX6_answerOn 154 = .ok (.dup2, 1) := by decide +kernel
theorem dX6_answerOn_155 : decode cX6_answerOn 155 = .ok (.iaload, 1) := by decide +kernel
theorem dX6_answerOn_156 : decode cX6_answerOn 156 = .ok (.iload 5, 2) := by decide +kernel
theorem dX6_answerOn_158 : decode cX6_answerOn 158 = .ok (.isub, 1) := by decide +kernel
theorem dX6_answerOn_159 : decode cX6_answerOn 159 = .ok (.iastore, 1) := by decide +kernel
theorem dX6_answerOn_160 : decode cX6_answerOn 160 = .ok (.aload_n 0, 1) := by decide +kernel
theorem dX6_answerOn_161 : decode cX6_answerOn 161 = .ok (.getfield 70, 3) := by decide +kernel
theorem dX6_answerOn_164 : decode cX6_answerOn 164 = .ok (.bipush 12, 2) := by decide +kernel
theorem dX6_answerOn_166 : decode cX6_answerOn 166 = .ok (.iload 6, 2) := by decide +kernel
theorem dX6_answerOn_168 : decode cX6_answerOn 168 = .ok (.iadd, 1) := by decide +kernel
theorem dX6_answerOn_169 : decode cX6_answerOn 169 = .ok (.dup2, 1) := by decide +kernel
theorem dX6_answerOn_170 : decode cX6_answerOn 170 = .ok (.iaload, 1) := by decide +kernel
theorem dX6_answerOn_171 : decode cX6_answerOn 171 = .ok (.iload 5, 2) := by decide +kernel
theorem dX6_answerOn_173 : decode cX6_answerOn 173 = .ok (.iadd, 1) := by decide +kernel
theorem dX6_answerOn_174 : decode cX6_answerOn 174 = .ok (.iastore, 1) := by decide +kernel
theorem dX6_answerOn_175 : decode cX6_answerOn 175 = .ok (.iconst 0, 1) := by decide +kernel
theorem dX6_answerOn_176 : decode cX6_answerOn 176 = .ok (.istore 7, 2) := by decide +kernel
theorem dX6_answerOn_178 : decode cX6_answerOn 178 = .ok (.iload 7, 2) := by decide +kernel
theorem dX6_answerOn_180 : decode cX6_answerOn 180 = .ok (.bipush 30, 2) := by decide +kernel
theorem dX6_answerOn_182 : decode cX6_answerOn 182 = .ok (.if_icmp .ge 30, 3) := by decide +kernel
theorem dX6_answerOn_185 : decode cX6_answerOn 185 = .ok (.aload_n 0, 1) := by decide +kernel
theorem dX6_answerOn_186 : decode cX6_answerOn 186 = .ok (.getfield 67, 3) := by decide +kernel
theorem dX6_answerOn_189 : decode cX6_answerOn 189 = .ok (.bipush 30, 2) := by decide +kernel
theorem dX6_answerOn_191 : decode cX6_answerOn 191 = .ok (.iload_n 1, 1) := by decide +kernel
theorem dX6_answerOn_192 : decode cX6_answerOn 192 = .ok (.iconst 1, 1) := by decide +kernel
theorem dX6_answerOn_193 : decode cX6_answerOn 193 = .ok (.iadd, 1) := by decide +kernel
theorem dX6_answerOn_194 : decode cX6_answerOn 194 = .ok (.imul, 1) := by decide +kernel
theorem dX6_answerOn_195 : decode cX6_answerOn 195 = .ok (.iload 7, 2) := by decide +kernel
theorem dX6_answerOn_197 : decode cX6_answerOn 197 = .ok (.iadd, 1) := by decide +kernel
theorem dX6_answerOn_198 : decode cX6_answerOn 198 = .ok (.aload_n 0, 1) := by decide +kernel
theorem dX6_answerOn_199 : decode cX6_answerOn 199 = .ok (.getfield 70, 3) := by decide +kernel
theorem dX6_answerOn_202 : decode cX6_answerOn 202 = .ok (.iload 7, 2) := by decide +kernel
theorem dX6_answerOn_204 : decode cX6_answerOn 204 = .ok (.iaload, 1) := by decide +kernel
theorem dX6_answerOn_205 : decode cX6_answerOn 205 = .ok (.iastore, 1) := by decide +kernel
theorem dX6_answerOn_206 : decode cX6_answerOn 206 = .ok (.iinc 7 1, 3) := by decide +kernel
theorem dX6_answerOn_209 : decode cX6_answerOn 209 = .ok (.goto (-31), 3) := by decide +kernel
theorem dX6_answerOn_212 : decode cX6_answerOn 212 = .ok (.aload_n 0, 1) := by decide +kernel
theorem dX6_answerOn_213 : decode cX6_answerOn 213 = .ok (.iload_n 1, 1) := by decide +kernel
theorem dX6_answerOn_214 : decode cX6_answerOn 214 = .ok (.iconst 1, 1) := by decide +kernel
theorem dX6_answerOn_215 : decode cX6_answerOn 215 = .ok (.iadd, 1) := by decide +kernel
theorem dX6_answerOn_216 : decode cX6_answerOn 216 = .ok (.iload_n 2, 1) := by decide +kernel
theorem dX6_answerOn_217 : decode cX6_answerOn 217 = .ok (.iconst 1, 1) := by decide +kernel
theorem dX6_answerOn_218 : decode cX6_answerOn 218 = .ok (.iload_n 3, 1) := by decide +kernel
theorem dX6_answerOn_219 : decode cX6_answerOn 219 = .ok (.ishl, 1) := by decide +kernel
theorem dX6_answerOn_220 : decode cX6_answerOn 220 = .ok (.ior, 1) := by decide +kernel
theorem dX6_answerOn_221 : decode cX6_answerOn 221 = .ok (.invokevirtual 343, 3) := by decide +kernel
theorem dX6_answerOn_224 : decode cX6_answerOn 224 = .ok (.iinc 4 1, 3) := by decide +kernel
theorem dX6_answerOn_227 : decode cX6_answerOn 227 = .ok (.goto (-224), 3) := by decide +kernel
theorem dX6_answerOn_230 : decode cX6_answerOn 230 = .ok (.return_, 1) := by decide +kernel
theorem dX6_week_0 : decode cX6_week 0 = .ok (.aload_n 0, 1) := by decide +kernel
theorem dX6_week_1 : decode cX6_week 1 = .ok (.iconst 0, 1) := by decide +kernel
theorem dX6_week_2 : decode cX6_week 2 = .ok (.putfield 128, 3) := by decide +kernel
theorem dX6_week_5 : decode cX6_week 5 = .ok (.iload_n 1, 1) := by decide +kernel
theorem dX6_week_6 : decode cX6_week 6 = .ok (.iconst 0, 1) := by decide +kernel
theorem dX6_week_7 : decode cX6_week 7 = .ok (.iconst 2, 1) := by decide +kernel
theorem dX6_week_8 : decode cX6_week 8 = .ok (.invokestatic 131, 3) := by decide +kernel
theorem dX6_week_11 : decode cX6_week 11 = .ok (.ifCond .ne 9, 3) := by decide +kernel
theorem dX6_week_14 : decode cX6_week 14 = .ok (.aload_n 0, 1) := by decide +kernel
theorem dX6_week_15 : decode cX6_week 15 = .ok (.iconst 1, 1) := by decide +kernel
theorem dX6_week_16 : decode cX6_week 16 = .ok (.invokevirtual 243, 3) := by decide +kernel
theorem dX6_week_19 : decode cX6_week 19 = .ok (.ireturn, 1) := by decide +kernel
theorem dX6_week_20 : decode cX6_week 20 = .ok (.aload_n 0, 1) := by decide +kernel
theorem dX6_week_21 : decode cX6_week 21 = .ok (.iconst 0, 1) := by decide +kernel
theorem dX6_week_22 : decode cX6_week 22 = .ok (.putfield 324, 3) := by decide +kernel
theorem dX6_week_25 : decode cX6_week 25 = .ok (.iconst 0, 1) := by decide +kernel
theorem dX6_week_26 : decode cX6_week 26 = .ok (.istore_n 2, 1) := by decide +kernel
theorem dX6_week_27 : decode cX6_week 27 = .ok (.iload_n 2, 1) := by decide +kernel
theorem dX6_week_28 : decode cX6_week 28 = .ok (.bipush 6, 2) := by decide +kernel
theorem dX6_week_30 : decode cX6_week 30 = .ok (.if_icmp .ge 76, 3) := by decide +kernel
theorem dX6_week_33 : decode cX6_week 33 = .ok (.aload_n 0, 1) := by decide +kernel
theorem dX6_week_34 : decode cX6_week 34 = .ok (.getfield 73, 3) := by decide +kernel
theorem dX6_week_37 : decode cX6_week 37 = .ok (.iload_n 2, 1) := by decide +kernel
theorem dX6_week_38 : decode cX6_week 38 = .ok (.iload_n 2, 1) := by decide +kernel
theorem dX6_week_39 : decode cX6_week 39 = .ok (.aload_n 0, 1) := by decide +kernel
theorem dX6_week_40 : decode cX6_week 40 = .ok (.getfield 25, 3) := by decide +kernel
theorem dX6_week_43 : decode cX6_week 43 = .ok (.iconst 0, 1) := by decide +kernel
theorem dX6_week_44 : decode cX6_week 44 = .ok (.iaload, 1) := by decide +kernel
theorem dX6_week_45 : decode cX6_week 45 = .ok (.if_icmp .ge 15, 3) := by decide +kernel
theorem dX6_week_48 : decode cX6_week 48 = .ok (.aload_n 0, 1) := by decide +kernel
theorem dX6_week_49 : decode cX6_week 49 = .ok (.getfield 41, 3) := by decide +kernel
theorem dX6_week_52 : decode cX6_week 52 = .ok (.bipush 18, 2) := by decide +kernel
theorem dX6_week_54 : decode cX6_week 54 = .ok (.iload_n 2, 1) := by decide +kernel
theorem dX6_week_55 : decode cX6_week 55 = .ok (.iadd, 1) := by decide +kernel
theorem dX6_week_56 : decode cX6_week 56 = .ok (.iaload, 1) := by decide +kernel
theorem dX6_week_57 : decode cX6_week 57 = .ok (.goto 4, 3) := by decide +kernel
theorem dX6_week_60 : decode cX6_week 60 = .ok (.iconst 0, 1) := by decide +kernel
theorem dX6_week_61 : decode cX6_week 61 = .ok (.iastore, 1) := by decide +kernel
theorem dX6_week_62 : decode cX6_week 62 = .ok (.aload_n 0, 1) := by decide +kernel
theorem dX6_week_63 : decode cX6_week 63 = .ok (.getfield 76, 3) := by decide +kernel
theorem dX6_week_66 : decode cX6_week 66 = .ok (.iload_n 2, 1) := by decide +kernel
theorem dX6_week_67 : decode cX6_week 67 = .ok (.aload_n 0, 1) := by decide +kernel
theorem dX6_week_68 : decode cX6_week 68 = .ok (.getfield 41, 3) := by decide +kernel
theorem dX6_week_71 : decode cX6_week 71 = .ok (.bipush 24, 2) := by decide +kernel
theorem dX6_week_73 : decode cX6_week 73 = .ok (.iload_n 2, 1) := by decide +kernel
theorem dX6_week_74 : decode cX6_week 74 = .ok (.iadd, 1) := by decide +kernel
theorem dX6_week_75 : decode cX6_week 75 = .ok (.iaload, 1) := by decide +kernel
theorem dX6_week_76 : decode cX6_week 76 = .ok (.iastore, 1) := by decide +kernel
theorem dX6_week_77 : decode cX6_week 77 = .ok (.aload_n 0, 1) := by decide +kernel
theorem dX6_week_78 : decode cX6_week 78 = .ok (.dup, 1) := by decide +kernel
theorem dX6_week_79 : decode cX6_week 79 = .ok (.getfield 324, 3) := by decide +kernel
theorem dX6_week_82 : decode cX6_week 82 = .ok (.aload_n 0, 1) := by decide +kernel
theorem dX6_week_83 : decode cX6_week 83 = .ok (.getfield 73, 3) := by decide +kernel
theorem dX6_week_86 : decode cX6_week 86 = .ok (.iload_n 2, 1) := by decide +kernel
theorem dX6_week_87 : decode cX6_week 87 = .ok (.iaload, 1) := by decide +kernel
theorem dX6_week_88 : decode cX6_week 88 = .ok (.ifCond .le 7, 3) := by decide +kernel
theorem dX6_week_91 : decode cX6_week 91 = .ok (.iconst 1, 1) := by decide +kernel
theorem dX6_week_92 : decode cX6_week 92 = .ok (.goto 4, 3) := by decide +kernel
theorem dX6_week_95 : decode cX6_week 95 = .ok (.iconst 0, 1) := by decide +kernel
theorem dX6_week_96 : decode cX6_week 96 = .ok (.iadd, 1) := by decide +kernel
theorem dX6_week_97 : decode cX6_week 97 = .ok (.putfield 324, 3) := by decide +kernel
theorem dX6_week_100 : decode cX6_week 100 = .ok (.iinc 2 1, 3) := by decide +kernel
theorem dX6_week_103 : decode cX6_week 103 = .ok (.goto (-76), 3) := by decide +kernel
theorem dX6_week_106 : decode cX6_week 106 = .ok (.iconst 0, 1) := by decide +kernel
theorem dX6_week_107 : decode cX6_week 107 = .ok (.istore_n 2, 1) := by decide +kernel
theorem dX6_week_108 : decode cX6_week 108 = .ok (.iload_n 2, 1) := by decide +kernel
theorem dX6_week_109 : decode cX6_week 109 = .ok (.bipush 30, 2) := by decide +kernel
theorem dX6_week_111 : decode cX6_week 111 = .ok (.if_icmp .ge 21, 3) := by decide +kernel
theorem dX6_week_114 : decode cX6_week 114 = .ok (.aload_n 0, 1) := by decide +kernel
theorem dX6_week_115 : decode cX6_week 115 = .ok (.getfield 67, 3) := by decide +kernel
theorem dX6_week_118 : decode cX6_week 118 = .ok (.iload_n 2, 1) := by decide +kernel
theorem dX6_week_119 : decode cX6_week 119 = .ok (.aload_n 0, 1) := by decide +kernel
theorem dX6_week_120 : decode cX6_week 120 = .ok (.getfield 41, 3) := by decide +kernel
theorem dX6_week_123 : decode cX6_week 123 = .ok (.iload_n 2, 1) := by decide +kernel
theorem dX6_week_124 : decode cX6_week 124 = .ok (.iaload, 1) := by decide +kernel
theorem dX6_week_125 : decode cX6_week 125 = .ok (.iastore, 1) := by decide +kernel
theorem dX6_week_126 : decode cX6_week 126 = .ok (.iinc 2 1, 3) := by decide +kernel
theorem dX6_week_129 : decode cX6_week 129 = .ok (.goto (-21), 3) := by decide +kernel
theorem dX6_week_132 : decode cX6_week 132 = .ok (.aload_n 0, 1) := by decide +kernel
theorem dX6_week_133 : decode cX6_week 133 = .ok (.iconst 0, 1) := by decide +kernel
theorem dX6_week_134 : decode cX6_week 134 = .ok (.putfield 340, 3) := by decide +kernel
theorem dX6_week_137 : decode cX6_week 137 = .ok (.aload_n 0, 1) := by decide +kernel
theorem dX6_week_138 : decode cX6_week 138 = .ok (.iconst 0, 1) := by decide +kernel
theorem dX6_week_139 : decode cX6_week 139 = .ok (.putfield 321, 3) := by decide +kernel
theorem dX6_week_142 : decode cX6_week 142 = .ok (.aload_n 0, 1) := by decide +kernel
theorem dX6_week_143 : decode cX6_week 143 = .ok (.iconst 0, 1) := by decide +kernel
theorem dX6_week_144 : decode cX6_week 144 = .ok (.putfield 330, 3) := by decide +kernel
theorem dX6_week_147 : decode cX6_week 147 = .ok (.aload_n 0, 1) := by decide +kernel
theorem dX6_week_148 : decode cX6_week 148 = .ok (.iconst 0, 1) := by decide +kernel
theorem dX6_week_149 : decode cX6_week 149 = .ok (.putfield 327, 3) := by decide +kernel
theorem dX6_week_152 : decode cX6_week 152 = .ok (.aload_n 0, 1) := by decide +kernel
theorem dX6_week_153 : decode cX6_week 153 = .ok (.iconst 0, 1) := by decide +kernel
theorem dX6_week_154 : decode cX6_week 154 = .ok (.iconst 0, 1) := by decide +kernel
theorem dX6_week_155 : decode cX6_week 155 = .ok (.invokevirtual 343, 3) := by decide +kernel
theorem dX6_week_158 : decode cX6_week 158 = .ok (.aload_n 0, 1) := by decide +kernel
theorem dX6_week_159 : decode cX6_week 159 = .ok (.getfield 330, 3) := by decide +kernel
theorem dX6_week_162 : decode cX6_week 162 = .ok (.ifCond .eq 6, 3) := by decide +kernel
theorem dX6_week_165 : decode cX6_week 165 = .ok (.bipush (-2), 2) := by decide +kernel
theorem dX6_week_167 : decode cX6_week 167 = .ok (.ireturn, 1) := by decide +kernel
theorem dX6_week_168 : decode cX6_week 168 = .ok (.aload_n 0, 1) := by decide +kernel
theorem dX6_week_169 : decode cX6_week 169 = .ok (.getfield 327, 3) := by decide +kernel
theorem dX6_week_172 : decode cX6_week 172 = .ok (.ifCond .eq 39, 3) := by decide +kernel
theorem dX6_week_175 : decode cX6_week 175 = .ok (.aload_n 0, 1) := by decide +kernel
theorem dX6_week_176 : decode cX6_week 176 = .ok (.aload_n 0, 1) := by decide +kernel
theorem dX6_week_177 : decode cX6_week 177 = .ok (.getfield 324, 3) := by decide +kernel
theorem dX6_week_180 : decode cX6_week 180 = .ok (.putfield 85, 3) := by decide +kernel
theorem dX6_week_183 : decode cX6_week 183 = .ok (.iconst 0, 1) := by decide +kernel
theorem dX6_week_184 : decode cX6_week 184 = .ok (.istore_n 2, 1) := by decide +kernel
theorem dX6_week_185 : decode cX6_week 185 = .ok (.iload_n 2, 1) := by decide +kernel
theorem dX6_week_186 : decode cX6_week 186 = .ok (.aload_n 0, 1) := by decide +kernel
theorem dX6_week_187 : decode cX6_week 187 = .ok (.getfield 324, 3) := by decide +kernel
theorem dX6_week_190 : decode cX6_week 190 = .ok (.if_icmp .ge 21, 3) := by decide +kernel
theorem dX6_week_193 : decode cX6_week 193 = .ok (.aload_n 0, 1) := by decide +kernel
theorem dX6_week_194 : decode cX6_week 194 = .ok (.getfield 82, 3) := by decide +kernel
theorem dX6_week_197 : decode cX6_week 197 = .ok (.iload_n 2, 1) := by decide +kernel
theorem dX6_week_198 : decode cX6_week 198 = .ok (.aload_n 0, 1) := by decide +kernel
theorem dX6_week_199 : decode cX6_week 199 = .ok (.getfield 79, 3) := by decide +kernel
theorem dX6_week_202 : decode cX6_week 202 = .ok (.iload_n 2, 1) := by decide +kernel
theorem dX6_week_203 : decode cX6_week 203 = .ok (.iaload, 1) := by decide +kernel
theorem dX6_week_204 : decode cX6_week 204 = .ok (.iastore, 1) := by decide +kernel
theorem dX6_week_205 : decode cX6_week 205 = .ok (.iinc 2 1, 3) := by decide +kernel
theorem dX6_week_208 : decode cX6_week 208 = .ok (.goto (-23), 3) := by decide +kernel
theorem dX6_week_211 : decode cX6_week 211 = .ok (.iload_n 1, 1) := by decide +kernel
theorem dX6_week_212 : decode cX6_week 212 = .ok (.ifCond .ne 18, 3) := by decide +kernel
theorem dX6_week_215 : decode cX6_week 215 = .ok (.aload_n 0, 1) := by decide +kernel
theorem dX6_week_216 : decode cX6_week 216 = .ok (.getfield 327, 3) := by decide +kernel
theorem dX6_week_219 : decode cX6_week 219 = .ok (.ifCond .eq 7, 3) := by decide +kernel
theorem dX6_week_222 : decode cX6_week 222 = .ok (.iconst 1, 1) := by decide +kernel
theorem dX6_week_223 : decode cX6_week 223 = .ok (.goto 23, 3) := by decide +kernel
theorem dX6_week_226 : decode cX6_week 226 = .ok (.iconst 0, 1) := by decide +kernel
theorem dX6_week_227 : decode cX6_week 227 = .ok (.goto 19, 3) := by decide +kernel
theorem dX6_week_230 : decode cX6_week 230 = .ok (.iload_n 1, 1) := by decide +kernel
theorem dX6_week_231 : decode cX6_week 231 = .ok (.iconst 1, 1) := by decide +kernel
theorem dX6_week_232 : decode cX6_week 232 = .ok (.if_icmp .ne 10, 3) := by decide +kernel
theorem dX6_week_235 : decode cX6_week 235 = .ok (.aload_n 0, 1) := by decide +kernel
theorem dX6_week_236 : decode cX6_week 236 = .ok (.getfield 321, 3) := by decide +kernel
