theorem dX3_init_0 : decode cX3_init 0 = .ok (.aload_n 0, 1) := by decide +kernel
theorem dX3_init_1 : decode cX3_init 1 = .ok (.invokespecial 3, 3) := by decide +kernel
theorem dX3_init_4 : decode cX3_init 4 = .ok (.aload_n 0, 1) := by decide +kernel
theorem dX3_init_5 : decode cX3_init 5 = .ok (.iconst 0, 1) := by decide +kernel
theorem dX3_init_6 : decode cX3_init 6 = .ok (.putfield 9, 3) := by decide +kernel
theorem dX3_init_9 : decode cX3_init 9 = .ok (.aload_n 0, 1) := by decide +kernel
theorem dX3_init_10 : decode cX3_init 10 = .ok (.iconst 0, 1) := by decide +kernel
theorem dX3_init_11 : decode cX3_init 11 = .ok (.putfield 15, 3) := by decide +kernel
theorem dX3_init_14 : decode cX3_init 14 = .ok (.aload_n 0, 1) := by decide +kernel
theorem dX3_init_15 : decode cX3_init 15 = .ok (.iconst 0, 1) := by decide +kernel
theorem dX3_init_16 : decode cX3_init 16 = .ok (.putfield 18, 3) := by decide +kernel
theorem dX3_init_19 : decode cX3_init 19 = .ok (.aload_n 0, 1) := by decide +kernel
theorem dX3_init_20 : decode cX3_init 20 = .ok (.iconst 0, 1) := by decide +kernel
theorem dX3_init_21 : decode cX3_init 21 = .ok (.putfield 21, 3) := by decide +kernel
theorem dX3_init_24 : decode cX3_init 24 = .ok (.aload_n 0, 1) := by decide +kernel
theorem dX3_init_25 : decode cX3_init 25 = .ok (.iconst 0, 1) := by decide +kernel
theorem dX3_init_26 : decode cX3_init 26 = .ok (.putfield 24, 3) := by decide +kernel
theorem dX3_init_29 : decode cX3_init 29 = .ok (.aload_n 0, 1) := by decide +kernel
theorem dX3_init_30 : decode cX3_init 30 = .ok (.iconst 0, 1) := by decide +kernel
theorem dX3_init_31 : decode cX3_init 31 = .ok (.putfield 27, 3) := by decide +kernel
theorem dX3_init_34 : decode cX3_init 34 = .ok (.aload_n 0, 1) := by decide +kernel
theorem dX3_init_35 : decode cX3_init 35 = .ok (.bipush 6, 2) := by decide +kernel
theorem dX3_init_37 : decode cX3_init 37 = .ok (.newarray .int, 2) := by decide +kernel
theorem dX3_init_39 : decode cX3_init 39 = .ok (.putfield 30, 3) := by decide +kernel
theorem dX3_init_42 : decode cX3_init 42 = .ok (.aload_n 0, 1) := by decide +kernel
theorem dX3_init_43 : decode cX3_init 43 = .ok (.bipush 6, 2) := by decide +kernel
theorem dX3_init_45 : decode cX3_init 45 = .ok (.newarray .int, 2) := by decide +kernel
theorem dX3_init_47 : decode cX3_init 47 = .ok (.putfield 34, 3) := by decide +kernel
theorem dX3_init_50 : decode cX3_init 50 = .ok (.aload_n 0, 1) := by decide +kernel
theorem dX3_init_51 : decode cX3_init 51 = .ok (.bipush 6, 2) := by decide +kernel
theorem dX3_init_53 : decode cX3_init 53 = .ok (.newarray .int, 2) := by decide +kernel
theorem dX3_init_55 : decode cX3_init 55 = .ok (.putfield 37, 3) := by decide +kernel
theorem dX3_init_58 : decode cX3_init 58 = .ok (.aload_n 0, 1) := by decide +kernel
theorem dX3_init_59 : decode cX3_init 59 = .ok (.bipush 6, 2) := by decide +kernel
theorem dX3_init_61 : decode cX3_init 61 = .ok (.newarray .int, 2) := by decide +kernel
theorem dX3_init_63 : decode cX3_init 63 = .ok (.putfield 40, 3) := by decide +kernel
theorem dX3_init_66 : decode cX3_init 66 = .ok (.aload_n 0, 1) := by decide +kernel
theorem dX3_init_67 : decode cX3_init 67 = .ok (.bipush 6, 2) := by decide +kernel
theorem dX3_init_69 : decode cX3_init 69 = .ok (.newarray .int, 2) := by decide +kernel
theorem dX3_init_71 : decode cX3_init 71 = .ok (.putfield 43, 3) := by decide +kernel
theorem dX3_init_74 : decode cX3_init 74 = .ok (.aload_n 0, 1) := by decide +kernel
theorem dX3_init_75 : decode cX3_init 75 = .ok (.bipush 6, 2) := by decide +kernel
theorem dX3_init_77 : decode cX3_init 77 = .ok (.newarray .int, 2) := by decide +kernel
theorem dX3_init_79 : decode cX3_init 79 = .ok (.putfield 46, 3) := by decide +kernel
theorem dX3_init_82 : decode cX3_init 82 = .ok (.aload_n 0, 1) := by decide +kernel
theorem dX3_init_83 : decode cX3_init 83 = .ok (.bipush 12, 2) := by decide +kernel
theorem dX3_init_85 : decode cX3_init 85 = .ok (.newarray .int, 2) := by decide +kernel
theorem dX3_init_87 : decode cX3_init 87 = .ok (.putfield 49, 3) := by decide +kernel
theorem dX3_init_90 : decode cX3_init 90 = .ok (.aload_n 0, 1) := by decide +kernel
theorem dX3_init_91 : decode cX3_init 91 = .ok (.bipush 12, 2) := by decide +kernel
theorem dX3_init_93 : decode cX3_init 93 = .ok (.newarray .int, 2) := by decide +kernel
theorem dX3_init_95 : decode cX3_init 95 = .ok (.putfield 52, 3) := by decide +kernel
theorem dX3_init_98 : decode cX3_init 98 = .ok (.aload_n 0, 1) := by decide +kernel
theorem dX3_init_99 : decode cX3_init 99 = .ok (.bipush 64, 2) := by decide +kernel
theorem dX3_init_101 : decode cX3_init 101 = .ok (.newarray .int, 2) := by decide +kernel
theorem dX3_init_103 : decode cX3_init 103 = .ok (.putfield 55, 3) := by decide +kernel
theorem dX3_init_106 : decode cX3_init 106 = .ok (.aload_n 0, 1) := by decide +kernel
theorem dX3_init_107 : decode cX3_init 107 = .ok (.bipush 64, 2) := by decide +kernel
theorem dX3_init_109 : decode cX3_init 109 = .ok (.newarray .int, 2) := by decide +kernel
theorem dX3_init_111 : decode cX3_init 111 = .ok (.putfield 58, 3) := by decide +kernel
theorem dX3_init_114 : decode cX3_init 114 = .ok (.return_, 1) := by decide +kernel
theorem dX3_clear_0 : decode cX3_clear 0 = .ok (.aload_n 0, 1) := by decide +kernel
theorem dX3_clear_1 : decode cX3_clear 1 = .ok (.iconst 0, 1) := by decide +kernel
theorem dX3_clear_2 : decode cX3_clear 2 = .ok (.putfield 9, 3) := by decide +kernel
theorem dX3_clear_5 : decode cX3_clear 5 = .ok (.aload_n 0, 1) := by decide +kernel
theorem dX3_clear_6 : decode cX3_clear 6 = .ok (.iconst 0, 1) := by decide +kernel
theorem dX3_clear_7 : decode cX3_clear 7 = .ok (.putfield 15, 3) := by decide +kernel
theorem dX3_clear_10 : decode cX3_clear 10 = .ok (.aload_n 0, 1) := by decide +kernel
theorem dX3_clear_11 : decode cX3_clear 11 = .ok (.iconst 0, 1) := by decide +kernel
theorem dX3_clear_12 : decode cX3_clear 12 = .ok (.putfield 18, 3) := by decide +kernel
theorem dX3_clear_15 : decode cX3_clear 15 = .ok (.aload_n 0, 1) := by decide +kernel
theorem dX3_clear_16 : decode cX3_clear 16 = .ok (.iconst 0, 1) := by decide +kernel
theorem dX3_clear_17 : decode cX3_clear 17 = .ok (.putfield 21, 3) := by decide +kernel
theorem dX3_clear_20 : decode cX3_clear 20 = .ok (.aload_n 0, 1) := by decide +kernel
theorem dX3_clear_21 : decode cX3_clear 21 = .ok (.iconst 0, 1) := by decide +kernel
theorem dX3_clear_22 : decode cX3_clear 22 = .ok (.putfield 24, 3) := by decide +kernel
theorem dX3_clear_25 : decode cX3_clear 25 = .ok (.aload_n 0, 1) := by decide +kernel
theorem dX3_clear_26 : decode cX3_clear 26 = .ok (.iconst 0, 1) := by decide +kernel
theorem dX3_clear_27 : decode cX3_clear 27 = .ok (.putfield 27, 3) := by decide +kernel
theorem dX3_clear_30 : decode cX3_clear 30 = .ok (.aload_n 0, 1) := by decide +kernel
theorem dX3_clear_31 : decode cX3_clear 31 = .ok (.getfield 49, 3) := by decide +kernel
theorem dX3_clear_34 : decode cX3_clear 34 = .ok (.iconst 0, 1) := by decide +kernel
theorem dX3_clear_35 : decode cX3_clear 35 = .ok (.invokestatic 61, 3) := by decide +kernel
theorem dX3_clear_38 : decode cX3_clear 38 = .ok (.aload_n 0, 1) := by decide +kernel
theorem dX3_clear_39 : decode cX3_clear 39 = .ok (.invokevirtual 67, 3) := by decide +kernel
theorem dX3_clear_42 : decode cX3_clear 42 = .ok (.return_, 1) := by decide +kernel
theorem dX3_copyFrom_0 : decode cX3_copyFrom 0 = .ok (.aload_n 0, 1) := by decide +kernel
theorem dX3_copyFrom_1 : decode cX3_copyFrom 1 = .ok (.aload_n 1, 1) := by decide +kernel
theorem dX3_copyFrom_2 : decode cX3_copyFrom 2 = .ok (.getfield 9, 3) := by decide +kernel
theorem dX3_copyFrom_5 : decode cX3_copyFrom 5 = .ok (.putfield 9, 3) := by decide +kernel
theorem dX3_copyFrom_8 : decode cX3_copyFrom 8 = .ok (.aload_n 0, 1) := by decide +kernel
theorem dX3_copyFrom_9 : decode cX3_copyFrom 9 = .ok (.aload_n 1, 1) := by decide +kernel
theorem dX3_copyFrom_10 : decode cX3_copyFrom 10 = .ok (.getfield 15, 3) := by decide +kernel
theorem dX3_copyFrom_13 : decode cX3_copyFrom 13 = .ok (.putfield 15, 3) := by decide +kernel
theorem dX3_copyFrom_16 : decode cX3_copyFrom 16 = .ok (.aload_n 0, 1) := by decide +kernel
theorem dX3_copyFrom_17 : decode cX3_copyFrom 17 = .ok (.aload_n 1, 1) := by decide +kernel
theorem dX3_copyFrom_18 : decode cX3_copyFrom 18 = .ok (.getfield 18, 3) := by decide +kernel
theorem dX3_copyFrom_21 : decode cX3_copyFrom 21 = .ok (.putfield 18, 3) := by decide +kernel
theorem dX3_copyFrom_24 : decode cX3_copyFrom 24 = .ok (.aload_n 0, 1) := by decide +kernel
theorem dX3_copyFrom_25 : decode cX3_copyFrom 25 = .ok (.aload_n 1, 1) := by decide +kernel
theorem dX3_copyFrom_26 : decode cX3_copyFrom 26 = .ok (.getfield 21, 3) := by decide +kernel
theorem dX3_copyFrom_29 : decode cX3_copyFrom 29 = .ok (.putfield 21, 3) := by decide +kernel
theorem dX3_copyFrom_32 : decode cX3_copyFrom 32 = .ok (.aload_n 0, 1) := by decide +kernel
theorem dX3_copyFrom_33 : decode cX3_copyFrom 33 = .ok (.aload_n 1, 1) := by decide +kernel
theorem dX3_copyFrom_34 : decode cX3_copyFrom 34 = .ok (.getfield 24, 3) := by decide +kernel
theorem dX3_copyFrom_37 : decode cX3_copyFrom 37 = .ok (.putfield 24, 3) := by decide +kernel
theorem dX3_copyFrom_40 : decode cX3_copyFrom 40 = .ok (.aload_n 0, 1) := by decide +kernel
theorem dX3_copyFrom_41 : decode cX3_copyFrom 41 = .ok (.aload_n 1, 1) := by decide +kernel
theorem dX3_copyFrom_42 : decode cX3_copyFrom 42 = .ok (.getfield 27, 3) := by decide +kernel
theorem dX3_copyFrom_45 : decode cX3_copyFrom 45 = .ok (.putfield 27, 3) := by decide +kernel
theorem dX3_copyFrom_48 : decode cX3_copyFrom 48 = .ok (.iconst 0, 1) := by decide +kernel
theorem dX3_copyFrom_49 : decode cX3_copyFrom 49 = .ok (.istore_n 2, 1) := by decide +kernel
theorem dX3_copyFrom_50 : decode cX3_copyFrom 50 = .ok (.iload_n 2, 1) := by decide +kernel
theorem dX3_copyFrom_51 : decode cX3_copyFrom 51 = .ok (.bipush 6, 2) := by decide +kernel
theorem dX3_copyFrom_53 : decode cX3_copyFrom 53 = .ok (.if_icmp .ge 81, 3) := by decide +kernel
theorem dX3_copyFrom_56 : decode cX3_copyFrom 56 = .ok (.aload_n 0, 1) := by decide +kernel
theorem dX3_copyFrom_57 : decode cX3_copyFrom 57 = .ok (.getfield 30, 3) := by decide +kernel
theorem dX3_copyFrom_60 : decode cX3_copyFrom 60 = .ok (.iload_n 2, 1) := by decide +kernel
theorem dX3_copyFrom_61 : decode cX3_copyFrom 61 = .ok (.aload_n 1, 1) := by decide +kernel
theorem dX3_copyFrom_62 : decode cX3_copyFrom 62 = .ok (.getfield 30, 3) := by decide +kernel
theorem dX3_copyFrom_65 : decode cX3_copyFrom 65 = .ok (.iload_n 2, 1) := by decide +kernel
theorem dX3_copyFrom_66 : decode cX3_copyFrom 66 = .ok (.iaload, 1) := by decide +kernel
theorem dX3_copyFrom_67 : decode cX3_copyFrom 67 = .ok (.iastore, 1) := by decide +kernel
theorem dX3_copyFrom_68 : decode cX3_copyFrom 68 = .ok (.aload_n 0, 1) := by decide +kernel
theorem dX3_copyFrom_69 : decode cX3_copyFrom 69 = .ok (.getfield 34, 3) := by decide +kernel
theorem dX3_copyFrom_72 : decode cX3_copyFrom 72 = .ok (.iload_n 2, 1) := by decide +kernel
theorem dX3_copyFrom_73 : decode cX3_copyFrom 73 = .ok (.aload_n 1, 1) := by decide +kernel
theorem dX3_copyFrom_74 : decode cX3_copyFrom 74 = .ok (.getfield 34, 3) := by decide +kernel
theorem dX3_copyFrom_77 : decode cX3_copyFrom 77 = .ok (.iload_n 2, 1) := by decide +kernel
theorem dX3_copyFrom_78 : decode cX3_copyFrom 78 = .ok (.iaload, 1) := by decide +kernel
theorem dX3_copyFrom_79 : decode cX3_copyFrom 79 = .ok (.iastore, 1) := by decide +kernel
theorem dX3_copyFrom_80 : decode cX3_copyFrom 80 = .ok (.aload_n 0, 1) := by decide +kernel
theorem dX3_copyFrom_81 : decode cX3_copyFrom 81 = .ok (.getfield 37, 3) := by decide +kernel
theorem dX3_copyFrom_84 : decode cX3_copyFrom 84 = .ok (.iload_n 2, 1) := by decide +kernel
theorem dX3_copyFrom_85 : decode cX3_copyFrom 85 = .ok (.aload_n 1, 1) := by decide +kernel
theorem dX3_copyFrom_86 : decode cX3_copyFrom 86 = .ok (.getfield 37, 3) := by decide +kernel
theorem dX3_copyFrom_89 : decode cX3_copyFrom 89 = .ok (.iload_n 2, 1) := by decide +kernel
theorem dX3_copyFrom_90 : decode cX3_copyFrom 90 = .ok (.iaload, 1) := by decide +kernel
theorem dX3_copyFrom_91 : decode cX3_copyFrom 91 = .ok (.iastore, 1) := by decide +kernel
theorem dX3_copyFrom_92 : decode cX3_copyFrom 92 = .ok (.aload_n 0, 1) := by decide +kernel
theorem dX3_copyFrom_93 : decode cX3_copyFrom 93 = .ok (.getfield 40, 3) := by decide +kernel
theorem dX3_copyFrom_96 : decode cX3_copyFrom 96 = .ok (.iload_n 2, 1) := by decide +kernel
theorem dX3_copyFrom_97 : decode cX3_copyFrom 97 = .ok (.aload_n 1, 1) := by decide +kernel
theorem dX3_copyFrom_98 : decode cX3_copyFrom 98 = .ok (.getfield 40, 3) := by decide +kernel
theorem dX3_copyFrom_101 : decode cX3_copyFrom 101 = .ok (.iload_n 2, 1) := by decide +kernel
theorem dX3_copyFrom_102 : decode cX3_copyFrom 102 = .ok (.iaload, 1) := by decide +kernel
theorem dX3_copyFrom_103 : decode cX3_copyFrom 103 = .ok (.iastore, 1) := by decide +kernel
theorem dX3_copyFrom_104 : decode cX3_copyFrom 104 = .ok (.aload_n 0, 1) := by decide +kernel
theorem dX3_copyFrom_105 : decode cX3_copyFrom 105 = .ok (.getfield 43, 3) := by decide +kernel
theorem dX3_copyFrom_108 : decode cX3_copyFrom 108 = .ok (.iload_n 2, 1) := by decide +kernel
theorem dX3_copyFrom_109 : decode cX3_copyFrom 109 = .ok (.aload_n 1, 1) := by decide +kernel
theorem dX3_copyFrom_110 : decode cX3_copyFrom 110 = .ok (.getfield 43, 3) := by decide +kernel
theorem dX3_copyFrom_113 : decode cX3_copyFrom 113 = .ok (.iload_n 2, 1) := by decide +kernel
theorem dX3_copyFrom_114 : decode cX3_copyFrom 114 = .ok (.iaload, 1) := by decide +kernel
theorem dX3_copyFrom_115 : decode cX3_copyFrom 115 = .ok (.iastore, 1) := by decide +kernel
theorem dX3_copyFrom_116 : decode cX3_copyFrom 116 = .ok (.aload_n 0, 1) := by decide +kernel
theorem dX3_copyFrom_117 : decode cX3_copyFrom 117 = .ok (.getfield 46, 3) := by decide +kernel
theorem dX3_copyFrom_120 : decode cX3_copyFrom 120 = .ok (.iload_n 2, 1) := by decide +kernel
theorem dX3_copyFrom_121 : decode cX3_copyFrom 121 = .ok (.aload_n 1, 1) := by decide +kernel
theorem dX3_copyFrom_122 : decode cX3_copyFrom 122 = .ok (.getfield 46, 3) := by decide +kernel
theorem dX3_copyFrom_125 : decode cX3_copyFrom 125 = .ok (.iload_n 2, 1) := by decide +kernel
theorem dX3_copyFrom_126 : decode cX3_copyFrom 126 = .ok (.iaload, 1) := by decide +kernel
theorem dX3_copyFrom_127 : decode cX3_copyFrom 127 = .ok (.iastore, 1) := by decide +kernel
theorem dX3_copyFrom_128 : decode cX3_copyFrom 128 = .ok (.iinc 2 1, 3) := by decide +kernel
theorem dX3_copyFrom_131 : decode cX3_copyFrom 131 = .ok (.goto (-81), 3) := by decide +kernel
theorem dX3_copyFrom_134 : decode cX3_copyFrom 134 = .ok (.iconst 0, 1) := by decide +kernel
theorem dX3_copyFrom_135 : decode cX3_copyFrom 135 = .ok (.istore_n 2, 1) := by decide +kernel
theorem dX3_copyFrom_136 : decode cX3_copyFrom 136 = .ok (.iload_n 2, 1) := by decide +kernel
theorem dX3_copyFrom_137 : decode cX3_copyFrom 137 = .ok (.bipush 12, 2) := by decide +kernel
theorem dX3_copyFrom_139 : decode cX3_copyFrom 139 = .ok (.if_icmp .ge 33, 3) := by decide +kernel
theorem dX3_copyFrom_142 : decode cX3_copyFrom 142 = .ok (.aload_n 0, 1) := by decide +kernel
theorem dX3_copyFrom_143 : decode cX3_copyFrom 143 = .ok (.getfield 49, 3) := by decide +kernel
theorem dX3_copyFrom_146 : decode cX3_copyFrom 146 = .ok (.iload_n 2, 1) := by decide +kernel
theorem dX3_copyFrom_147 : decode cX3_copyFrom 147 = .ok (.aload_n 1, 1) := by decide +kernel
theorem dX3_copyFrom_148 : decode cX3_copyFrom 148 = .ok (.getfield 49, 3) := by decide +kernel
theorem dX3_copyFrom_151 : decode cX3_copyFrom 151 = .ok (.iload_n 2, 1) := by decide +kernel
theorem dX3_copyFrom_152 : decode cX3_copyFrom 152 = .ok (.iaload, 1) := by decide +kernel
theorem dX3_copyFrom_153 : decode cX3_copyFrom 153 = .ok (.iastore, 1) := by decide +kernel
theorem dX3_copyFrom_154 : decode cX3_copyFrom 154 = .ok (.aload_n 0, 1) := by decide +kernel
theorem dX3_copyFrom_155 : decode cX3_copyFrom 155 = .ok (.getfield 52, 3) := by decide +kernel
theorem dX3_copyFrom_158 : decode cX3_copyFrom 158 = .ok (.iload_n 2, 1) := by decide +kernel
theorem dX3_copyFrom_159 : decode cX3_copyFrom 159 = .ok (.aload_n 1, 1) := by decide +kernel
theorem dX3_copyFrom_160 : decode cX3_copyFrom 160 = .ok (.getfield 52, 3) := by decide +kernel
theorem dX3_copyFrom_163 : decode cX3_copyFrom 163 = .ok (.iload_n 2, 1) := by decide +kernel
theorem dX3_copyFrom_164 : decode cX3_copyFrom 164 = .ok (.iaload, 1) := by decide +kernel
theorem dX3_copyFrom_165 : decode cX3_copyFrom 165 = .ok (.iastore, 1) := by decide +kernel
theorem dX3_copyFrom_166 : decode cX3_copyFrom 166 = .ok (.iinc 2 1, 3) := by decide +kernel
theorem dX3_copyFrom_169 : decode cX3_copyFrom 169 = .ok (.goto (-33), 3) := by decide +kernel
theorem dX3_copyFrom_172 : decode cX3_copyFrom 172 = .ok (.aload_n 1, 1) := by decide +kernel
theorem dX3_copyFrom_173 : decode cX3_copyFrom 173 = .ok (.getfield 55, 3) := by decide +kernel
theorem dX3_copyFrom_176 : decode cX3_copyFrom 176 = .ok (.iconst 0, 1) := by decide +kernel
theorem dX3_copyFrom_177 : decode cX3_copyFrom 177 = .ok (.aload_n 0, 1) := by decide +kernel
theorem dX3_copyFrom_178 : decode cX3_copyFrom 178 = .ok (.getfield 55, 3) := by decide +kernel
theorem dX3_copyFrom_181 : decode cX3_copyFrom 181 = .ok (.iconst 0, 1) := by decide +kernel
theorem dX3_copyFrom_182 : decode cX3_copyFrom 182 = .ok (.bipush 64, 2) := by decide +kernel
theorem dX3_copyFrom_184 : decode cX3_copyFrom 184 = .ok (.invokestatic 70, 3) := by decide +kernel
theorem dX3_copyFrom_187 : decode cX3_copyFrom 187 = .ok (.aload_n 1, 1) := by decide +kernel
theorem dX3_copyFrom_188 : decode cX3_copyFrom 188 = .ok (.getfield 58, 3) := by decide +kernel
theorem dX3_copyFrom_191 : decode cX3_copyFrom 191 = .ok (.iconst 0, 1) := by decide +kernel
theorem dX3_copyFrom_192 : decode cX3_copyFrom 192 = .ok (.aload_n 0, 1) := by decide +kernel
theorem dX3_copyFrom_193 : decode cX3_copyFrom 193 = .ok (.getfield 58, 3) := by decide +kernel
theorem dX3_copyFrom_196 : decode cX3_copyFrom 196 = .ok (.iconst 0, 1) := by decide +kernel
theorem dX3_copyFrom_197 : decode cX3_copyFrom 197 = .ok (.bipush 64, 2) := by decide +kernel
theorem dX3_copyFrom_199 : decode cX3_copyFrom 199 = .ok (.invokestatic 70, 3) := by decide +kernel
theorem dX3_copyFrom_202 : decode cX3_copyFrom 202 = .ok (.return_, 1) := by decide +kernel
theorem dX3_addPerson_0 : decode cX3_addPerson 0 = .ok (.aload_n 0, 1) := by decide +kernel
theorem dX3_addPerson_1 : decode cX3_addPerson 1 = .ok (.getfield 9, 3) := by decide +kernel
theorem dX3_addPerson_4 : decode cX3_addPerson 4 = .ok (.bipush 6, 2) := by decide +kernel
theorem dX3_addPerson_6 : decode cX3_addPerson 6 = .ok (.if_icmp .ge 73, 3) := by decide +kernel
theorem dX3_addPerson_9 : decode cX3_addPerson 9 = .ok (.aload_n 0, 1) := by decide +kernel
theorem dX3_addPerson_10 : decode cX3_addPerson 10 = .ok (.getfield 30, 3) := by decide +kernel
theorem dX3_addPerson_13 : decode cX3_addPerson 13 = .ok (.aload_n 0, 1) := by decide +kernel
theorem dX3_addPerson_14 : decode cX3_addPerson 14 = .ok (.getfield 9, 3) := by decide +kernel
theorem dX3_addPerson_17 : decode cX3_addPerson 17 = .ok (.iload_n 1, 1) := by decide +kernel
theorem dX3_addPerson_18 : decode cX3_addPerson 18 = .ok (.iastore, 1) := by decide +kernel
theorem dX3_addPerson_19 : decode cX3_addPerson 19 = .ok (.aload_n 0, 1) := by decide +kernel
theorem dX3_addPerson_20 : decode cX3_addPerson 20 = .ok (.getfield 34, 3) := by decide +kernel
theorem dX3_addPerson_23 : decode cX3_addPerson 23 = .ok (.aload_n 0, 1) := by decide +kernel
theorem dX3_addPerson_24 : decode cX3_addPerson 24 = .ok (.getfield 9, 3) := by decide +kernel
theorem dX3_addPerson_27 : decode cX3_addPerson 27 = .ok (.iload_n 2, 1) := by decide +kernel
theorem dX3_addPerson_28 : decode cX3_addPerson 28 = .ok (.iastore, 1) := by decide +kernel
theorem dX3_addPerson_29 : decode cX3_addPerson 29 = .ok (.aload_n 0, 1) := by decide +kernel
theorem dX3_addPerson_30 : decode cX3_addPerson 30 = .ok (.getfield 37, 3) := by decide +kernel
theorem dX3_addPerson_33 : decode cX3_addPerson 33 = .ok (.aload_n 0, 1) := by decide +kernel
theorem dX3_addPerson_34 : decode cX3_addPerson 34 = .ok (.getfield 9, 3) := by decide +kernel
theorem dX3_addPerson_37 : decode cX3_addPerson 37 = .ok (.iload_n 3, 1) := by decide +kernel
theorem dX3_addPerson_38 : decode cX3_addPerson 38 = .ok (.iastore, 1) := by decide +kernel
theorem dX3_addPerson_39 : decode cX3_addPerson 39 = .ok (.aload_n 0, 1) := by decide +kernel
theorem dX3_addPerson_40 : decode cX3_addPerson 40 = .ok (.getfield 40, 3) := by decide +kernel
theorem dX3_addPerson_43 : decode cX3_addPerson 43 = .ok (.aload_n 0, 1) := by decide +kernel
theorem dX3_addPerson_44 : decode cX3_addPerson 44 = .ok (.getfield 9, 3) := by decide +kernel
theorem dX3_addPerson_47 : decode cX3_addPerson 47 = .ok (.iconst 0, 1) := by decide +kernel
theorem dX3_addPerson_48 : decode cX3_addPerson 48 = .ok (.iastore, 1) := by decide +kernel
theorem dX3_addPerson_49 : decode cX3_addPerson 49 = .ok (.aload_n 0, 1) := by decide +kernel
theorem dX3_addPerson_50 : decode cX3_addPerson 50 = .ok (.getfield 43, 3) := by decide +kernel
theorem dX3_addPerson_53 : decode cX3_addPerson 53 = .ok (.aload_n 0, 1) := by decide +kernel
theorem dX3_addPerson_54 : decode cX3_addPerson 54 = .ok (.getfield 9, 3) := by decide +kernel
theorem dX3_addPerson_57 : decode cX3_addPerson 57 = .ok (.iconst (-1), 1) := by decide +kernel
theorem dX3_addPerson_58 : decode cX3_addPerson 58 = .ok (.iastore, 1) := by decide +kernel
theorem dX3_addPerson_59 : decode cX3_addPerson 59 = .ok (.aload_n 0, 1) := by decide +kernel
theorem dX3_addPerson_60 : decode cX3_addPerson 60 = .ok (.getfield 46, 3) := by decide +kernel
theorem dX3_addPerson_63 : decode cX3_addPerson 63 = .ok (.aload_n 0, 1) := by decide +kernel
theorem dX3_addPerson_64 : decode cX3_addPerson 64 = .ok (.getfield 9, 3) := by decide +kernel
theorem dX3_addPerson_67 : decode cX3_addPerson 67 = .ok (.iconst 0, 1) := by decide +kernel
theorem dX3_addPerson_68 : decode cX3_addPerson 68 = .ok (.iastore, 1) := by decide +kernel
theorem dX3_addPerson_69 : decode cX3_addPerson 69 = .ok (.aload_n 0, 1) := by decide +kernel
theorem dX3_addPerson_70 : decode cX3_addPerson 70 = .ok (.dup, 1) := by decide +kernel
theorem dX3_addPerson_71 : decode cX3_addPerson 71 = .ok (.getfield 9, 3) := by decide +kernel
theorem dX3_addPerson_74 : decode cX3_addPerson 74 = .ok (.iconst 1, 1) := by decide +kernel
theorem dX3_addPerson_75 : decode cX3_addPerson 75 = .ok (.iadd, 1) := by decide +kernel
theorem dX3_addPerson_76 : decode cX3_addPerson 76 = .ok (.putfield 9, 3) := by decide +kernel
theorem dX3_addPerson_79 : decode cX3_addPerson 79 = .ok (.return_, 1) := by decide +kernel
theorem dX3_addThing_0 : decode cX3_addThing 0 = .ok (.aload_n 0, 1) := by decide +kernel
theorem dX3_addThing_1 : decode cX3_addThing 1 = .ok (.getfield 15, 3) := by decide +kernel
theorem dX3_addThing_4 : decode cX3_addThing 4 = .ok (.bipush 12, 2) := by decide +kernel
theorem dX3_addThing_6 : decode cX3_addThing 6 = .ok (.if_icmp .ge 72, 3) := by decide +kernel
theorem dX3_addThing_9 : decode cX3_addThing 9 = .ok (.aload_n 0, 1) := by decide +kernel
theorem dX3_addThing_10 : decode cX3_addThing 10 = .ok (.getfield 49, 3) := by decide +kernel
theorem dX3_addThing_13 : decode cX3_addThing 13 = .ok (.aload_n 0, 1) := by decide +kernel
theorem dX3_addThing_14 : decode cX3_addThing 14 = .ok (.getfield 15, 3) := by decide +kernel
theorem dX3_addThing_17 : decode cX3_addThing 17 = .ok (.iload_n 1, 1) := by decide +kernel
theorem dX3_addThing_18 : decode cX3_addThing 18 = .ok (.iastore, 1) := by decide +kernel
theorem dX3_addThing_19 : decode cX3_addThing 19 = .ok (.aload_n 0, 1) := by decide +kernel
theorem dX3_addThing_20 : decode cX3_addThing 20 = .ok (.getfield 52, 3) := by decide +kernel
theorem dX3_addThing_23 : decode cX3_addThing 23 = .ok (.aload_n 0, 1) := by decide +kernel
theorem dX3_addThing_24 : decode cX3_addThing 24 = .ok (.getfield 15, 3) := by decide +kernel
theorem dX3_addThing_27 : decode cX3_addThing 27 = .ok (.iload_n 2, 1) := by decide +kernel
theorem dX3_addThing_28 : decode cX3_addThing 28 = .ok (.iastore, 1) := by decide +kernel
theorem dX3_addThing_29 : decode cX3_addThing 29 = .ok (.aload_n 0, 1) := by decide +kernel
theorem dX3_addThing_30 : decode cX3_addThing 30 = .ok (.getfield 46, 3) := by decide +kernel
theorem dX3_addThing_33 : decode cX3_addThing 33 = .ok (.iload_n 3, 1) := by decide +kernel
theorem dX3_addThing_34 : decode cX3_addThing 34 = .ok (.dup2, 1) := by decide +kernel
theorem dX3_addThing_35 : decode cX3_addThing 35 = .ok (.iaload, 1) := by decide +kernel
theorem dX3_addThing_36 : decode cX3_addThing 36 = .ok (.iconst 1, 1) := by decide +kernel
theorem dX3_addThing_37 : decode cX3_addThing 37 = .ok (.aload_n 0, 1) := by decide +kernel
theorem dX3_addThing_38 : decode cX3_addThing 38 = .ok (.getfield 15, 3) := by decide +kernel
theorem dX3_addThing_41 : decode cX3_addThing 41 = .ok (.ishl, 1) := by decide +kernel
theorem dX3_addThing_42 : decode cX3_addThing 42 = .ok (.ior, 1) := by decide +kernel
theorem dX3_addThing_43 : decode cX3_addThing 43 = .ok (.iastore, 1) := by decide +kernel
theorem dX3_addThing_44 : decode cX3_addThing 44 = .ok (.aload_n 0, 1) := by decide +kernel
theorem dX3_addThing_45 : decode cX3_addThing 45 = .ok (.dup, 1) := by decide +kernel
theorem dX3_addThing_46 : decode cX3_addThing 46 = .ok (.getfield 27, 3) := by decide +kernel
theorem dX3_addThing_49 : decode cX3_addThing 49 = .ok (.iload 4, 2) := by decide +kernel
theorem dX3_addThing_51 : decode cX3_addThing 51 = .ok (.ifCond .eq 12, 3) := by decide +kernel
theorem dX3_addThing_54 : decode cX3_addThing 54 = .ok (.iconst 1, 1) := by decide +kernel
theorem dX3_addThing_55 : decode cX3_addThing 55 = .ok (.aload_n 0, 1) := by decide +kernel
theorem dX3_addThing_56 : decode cX3_addThing 56 = .ok (.getfield 15, 3) := by decide +kernel
theorem dX3_addThing_59 : decode cX3_addThing 59 = .ok (.ishl, 1) := by decide +kernel
theorem dX3_addThing_60 : decode cX3_addThing 60 = .ok (.goto 4, 3) := by decide +kernel
theorem dX3_addThing_63 : decode cX3_addThing 63 = .ok (.iconst 0, 1) := by decide +kernel
theorem dX3_addThing_64 : decode cX3_addThing 64 = .ok (.ior, 1) := by decide +kernel
theorem dX3_addThing_65 : decode cX3_addThing 65 = .ok (.putfield 27, 3) := by decide +kernel
theorem dX3_addThing_68 : decode cX3_addThing 68 = .ok (.aload_n 0, 1) := by decide +kernel
theorem dX3_addThing_69 : decode cX3_addThing 69 = .ok (.dup, 1) := by decide +kernel
theorem dX3_addThing_70 : decode cX3_addThing 70 = .ok (.getfield 15, 3) := by decide +kernel
theorem dX3_addThing_73 : decode cX3_addThing 73 = .ok (.iconst 1, 1) := by decide +kernel
theorem dX3_addThing_74 : decode cX3_addThing 74 = .ok (.iadd, 1) := by decide +kernel
theorem dX3_addThing_75 : decode cX3_addThing 75 = .ok (.putfield 15, 3) := by decide +kernel
theorem dX3_addThing_78 : decode cX3_addThing 78 = .ok (.return_, 1) := by decide +kernel
theorem dX3_weighSets_0 : decode cX3_weighSets 0 = .ok (.iconst 0, 1) := by decide +kernel
theorem dX3_weighSets_1 : decode cX3_weighSets 1 = .ok (.istore_n 1, 1) := by decide +kernel
theorem dX3_weighSets_2 : decode cX3_weighSets 2 = .ok (.iload_n 1, 1) := by decide +kernel
theorem dX3_weighSets_3 : decode cX3_weighSets 3 = .ok (.bipush 6, 2) := by decide +kernel
theorem dX3_weighSets_5 : decode cX3_weighSets 5 = .ok (.if_icmp .ge 71, 3) := by decide +kernel
theorem dX3_weighSets_8 : decode cX3_weighSets 8 = .ok (.iconst 1, 1) := by decide +kernel
theorem dX3_weighSets_9 : decode cX3_weighSets 9 = .ok (.iload_n 1, 1) := by decide +kernel
theorem dX3_weighSets_10 : decode cX3_weighSets 10 = .ok (.ishl, 1) := by decide +kernel
theorem dX3_weighSets_11 : decode cX3_weighSets 11 = .ok (.istore_n 2, 1) := by decide +kernel
theorem dX3_weighSets_12 : decode cX3_weighSets 12 = .ok (.iconst 0, 1) := by decide +kernel
theorem dX3_weighSets_13 : decode cX3_weighSets 13 = .ok (.istore_n 3, 1) := by decide +kernel
theorem dX3_weighSets_14 : decode cX3_weighSets 14 = .ok (.iload_n 3, 1) := by decide +kernel
theorem dX3_weighSets_15 : decode cX3_weighSets 15 = .ok (.iload_n 2, 1) := by decide +kernel
theorem dX3_weighSets_16 : decode cX3_weighSets 16 = .ok (.if_icmp .ge 54, 3) := by decide +kernel
theorem dX3_weighSets_19 : decode cX3_weighSets 19 = .ok (.aload_n 0, 1) := by decide +kernel
theorem dX3_weighSets_20 : decode cX3_weighSets 20 = .ok (.getfield 55, 3) := by decide +kernel
theorem dX3_weighSets_23 : decode cX3_weighSets 23 = .ok (.iload_n 2, 1) := by decide +kernel
theorem dX3_weighSets_24 : decode cX3_weighSets 24 = .ok (.iload_n 3, 1) := by decide +kernel
theorem dX3_weighSets_25 : decode cX3_weighSets 25 = .ok (.ior, 1) := by decide +kernel
theorem dX3_weighSets_26 : decode cX3_weighSets 26 = .ok (.aload_n 0, 1) := by decide +kernel
theorem dX3_weighSets_27 : decode cX3_weighSets 27 = .ok (.getfield 55, 3) := by decide +kernel
theorem dX3_weighSets_30 : decode cX3_weighSets 30 = .ok (.iload_n 3, 1) := by decide +kernel
theorem dX3_weighSets_31 : decode cX3_weighSets 31 = .ok (.iaload, 1) := by decide +kernel
theorem dX3_weighSets_32 : decode cX3_weighSets 32 = .ok (.aload_n 0, 1) := by decide +kernel
theorem dX3_weighSets_33 : decode cX3_weighSets 33 = .ok (.getfield 49, 3) := by decide +kernel
theorem dX3_weighSets_36 : decode cX3_weighSets 36 = .ok (.iload_n 1, 1) := by decide +kernel
theorem dX3_weighSets_37 : decode cX3_weighSets 37 = .ok (.iaload, 1) := by decide +kernel
theorem dX3_weighSets_38 : decode cX3_weighSets 38 = .ok (.iadd, 1) := by decide +kernel
theorem dX3_weighSets_39 : decode cX3_weighSets 39 = .ok (.iastore, 1) := by decide +kernel
theorem dX3_weighSets_40 : decode cX3_weighSets 40 = .ok (.aload_n 0, 1) := by decide +kernel
theorem dX3_weighSets_41 : decode cX3_weighSets 41 = .ok (.getfield 58, 3) := by decide +kernel
theorem dX3_weighSets_44 : decode cX3_weighSets 44 = .ok (.iload_n 2, 1) := by decide +kernel
theorem dX3_weighSets_45 : decode cX3_weighSets 45 = .ok (.iload_n 3, 1) := by decide +kernel
theorem dX3_weighSets_46 : decode cX3_weighSets 46 = .ok (.ior, 1) := by decide +kernel
theorem dX3_weighSets_47 : decode cX3_weighSets 47 = .ok (.aload_n 0, 1) := by decide +kernel
theorem dX3_weighSets_48 : decode cX3_weighSets 48 = .ok (.getfield 58, 3) := by decide +kernel
theorem dX3_weighSets_51 : decode cX3_weighSets 51 = .ok (.iload_n 3, 1) := by decide +kernel
theorem dX3_weighSets_52 : decode cX3_weighSets 52 = .ok (.iaload, 1) := by decide +kernel
theorem dX3_weighSets_53 : decode cX3_weighSets 53 = .ok (.aload_n 0, 1) := by decide +kernel
theorem dX3_weighSets_54 : decode cX3_weighSets 54 = .ok (.getfield 49, 3) := by decide +kernel
theorem dX3_weighSets_57 : decode cX3_weighSets 57 = .ok (.iload_n 1, 1) := by decide +kernel
theorem dX3_weighSets_58 : decode cX3_weighSets 58 = .ok (.bipush 6, 2) := by decide +kernel
theorem dX3_weighSets_60 : decode cX3_weighSets 60 = .ok (.iadd, 1) := by decide +kernel
theorem dX3_weighSets_61 : decode cX3_weighSets 61 = .ok (.iaload, 1) := by decide +kernel
theorem dX3_weighSets_62 : decode cX3_weighSets 62 = .ok (.iadd, 1) := by decide +kernel
theorem dX3_weighSets_63 : decode cX3_weighSets 63 = .ok (.iastore, 1) := by decide +kernel
theorem dX3_weighSets_64 : decode cX3_weighSets 64 = .ok (.iinc 3 1, 3) := by decide +kernel
theorem dX3_weighSets_67 : decode cX3_weighSets 67 = .ok (.goto (-53), 3) := by decide +kernel
theorem dX3_weighSets_70 : decode cX3_weighSets 70 = .ok (.iinc 1 1, 3) := by decide +kernel
theorem dX3_weighSets_73 : decode cX3_weighSets 73 = .ok (.goto (-71), 3) := by decide +kernel
theorem dX3_weighSets_76 : decode cX3_weighSets 76 = .ok (.return_, 1) := by decide +kernel
theorem dX3_weightOf_0 : decode cX3_weightOf 0 = .ok (.aload_n 0, 1) := by decide +kernel
theorem dX3_weightOf_1 : decode cX3_weightOf 1 = .ok (.getfield 55, 3) := by decide +kernel
theorem dX3_weightOf_4 : decode cX3_weightOf 4 = .ok (.iload_n 1, 1) := by decide +kernel
theorem dX3_weightOf_5 : decode cX3_weightOf 5 = .ok (.bipush 63, 2) := by decide +kernel
theorem dX3_weightOf_7 : decode cX3_weightOf 7 = .ok (.iand, 1) := by decide +kernel
theorem dX3_weightOf_8 : decode cX3_weightOf 8 = .ok (.iaload, 1) := by decide +kernel
theorem dX3_weightOf_9 : decode cX3_weightOf 9 = .ok (.aload_n 0, 1) := by decide +kernel
theorem dX3_weightOf_10 : decode cX3_weightOf 10 = .ok (.getfield 58, 3) := by decide +kernel
theorem dX3_weightOf_13 : decode cX3_weightOf 13 = .ok (.iload_n 1, 1) := by decide +kernel
theorem dX3_weightOf_14 : decode cX3_weightOf 14 = .ok (.bipush 6, 2) := by decide +kernel
theorem dX3_weightOf_16 : decode cX3_weightOf 16 = .ok (.iushr, 1) := by decide +kernel
theorem dX3_weightOf_17 : decode cX3_weightOf 17 = .ok (.bipush 63, 2) := by decide +kernel
theorem dX3_weightOf_19 : decode cX3_weightOf 19 = .ok (.iand, 1) := by decide +kernel
theorem dX3_weightOf_20 : decode cX3_weightOf 20 = .ok (.iaload, 1) := by decide +kernel
theorem dX3_weightOf_21 : decode cX3_weightOf 21 = .ok (.iadd, 1) := by decide +kernel
theorem dX3_weightOf_22 : decode cX3_weightOf 22 = .ok (.ireturn, 1) := by decide +kernel
theorem dX3_worthOf_0 : decode cX3_worthOf 0 = .ok (.iconst 0, 1) := by decide +kernel
theorem dX3_worthOf_1 : decode cX3_worthOf 1 = .ok (.istore_n 2, 1) := by decide +kernel
theorem dX3_worthOf_2 : decode cX3_worthOf 2 = .ok (.iconst 0, 1) := by decide +kernel
theorem dX3_worthOf_3 : decode cX3_worthOf 3 = .ok (.istore_n 3, 1) := by decide +kernel
theorem dX3_worthOf_4 : decode cX3_worthOf 4 = .ok (.iload_n 3, 1) := by decide +kernel
theorem dX3_worthOf_5 : decode cX3_worthOf 5 = .ok (.aload_n 0, 1) := by decide +kernel
theorem dX3_worthOf_6 : decode cX3_worthOf 6 = .ok (.getfield 15, 3) := by decide +kernel
theorem dX3_worthOf_9 : decode cX3_worthOf 9 = .ok (.if_icmp .ge 24, 3) := by decide +kernel
theorem dX3_worthOf_12 : decode cX3_worthOf 12 = .ok (.iload_n 2, 1) := by decide +kernel
theorem dX3_worthOf_13 : decode cX3_worthOf 13 = .ok (.iload_n 1, 1) := by decide +kernel
theorem dX3_worthOf_14 : decode cX3_worthOf 14 = .ok (.iload_n 3, 1) := by decide +kernel
theorem dX3_worthOf_15 : decode cX3_worthOf 15 = .ok (.iushr, 1) := by decide +kernel
theorem dX3_worthOf_16 : decode cX3_worthOf 16 = .ok (.iconst 1, 1) := by decide +kernel
theorem dX3_worthOf_17 : decode cX3_worthOf 17 = .ok (.iand, 1) := by decide +kernel
theorem dX3_worthOf_18 : decode cX3_worthOf 18 = .ok (.aload_n 0, 1) := by decide +kernel
theorem dX3_worthOf_19 : decode cX3_worthOf 19 = .ok (.getfield 52, 3) := by decide +kernel
theorem dX3_worthOf_22 : decode cX3_worthOf 22 = .ok (.iload_n 3, 1) := by decide +kernel
theorem dX3_worthOf_23 : decode cX3_worthOf 23 = .ok (.iaload, 1) := by decide +kernel
theorem dX3_worthOf_24 : decode cX3_worthOf 24 = .ok (.imul, 1) := by decide +kernel
theorem dX3_worthOf_25 : decode cX3_worthOf 25 = .ok (.iadd, 1) := by decide +kernel
theorem dX3_worthOf_26 : decode cX3_worthOf 26 = .ok (.istore_n 2, 1) := by decide +kernel
theorem dX3_worthOf_27 : decode cX3_worthOf 27 = .ok (.iinc 3 1, 3) := by decide +kernel
theorem dX3_worthOf_30 : decode cX3_worthOf 30 = .ok (.goto (-26), 3) := by decide +kernel
theorem dX3_worthOf_33 : decode cX3_worthOf 33 = .ok (.iload_n 2, 1) := by decide +kernel
theorem dX3_worthOf_34 : decode cX3_worthOf 34 = .ok (.ireturn, 1) := by decide +kernel
theorem dX3_holds_0 : decode cX3_holds 0 = .ok (.aload_n 0, 1) := by decide +kernel
theorem dX3_holds_1 : decode cX3_holds 1 = .ok (.getfield 46, 3) := by decide +kernel
theorem dX3_holds_4 : decode cX3_holds 4 = .ok (.iload_n 1, 1) := by decide +kernel
theorem dX3_holds_5 : decode cX3_holds 5 = .ok (.iaload, 1) := by decide +kernel
theorem dX3_holds_6 : decode cX3_holds 6 = .ok (.iload_n 2, 1) := by decide +kernel
theorem dX3_holds_7 : decode cX3_holds 7 = .ok (.iushr, 1) := by decide +kernel
theorem dX3_holds_8 : decode cX3_holds 8 = .ok (.iconst 1, 1) := by decide +kernel
theorem dX3_holds_9 : decode cX3_holds 9 = .ok (.iand, 1) := by decide +kernel
theorem dX3_holds_10 : decode cX3_holds 10 = .ok (.iconst 1, 1) := by decide +kernel
theorem dX3_holds_11 : decode cX3_holds 11 = .ok (.if_icmp .ne 7, 3) := by decide +kernel
theorem dX3_holds_14 : decode cX3_holds 14 = .ok (.iconst 1, 1) := by decide +kernel
theorem dX3_holds_15 : decode cX3_holds 15 = .ok (.goto 4, 3) := by decide +kernel
theorem dX3_holds_18 : decode cX3_holds 18 = .ok (.iconst 0, 1) := by decide +kernel
theorem dX3_holds_19 : decode cX3_holds 19 = .ok (.ireturn, 1) := by decide +kernel
theorem dX3_holderOf_0 : decode cX3_holderOf 0 = .ok (.iconst 0, 1) := by decide +kernel
theorem dX3_holderOf_1 : decode cX3_holderOf 1 = .ok (.istore_n 2, 1) := by decide +kernel
theorem dX3_holderOf_2 : decode cX3_holderOf 2 = .ok (.iload_n 2, 1) := by decide +kernel
theorem dX3_holderOf_3 : decode cX3_holderOf 3 = .ok (.aload_n 0, 1) := by decide +kernel
theorem dX3_holderOf_4 : decode cX3_holderOf 4 = .ok (.getfield 9, 3) := by decide +kernel
theorem dX3_holderOf_7 : decode cX3_holderOf 7 = .ok (.if_icmp .ge 20, 3) := by decide +kernel
theorem dX3_holderOf_10 : decode cX3_holderOf 10 = .ok (.aload_n 0, 1) := by decide +kernel
theorem dX3_holderOf_11 : decode cX3_holderOf 11 = .ok (.iload_n 2, 1) := by decide +kernel
theorem dX3_holderOf_12 : decode cX3_holderOf 12 = .ok (.iload_n 1, 1) := by decide +kernel
theorem dX3_holderOf_13 : decode cX3_holderOf 13 = .ok (.invokevirtual 76, 3) := by decide +kernel
theorem dX3_holderOf_16 : decode cX3_holderOf 16 = .ok (.ifCond .eq 5, 3) := by decide +kernel
theorem dX3_holderOf_19 : decode cX3_holderOf 19 = .ok (.iload_n 2, 1) := by decide +kernel
theorem dX3_holderOf_20 : decode cX3_holderOf 20 = .ok (.ireturn, 1) := by decide +kernel
theorem dX3_holderOf_21 : decode cX3_holderOf 21 = .ok (.iinc 2 1, 3) := by decide +kernel
theorem dX3_holderOf_24 : decode cX3_holderOf 24 = .ok (.goto (-22), 3) := by decide +kernel
theorem dX3_holderOf_27 : decode cX3_holderOf 27 = .ok (.iconst (-1), 1) := by decide +kernel
theorem dX3_holderOf_28 : decode cX3_holderOf 28 = .ok (.ireturn, 1) := by decide +kernel
theorem dX3_troubleOf_0 : decode cX3_troubleOf 0 = .ok (.iload_n 1, 1) := by decide +kernel
theorem dX3_troubleOf_1 : decode cX3_troubleOf 1 = .ok (.ifCond .lt 25, 3) := by decide +kernel
theorem dX3_troubleOf_4 : decode cX3_troubleOf 4 = .ok (.iload_n 1, 1) := by decide +kernel
theorem dX3_troubleOf_5 : decode cX3_troubleOf 5 = .ok (.aload_n 0, 1) := by decide +kernel
theorem dX3_troubleOf_6 : decode cX3_troubleOf 6 = .ok (.getfield 9, 3) := by decide +kernel
theorem dX3_troubleOf_9 : decode cX3_troubleOf 9 = .ok (.if_icmp .ge 17, 3) := by decide +kernel
theorem dX3_troubleOf_12 : decode cX3_troubleOf 12 = .ok (.iload 4, 2) := by decide +kernel
theorem dX3_troubleOf_14 : decode cX3_troubleOf 14 = .ok (.ifCond .lt 12, 3) := by decide +kernel
theorem dX3_troubleOf_17 : decode cX3_troubleOf 17 = .ok (.iload 4, 2) := by decide +kernel
theorem dX3_troubleOf_19 : decode cX3_troubleOf 19 = .ok (.aload_n 0, 1) := by decide +kernel
theorem dX3_troubleOf_20 : decode cX3_troubleOf 20 = .ok (.getfield 9, 3) := by decide +kernel
theorem dX3_troubleOf_23 : decode cX3_troubleOf 23 = .ok (.if_icmp .lt 5, 3) := by decide +kernel
theorem dX3_troubleOf_26 : decode cX3_troubleOf 26 = .ok (.iconst 1, 1) := by decide +kernel
theorem dX3_troubleOf_27 : decode cX3_troubleOf 27 = .ok (.ireturn, 1) := by decide +kernel
theorem dX3_troubleOf_28 : decode cX3_troubleOf 28 = .ok (.iload_n 2, 1) := by decide +kernel
theorem dX3_troubleOf_29 : decode cX3_troubleOf 29 = .ok (.aload_n 0, 1) := by decide +kernel
theorem dX3_troubleOf_30 : decode cX3_troubleOf 30 = .ok (.getfield 15, 3) := by decide +kernel
theorem dX3_troubleOf_33 : decode cX3_troubleOf 33 = .ok (.iushr, 1) := by decide +kernel
theorem dX3_troubleOf_34 : decode cX3_troubleOf 34 = .ok (.ifCond .ne 7, 3) := by decide +kernel
theorem dX3_troubleOf_37 : decode cX3_troubleOf 37 = .ok (.iload_n 3, 1) := by decide +kernel
theorem dX3_troubleOf_38 : decode cX3_troubleOf 38 = .ok (.ifCond .ge 5, 3) := by decide +kernel
theorem dX3_troubleOf_41 : decode cX3_troubleOf 41 = .ok (.iconst 1, 1) := by decide +kernel
theorem dX3_troubleOf_42 : decode cX3_troubleOf 42 = .ok (.ireturn, 1) := by decide +kernel
theorem dX3_troubleOf_43 : decode cX3_troubleOf 43 = .ok (.aload_n 0, 1) := by decide +kernel
theorem dX3_troubleOf_44 : decode cX3_troubleOf 44 = .ok (.getfield 40, 3) := by decide +kernel
theorem dX3_troubleOf_47 : decode cX3_troubleOf 47 = .ok (.iload_n 1, 1) := by decide +kernel
theorem dX3_troubleOf_48 : decode cX3_troubleOf 48 = .ok (.iaload, 1) := by decide +kernel
theorem dX3_troubleOf_49 : decode cX3_troubleOf 49 = .ok (.ifCond .ne 5, 3) := by decide +kernel
theorem dX3_troubleOf_52 : decode cX3_troubleOf 52 = .ok (.iconst 2, 1) := by decide +kernel
theorem dX3_troubleOf_53 : decode cX3_troubleOf 53 = .ok (.ireturn, 1) := by decide +kernel
theorem dX3_troubleOf_54 : decode cX3_troubleOf 54 = .ok (.iload_n 2, 1) := by decide +kernel
theorem dX3_troubleOf_55 : decode cX3_troubleOf 55 = .ok (.aload_n 0, 1) := by decide +kernel
theorem dX3_troubleOf_56 : decode cX3_troubleOf 56 = .ok (.getfield 46, 3) := by decide +kernel
theorem dX3_troubleOf_59 : decode cX3_troubleOf 59 = .ok (.iload_n 1, 1) := by decide +kernel
theorem dX3_troubleOf_60 : decode cX3_troubleOf 60 = .ok (.iaload, 1) := by decide +kernel
theorem dX3_troubleOf_61 : decode cX3_troubleOf 61 = .ok (.iconst (-1), 1) := by decide +kernel
theorem dX3_troubleOf_62 : decode cX3_troubleOf 62 = .ok (.ixor, 1) := by decide +kernel
theorem dX3_troubleOf_63 : decode cX3_troubleOf 63 = .ok (.iand, 1) := by decide +kernel
theorem dX3_troubleOf_64 : decode cX3_troubleOf 64 = .ok (.ifCond .ne 13, 3) := by decide +kernel
theorem dX3_troubleOf_67 : decode cX3_troubleOf 67 = .ok (.iload_n 3, 1) := by decide +kernel
theorem dX3_troubleOf_68 : decode cX3_troubleOf 68 = .ok (.aload_n 0, 1) := by decide +kernel
theorem dX3_troubleOf_69 : decode cX3_troubleOf 69 = .ok (.getfield 37, 3) := by decide +kernel
theorem dX3_troubleOf_72 : decode cX3_troubleOf 72 = .ok (.iload_n 1, 1) := by decide +kernel
theorem dX3_troubleOf_73 : decode cX3_troubleOf 73 = .ok (.iaload, 1) := by decide +kernel
theorem dX3_troubleOf_74 : decode cX3_troubleOf 74 = .ok (.if_icmp .le 5, 3) := by decide +kernel
theorem dX3_troubleOf_77 : decode cX3_troubleOf 77 = .ok (.iconst 3, 1) := by decide +kernel
theorem dX3_troubleOf_78 : decode cX3_troubleOf 78 = .ok (.ireturn, 1) := by decide +kernel
theorem dX3_troubleOf_79 : decode cX3_troubleOf 79 = .ok (.iload 4, 2) := by decide +kernel
theorem dX3_troubleOf_81 : decode cX3_troubleOf 81 = .ok (.iload_n 1, 1) := by decide +kernel
theorem dX3_troubleOf_82 : decode cX3_troubleOf 82 = .ok (.if_icmp .eq 24, 3) := by decide +kernel
theorem dX3_troubleOf_85 : decode cX3_troubleOf 85 = .ok (.aload_n 0, 1) := by decide +kernel
theorem dX3_troubleOf_86 : decode cX3_troubleOf 86 = .ok (.getfield 43, 3) := by decide +kernel
theorem dX3_troubleOf_89 : decode cX3_troubleOf 89 = .ok (.iload_n 1, 1) := by decide +kernel
theorem dX3_troubleOf_90 : decode cX3_troubleOf 90 = .ok (.iaload, 1) := by decide +kernel
theorem dX3_troubleOf_91 : decode cX3_troubleOf 91 = .ok (.iconst (-1), 1) := by decide +kernel
theorem dX3_troubleOf_92 : decode cX3_troubleOf 92 = .ok (.if_icmp .eq 16, 3) := by decide +kernel
theorem dX3_troubleOf_95 : decode cX3_troubleOf 95 = .ok (.aload_n 0, 1) := by decide +kernel
theorem dX3_troubleOf_96 : decode cX3_troubleOf 96 = .ok (.getfield 43, 3) := by decide +kernel
theorem dX3_troubleOf_99 : decode cX3_troubleOf 99 = .ok (.iload_n 1, 1) := by decide +kernel
theorem dX3_troubleOf_100 : decode cX3_troubleOf 100 = .ok (.iaload, 1) := by decide +kernel
theorem dX3_troubleOf_101 : decode cX3_troubleOf 101 = .ok (.iload 4, 2) := by decide +kernel
theorem dX3_troubleOf_103 : decode cX3_troubleOf 103 = .ok (.if_icmp .eq 5, 3) := by decide +kernel
theorem dX3_troubleOf_106 : decode cX3_troubleOf 106 = .ok (.iconst 4, 1) := by decide +kernel
theorem dX3_troubleOf_107 : decode cX3_troubleOf 107 = .ok (.ireturn, 1) := by decide +kernel
theorem dX3_troubleOf_108 : decode cX3_troubleOf 108 = .ok (.aload_n 0, 1) := by decide +kernel
theorem dX3_troubleOf_109 : decode cX3_troubleOf 109 = .ok (.iload_n 2, 1) := by decide +kernel
theorem dX3_troubleOf_110 : decode cX3_troubleOf 110 = .ok (.invokevirtual 80, 3) := by decide +kernel
theorem dX3_troubleOf_113 : decode cX3_troubleOf 113 = .ok (.iload_n 3, 1) := by decide +kernel
theorem dX3_troubleOf_114 : decode cX3_troubleOf 114 = .ok (.iadd, 1) := by decide +kernel
theorem dX3_troubleOf_115 : decode cX3_troubleOf 115 = .ok (.istore 5, 2) := by decide +kernel
theorem dX3_troubleOf_117 : decode cX3_troubleOf 117 = .ok (.iload 5, 2) := by decide +kernel
theorem dX3_troubleOf_119 : decode cX3_troubleOf 119 = .ok (.aload_n 0, 1) := by decide +kernel
theorem dX3_troubleOf_120 : decode cX3_troubleOf 120 = .ok (.iload_n 1, 1) := by decide +kernel
theorem dX3_troubleOf_121 : decode cX3_troubleOf 121 = .ok (.invokevirtual 84, 3) := by decide +kernel
theorem dX3_troubleOf_124 : decode cX3_troubleOf 124 = .ok (.if_icmp .ge 5, 3) := by decide +kernel
theorem dX3_troubleOf_127 : decode cX3_troubleOf 127 = .ok (.iconst 5, 1) := by decide +kernel
theorem dX3_troubleOf_128 : decode cX3_troubleOf 128 = .ok (.ireturn, 1) := by decide +kernel
theorem dX3_troubleOf_129 : decode cX3_troubleOf 129 = .ok (.iload 5, 2) := by decide +kernel
theorem dX3_troubleOf_131 : decode cX3_troubleOf 131 = .ok (.aload_n 0, 1) := by decide +kernel
theorem dX3_troubleOf_132 : decode cX3_troubleOf 132 = .ok (.iload_n 1, 1) := by decide +kernel
theorem dX3_troubleOf_133 : decode cX3_troubleOf 133 = .ok (.invokevirtual 87, 3) := by decide +kernel
theorem dX3_troubleOf_136 : decode cX3_troubleOf 136 = .ok (.if_icmp .le 8, 3) := by decide +kernel
theorem dX3_troubleOf_139 : decode cX3_troubleOf 139 = .ok (.bipush 6, 2) := by decide +kernel
theorem dX3_troubleOf_141 : decode cX3_troubleOf 141 = .ok (.goto 4, 3) := by decide +kernel
theorem dX3_troubleOf_144 : decode cX3_troubleOf 144 = .ok (.iconst 0, 1) := by decide +kernel
theorem dX3_troubleOf_145 : decode cX3_troubleOf 145 = .ok (.ireturn, 1) := by decide +kernel
theorem dX3_lightest_0 : decode cX3_lightest 0 = .ok (.iconst 1, 1) := by decide +kernel
theorem dX3_lightest_1 : decode cX3_lightest 1 = .ok (.aload_n 0, 1) := by decide +kernel
theorem dX3_lightest_2 : decode cX3_lightest 2 = .ok (.getfield 40, 3) := by decide +kernel
theorem dX3_lightest_5 : decode cX3_lightest 5 = .ok (.iload_n 1, 1) := by decide +kernel
theorem dX3_lightest_6 : decode cX3_lightest 6 = .ok (.iaload, 1) := by decide +kernel
theorem dX3_lightest_7 : decode cX3_lightest 7 = .ok (.aload_n 0, 1) := by decide +kernel
theorem dX3_lightest_8 : decode cX3_lightest 8 = .ok (.getfield 21, 3) := by decide +kernel
theorem dX3_lightest_11 : decode cX3_lightest 11 = .ok (.isub, 1) := by decide +kernel
theorem dX3_lightest_12 : decode cX3_lightest 12 = .ok (.invokestatic 90, 3) := by decide +kernel
theorem dX3_lightest_15 : decode cX3_lightest 15 = .ok (.ireturn, 1) := by decide +kernel
theorem dX3_heaviest_0 : decode cX3_heaviest 0 = .ok (.aload_n 0, 1) := by decide +kernel
theorem dX3_heaviest_1 : decode cX3_heaviest 1 = .ok (.getfield 40, 3) := by decide +kernel
theorem dX3_heaviest_4 : decode cX3_heaviest 4 = .ok (.iload_n 1, 1) := by decide +kernel
theorem dX3_heaviest_5 : decode cX3_heaviest 5 = .ok (.iaload, 1) := by decide +kernel
theorem dX3_heaviest_6 : decode cX3_heaviest 6 = .ok (.aload_n 0, 1) := by decide +kernel
theorem dX3_heaviest_7 : decode cX3_heaviest 7 = .ok (.getfield 21, 3) := by decide +kernel
theorem dX3_heaviest_10 : decode cX3_heaviest 10 = .ok (.iadd, 1) := by decide +kernel
theorem dX3_heaviest_11 : decode cX3_heaviest 11 = .ok (.ireturn, 1) := by decide +kernel
theorem dX3_mayAnswer_0 : decode cX3_mayAnswer 0 = .ok (.aload_n 0, 1) := by decide +kernel
theorem dX3_mayAnswer_1 : decode cX3_mayAnswer 1 = .ok (.getfield 40, 3) := by decide +kernel
theorem dX3_mayAnswer_4 : decode cX3_mayAnswer 4 = .ok (.iload_n 1, 1) := by decide +kernel
theorem dX3_mayAnswer_5 : decode cX3_mayAnswer 5 = .ok (.iaload, 1) := by decide +kernel
theorem dX3_mayAnswer_6 : decode cX3_mayAnswer 6 = .ok (.ifCond .le 15, 3) := by decide +kernel
theorem dX3_mayAnswer_9 : decode cX3_mayAnswer 9 = .ok (.aload_n 0, 1) := by decide +kernel
theorem dX3_mayAnswer_10 : decode cX3_mayAnswer 10 = .ok (.getfield 9, 3) := by decide +kernel
theorem dX3_mayAnswer_13 : decode cX3_mayAnswer 13 = .ok (.iconst 1, 1) := by decide +kernel
theorem dX3_mayAnswer_14 : decode cX3_mayAnswer 14 = .ok (.if_icmp .le 7, 3) := by decide +kernel
theorem dX3_mayAnswer_17 : decode cX3_mayAnswer 17 = .ok (.iconst 1, 1) := by decide +kernel
theorem dX3_mayAnswer_18 : decode cX3_mayAnswer 18 = .ok (.goto 4, 3) := by decide +kernel
theorem dX3_mayAnswer_21 : decode cX3_mayAnswer 21 = .ok (.iconst 0, 1) := by decide +kernel
theorem dX3_mayAnswer_22 : decode cX3_mayAnswer 22 = .ok (.ireturn, 1) := by decide +kernel
theorem dX3_nextFit_0 : decode cX3_nextFit 0 = .ok (.aload_n 0, 1) := by decide +kernel
theorem dX3_nextFit_1 : decode cX3_nextFit 1 = .ok (.iload_n 1, 1) := by decide +kernel
theorem dX3_nextFit_2 : decode cX3_nextFit 2 = .ok (.invokevirtual 96, 3) := by decide +kernel
theorem dX3_nextFit_5 : decode cX3_nextFit 5 = .ok (.ifCond .ne 5, 3) := by decide +kernel
theorem dX3_nextFit_8 : decode cX3_nextFit 8 = .ok (.iconst (-1), 1) := by decide +kernel
theorem dX3_nextFit_9 : decode cX3_nextFit 9 = .ok (.ireturn, 1) := by decide +kernel
theorem dX3_nextFit_10 : decode cX3_nextFit 10 = .ok (.aload_n 0, 1) := by decide +kernel
theorem dX3_nextFit_11 : decode cX3_nextFit 11 = .ok (.aload_n 0, 1) := by decide +kernel
theorem dX3_nextFit_12 : decode cX3_nextFit 12 = .ok (.getfield 46, 3) := by decide +kernel
theorem dX3_nextFit_15 : decode cX3_nextFit 15 = .ok (.iload_n 1, 1) := by decide +kernel
theorem dX3_nextFit_16 : decode cX3_nextFit 16 = .ok (.iaload, 1) := by decide +kernel
theorem dX3_nextFit_17 : decode cX3_nextFit 17 = .ok (.iload_n 2, 1) := by decide +kernel
theorem dX3_nextFit_18 : decode cX3_nextFit 18 = .ok (.aload_n 0, 1) := by decide +kernel
theorem dX3_nextFit_19 : decode cX3_nextFit 19 = .ok (.iload_n 1, 1) := by decide +kernel
theorem dX3_nextFit_20 : decode cX3_nextFit 20 = .ok (.invokevirtual 84, 3) := by decide +kernel
theorem dX3_nextFit_23 : decode cX3_nextFit 23 = .ok (.aload_n 0, 1) := by decide +kernel
theorem dX3_nextFit_24 : decode cX3_nextFit 24 = .ok (.getfield 37, 3) := by decide +kernel
theorem dX3_nextFit_27 : decode cX3_nextFit 27 = .ok (.iload_n 1, 1) := by decide +kernel
theorem dX3_nextFit_28 : decode cX3_nextFit 28 = .ok (.iaload, 1) := by decide +kernel
theorem dX3_nextFit_29 : decode cX3_nextFit 29 = .ok (.isub, 1) := by decide +kernel
theorem dX3_nextFit_30 : decode cX3_nextFit 30 = .ok (.aload_n 0, 1) := by decide +kernel
theorem dX3_nextFit_31 : decode cX3_nextFit 31 = .ok (.iload_n 1, 1) := by decide +kernel
theorem dX3_nextFit_32 : decode cX3_nextFit 32 = .ok (.invokevirtual 87, 3) := by decide +kernel
theorem dX3_nextFit_35 : decode cX3_nextFit 35 = .ok (.invokevirtual 100, 3) := by decide +kernel
theorem dX3_nextFit_38 : decode cX3_nextFit 38 = .ok (.ireturn, 1) := by decide +kernel
theorem dX3_nextSet_0 : decode cX3_nextSet 0 = .ok (.iload_n 2, 1) := by decide +kernel
theorem dX3_nextSet_1 : decode cX3_nextSet 1 = .ok (.iconst (-1), 1) := by decide +kernel
theorem dX3_nextSet_2 : decode cX3_nextSet 2 = .ok (.if_icmp .ne 7, 3) := by decide +kernel
theorem dX3_nextSet_5 : decode cX3_nextSet 5 = .ok (.iconst 0, 1) := by decide +kernel
theorem dX3_nextSet_6 : decode cX3_nextSet 6 = .ok (.goto 8, 3) := by decide +kernel
theorem dX3_nextSet_9 : decode cX3_nextSet 9 = .ok (.iload_n 1, 1) := by decide +kernel
theorem dX3_nextSet_10 : decode cX3_nextSet 10 = .ok (.iload_n 2, 1) := by decide +kernel
theorem dX3_nextSet_11 : decode cX3_nextSet 11 = .ok (.invokestatic 104, 3) := by decide +kernel
theorem dX3_nextSet_14 : decode cX3_nextSet 14 = .ok (.istore 5, 2) := by decide +kernel
theorem dX3_nextSet_16 : decode cX3_nextSet 16 = .ok (.iload 5, 2) := by decide +kernel
theorem dX3_nextSet_18 : decode cX3_nextSet 18 = .ok (.ifCond .ne 10, 3) := by decide +kernel
theorem dX3_nextSet_21 : decode cX3_nextSet 21 = .ok (.iload_n 2, 1) := by decide +kernel
theorem dX3_nextSet_22 : decode cX3_nextSet 22 = .ok (.iconst (-1), 1) := by decide +kernel
theorem dX3_nextSet_23 : decode cX3_nextSet 23 = .ok (.if_icmp .eq 5, 3) := by decide +kernel
theorem dX3_nextSet_26 : decode cX3_nextSet 26 = .ok (.iconst (-1), 1) := by decide +kernel
theorem dX3_nextSet_27 : decode cX3_nextSet 27 = .ok (.ireturn, 1) := by decide +kernel
theorem dX3_nextSet_28 : decode cX3_nextSet 28 = .ok (.iconst 0, 1) := by decide +kernel
theorem dX3_nextSet_29 : decode cX3_nextSet 29 = .ok (.istore 6, 2) := by decide +kernel
theorem dX3_nextSet_31 : decode cX3_nextSet 31 = .ok (.iload 6, 2) := by decide +kernel
theorem dX3_nextSet_33 : decode cX3_nextSet 33 = .ok (.sipush 4096, 3) := by decide +kernel
theorem dX3_nextSet_36 : decode cX3_nextSet 36 = .ok (.if_icmp .ge 90, 3) := by decide +kernel
theorem dX3_nextSet_39 : decode cX3_nextSet 39 = .ok (.aload_n 0, 1) := by decide +kernel
theorem dX3_nextSet_40 : decode cX3_nextSet 40 = .ok (.iload 5, 2) := by decide +kernel
theorem dX3_nextSet_42 : decode cX3_nextSet 42 = .ok (.invokevirtual 80, 3) := by decide +kernel
theorem dX3_nextSet_45 : decode cX3_nextSet 45 = .ok (.istore 7, 2) := by decide +kernel
theorem dX3_nextSet_47 : decode cX3_nextSet 47 = .ok (.iload_n 1, 1) := by decide +kernel
theorem dX3_nextSet_48 : decode cX3_nextSet 48 = .ok (.iload 5, 2) := by decide +kernel
theorem dX3_nextSet_50 : decode cX3_nextSet 50 = .ok (.iload 5, 2) := by decide +kernel
theorem dX3_nextSet_52 : decode cX3_nextSet 52 = .ok (.ineg, 1) := by decide +kernel
theorem dX3_nextSet_53 : decode cX3_nextSet 53 = .ok (.iand, 1) := by decide +kernel
theorem dX3_nextSet_54 : decode cX3_nextSet 54 = .ok (.iconst 1, 1) := by decide +kernel
theorem dX3_nextSet_55 : decode cX3_nextSet 55 = .ok (.isub, 1) := by decide +kernel
theorem dX3_nextSet_56 : decode cX3_nextSet 56 = .ok (.iand, 1) := by decide +kernel
theorem dX3_nextSet_57 : decode cX3_nextSet 57 = .ok (.istore 8, 2) := by decide +kernel
theorem dX3_nextSet_59 : decode cX3_nextSet 59 = .ok (.iload 7, 2) := by decide +kernel
theorem dX3_nextSet_61 : decode cX3_nextSet 61 = .ok (.iload 4, 2) := by decide +kernel
theorem dX3_nextSet_63 : decode cX3_nextSet 63 = .ok (.if_icmp .gt 16, 3) := by decide +kernel
theorem dX3_nextSet_66 : decode cX3_nextSet 66 = .ok (.iload 7, 2) := by decide +kernel
theorem dX3_nextSet_68 : decode cX3_nextSet 68 = .ok (.aload_n 0, 1) := by decide +kernel
theorem dX3_nextSet_69 : decode cX3_nextSet 69 = .ok (.iload 8, 2) := by decide +kernel
theorem dX3_nextSet_71 : decode cX3_nextSet 71 = .ok (.invokevirtual 80, 3) := by decide +kernel
theorem dX3_nextSet_74 : decode cX3_nextSet 74 = .ok (.iadd, 1) := by decide +kernel
theorem dX3_nextSet_75 : decode cX3_nextSet 75 = .ok (.iload_n 3, 1) := by decide +kernel
theorem dX3_nextSet_76 : decode cX3_nextSet 76 = .ok (.if_icmp .ge 17, 3) := by decide +kernel
theorem dX3_nextSet_79 : decode cX3_nextSet 79 = .ok (.iload_n 1, 1) := by decide +kernel
theorem dX3_nextSet_80 : decode cX3_nextSet 80 = .ok (.iload 5, 2) := by decide +kernel
theorem dX3_nextSet_82 : decode cX3_nextSet 82 = .ok (.iload 8, 2) := by decide +kernel
theorem dX3_nextSet_84 : decode cX3_nextSet 84 = .ok (.ior, 1) := by decide +kernel
theorem dX3_nextSet_85 : decode cX3_nextSet 85 = .ok (.invokestatic 104, 3) := by decide +kernel
theorem dX3_nextSet_88 : decode cX3_nextSet 88 = .ok (.istore 5, 2) := by decide +kernel
theorem dX3_nextSet_90 : decode cX3_nextSet 90 = .ok (.goto 23, 3) := by decide +kernel
theorem dX3_nextSet_93 : decode cX3_nextSet 93 = .ok (.iload 7, 2) := by decide +kernel
theorem dX3_nextSet_95 : decode cX3_nextSet 95 = .ok (.iload_n 3, 1) := by decide +kernel
theorem dX3_nextSet_96 : decode cX3_nextSet 96 = .ok (.if_icmp .ge 14, 3) := by decide +kernel
theorem dX3_nextSet_99 : decode cX3_nextSet 99 = .ok (.iload_n 1, 1) := by decide +kernel
theorem dX3_nextSet_100 : decode cX3_nextSet 100 = .ok (.iload 5, 2) := by decide +kernel
theorem dX3_nextSet_102 : decode cX3_nextSet 102 = .ok (.invokestatic 104, 3) := by decide +kernel
theorem dX3_nextSet_105 : decode cX3_nextSet 105 = .ok (.istore 5, 2) := by decide +kernel
theorem dX3_nextSet_107 : decode cX3_nextSet 107 = .ok (.goto 6, 3) := by decide +kernel
theorem dX3_nextSet_110 : decode cX3_nextSet 110 = .ok (.iload 5, 2) := by decide +kernel
theorem dX3_nextSet_112 : decode cX3_nextSet 112 = .ok (.ireturn, 1) := by decide +kernel
theorem dX3_nextSet_113 : decode cX3_nextSet 113 = .ok (.iload 5, 2) := by decide +kernel
theorem dX3_nextSet_115 : decode cX3_nextSet 115 = .ok (.ifCond .ne 5, 3) := by decide +kernel
theorem dX3_nextSet_118 : decode cX3_nextSet 118 = .ok (.iconst (-1), 1) := by decide +kernel
theorem dX3_nextSet_119 : decode cX3_nextSet 119 = .ok (.ireturn, 1) := by decide +kernel
theorem dX3_nextSet_120 : decode cX3_nextSet 120 = .ok (.iinc 6 1, 3) := by decide +kernel
theorem dX3_nextSet_123 : decode cX3_nextSet 123 = .ok (.goto (-92), 3) := by decide +kernel
theorem dX3_nextSet_126 : decode cX3_nextSet 126 = .ok (.iconst (-1), 1) := by decide +kernel
theorem dX3_nextSet_127 : decode cX3_nextSet 127 = .ok (.ireturn, 1) := by decide +kernel
theorem dX3_stepUp_0 : decode cX3_stepUp 0 = .ok (.iload_n 1, 1) := by decide +kernel
theorem dX3_stepUp_1 : decode cX3_stepUp 1 = .ok (.iload_n 0, 1) := by decide +kernel
theorem dX3_stepUp_2 : decode cX3_stepUp 2 = .ok (.iconst (-1), 1) := by decide +kernel
theorem dX3_stepUp_3 : decode cX3_stepUp 3 = .ok (.ixor, 1) := by decide +kernel
theorem dX3_stepUp_4 : decode cX3_stepUp 4 = .ok (.ior, 1) := by decide +kernel
theorem dX3_stepUp_5 : decode cX3_stepUp 5 = .ok (.iconst 1, 1) := by decide +kernel
theorem dX3_stepUp_6 : decode cX3_stepUp 6 = .ok (.iadd, 1) := by decide +kernel
theorem dX3_stepUp_7 : decode cX3_stepUp 7 = .ok (.iload_n 0, 1) := by decide +kernel
theorem dX3_stepUp_8 : decode cX3_stepUp 8 = .ok (.iand, 1) := by decide +kernel
theorem dX3_stepUp_9 : decode cX3_stepUp 9 = .ok (.ireturn, 1) := by decide +kernel
theorem dX3_sandFor_0 : decode cX3_sandFor 0 = .ok (.iconst 0, 1) := by decide +kernel
theorem dX3_sandFor_1 : decode cX3_sandFor 1 = .ok (.aload_n 0, 1) := by decide +kernel
theorem dX3_sandFor_2 : decode cX3_sandFor 2 = .ok (.iload_n 1, 1) := by decide +kernel
theorem dX3_sandFor_3 : decode cX3_sandFor 3 = .ok (.invokevirtual 84, 3) := by decide +kernel
theorem dX3_sandFor_6 : decode cX3_sandFor 6 = .ok (.aload_n 0, 1) := by decide +kernel
theorem dX3_sandFor_7 : decode cX3_sandFor 7 = .ok (.iload_n 2, 1) := by decide +kernel
theorem dX3_sandFor_8 : decode cX3_sandFor 8 = .ok (.invokevirtual 80, 3) := by decide +kernel
theorem dX3_sandFor_11 : decode cX3_sandFor 11 = .ok (.isub, 1) := by decide +kernel
theorem dX3_sandFor_12 : decode cX3_sandFor 12 = .ok (.invokestatic 90, 3) := by decide +kernel
theorem dX3_sandFor_15 : decode cX3_sandFor 15 = .ok (.ireturn, 1) := by decide +kernel
theorem dX3_takerFor_0 : decode cX3_takerFor 0 = .ok (.aload_n 0, 1) := by decide +kernel
theorem dX3_takerFor_1 : decode cX3_takerFor 1 = .ok (.getfield 43, 3) := by decide +kernel
theorem dX3_takerFor_4 : decode cX3_takerFor 4 = .ok (.iload_n 1, 1) := by decide +kernel
theorem dX3_takerFor_5 : decode cX3_takerFor 5 = .ok (.iaload, 1) := by decide +kernel
theorem dX3_takerFor_6 : decode cX3_takerFor 6 = .ok (.iconst (-1), 1) := by decide +kernel
theorem dX3_takerFor_7 : decode cX3_takerFor 7 = .ok (.if_icmp .eq 10, 3) := by decide +kernel
theorem dX3_takerFor_10 : decode cX3_takerFor 10 = .ok (.aload_n 0, 1) := by decide +kernel
theorem dX3_takerFor_11 : decode cX3_takerFor 11 = .ok (.getfield 43, 3) := by decide +kernel
theorem dX3_takerFor_14 : decode cX3_takerFor 14 = .ok (.iload_n 1, 1) := by decide +kernel
theorem dX3_takerFor_15 : decode cX3_takerFor 15 = .ok (.iaload, 1) := by decide +kernel
theorem dX3_takerFor_16 : decode cX3_takerFor 16 = .ok (.ireturn, 1) := by decide +kernel
theorem dX3_takerFor_17 : decode cX3_takerFor 17 = .ok (.aload_n 0, 1) := by decide +kernel
theorem dX3_takerFor_18 : decode cX3_takerFor 18 = .ok (.getfield 30, 3) := by decide +kernel
theorem dX3_takerFor_21 : decode cX3_takerFor 21 = .ok (.iload_n 1, 1) := by decide +kernel
theorem dX3_takerFor_22 : decode cX3_takerFor 22 = .ok (.iaload, 1) := by decide +kernel
theorem dX3_takerFor_23 : decode cX3_takerFor 23 = .ok (.iconst 3, 1) := by decide +kernel
theorem dX3_takerFor_24 : decode cX3_takerFor 24 = .ok (.if_icmp .ne 26, 3) := by decide +kernel
theorem dX3_takerFor_27 : decode cX3_takerFor 27 = .ok (.aload_n 0, 1) := by decide +kernel
theorem dX3_takerFor_28 : decode cX3_takerFor 28 = .ok (.aload_n 0, 1) := by decide +kernel
theorem dX3_takerFor_29 : decode cX3_takerFor 29 = .ok (.getfield 34, 3) := by decide +kernel
theorem dX3_takerFor_32 : decode cX3_takerFor 32 = .ok (.iload_n 1, 1) := by decide +kernel
theorem dX3_takerFor_33 : decode cX3_takerFor 33 = .ok (.iaload, 1) := by decide +kernel
theorem dX3_takerFor_34 : decode cX3_takerFor 34 = .ok (.invokevirtual 107, 3) := by decide +kernel
theorem dX3_takerFor_37 : decode cX3_takerFor 37 = .ok (.istore_n 2, 1) := by decide +kernel
theorem dX3_takerFor_38 : decode cX3_takerFor 38 = .ok (.iload_n 2, 1) := by decide +kernel
theorem dX3_takerFor_39 : decode cX3_takerFor 39 = .ok (.iconst (-1), 1) := by decide +kernel
theorem dX3_takerFor_40 : decode cX3_takerFor 40 = .ok (.if_icmp .eq 10, 3) := by decide +kernel
theorem dX3_takerFor_43 : decode cX3_takerFor 43 = .ok (.iload_n 2, 1) := by decide +kernel
theorem dX3_takerFor_44 : decode cX3_takerFor 44 = .ok (.iload_n 1, 1) := by decide +kernel
theorem dX3_takerFor_45 : decode cX3_takerFor 45 = .ok (.if_icmp .eq 5, 3) := by decide +kernel
theorem dX3_takerFor_48 : decode cX3_takerFor 48 = .ok (.iload_n 2, 1) := by decide +kernel
theorem dX3_takerFor_49 : decode cX3_takerFor 49 = .ok (.ireturn, 1) := by decide +kernel
theorem dX3_takerFor_50 : decode cX3_takerFor 50 = .ok (.iload_n 1, 1) := by decide +kernel
theorem dX3_takerFor_51 : decode cX3_takerFor 51 = .ok (.iconst 1, 1) := by decide +kernel
theorem dX3_takerFor_52 : decode cX3_takerFor 52 = .ok (.iadd, 1) := by decide +kernel
theorem dX3_takerFor_53 : decode cX3_takerFor 53 = .ok (.aload_n 0, 1) := by decide +kernel
theorem dX3_takerFor_54 : decode cX3_takerFor 54 = .ok (.getfield 9, 3) := by decide +kernel
theorem dX3_takerFor_57 : decode cX3_takerFor 57 = .ok (.if_icmp .ge 9, 3) := by decide +kernel
theorem dX3_takerFor_60 : decode cX3_takerFor 60 = .ok (.iload_n 1, 1) := by decide +kernel
theorem dX3_takerFor_61 : decode cX3_takerFor 61 = .ok (.iconst 1, 1) := by decide +kernel
theorem dX3_takerFor_62 : decode cX3_takerFor 62 = .ok (.iadd, 1) := by decide +kernel
theorem dX3_takerFor_63 : decode cX3_takerFor 63 = .ok (.goto 4, 3) := by decide +kernel
theorem dX3_takerFor_66 : decode cX3_takerFor 66 = .ok (.iconst 0, 1) := by decide +kernel
theorem dX3_takerFor_67 : decode cX3_takerFor 67 = .ok (.ireturn, 1) := by decide +kernel
theorem dX3_chosenSet_0 : decode cX3_chosenSet 0 = .ok (.aload_n 0, 1) := by decide +kernel
theorem dX3_chosenSet_1 : decode cX3_chosenSet 1 = .ok (.iload_n 1, 1) := by decide +kernel
theorem dX3_chosenSet_2 : decode cX3_chosenSet 2 = .ok (.invokevirtual 96, 3) := by decide +kernel
theorem dX3_chosenSet_5 : decode cX3_chosenSet 5 = .ok (.ifCond .ne 5, 3) := by decide +kernel
theorem dX3_chosenSet_8 : decode cX3_chosenSet 8 = .ok (.iconst (-1), 1) := by decide +kernel
theorem dX3_chosenSet_9 : decode cX3_chosenSet 9 = .ok (.ireturn, 1) := by decide +kernel
theorem dX3_chosenSet_10 : decode cX3_chosenSet 10 = .ok (.aload_n 0, 1) := by decide +kernel
theorem dX3_chosenSet_11 : decode cX3_chosenSet 11 = .ok (.getfield 30, 3) := by decide +kernel
theorem dX3_chosenSet_14 : decode cX3_chosenSet 14 = .ok (.iload_n 1, 1) := by decide +kernel
theorem dX3_chosenSet_15 : decode cX3_chosenSet 15 = .ok (.iaload, 1) := by decide +kernel
theorem dX3_chosenSet_16 : decode cX3_chosenSet 16 = .ok (.tableswitch 85 1 4 #[32, 32, 38, 61], 32) := by decide +kernel
theorem dX3_chosenSet_48 : decode cX3_chosenSet 48 = .ok (.aload_n 0, 1) := by decide +kernel
theorem dX3_chosenSet_49 : decode cX3_chosenSet 49 = .ok (.iload_n 1, 1) := by decide +kernel
theorem dX3_chosenSet_50 : decode cX3_chosenSet 50 = .ok (.invokevirtual 110, 3) := by decide +kernel
theorem dX3_chosenSet_53 : decode cX3_chosenSet 53 = .ok (.ireturn, 1) := by decide +kernel
theorem dX3_chosenSet_54 : decode cX3_chosenSet 54 = .ok (.aload_n 0, 1) := by decide +kernel
theorem dX3_chosenSet_55 : decode cX3_chosenSet 55 = .ok (.aload_n 0, 1) := by decide +kernel
theorem dX3_chosenSet_56 : decode cX3_chosenSet 56 = .ok (.getfield 46, 3) := by decide +kernel
theorem dX3_chosenSet_59 : decode cX3_chosenSet 59 = .ok (.iload_n 1, 1) := by decide +kernel
theorem dX3_chosenSet_60 : decode cX3_chosenSet 60 = .ok (.iaload, 1) := by decide +kernel
theorem dX3_chosenSet_61 : decode cX3_chosenSet 61 = .ok (.iconst 1, 1) := by decide +kernel
theorem dX3_chosenSet_62 : decode cX3_chosenSet 62 = .ok (.aload_n 0, 1) := by decide +kernel
theorem dX3_chosenSet_63 : decode cX3_chosenSet 63 = .ok (.getfield 34, 3) := by decide +kernel
theorem dX3_chosenSet_66 : decode cX3_chosenSet 66 = .ok (.iload_n 1, 1) := by decide +kernel
theorem dX3_chosenSet_67 : decode cX3_chosenSet 67 = .ok (.iaload, 1) := by decide +kernel
theorem dX3_chosenSet_68 : decode cX3_chosenSet 68 = .ok (.ishl, 1) := by decide +kernel
theorem dX3_chosenSet_69 : decode cX3_chosenSet 69 = .ok (.iconst (-1), 1) := by decide +kernel
theorem dX3_chosenSet_70 : decode cX3_chosenSet 70 = .ok (.ixor, 1) := by decide +kernel
theorem dX3_chosenSet_71 : decode cX3_chosenSet 71 = .ok (.iand, 1) := by decide +kernel
theorem dX3_chosenSet_72 : decode cX3_chosenSet 72 = .ok (.iload_n 1, 1) := by decide +kernel
theorem dX3_chosenSet_73 : decode cX3_chosenSet 73 = .ok (.invokevirtual 113, 3) := by decide +kernel
theorem dX3_chosenSet_76 : decode cX3_chosenSet 76 = .ok (.ireturn, 1) := by decide +kernel
theorem dX3_chosenSet_77 : decode cX3_chosenSet 77 = .ok (.aload_n 0, 1) := by decide +kernel
theorem dX3_chosenSet_78 : decode cX3_chosenSet 78 = .ok (.iload_n 1, 1) := by decide +kernel
theorem dX3_chosenSet_79 : decode cX3_chosenSet 79 = .ok (.invokevirtual 116, 3) := by decide +kernel
theorem dX3_chosenSet_82 : decode cX3_chosenSet 82 = .ok (.ifCond .eq 7, 3) := by decide +kernel
theorem dX3_chosenSet_85 : decode cX3_chosenSet 85 = .ok (.iconst (-1), 1) := by decide +kernel
theorem dX3_chosenSet_86 : decode cX3_chosenSet 86 = .ok (.goto 14, 3) := by decide +kernel
theorem dX3_chosenSet_89 : decode cX3_chosenSet 89 = .ok (.aload_n 0, 1) := by decide +kernel
theorem dX3_chosenSet_90 : decode cX3_chosenSet 90 = .ok (.aload_n 0, 1) := by decide +kernel
theorem dX3_chosenSet_91 : decode cX3_chosenSet 91 = .ok (.getfield 46, 3) := by decide +kernel
theorem dX3_chosenSet_94 : decode cX3_chosenSet 94 = .ok (.iload_n 1, 1) := by decide +kernel
theorem dX3_chosenSet_95 : decode cX3_chosenSet 95 = .ok (.iaload, 1) := by decide +kernel
theorem dX3_chosenSet_96 : decode cX3_chosenSet 96 = .ok (.iload_n 1, 1) := by decide +kernel
theorem dX3_chosenSet_97 : decode cX3_chosenSet 97 = .ok (.invokevirtual 113, 3) := by decide +kernel
theorem dX3_chosenSet_100 : decode cX3_chosenSet 100 = .ok (.ireturn, 1) := by decide +kernel
theorem dX3_chosenSet_101 : decode cX3_chosenSet 101 = .ok (.aload_n 0, 1) := by decide +kernel
theorem dX3_chosenSet_102 : decode cX3_chosenSet 102 = .ok (.aload_n 0, 1) := by decide +kernel
theorem dX3_chosenSet_103 : decode cX3_chosenSet 103 = .ok (.getfield 46, 3) := by decide +kernel
theorem dX3_chosenSet_106 : decode cX3_chosenSet 106 = .ok (.iload_n 1, 1) := by decide +kernel
theorem dX3_chosenSet_107 : decode cX3_chosenSet 107 = .ok (.iaload, 1) := by decide +kernel
theorem dX3_chosenSet_108 : decode cX3_chosenSet 108 = .ok (.iload_n 1, 1) := by decide +kernel
theorem dX3_chosenSet_109 : decode cX3_chosenSet 109 = .ok (.invokevirtual 113, 3) := by decide +kernel
theorem dX3_chosenSet_112 : decode cX3_chosenSet 112 = .ok (.ireturn, 1) := by decide +kernel
theorem dX3_leastFitOf_0 : decode cX3_leastFitOf 0 = .ok (.aload_n 0, 1) := by decide +kernel
theorem dX3_leastFitOf_1 : decode cX3_leastFitOf 1 = .ok (.iload_n 1, 1) := by decide +kernel
theorem dX3_leastFitOf_2 : decode cX3_leastFitOf 2 = .ok (.iconst (-1), 1) := by decide +kernel
theorem dX3_leastFitOf_3 : decode cX3_leastFitOf 3 = .ok (.aload_n 0, 1) := by decide +kernel
theorem dX3_leastFitOf_4 : decode cX3_leastFitOf 4 = .ok (.iload_n 2, 1) := by decide +kernel
theorem dX3_leastFitOf_5 : decode cX3_leastFitOf 5 = .ok (.invokevirtual 84, 3) := by decide +kernel
theorem dX3_leastFitOf_8 : decode cX3_leastFitOf 8 = .ok (.aload_n 0, 1) := by decide +kernel
theorem dX3_leastFitOf_9 : decode cX3_leastFitOf 9 = .ok (.getfield 37, 3) := by decide +kernel
theorem dX3_leastFitOf_12 : decode cX3_leastFitOf 12 = .ok (.iload_n 2, 1) := by decide +kernel
theorem dX3_leastFitOf_13 : decode cX3_leastFitOf 13 = .ok (.iaload, 1) := by decide +kernel
theorem dX3_leastFitOf_14 : decode cX3_leastFitOf 14 = .ok (.isub, 1) := by decide +kernel
theorem dX3_leastFitOf_15 : decode cX3_leastFitOf 15 = .ok (.aload_n 0, 1) := by decide +kernel
theorem dX3_leastFitOf_16 : decode cX3_leastFitOf 16 = .ok (.iload_n 2, 1) := by decide +kernel
theorem dX3_leastFitOf_17 : decode cX3_leastFitOf 17 = .ok (.invokevirtual 87, 3) := by decide +kernel
theorem dX3_leastFitOf_20 : decode cX3_leastFitOf 20 = .ok (.invokevirtual 100, 3) := by decide +kernel
theorem dX3_leastFitOf_23 : decode cX3_leastFitOf 23 = .ok (.ireturn, 1) := by decide +kernel
theorem dX3_cheapestFit_0 : decode cX3_cheapestFit 0 = .ok (.aload_n 0, 1) := by decide +kernel
theorem dX3_cheapestFit_1 : decode cX3_cheapestFit 1 = .ok (.iload_n 1, 1) := by decide +kernel
theorem dX3_cheapestFit_2 : decode cX3_cheapestFit 2 = .ok (.invokevirtual 84, 3) := by decide +kernel
theorem dX3_cheapestFit_5 : decode cX3_cheapestFit 5 = .ok (.aload_n 0, 1) := by decide +kernel
theorem dX3_cheapestFit_6 : decode cX3_cheapestFit 6 = .ok (.getfield 37, 3) := by decide +kernel
theorem dX3_cheapestFit_9 : decode cX3_cheapestFit 9 = .ok (.iload_n 1, 1) := by decide +kernel
theorem dX3_cheapestFit_10 : decode cX3_cheapestFit 10 = .ok (.iaload, 1) := by decide +kernel
theorem dX3_cheapestFit_11 : decode cX3_cheapestFit 11 = .ok (.isub, 1) := by decide +kernel
theorem dX3_cheapestFit_12 : decode cX3_cheapestFit 12 = .ok (.istore_n 2, 1) := by decide +kernel
theorem dX3_cheapestFit_13 : decode cX3_cheapestFit 13 = .ok (.aload_n 0, 1) := by decide +kernel
theorem dX3_cheapestFit_14 : decode cX3_cheapestFit 14 = .ok (.iload_n 1, 1) := by decide +kernel
theorem dX3_cheapestFit_15 : decode cX3_cheapestFit 15 = .ok (.invokevirtual 87, 3) := by decide +kernel
theorem dX3_cheapestFit_18 : decode cX3_cheapestFit 18 = .ok (.istore_n 3, 1) := by decide +kernel
theorem dX3_cheapestFit_19 : decode cX3_cheapestFit 19 = .ok (.iconst (-1), 1) := by decide +kernel
theorem dX3_cheapestFit_20 : decode cX3_cheapestFit 20 = .ok (.istore 4, 2) := by decide +kernel
theorem dX3_cheapestFit_22 : decode cX3_cheapestFit 22 = .ok (.iconst 0, 1) := by decide +kernel
theorem dX3_cheapestFit_23 : decode cX3_cheapestFit 23 = .ok (.istore 5, 2) := by decide +kernel
theorem dX3_cheapestFit_25 : decode cX3_cheapestFit 25 = .ok (.aload_n 0, 1) := by decide +kernel
theorem dX3_cheapestFit_26 : decode cX3_cheapestFit 26 = .ok (.aload_n 0, 1) := by decide +kernel
theorem dX3_cheapestFit_27 : decode cX3_cheapestFit 27 = .ok (.getfield 46, 3) := by decide +kernel
theorem dX3_cheapestFit_30 : decode cX3_cheapestFit 30 = .ok (.iload_n 1, 1) := by decide +kernel
theorem dX3_cheapestFit_31 : decode cX3_cheapestFit 31 = .ok (.iaload, 1) := by decide +kernel
theorem dX3_cheapestFit_32 : decode cX3_cheapestFit 32 = .ok (.iconst (-1), 1) := by decide +kernel
theorem dX3_cheapestFit_33 : decode cX3_cheapestFit 33 = .ok (.iload_n 2, 1) := by decide +kernel
theorem dX3_cheapestFit_34 : decode cX3_cheapestFit 34 = .ok (.iload_n 3, 1) := by decide +kernel
theorem dX3_cheapestFit_35 : decode cX3_cheapestFit 35 = .ok (.invokevirtual 100, 3) := by decide +kernel
theorem dX3_cheapestFit_38 : decode cX3_cheapestFit 38 = .ok (.istore 6, 2) := by decide +kernel
theorem dX3_cheapestFit_40 : decode cX3_cheapestFit 40 = .ok (.iconst 0, 1) := by decide +kernel
theorem dX3_cheapestFit_41 : decode cX3_cheapestFit 41 = .ok (.istore 7, 2) := by decide +kernel
theorem dX3_cheapestFit_43 : decode cX3_cheapestFit 43 = .ok (.iload 7, 2) := by decide +kernel
theorem dX3_cheapestFit_45 : decode cX3_cheapestFit 45 = .ok (.sipush 4096, 3) := by decide +kernel
theorem dX3_cheapestFit_48 : decode cX3_cheapestFit 48 = .ok (.if_icmp .ge 78, 3) := by decide +kernel
theorem dX3_cheapestFit_51 : decode cX3_cheapestFit 51 = .ok (.iload 6, 2) := by decide +kernel
theorem dX3_cheapestFit_53 : decode cX3_cheapestFit 53 = .ok (.iconst (-1), 1) := by decide +kernel
theorem dX3_cheapestFit_54 : decode cX3_cheapestFit 54 = .ok (.if_icmp .eq 72, 3) := by decide +kernel
theorem dX3_cheapestFit_57 : decode cX3_cheapestFit 57 = .ok (.aload_n 0, 1) := by decide +kernel
theorem dX3_cheapestFit_58 : decode cX3_cheapestFit 58 = .ok (.getfield 30, 3) := by decide +kernel
theorem dX3_cheapestFit_61 : decode cX3_cheapestFit 61 = .ok (.iload_n 1, 1) := by decide +kernel
theorem dX3_cheapestFit_62 : decode cX3_cheapestFit 62 = .ok (.iaload, 1) := by decide +kernel
theorem dX3_cheapestFit_63 : decode cX3_cheapestFit 63 = .ok (.iconst 1, 1) := by decide +kernel
theorem dX3_cheapestFit_64 : decode cX3_cheapestFit 64 = .ok (.if_icmp .ne 12, 3) := by decide +kernel
theorem dX3_cheapestFit_67 : decode cX3_cheapestFit 67 = .ok (.aload_n 0, 1) := by decide +kernel
theorem dX3_cheapestFit_68 : decode cX3_cheapestFit 68 = .ok (.iload 6, 2) := by decide +kernel
theorem dX3_cheapestFit_70 : decode cX3_cheapestFit 70 = .ok (.invokevirtual 119, 3) := by decide +kernel
theorem dX3_cheapestFit_73 : decode cX3_cheapestFit 73 = .ok (.goto 8, 3) := by decide +kernel
theorem dX3_cheapestFit_76 : decode cX3_cheapestFit 76 = .ok (.iload 6, 2) := by decide +kernel
theorem dX3_cheapestFit_78 : decode cX3_cheapestFit 78 = .ok (.invokestatic 122, 3) := by decide +kernel
theorem dX3_cheapestFit_81 : decode cX3_cheapestFit 81 = .ok (.istore 8, 2) := by decide +kernel
theorem dX3_cheapestFit_83 : decode cX3_cheapestFit 83 = .ok (.iload 4, 2) := by decide +kernel
theorem dX3_cheapestFit_85 : decode cX3_cheapestFit 85 = .ok (.iconst (-1), 1) := by decide +kernel
theorem dX3_cheapestFit_86 : decode cX3_cheapestFit 86 = .ok (.if_icmp .eq 10, 3) := by decide +kernel
theorem dX3_cheapestFit_89 : decode cX3_cheapestFit 89 = .ok (.iload 8, 2) := by decide +kernel
theorem dX3_cheapestFit_91 : decode cX3_cheapestFit 91 = .ok (.iload 5, 2) := by decide +kernel
theorem dX3_cheapestFit_93 : decode cX3_cheapestFit 93 = .ok (.if_icmp .ge 11, 3) := by decide +kernel
theorem dX3_cheapestFit_96 : decode cX3_cheapestFit 96 = .ok (.iload 6, 2) := by decide +kernel
theorem dX3_cheapestFit_98 : decode cX3_cheapestFit 98 = .ok (.istore 4, 2) := by decide +kernel
theorem dX3_cheapestFit_100 : decode cX3_cheapestFit 100 = .ok (.iload 8, 2) := by decide +kernel
theorem dX3_cheapestFit_102 : decode cX3_cheapestFit 102 = .ok (.istore 5, 2) := by decide +kernel
theorem dX3_cheapestFit_104 : decode cX3_cheapestFit 104 = .ok (.aload_n 0, 1) := by decide +kernel
theorem dX3_cheapestFit_105 : decode cX3_cheapestFit 105 = .ok (.aload_n 0, 1) := by decide +kernel
theorem dX3_cheapestFit_106 : decode cX3_cheapestFit 106 = .ok (.getfield 46, 3) := by decide +kernel
theorem dX3_cheapestFit_109 : decode cX3_cheapestFit 109 = .ok (.iload_n 1, 1) := by decide +kernel
theorem dX3_cheapestFit_110 : decode cX3_cheapestFit 110 = .ok (.iaload, 1) := by decide +kernel
theorem dX3_cheapestFit_111 : decode cX3_cheapestFit 111 = .ok (.iload 6, 2) := by decide +kernel
theorem dX3_cheapestFit_113 : decode cX3_cheapestFit 113 = .ok (.iload_n 2, 1) := by decide +kernel
theorem dX3_cheapestFit_114 : decode cX3_cheapestFit 114 = .ok (.iload_n 3, 1) := by decide +kernel
theorem dX3_cheapestFit_115 : decode cX3_cheapestFit 115 = .ok (.invokevirtual 100, 3) := by decide +kernel
theorem dX3_cheapestFit_118 : decode cX3_cheapestFit 118 = .ok (.istore 6, 2) := by decide +kernel
theorem dX3_cheapestFit_120 : decode cX3_cheapestFit 120 = .ok (.iinc 7 1, 3) := by decide +kernel
theorem dX3_cheapestFit_123 : decode cX3_cheapestFit 123 = .ok (.goto (-80), 3) := by decide +kernel
theorem dX3_cheapestFit_126 : decode cX3_cheapestFit 126 = .ok (.iload 4, 2) := by decide +kernel
theorem dX3_cheapestFit_128 : decode cX3_cheapestFit 128 = .ok (.ireturn, 1) := by decide +kernel
theorem dX3_waits_0 : decode cX3_waits 0 = .ok (.aload_n 0, 1) := by decide +kernel
theorem dX3_waits_1 : decode cX3_waits 1 = .ok (.getfield 30, 3) := by decide +kernel
theorem dX3_waits_4 : decode cX3_waits 4 = .ok (.iload_n 1, 1) := by decide +kernel
theorem dX3_waits_5 : decode cX3_waits 5 = .ok (.iaload, 1) := by decide +kernel
theorem dX3_waits_6 : decode cX3_waits 6 = .ok (.iconst 4, 1) := by decide +kernel
theorem dX3_waits_7 : decode cX3_waits 7 = .ok (.if_icmp .ne 20, 3) := by decide +kernel
theorem dX3_waits_10 : decode cX3_waits 10 = .ok (.aload_n 0, 1) := by decide +kernel
theorem dX3_waits_11 : decode cX3_waits 11 = .ok (.getfield 24, 3) := by decide +kernel
theorem dX3_waits_14 : decode cX3_waits 14 = .ok (.aload_n 0, 1) := by decide +kernel
theorem dX3_waits_15 : decode cX3_waits 15 = .ok (.getfield 34, 3) := by decide +kernel
theorem dX3_waits_18 : decode cX3_waits 18 = .ok (.iload_n 1, 1) := by decide +kernel
theorem dX3_waits_19 : decode cX3_waits 19 = .ok (.iaload, 1) := by decide +kernel
theorem dX3_waits_20 : decode cX3_waits 20 = .ok (.if_icmp .ge 7, 3) := by decide +kernel
theorem dX3_waits_23 : decode cX3_waits 23 = .ok (.iconst 1, 1) := by decide +kernel
theorem dX3_waits_24 : decode cX3_waits 24 = .ok (.goto 4, 3) := by decide +kernel
theorem dX3_waits_27 : decode cX3_waits 27 = .ok (.iconst 0, 1) := by decide +kernel
theorem dX3_waits_28 : decode cX3_waits 28 = .ok (.ireturn, 1) := by decide +kernel
theorem dX3_someoneWaits_0 : decode cX3_someoneWaits 0 = .ok (.iconst 0, 1) := by decide +kernel
theorem dX3_someoneWaits_1 : decode cX3_someoneWaits 1 = .ok (.istore_n 1, 1) := by decide +kernel
theorem dX3_someoneWaits_2 : decode cX3_someoneWaits 2 = .ok (.iload_n 1, 1) := by decide +kernel
theorem dX3_someoneWaits_3 : decode cX3_someoneWaits 3 = .ok (.aload_n 0, 1) := by decide +kernel
theorem dX3_someoneWaits_4 : decode cX3_someoneWaits 4 = .ok (.getfield 9, 3) := by decide +kernel
theorem dX3_someoneWaits_7 : decode cX3_someoneWaits 7 = .ok (.if_icmp .ge 28, 3) := by decide +kernel
theorem dX3_someoneWaits_10 : decode cX3_someoneWaits 10 = .ok (.aload_n 0, 1) := by decide +kernel
theorem dX3_someoneWaits_11 : decode cX3_someoneWaits 11 = .ok (.getfield 40, 3) := by decide +kernel
theorem dX3_someoneWaits_14 : decode cX3_someoneWaits 14 = .ok (.iload_n 1, 1) := by decide +kernel
theorem dX3_someoneWaits_15 : decode cX3_someoneWaits 15 = .ok (.iaload, 1) := by decide +kernel
theorem dX3_someoneWaits_16 : decode cX3_someoneWaits 16 = .ok (.ifCond .le 13, 3) := by decide +kernel
theorem dX3_someoneWaits_19 : decode cX3_someoneWaits 19 = .ok (.aload_n 0, 1) := by decide +kernel
theorem dX3_someoneWaits_20 : decode cX3_someoneWaits 20 = .ok (.iload_n 1, 1) := by decide +kernel
theorem dX3_someoneWaits_21 : decode cX3_someoneWaits 21 = .ok (.invokevirtual 116, 3) := by decide +kernel
theorem dX3_someoneWaits_24 : decode cX3_someoneWaits 24 = .ok (.ifCond .eq 5, 3) := by decide +kernel
theorem dX3_someoneWaits_27 : decode cX3_someoneWaits 27 = .ok (.iconst 1, 1) := by decide +kernel
theorem dX3_someoneWaits_28 : decode cX3_someoneWaits 28 = .ok (.ireturn, 1) := by decide +kernel
theorem dX3_someoneWaits_29 : decode cX3_someoneWaits 29 = .ok (.iinc 1 1, 3) := by decide +kernel
theorem dX3_someoneWaits_32 : decode cX3_someoneWaits 32 = .ok (.goto (-30), 3) := by decide +kernel
theorem dX3_someoneWaits_35 : decode cX3_someoneWaits 35 = .ok (.iconst 0, 1) := by decide +kernel
theorem dX3_someoneWaits_36 : decode cX3_someoneWaits 36 = .ok (.ireturn, 1) := by decide +kernel
theorem dX3_somethingDries_0 : decode cX3_somethingDries 0 = .ok (.iconst 0, 1) := by decide +kernel
theorem dX3_somethingDries_1 : decode cX3_somethingDries 1 = .ok (.istore_n 1, 1) := by decide +kernel
theorem dX3_somethingDries_2 : decode cX3_somethingDries 2 = .ok (.iload_n 1, 1) := by decide +kernel
theorem dX3_somethingDries_3 : decode cX3_somethingDries 3 = .ok (.aload_n 0, 1) := by decide +kernel
theorem dX3_somethingDries_4 : decode cX3_somethingDries 4 = .ok (.getfield 15, 3) := by decide +kernel
theorem dX3_somethingDries_7 : decode cX3_somethingDries 7 = .ok (.if_icmp .ge 33, 3) := by decide +kernel
theorem dX3_somethingDries_10 : decode cX3_somethingDries 10 = .ok (.aload_n 0, 1) := by decide +kernel
theorem dX3_somethingDries_11 : decode cX3_somethingDries 11 = .ok (.getfield 27, 3) := by decide +kernel
theorem dX3_somethingDries_14 : decode cX3_somethingDries 14 = .ok (.iload_n 1, 1) := by decide +kernel
theorem dX3_somethingDries_15 : decode cX3_somethingDries 15 = .ok (.iushr, 1) := by decide +kernel
theorem dX3_somethingDries_16 : decode cX3_somethingDries 16 = .ok (.iconst 1, 1) := by decide +kernel
theorem dX3_somethingDries_17 : decode cX3_somethingDries 17 = .ok (.iand, 1) := by decide +kernel
theorem dX3_somethingDries_18 : decode cX3_somethingDries 18 = .ok (.iconst 1, 1) := by decide +kernel
theorem dX3_somethingDries_19 : decode cX3_somethingDries 19 = .ok (.if_icmp .ne 15, 3) := by decide +kernel
theorem dX3_somethingDries_22 : decode cX3_somethingDries 22 = .ok (.aload_n 0, 1) := by decide +kernel
theorem dX3_somethingDries_23 : decode cX3_somethingDries 23 = .ok (.getfield 49, 3) := by decide +kernel
theorem dX3_somethingDries_26 : decode cX3_somethingDries 26 = .ok (.iload_n 1, 1) := by decide +kernel
theorem dX3_somethingDries_27 : decode cX3_somethingDries 27 = .ok (.iaload, 1) := by decide +kernel
theorem dX3_somethingDries_28 : decode cX3_somethingDries 28 = .ok (.iconst 1, 1) := by decide +kernel
theorem dX3_somethingDries_29 : decode cX3_somethingDries 29 = .ok (.if_icmp .le 5, 3) := by decide +kernel
theorem dX3_somethingDries_32 : decode cX3_somethingDries 32 = .ok (.iconst 1, 1) := by decide +kernel
theorem dX3_somethingDries_33 : decode cX3_somethingDries 33 = .ok (.ireturn, 1) := by decide +kernel
theorem dX3_somethingDries_34 : decode cX3_somethingDries 34 = .ok (.iinc 1 1, 3) := by decide +kernel
theorem dX3_somethingDries_37 : decode cX3_somethingDries 37 = .ok (.goto (-35), 3) := by decide +kernel
theorem dX3_somethingDries_40 : decode cX3_somethingDries 40 = .ok (.iconst 0, 1) := by decide +kernel
theorem dX3_somethingDries_41 : decode cX3_somethingDries 41 = .ok (.ireturn, 1) := by decide +kernel
theorem dX3_endDay_0 : decode cX3_endDay 0 = .ok (.iconst 0, 1) := by decide +kernel
theorem dX3_endDay_1 : decode cX3_endDay 1 = .ok (.istore_n 1, 1) := by decide +kernel
theorem dX3_endDay_2 : decode cX3_endDay 2 = .ok (.iload_n 1, 1) := by decide +kernel
theorem dX3_endDay_3 : decode cX3_endDay 3 = .ok (.aload_n 0, 1) := by decide +kernel
theorem dX3_endDay_4 : decode cX3_endDay 4 = .ok (.getfield 15, 3) := by decide +kernel
theorem dX3_endDay_7 : decode cX3_endDay 7 = .ok (.if_icmp .ge 41, 3) := by decide +kernel
theorem dX3_endDay_10 : decode cX3_endDay 10 = .ok (.aload_n 0, 1) := by decide +kernel
theorem dX3_endDay_11 : decode cX3_endDay 11 = .ok (.getfield 27, 3) := by decide +kernel
theorem dX3_endDay_14 : decode cX3_endDay 14 = .ok (.iload_n 1, 1) := by decide +kernel
theorem dX3_endDay_15 : decode cX3_endDay 15 = .ok (.iushr, 1) := by decide +kernel
theorem dX3_endDay_16 : decode cX3_endDay 16 = .ok (.iconst 1, 1) := by decide +kernel
theorem dX3_endDay_17 : decode cX3_endDay 17 = .ok (.iand, 1) := by decide +kernel
theorem dX3_endDay_18 : decode cX3_endDay 18 = .ok (.iconst 1, 1) := by decide +kernel
theorem dX3_endDay_19 : decode cX3_endDay 19 = .ok (.if_icmp .ne 23, 3) := by decide +kernel
theorem dX3_endDay_22 : decode cX3_endDay 22 = .ok (.aload_n 0, 1) := by decide +kernel
theorem dX3_endDay_23 : decode cX3_endDay 23 = .ok (.getfield 49, 3) := by decide +kernel
theorem dX3_endDay_26 : decode cX3_endDay 26 = .ok (.iload_n 1, 1) := by decide +kernel
theorem dX3_endDay_27 : decode cX3_endDay 27 = .ok (.iaload, 1) := by decide +kernel
theorem dX3_endDay_28 : decode cX3_endDay 28 = .ok (.iconst 1, 1) := by decide +kernel
theorem dX3_endDay_29 : decode cX3_endDay 29 = .ok (.if_icmp .le 13, 3) := by decide +kernel
theorem dX3_endDay_32 : decode cX3_endDay 32 = .ok (.aload_n 0, 1) := by decide +kernel
theorem dX3_endDay_33 : decode cX3_endDay 33 = .ok (.getfield 49, 3) := by decide +kernel
theorem dX3_endDay_36 : decode cX3_endDay 36 = .ok (.iload_n 1, 1) := by decide +kernel
theorem dX3_endDay_37 : decode cX3_endDay 37 = .ok (.dup2, 1) := by decide +kernel
theorem dX3_endDay_38 : decode cX3_endDay 38 = .ok (.iaload, 1) := by decide +kernel
theorem dX3_endDay_39 : decode cX3_endDay 39 = .ok (.iconst 1, 1) := by decide +kernel
theorem dX3_endDay_40 : decode cX3_endDay 40 = .ok (.isub, 1) := by decide +kernel
theorem dX3_endDay_41 : decode cX3_endDay 41 = .ok (.iastore, 1) := by decide +kernel
theorem dX3_endDay_42 : decode cX3_endDay 42 = .ok (.iinc 1 1, 3) := by decide +kernel
theorem dX3_endDay_45 : decode cX3_endDay 45 = .ok (.goto (-43), 3) := by decide +kernel
theorem dX3_endDay_48 : decode cX3_endDay 48 = .ok (.aload_n 0, 1) := by decide +kernel
theorem dX3_endDay_49 : decode cX3_endDay 49 = .ok (.invokevirtual 67, 3) := by decide +kernel
theorem dX3_endDay_52 : decode cX3_endDay 52 = .ok (.aload_n 0, 1) := by decide +kernel
theorem dX3_endDay_53 : decode cX3_endDay 53 = .ok (.dup, 1) := by decide +kernel
theorem dX3_endDay_54 : decode cX3_endDay 54 = .ok (.getfield 24, 3) := by decide +kernel
theorem dX3_endDay_57 : decode cX3_endDay 57 = .ok (.iconst 1, 1) := by decide +kernel
theorem dX3_endDay_58 : decode cX3_endDay 58 = .ok (.iadd, 1) := by decide +kernel
theorem dX3_endDay_59 : decode cX3_endDay 59 = .ok (.putfield 24, 3) := by decide +kernel
theorem dX3_endDay_62 : decode cX3_endDay 62 = .ok (.return_, 1) := by decide +kernel
theorem dX3_hand_0 : decode cX3_hand 0 = .ok (.aload_n 0, 1) := by decide +kernel
theorem dX3_hand_1 : decode cX3_hand 1 = .ok (.getfield 46, 3) := by decide +kernel
theorem dX3_hand_4 : decode cX3_hand 4 = .ok (.iload_n 1, 1) := by decide +kernel
theorem dX3_hand_5 : decode cX3_hand 5 = .ok (.dup2, 1) := by decide +kernel
theorem dX3_hand_6 : decode cX3_hand 6 = .ok (.iaload, 1) := by decide +kernel
theorem dX3_hand_7 : decode cX3_hand 7 = .ok (.iload_n 2, 1) := by decide +kernel
theorem dX3_hand_8 : decode cX3_hand 8 = .ok (.iconst (-1), 1) := by decide +kernel
theorem dX3_hand_9 : decode cX3_hand 9 = .ok (.ixor, 1) := by decide +kernel
theorem dX3_hand_10 : decode cX3_hand 10 = .ok (.iand, 1) := by decide +kernel
theorem dX3_hand_11 : decode cX3_hand 11 = .ok (.iastore, 1) := by decide +kernel
theorem dX3_hand_12 : decode cX3_hand 12 = .ok (.aload_n 0, 1) := by decide +kernel
theorem dX3_hand_13 : decode cX3_hand 13 = .ok (.getfield 46, 3) := by decide +kernel
theorem dX3_hand_16 : decode cX3_hand 16 = .ok (.iload 4, 2) := by decide +kernel
theorem dX3_hand_18 : decode cX3_hand 18 = .ok (.dup2, 1) := by decide +kernel
theorem dX3_hand_19 : decode cX3_hand 19 = .ok (.iaload, 1) := by decide +kernel
theorem dX3_hand_20 : decode cX3_hand 20 = .ok (.iload_n 2, 1) := by decide +kernel
theorem dX3_hand_21 : decode cX3_hand 21 = .ok (.ior, 1) := by decide +kernel
theorem dX3_hand_22 : decode cX3_hand 22 = .ok (.iastore, 1) := by decide +kernel
theorem dX3_hand_23 : decode cX3_hand 23 = .ok (.aload_n 0, 1) := by decide +kernel
theorem dX3_hand_24 : decode cX3_hand 24 = .ok (.getfield 37, 3) := by decide +kernel
theorem dX3_hand_27 : decode cX3_hand 27 = .ok (.iload_n 1, 1) := by decide +kernel
theorem dX3_hand_28 : decode cX3_hand 28 = .ok (.dup2, 1) := by decide +kernel
theorem dX3_hand_29 : decode cX3_hand 29 = .ok (.iaload, 1) := by decide +kernel
theorem dX3_hand_30 : decode cX3_hand 30 = .ok (.iload_n 3, 1) := by decide +kernel
theorem dX3_hand_31 : decode cX3_hand 31 = .ok (.isub, 1) := by decide +kernel
theorem dX3_hand_32 : decode cX3_hand 32 = .ok (.iastore, 1) := by decide +kernel
theorem dX3_hand_33 : decode cX3_hand 33 = .ok (.aload_n 0, 1) := by decide +kernel
theorem dX3_hand_34 : decode cX3_hand 34 = .ok (.getfield 37, 3) := by decide +kernel
theorem dX3_hand_37 : decode cX3_hand 37 = .ok (.iload 4, 2) := by decide +kernel
theorem dX3_hand_39 : decode cX3_hand 39 = .ok (.dup2, 1) := by decide +kernel
theorem dX3_hand_40 : decode cX3_hand 40 = .ok (.iaload, 1) := by decide +kernel
theorem dX3_hand_41 : decode cX3_hand 41 = .ok (.iload_n 3, 1) := by decide +kernel
theorem dX3_hand_42 : decode cX3_hand 42 = .ok (.iadd, 1) := by decide +kernel
theorem dX3_hand_43 : decode cX3_hand 43 = .ok (.iastore, 1) := by decide +kernel
theorem dX3_hand_44 : decode cX3_hand 44 = .ok (.return_, 1) := by decide +kernel
theorem dX3_makeGift_0 : decode cX3_makeGift 0 = .ok (.aload_n 0, 1) := by decide +kernel
theorem dX3_makeGift_1 : decode cX3_makeGift 1 = .ok (.iload_n 1, 1) := by decide +kernel
theorem dX3_makeGift_2 : decode cX3_makeGift 2 = .ok (.iload_n 2, 1) := by decide +kernel
theorem dX3_makeGift_3 : decode cX3_makeGift 3 = .ok (.iload_n 3, 1) := by decide +kernel
theorem dX3_makeGift_4 : decode cX3_makeGift 4 = .ok (.iload 4, 2) := by decide +kernel
theorem dX3_makeGift_6 : decode cX3_makeGift 6 = .ok (.invokevirtual 127, 3) := by decide +kernel
theorem dX3_makeGift_9 : decode cX3_makeGift 9 = .ok (.aload_n 0, 1) := by decide +kernel
theorem dX3_makeGift_10 : decode cX3_makeGift 10 = .ok (.getfield 40, 3) := by decide +kernel
theorem dX3_makeGift_13 : decode cX3_makeGift 13 = .ok (.iload_n 1, 1) := by decide +kernel
theorem dX3_makeGift_14 : decode cX3_makeGift 14 = .ok (.iconst 0, 1) := by decide +kernel
theorem dX3_makeGift_15 : decode cX3_makeGift 15 = .ok (.iastore, 1) := by decide +kernel
theorem dX3_makeGift_16 : decode cX3_makeGift 16 = .ok (.aload_n 0, 1) := by decide +kernel
theorem dX3_makeGift_17 : decode cX3_makeGift 17 = .ok (.getfield 43, 3) := by decide +kernel
theorem dX3_makeGift_20 : decode cX3_makeGift 20 = .ok (.iload_n 1, 1) := by decide +kernel
theorem dX3_makeGift_21 : decode cX3_makeGift 21 = .ok (.iconst (-1), 1) := by decide +kernel
theorem dX3_makeGift_22 : decode cX3_makeGift 22 = .ok (.iastore, 1) := by decide +kernel
theorem dX3_makeGift_23 : decode cX3_makeGift 23 = .ok (.aload_n 0, 1) := by decide +kernel
theorem dX3_makeGift_24 : decode cX3_makeGift 24 = .ok (.getfield 40, 3) := by decide +kernel
theorem dX3_makeGift_27 : decode cX3_makeGift 27 = .ok (.iload 4, 2) := by decide +kernel
theorem dX3_makeGift_29 : decode cX3_makeGift 29 = .ok (.aload_n 0, 1) := by decide +kernel
theorem dX3_makeGift_30 : decode cX3_makeGift 30 = .ok (.iload_n 2, 1) := by decide +kernel
theorem dX3_makeGift_31 : decode cX3_makeGift 31 = .ok (.invokevirtual 80, 3) := by decide +kernel
theorem dX3_makeGift_34 : decode cX3_makeGift 34 = .ok (.iload_n 3, 1) := by decide +kernel
theorem dX3_makeGift_35 : decode cX3_makeGift 35 = .ok (.iadd, 1) := by decide +kernel
theorem dX3_makeGift_36 : decode cX3_makeGift 36 = .ok (.iastore, 1) := by decide +kernel
theorem dX3_makeGift_37 : decode cX3_makeGift 37 = .ok (.aload_n 0, 1) := by decide +kernel
theorem dX3_makeGift_38 : decode cX3_makeGift 38 = .ok (.getfield 43, 3) := by decide +kernel
theorem dX3_makeGift_41 : decode cX3_makeGift 41 = .ok (.iload 4, 2) := by decide +kernel
theorem dX3_makeGift_43 : decode cX3_makeGift 43 = .ok (.aload_n 0, 1) := by decide +kernel
theorem dX3_makeGift_44 : decode cX3_makeGift 44 = .ok (.getfield 18, 3) := by decide +kernel
theorem dX3_makeGift_47 : decode cX3_makeGift 47 = .ok (.ifCond .ne 7, 3) := by decide +kernel
theorem dX3_makeGift_50 : decode cX3_makeGift 50 = .ok (.iload_n 1, 1) := by decide +kernel
theorem dX3_makeGift_51 : decode cX3_makeGift 51 = .ok (.goto 4, 3) := by decide +kernel
theorem dX3_makeGift_54 : decode cX3_makeGift 54 = .ok (.iconst (-1), 1) := by decide +kernel
theorem dX3_makeGift_55 : decode cX3_makeGift 55 = .ok (.iastore, 1) := by decide +kernel
theorem dX3_makeGift_56 : decode cX3_makeGift 56 = .ok (.return_, 1) := by decide +kernel
theorem dX3_giveByChoice_0 : decode cX3_giveByChoice 0 = .ok (.aload_n 0, 1) := by decide +kernel
theorem dX3_giveByChoice_1 : decode cX3_giveByChoice 1 = .ok (.iload_n 1, 1) := by decide +kernel
theorem dX3_giveByChoice_2 : decode cX3_giveByChoice 2 = .ok (.invokevirtual 131, 3) := by decide +kernel
theorem dX3_giveByChoice_5 : decode cX3_giveByChoice 5 = .ok (.istore_n 2, 1) := by decide +kernel
theorem dX3_giveByChoice_6 : decode cX3_giveByChoice 6 = .ok (.iload_n 2, 1) := by decide +kernel
theorem dX3_giveByChoice_7 : decode cX3_giveByChoice 7 = .ok (.iconst (-1), 1) := by decide +kernel
theorem dX3_giveByChoice_8 : decode cX3_giveByChoice 8 = .ok (.if_icmp .ne 5, 3) := by decide +kernel
theorem dX3_giveByChoice_11 : decode cX3_giveByChoice 11 = .ok (.iconst 0, 1) := by decide +kernel
theorem dX3_giveByChoice_12 : decode cX3_giveByChoice 12 = .ok (.ireturn, 1) := by decide +kernel
theorem dX3_giveByChoice_13 : decode cX3_giveByChoice 13 = .ok (.aload_n 0, 1) := by decide +kernel
theorem dX3_giveByChoice_14 : decode cX3_giveByChoice 14 = .ok (.iload_n 1, 1) := by decide +kernel
theorem dX3_giveByChoice_15 : decode cX3_giveByChoice 15 = .ok (.iload_n 2, 1) := by decide +kernel
theorem dX3_giveByChoice_16 : decode cX3_giveByChoice 16 = .ok (.aload_n 0, 1) := by decide +kernel
theorem dX3_giveByChoice_17 : decode cX3_giveByChoice 17 = .ok (.iload_n 1, 1) := by decide +kernel
theorem dX3_giveByChoice_18 : decode cX3_giveByChoice 18 = .ok (.iload_n 2, 1) := by decide +kernel
theorem dX3_giveByChoice_19 : decode cX3_giveByChoice 19 = .ok (.invokevirtual 134, 3) := by decide +kernel
theorem dX3_giveByChoice_22 : decode cX3_giveByChoice 22 = .ok (.aload_n 0, 1) := by decide +kernel
theorem dX3_giveByChoice_23 : decode cX3_giveByChoice 23 = .ok (.iload_n 1, 1) := by decide +kernel
theorem dX3_giveByChoice_24 : decode cX3_giveByChoice 24 = .ok (.invokevirtual 137, 3) := by decide +kernel
theorem dX3_giveByChoice_27 : decode cX3_giveByChoice 27 = .ok (.invokevirtual 140, 3) := by decide +kernel
theorem dX3_giveByChoice_30 : decode cX3_giveByChoice 30 = .ok (.iconst 1, 1) := by decide +kernel
theorem dX3_giveByChoice_31 : decode cX3_giveByChoice 31 = .ok (.ireturn, 1) := by decide +kernel
theorem dX3_nearestOff_0 : decode cX3_nearestOff 0 = .ok (.iconst (-1), 1) := by decide +kernel
theorem dX3_nearestOff_1 : decode cX3_nearestOff 1 = .ok (.istore_n 2, 1) := by decide +kernel
theorem dX3_nearestOff_2 : decode cX3_nearestOff 2 = .ok (.iconst 0, 1) := by decide +kernel
theorem dX3_nearestOff_3 : decode cX3_nearestOff 3 = .ok (.istore_n 3, 1) := by decide +kernel
theorem dX3_nearestOff_4 : decode cX3_nearestOff 4 = .ok (.iconst 0, 1) := by decide +kernel
theorem dX3_nearestOff_5 : decode cX3_nearestOff 5 = .ok (.istore 4, 2) := by decide +kernel
theorem dX3_nearestOff_7 : decode cX3_nearestOff 7 = .ok (.iload 4, 2) := by decide +kernel
theorem dX3_nearestOff_9 : decode cX3_nearestOff 9 = .ok (.sipush 4096, 3) := by decide +kernel
theorem dX3_nearestOff_12 : decode cX3_nearestOff 12 = .ok (.if_icmp .ge 93, 3) := by decide +kernel
theorem dX3_nearestOff_15 : decode cX3_nearestOff 15 = .ok (.aload_n 0, 1) := by decide +kernel
theorem dX3_nearestOff_16 : decode cX3_nearestOff 16 = .ok (.iload_n 3, 1) := by decide +kernel
theorem dX3_nearestOff_17 : decode cX3_nearestOff 17 = .ok (.invokevirtual 80, 3) := by decide +kernel
theorem dX3_nearestOff_20 : decode cX3_nearestOff 20 = .ok (.istore 5, 2) := by decide +kernel
theorem dX3_nearestOff_22 : decode cX3_nearestOff 22 = .ok (.iload 5, 2) := by decide +kernel
theorem dX3_nearestOff_24 : decode cX3_nearestOff 24 = .ok (.aload_n 0, 1) := by decide +kernel
theorem dX3_nearestOff_25 : decode cX3_nearestOff 25 = .ok (.getfield 37, 3) := by decide +kernel
theorem dX3_nearestOff_28 : decode cX3_nearestOff 28 = .ok (.iload_n 1, 1) := by decide +kernel
theorem dX3_nearestOff_29 : decode cX3_nearestOff 29 = .ok (.iaload, 1) := by decide +kernel
theorem dX3_nearestOff_30 : decode cX3_nearestOff 30 = .ok (.iadd, 1) := by decide +kernel
theorem dX3_nearestOff_31 : decode cX3_nearestOff 31 = .ok (.istore 6, 2) := by decide +kernel
theorem dX3_nearestOff_33 : decode cX3_nearestOff 33 = .ok (.iload 6, 2) := by decide +kernel
theorem dX3_nearestOff_35 : decode cX3_nearestOff 35 = .ok (.ifCond .le 47, 3) := by decide +kernel
theorem dX3_nearestOff_38 : decode cX3_nearestOff 38 = .ok (.iconst 0, 1) := by decide +kernel
theorem dX3_nearestOff_39 : decode cX3_nearestOff 39 = .ok (.iload 5, 2) := by decide +kernel
theorem dX3_nearestOff_41 : decode cX3_nearestOff 41 = .ok (.aload_n 0, 1) := by decide +kernel
theorem dX3_nearestOff_42 : decode cX3_nearestOff 42 = .ok (.getfield 40, 3) := by decide +kernel
theorem dX3_nearestOff_45 : decode cX3_nearestOff 45 = .ok (.iload_n 1, 1) := by decide +kernel
theorem dX3_nearestOff_46 : decode cX3_nearestOff 46 = .ok (.iaload, 1) := by decide +kernel
theorem dX3_nearestOff_47 : decode cX3_nearestOff 47 = .ok (.isub, 1) := by decide +kernel
theorem dX3_nearestOff_48 : decode cX3_nearestOff 48 = .ok (.aload_n 0, 1) := by decide +kernel
theorem dX3_nearestOff_49 : decode cX3_nearestOff 49 = .ok (.getfield 40, 3) := by decide +kernel
theorem dX3_nearestOff_52 : decode cX3_nearestOff 52 = .ok (.iload_n 1, 1) := by decide +kernel
theorem dX3_nearestOff_53 : decode cX3_nearestOff 53 = .ok (.iaload, 1) := by decide +kernel
theorem dX3_nearestOff_54 : decode cX3_nearestOff 54 = .ok (.iload 6, 2) := by decide +kernel
theorem dX3_nearestOff_56 : decode cX3_nearestOff 56 = .ok (.isub, 1) := by decide +kernel
theorem dX3_nearestOff_57 : decode cX3_nearestOff 57 = .ok (.invokestatic 90, 3) := by decide +kernel
theorem dX3_nearestOff_60 : decode cX3_nearestOff 60 = .ok (.invokestatic 90, 3) := by decide +kernel
theorem dX3_nearestOff_63 : decode cX3_nearestOff 63 = .ok (.istore 7, 2) := by decide +kernel
theorem dX3_nearestOff_65 : decode cX3_nearestOff 65 = .ok (.iload_n 2, 1) := by decide +kernel
theorem dX3_nearestOff_66 : decode cX3_nearestOff 66 = .ok (.iconst (-1), 1) := by decide +kernel
theorem dX3_nearestOff_67 : decode cX3_nearestOff 67 = .ok (.if_icmp .ne 8, 3) := by decide +kernel
theorem dX3_nearestOff_70 : decode cX3_nearestOff 70 = .ok (.iload 7, 2) := by decide +kernel
theorem dX3_nearestOff_72 : decode cX3_nearestOff 72 = .ok (.goto 9, 3) := by decide +kernel
theorem dX3_nearestOff_75 : decode cX3_nearestOff 75 = .ok (.iload_n 2, 1) := by decide +kernel
theorem dX3_nearestOff_76 : decode cX3_nearestOff 76 = .ok (.iload 7, 2) := by decide +kernel
theorem dX3_nearestOff_78 : decode cX3_nearestOff 78 = .ok (.invokestatic 143, 3) := by decide +kernel
theorem dX3_nearestOff_81 : decode cX3_nearestOff 81 = .ok (.istore_n 2, 1) := by decide +kernel
theorem dX3_nearestOff_82 : decode cX3_nearestOff 82 = .ok (.aload_n 0, 1) := by decide +kernel
theorem dX3_nearestOff_83 : decode cX3_nearestOff 83 = .ok (.getfield 46, 3) := by decide +kernel
theorem dX3_nearestOff_86 : decode cX3_nearestOff 86 = .ok (.iload_n 1, 1) := by decide +kernel
theorem dX3_nearestOff_87 : decode cX3_nearestOff 87 = .ok (.iaload, 1) := by decide +kernel
theorem dX3_nearestOff_88 : decode cX3_nearestOff 88 = .ok (.iload_n 3, 1) := by decide +kernel
theorem dX3_nearestOff_89 : decode cX3_nearestOff 89 = .ok (.invokestatic 104, 3) := by decide +kernel
theorem dX3_nearestOff_92 : decode cX3_nearestOff 92 = .ok (.istore_n 3, 1) := by decide +kernel
theorem dX3_nearestOff_93 : decode cX3_nearestOff 93 = .ok (.iload_n 3, 1) := by decide +kernel
theorem dX3_nearestOff_94 : decode cX3_nearestOff 94 = .ok (.ifCond .ne 5, 3) := by decide +kernel
theorem dX3_nearestOff_97 : decode cX3_nearestOff 97 = .ok (.iload_n 2, 1) := by decide +kernel
theorem dX3_nearestOff_98 : decode cX3_nearestOff 98 = .ok (.ireturn, 1) := by decide +kernel
theorem dX3_nearestOff_99 : decode cX3_nearestOff 99 = .ok (.iinc 4 1, 3) := by decide +kernel
theorem dX3_nearestOff_102 : decode cX3_nearestOff 102 = .ok (.goto (-95), 3) := by decide +kernel
theorem dX3_nearestOff_105 : decode cX3_nearestOff 105 = .ok (.iload_n 2, 1) := by decide +kernel
theorem dX3_nearestOff_106 : decode cX3_nearestOff 106 = .ok (.ireturn, 1) := by decide +kernel
theorem dX3_cutHelps_0 : decode cX3_cutHelps 0 = .ok (.aload_n 0, 1) := by decide +kernel
theorem dX3_cutHelps_1 : decode cX3_cutHelps 1 = .ok (.iload_n 1, 1) := by decide +kernel
theorem dX3_cutHelps_2 : decode cX3_cutHelps 2 = .ok (.iload_n 2, 1) := by decide +kernel
theorem dX3_cutHelps_3 : decode cX3_cutHelps 3 = .ok (.iload_n 3, 1) := by decide +kernel
theorem dX3_cutHelps_4 : decode cX3_cutHelps 4 = .ok (.invokevirtual 146, 3) := by decide +kernel
theorem dX3_cutHelps_7 : decode cX3_cutHelps 7 = .ok (.ifCond .ne 20, 3) := by decide +kernel
theorem dX3_cutHelps_10 : decode cX3_cutHelps 10 = .ok (.aload_n 0, 1) := by decide +kernel
theorem dX3_cutHelps_11 : decode cX3_cutHelps 11 = .ok (.iload_n 1, 1) := by decide +kernel
theorem dX3_cutHelps_12 : decode cX3_cutHelps 12 = .ok (.iload_n 2, 1) := by decide +kernel
theorem dX3_cutHelps_13 : decode cX3_cutHelps 13 = .ok (.aload_n 0, 1) := by decide +kernel
theorem dX3_cutHelps_14 : decode cX3_cutHelps 14 = .ok (.getfield 49, 3) := by decide +kernel
theorem dX3_cutHelps_17 : decode cX3_cutHelps 17 = .ok (.iload_n 2, 1) := by decide +kernel
theorem dX3_cutHelps_18 : decode cX3_cutHelps 18 = .ok (.iaload, 1) := by decide +kernel
theorem dX3_cutHelps_19 : decode cX3_cutHelps 19 = .ok (.iload_n 3, 1) := by decide +kernel
theorem dX3_cutHelps_20 : decode cX3_cutHelps 20 = .ok (.isub, 1) := by decide +kernel
theorem dX3_cutHelps_21 : decode cX3_cutHelps 21 = .ok (.invokevirtual 146, 3) := by decide +kernel
theorem dX3_cutHelps_24 : decode cX3_cutHelps 24 = .ok (.ifCond .eq 7, 3) := by decide +kernel
theorem dX3_cutHelps_27 : decode cX3_cutHelps 27 = .ok (.iconst 1, 1) := by decide +kernel
theorem dX3_cutHelps_28 : decode cX3_cutHelps 28 = .ok (.goto 4, 3) := by decide +kernel
theorem dX3_cutHelps_31 : decode cX3_cutHelps 31 = .ok (.iconst 0, 1) := by decide +kernel
theorem dX3_cutHelps_32 : decode cX3_cutHelps 32 = .ok (.ireturn, 1) := by decide +kernel
theorem dX3_fitsWithPart_0 : decode cX3_fitsWithPart 0 = .ok (.aload_n 0, 1) := by decide +kernel
theorem dX3_fitsWithPart_1 : decode cX3_fitsWithPart 1 = .ok (.getfield 46, 3) := by decide +kernel
theorem dX3_fitsWithPart_4 : decode cX3_fitsWithPart 4 = .ok (.iload_n 1, 1) := by decide +kernel
theorem dX3_fitsWithPart_5 : decode cX3_fitsWithPart 5 = .ok (.iaload, 1) := by decide +kernel
theorem dX3_fitsWithPart_6 : decode cX3_fitsWithPart 6 = .ok (.iconst 1, 1) := by decide +kernel
theorem dX3_fitsWithPart_7 : decode cX3_fitsWithPart 7 = .ok (.iload_n 2, 1) := by decide +kernel
theorem dX3_fitsWithPart_8 : decode cX3_fitsWithPart 8 = .ok (.ishl, 1) := by decide +kernel
theorem dX3_fitsWithPart_9 : decode cX3_fitsWithPart 9 = .ok (.iconst (-1), 1) := by decide +kernel
theorem dX3_fitsWithPart_10 : decode cX3_fitsWithPart 10 = .ok (.ixor, 1) := by decide +kernel
theorem dX3_fitsWithPart_11 : decode cX3_fitsWithPart 11 = .ok (.iand, 1) := by decide +kernel
theorem dX3_fitsWithPart_12 : decode cX3_fitsWithPart 12 = .ok (.istore 4, 2) := by decide +kernel
theorem dX3_fitsWithPart_14 : decode cX3_fitsWithPart 14 = .ok (.aload_n 0, 1) := by decide +kernel
theorem dX3_fitsWithPart_15 : decode cX3_fitsWithPart 15 = .ok (.iload_n 1, 1) := by decide +kernel
theorem dX3_fitsWithPart_16 : decode cX3_fitsWithPart 16 = .ok (.invokevirtual 84, 3) := by decide +kernel
theorem dX3_fitsWithPart_19 : decode cX3_fitsWithPart 19 = .ok (.aload_n 0, 1) := by decide +kernel
theorem dX3_fitsWithPart_20 : decode cX3_fitsWithPart 20 = .ok (.getfield 37, 3) := by decide +kernel
theorem dX3_fitsWithPart_23 : decode cX3_fitsWithPart 23 = .ok (.iload_n 1, 1) := by decide +kernel
theorem dX3_fitsWithPart_24 : decode cX3_fitsWithPart 24 = .ok (.iaload, 1) := by decide +kernel
theorem dX3_fitsWithPart_25 : decode cX3_fitsWithPart 25 = .ok (.isub, 1) := by decide +kernel
theorem dX3_fitsWithPart_26 : decode cX3_fitsWithPart 26 = .ok (.iload_n 3, 1) := by decide +kernel
theorem dX3_fitsWithPart_27 : decode cX3_fitsWithPart 27 = .ok (.isub, 1) := by decide +kernel
theorem dX3_fitsWithPart_28 : decode cX3_fitsWithPart 28 = .ok (.istore 5, 2) := by decide +kernel
theorem dX3_fitsWithPart_30 : decode cX3_fitsWithPart 30 = .ok (.aload_n 0, 1) := by decide +kernel
theorem dX3_fitsWithPart_31 : decode cX3_fitsWithPart 31 = .ok (.iload 4, 2) := by decide +kernel
theorem dX3_fitsWithPart_33 : decode cX3_fitsWithPart 33 = .ok (.iconst (-1), 1) := by decide +kernel
theorem dX3_fitsWithPart_34 : decode cX3_fitsWithPart 34 = .ok (.iload 5, 2) := by decide +kernel
theorem dX3_fitsWithPart_36 : decode cX3_fitsWithPart 36 = .ok (.aload_n 0, 1) := by decide +kernel
theorem dX3_fitsWithPart_37 : decode cX3_fitsWithPart 37 = .ok (.iload_n 1, 1) := by decide +kernel
theorem dX3_fitsWithPart_38 : decode cX3_fitsWithPart 38 = .ok (.invokevirtual 87, 3) := by decide +kernel
theorem dX3_fitsWithPart_41 : decode cX3_fitsWithPart 41 = .ok (.iload_n 3, 1) := by decide +kernel
theorem dX3_fitsWithPart_42 : decode cX3_fitsWithPart 42 = .ok (.isub, 1) := by decide +kernel
theorem dX3_fitsWithPart_43 : decode cX3_fitsWithPart 43 = .ok (.invokevirtual 100, 3) := by decide +kernel
theorem dX3_fitsWithPart_46 : decode cX3_fitsWithPart 46 = .ok (.iconst (-1), 1) := by decide +kernel
theorem dX3_fitsWithPart_47 : decode cX3_fitsWithPart 47 = .ok (.if_icmp .eq 7, 3) := by decide +kernel
theorem dX3_fitsWithPart_50 : decode cX3_fitsWithPart 50 = .ok (.iconst 1, 1) := by decide +kernel
theorem dX3_fitsWithPart_51 : decode cX3_fitsWithPart 51 = .ok (.goto 4, 3) := by decide +kernel
theorem dX3_fitsWithPart_54 : decode cX3_fitsWithPart 54 = .ok (.iconst 0, 1) := by decide +kernel
theorem dX3_fitsWithPart_55 : decode cX3_fitsWithPart 55 = .ok (.ireturn, 1) := by decide +kernel
