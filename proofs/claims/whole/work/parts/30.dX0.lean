theorem dX0_init_0 : decode cX0_init 0 = .ok (.aload_n 0, 1) := by decide +kernel
theorem dX0_init_1 : decode cX0_init 1 = .ok (.invokespecial 1, 3) := by decide +kernel
theorem dX0_init_4 : decode cX0_init 4 = .ok (.aload_n 0, 1) := by decide +kernel
theorem dX0_init_5 : decode cX0_init 5 = .ok (.iconst 0, 1) := by decide +kernel
theorem dX0_init_6 : decode cX0_init 6 = .ok (.putfield 7, 3) := by decide +kernel
theorem dX0_init_9 : decode cX0_init 9 = .ok (.aload_n 0, 1) := by decide +kernel
theorem dX0_init_10 : decode cX0_init 10 = .ok (.sipush 1800, 3) := by decide +kernel
theorem dX0_init_13 : decode cX0_init 13 = .ok (.newarray .int, 2) := by decide +kernel
theorem dX0_init_15 : decode cX0_init 15 = .ok (.putfield 13, 3) := by decide +kernel
theorem dX0_init_18 : decode cX0_init 18 = .ok (.return_, 1) := by decide +kernel
theorem dX0_length_0 : decode cX0_length 0 = .ok (.aload_n 0, 1) := by decide +kernel
theorem dX0_length_1 : decode cX0_length 1 = .ok (.getfield 7, 3) := by decide +kernel
theorem dX0_length_4 : decode cX0_length 4 = .ok (.ireturn, 1) := by decide +kernel
theorem dX0_isFull_0 : decode cX0_isFull 0 = .ok (.aload_n 0, 1) := by decide +kernel
theorem dX0_isFull_1 : decode cX0_isFull 1 = .ok (.getfield 7, 3) := by decide +kernel
theorem dX0_isFull_4 : decode cX0_isFull 4 = .ok (.sipush 200, 3) := by decide +kernel
theorem dX0_isFull_7 : decode cX0_isFull 7 = .ok (.if_icmp .lt 7, 3) := by decide +kernel
theorem dX0_isFull_10 : decode cX0_isFull 10 = .ok (.iconst 1, 1) := by decide +kernel
theorem dX0_isFull_11 : decode cX0_isFull 11 = .ok (.goto 4, 3) := by decide +kernel
theorem dX0_isFull_14 : decode cX0_isFull 14 = .ok (.iconst 0, 1) := by decide +kernel
theorem dX0_isFull_15 : decode cX0_isFull 15 = .ok (.ireturn, 1) := by decide +kernel
theorem dX0_clear_0 : decode cX0_clear 0 = .ok (.aload_n 0, 1) := by decide +kernel
theorem dX0_clear_1 : decode cX0_clear 1 = .ok (.iconst 0, 1) := by decide +kernel
theorem dX0_clear_2 : decode cX0_clear 2 = .ok (.putfield 7, 3) := by decide +kernel
theorem dX0_clear_5 : decode cX0_clear 5 = .ok (.return_, 1) := by decide +kernel
theorem dX0_entry_0 : decode cX0_entry 0 = .ok (.aload_n 0, 1) := by decide +kernel
theorem dX0_entry_1 : decode cX0_entry 1 = .ok (.getfield 13, 3) := by decide +kernel
theorem dX0_entry_4 : decode cX0_entry 4 = .ok (.iload_n 1, 1) := by decide +kernel
theorem dX0_entry_5 : decode cX0_entry 5 = .ok (.bipush 9, 2) := by decide +kernel
theorem dX0_entry_7 : decode cX0_entry 7 = .ok (.imul, 1) := by decide +kernel
theorem dX0_entry_8 : decode cX0_entry 8 = .ok (.iload_n 2, 1) := by decide +kernel
theorem dX0_entry_9 : decode cX0_entry 9 = .ok (.iadd, 1) := by decide +kernel
theorem dX0_entry_10 : decode cX0_entry 10 = .ok (.iaload, 1) := by decide +kernel
theorem dX0_entry_11 : decode cX0_entry 11 = .ok (.ireturn, 1) := by decide +kernel
theorem dX0_copyFrom_0 : decode cX0_copyFrom 0 = .ok (.aload_n 0, 1) := by decide +kernel
theorem dX0_copyFrom_1 : decode cX0_copyFrom 1 = .ok (.aload_n 1, 1) := by decide +kernel
theorem dX0_copyFrom_2 : decode cX0_copyFrom 2 = .ok (.getfield 7, 3) := by decide +kernel
theorem dX0_copyFrom_5 : decode cX0_copyFrom 5 = .ok (.putfield 7, 3) := by decide +kernel
theorem dX0_copyFrom_8 : decode cX0_copyFrom 8 = .ok (.aload_n 1, 1) := by decide +kernel
theorem dX0_copyFrom_9 : decode cX0_copyFrom 9 = .ok (.getfield 13, 3) := by decide +kernel
theorem dX0_copyFrom_12 : decode cX0_copyFrom 12 = .ok (.iconst 0, 1) := by decide +kernel
theorem dX0_copyFrom_13 : decode cX0_copyFrom 13 = .ok (.aload_n 0, 1) := by decide +kernel
theorem dX0_copyFrom_14 : decode cX0_copyFrom 14 = .ok (.getfield 13, 3) := by decide +kernel
theorem dX0_copyFrom_17 : decode cX0_copyFrom 17 = .ok (.iconst 0, 1) := by decide +kernel
theorem dX0_copyFrom_18 : decode cX0_copyFrom 18 = .ok (.aload_n 0, 1) := by decide +kernel
theorem dX0_copyFrom_19 : decode cX0_copyFrom 19 = .ok (.getfield 7, 3) := by decide +kernel
theorem dX0_copyFrom_22 : decode cX0_copyFrom 22 = .ok (.bipush 9, 2) := by decide +kernel
theorem dX0_copyFrom_24 : decode cX0_copyFrom 24 = .ok (.imul, 1) := by decide +kernel
theorem dX0_copyFrom_25 : decode cX0_copyFrom 25 = .ok (.invokestatic 17, 3) := by decide +kernel
theorem dX0_copyFrom_28 : decode cX0_copyFrom 28 = .ok (.return_, 1) := by decide +kernel
theorem dX0_write_0 : decode cX0_write 0 = .ok (.aload_n 0, 1) := by decide +kernel
theorem dX0_write_1 : decode cX0_write 1 = .ok (.getfield 7, 3) := by decide +kernel
theorem dX0_write_4 : decode cX0_write 4 = .ok (.bipush 9, 2) := by decide +kernel
theorem dX0_write_6 : decode cX0_write 6 = .ok (.imul, 1) := by decide +kernel
theorem dX0_write_7 : decode cX0_write 7 = .ok (.istore 6, 2) := by decide +kernel
theorem dX0_write_9 : decode cX0_write 9 = .ok (.aload_n 0, 1) := by decide +kernel
theorem dX0_write_10 : decode cX0_write 10 = .ok (.getfield 13, 3) := by decide +kernel
theorem dX0_write_13 : decode cX0_write 13 = .ok (.iload 6, 2) := by decide +kernel
theorem dX0_write_15 : decode cX0_write 15 = .ok (.iload_n 2, 1) := by decide +kernel
theorem dX0_write_16 : decode cX0_write 16 = .ok (.iastore, 1) := by decide +kernel
theorem dX0_write_17 : decode cX0_write 17 = .ok (.aload_n 0, 1) := by decide +kernel
theorem dX0_write_18 : decode cX0_write 18 = .ok (.getfield 13, 3) := by decide +kernel
theorem dX0_write_21 : decode cX0_write 21 = .ok (.iload 6, 2) := by decide +kernel
theorem dX0_write_23 : decode cX0_write 23 = .ok (.iconst 1, 1) := by decide +kernel
theorem dX0_write_24 : decode cX0_write 24 = .ok (.iadd, 1) := by decide +kernel
theorem dX0_write_25 : decode cX0_write 25 = .ok (.iload_n 3, 1) := by decide +kernel
theorem dX0_write_26 : decode cX0_write 26 = .ok (.iastore, 1) := by decide +kernel
theorem dX0_write_27 : decode cX0_write 27 = .ok (.aload_n 0, 1) := by decide +kernel
theorem dX0_write_28 : decode cX0_write 28 = .ok (.getfield 13, 3) := by decide +kernel
theorem dX0_write_31 : decode cX0_write 31 = .ok (.iload 6, 2) := by decide +kernel
theorem dX0_write_33 : decode cX0_write 33 = .ok (.iconst 2, 1) := by decide +kernel
theorem dX0_write_34 : decode cX0_write 34 = .ok (.iadd, 1) := by decide +kernel
theorem dX0_write_35 : decode cX0_write 35 = .ok (.iload 4, 2) := by decide +kernel
theorem dX0_write_37 : decode cX0_write 37 = .ok (.iastore, 1) := by decide +kernel
theorem dX0_write_38 : decode cX0_write 38 = .ok (.aload_n 0, 1) := by decide +kernel
theorem dX0_write_39 : decode cX0_write 39 = .ok (.getfield 13, 3) := by decide +kernel
theorem dX0_write_42 : decode cX0_write 42 = .ok (.iload 6, 2) := by decide +kernel
theorem dX0_write_44 : decode cX0_write 44 = .ok (.iconst 3, 1) := by decide +kernel
theorem dX0_write_45 : decode cX0_write 45 = .ok (.iadd, 1) := by decide +kernel
theorem dX0_write_46 : decode cX0_write 46 = .ok (.iload 5, 2) := by decide +kernel
theorem dX0_write_48 : decode cX0_write 48 = .ok (.iastore, 1) := by decide +kernel
theorem dX0_write_49 : decode cX0_write 49 = .ok (.aload_n 0, 1) := by decide +kernel
theorem dX0_write_50 : decode cX0_write 50 = .ok (.getfield 13, 3) := by decide +kernel
theorem dX0_write_53 : decode cX0_write 53 = .ok (.iload 6, 2) := by decide +kernel
theorem dX0_write_55 : decode cX0_write 55 = .ok (.iconst 4, 1) := by decide +kernel
theorem dX0_write_56 : decode cX0_write 56 = .ok (.iadd, 1) := by decide +kernel
theorem dX0_write_57 : decode cX0_write 57 = .ok (.aload_n 1, 1) := by decide +kernel
theorem dX0_write_58 : decode cX0_write 58 = .ok (.iload_n 3, 1) := by decide +kernel
theorem dX0_write_59 : decode cX0_write 59 = .ok (.invokevirtual 23, 3) := by decide +kernel
theorem dX0_write_62 : decode cX0_write 62 = .ok (.iload 4, 2) := by decide +kernel
theorem dX0_write_64 : decode cX0_write 64 = .ok (.iadd, 1) := by decide +kernel
theorem dX0_write_65 : decode cX0_write 65 = .ok (.iastore, 1) := by decide +kernel
theorem dX0_write_66 : decode cX0_write 66 = .ok (.aload_n 0, 1) := by decide +kernel
theorem dX0_write_67 : decode cX0_write 67 = .ok (.getfield 13, 3) := by decide +kernel
theorem dX0_write_70 : decode cX0_write 70 = .ok (.iload 6, 2) := by decide +kernel
theorem dX0_write_72 : decode cX0_write 72 = .ok (.iconst 5, 1) := by decide +kernel
theorem dX0_write_73 : decode cX0_write 73 = .ok (.iadd, 1) := by decide +kernel
theorem dX0_write_74 : decode cX0_write 74 = .ok (.aload_n 1, 1) := by decide +kernel
theorem dX0_write_75 : decode cX0_write 75 = .ok (.getfield 29, 3) := by decide +kernel
theorem dX0_write_78 : decode cX0_write 78 = .ok (.iload_n 2, 1) := by decide +kernel
theorem dX0_write_79 : decode cX0_write 79 = .ok (.iaload, 1) := by decide +kernel
theorem dX0_write_80 : decode cX0_write 80 = .ok (.iastore, 1) := by decide +kernel
theorem dX0_write_81 : decode cX0_write 81 = .ok (.aload_n 0, 1) := by decide +kernel
theorem dX0_write_82 : decode cX0_write 82 = .ok (.getfield 13, 3) := by decide +kernel
theorem dX0_write_85 : decode cX0_write 85 = .ok (.iload 6, 2) := by decide +kernel
theorem dX0_write_87 : decode cX0_write 87 = .ok (.bipush 6, 2) := by decide +kernel
theorem dX0_write_89 : decode cX0_write 89 = .ok (.iadd, 1) := by decide +kernel
theorem dX0_write_90 : decode cX0_write 90 = .ok (.aload_n 1, 1) := by decide +kernel
theorem dX0_write_91 : decode cX0_write 91 = .ok (.getfield 32, 3) := by decide +kernel
theorem dX0_write_94 : decode cX0_write 94 = .ok (.iload_n 2, 1) := by decide +kernel
theorem dX0_write_95 : decode cX0_write 95 = .ok (.iaload, 1) := by decide +kernel
theorem dX0_write_96 : decode cX0_write 96 = .ok (.iastore, 1) := by decide +kernel
theorem dX0_write_97 : decode cX0_write 97 = .ok (.aload_n 0, 1) := by decide +kernel
theorem dX0_write_98 : decode cX0_write 98 = .ok (.getfield 13, 3) := by decide +kernel
theorem dX0_write_101 : decode cX0_write 101 = .ok (.iload 6, 2) := by decide +kernel
theorem dX0_write_103 : decode cX0_write 103 = .ok (.bipush 7, 2) := by decide +kernel
theorem dX0_write_105 : decode cX0_write 105 = .ok (.iadd, 1) := by decide +kernel
theorem dX0_write_106 : decode cX0_write 106 = .ok (.aload_n 1, 1) := by decide +kernel
theorem dX0_write_107 : decode cX0_write 107 = .ok (.getfield 29, 3) := by decide +kernel
theorem dX0_write_110 : decode cX0_write 110 = .ok (.iload 5, 2) := by decide +kernel
theorem dX0_write_112 : decode cX0_write 112 = .ok (.iaload, 1) := by decide +kernel
theorem dX0_write_113 : decode cX0_write 113 = .ok (.iastore, 1) := by decide +kernel
theorem dX0_write_114 : decode cX0_write 114 = .ok (.aload_n 0, 1) := by decide +kernel
theorem dX0_write_115 : decode cX0_write 115 = .ok (.getfield 13, 3) := by decide +kernel
theorem dX0_write_118 : decode cX0_write 118 = .ok (.iload 6, 2) := by decide +kernel
theorem dX0_write_120 : decode cX0_write 120 = .ok (.bipush 8, 2) := by decide +kernel
theorem dX0_write_122 : decode cX0_write 122 = .ok (.iadd, 1) := by decide +kernel
theorem dX0_write_123 : decode cX0_write 123 = .ok (.aload_n 1, 1) := by decide +kernel
theorem dX0_write_124 : decode cX0_write 124 = .ok (.getfield 32, 3) := by decide +kernel
theorem dX0_write_127 : decode cX0_write 127 = .ok (.iload 5, 2) := by decide +kernel
theorem dX0_write_129 : decode cX0_write 129 = .ok (.iaload, 1) := by decide +kernel
theorem dX0_write_130 : decode cX0_write 130 = .ok (.iastore, 1) := by decide +kernel
theorem dX0_write_131 : decode cX0_write 131 = .ok (.aload_n 0, 1) := by decide +kernel
theorem dX0_write_132 : decode cX0_write 132 = .ok (.dup, 1) := by decide +kernel
theorem dX0_write_133 : decode cX0_write 133 = .ok (.getfield 7, 3) := by decide +kernel
theorem dX0_write_136 : decode cX0_write 136 = .ok (.iconst 1, 1) := by decide +kernel
theorem dX0_write_137 : decode cX0_write 137 = .ok (.iadd, 1) := by decide +kernel
theorem dX0_write_138 : decode cX0_write 138 = .ok (.putfield 7, 3) := by decide +kernel
theorem dX0_write_141 : decode cX0_write 141 = .ok (.return_, 1) := by decide +kernel
theorem dX0_takeBackLast_0 : decode cX0_takeBackLast 0 = .ok (.aload_n 0, 1) := by decide +kernel
theorem dX0_takeBackLast_1 : decode cX0_takeBackLast 1 = .ok (.dup, 1) := by decide +kernel
theorem dX0_takeBackLast_2 : decode cX0_takeBackLast 2 = .ok (.getfield 7, 3) := by decide +kernel
theorem dX0_takeBackLast_5 : decode cX0_takeBackLast 5 = .ok (.iconst 1, 1) := by decide +kernel
theorem dX0_takeBackLast_6 : decode cX0_takeBackLast 6 = .ok (.isub, 1) := by decide +kernel
theorem dX0_takeBackLast_7 : decode cX0_takeBackLast 7 = .ok (.putfield 7, 3) := by decide +kernel
theorem dX0_takeBackLast_10 : decode cX0_takeBackLast 10 = .ok (.aload_n 0, 1) := by decide +kernel
theorem dX0_takeBackLast_11 : decode cX0_takeBackLast 11 = .ok (.getfield 7, 3) := by decide +kernel
theorem dX0_takeBackLast_14 : decode cX0_takeBackLast 14 = .ok (.bipush 9, 2) := by decide +kernel
theorem dX0_takeBackLast_16 : decode cX0_takeBackLast 16 = .ok (.imul, 1) := by decide +kernel
theorem dX0_takeBackLast_17 : decode cX0_takeBackLast 17 = .ok (.istore_n 2, 1) := by decide +kernel
theorem dX0_takeBackLast_18 : decode cX0_takeBackLast 18 = .ok (.aload_n 0, 1) := by decide +kernel
theorem dX0_takeBackLast_19 : decode cX0_takeBackLast 19 = .ok (.getfield 13, 3) := by decide +kernel
theorem dX0_takeBackLast_22 : decode cX0_takeBackLast 22 = .ok (.iload_n 2, 1) := by decide +kernel
theorem dX0_takeBackLast_23 : decode cX0_takeBackLast 23 = .ok (.iaload, 1) := by decide +kernel
theorem dX0_takeBackLast_24 : decode cX0_takeBackLast 24 = .ok (.istore_n 3, 1) := by decide +kernel
theorem dX0_takeBackLast_25 : decode cX0_takeBackLast 25 = .ok (.aload_n 0, 1) := by decide +kernel
theorem dX0_takeBackLast_26 : decode cX0_takeBackLast 26 = .ok (.getfield 13, 3) := by decide +kernel
theorem dX0_takeBackLast_29 : decode cX0_takeBackLast 29 = .ok (.iload_n 2, 1) := by decide +kernel
theorem dX0_takeBackLast_30 : decode cX0_takeBackLast 30 = .ok (.iconst 3, 1) := by decide +kernel
theorem dX0_takeBackLast_31 : decode cX0_takeBackLast 31 = .ok (.iadd, 1) := by decide +kernel
theorem dX0_takeBackLast_32 : decode cX0_takeBackLast 32 = .ok (.iaload, 1) := by decide +kernel
theorem dX0_takeBackLast_33 : decode cX0_takeBackLast 33 = .ok (.istore 4, 2) := by decide +kernel
theorem dX0_takeBackLast_35 : decode cX0_takeBackLast 35 = .ok (.aload_n 1, 1) := by decide +kernel
theorem dX0_takeBackLast_36 : decode cX0_takeBackLast 36 = .ok (.iload 4, 2) := by decide +kernel
theorem dX0_takeBackLast_38 : decode cX0_takeBackLast 38 = .ok (.aload_n 0, 1) := by decide +kernel
theorem dX0_takeBackLast_39 : decode cX0_takeBackLast 39 = .ok (.getfield 13, 3) := by decide +kernel
theorem dX0_takeBackLast_42 : decode cX0_takeBackLast 42 = .ok (.iload_n 2, 1) := by decide +kernel
theorem dX0_takeBackLast_43 : decode cX0_takeBackLast 43 = .ok (.iconst 1, 1) := by decide +kernel
theorem dX0_takeBackLast_44 : decode cX0_takeBackLast 44 = .ok (.iadd, 1) := by decide +kernel
theorem dX0_takeBackLast_45 : decode cX0_takeBackLast 45 = .ok (.iaload, 1) := by decide +kernel
theorem dX0_takeBackLast_46 : decode cX0_takeBackLast 46 = .ok (.aload_n 0, 1) := by decide +kernel
theorem dX0_takeBackLast_47 : decode cX0_takeBackLast 47 = .ok (.getfield 13, 3) := by decide +kernel
theorem dX0_takeBackLast_50 : decode cX0_takeBackLast 50 = .ok (.iload_n 2, 1) := by decide +kernel
theorem dX0_takeBackLast_51 : decode cX0_takeBackLast 51 = .ok (.iconst 2, 1) := by decide +kernel
theorem dX0_takeBackLast_52 : decode cX0_takeBackLast 52 = .ok (.iadd, 1) := by decide +kernel
theorem dX0_takeBackLast_53 : decode cX0_takeBackLast 53 = .ok (.iaload, 1) := by decide +kernel
theorem dX0_takeBackLast_54 : decode cX0_takeBackLast 54 = .ok (.iload_n 3, 1) := by decide +kernel
theorem dX0_takeBackLast_55 : decode cX0_takeBackLast 55 = .ok (.invokevirtual 35, 3) := by decide +kernel
theorem dX0_takeBackLast_58 : decode cX0_takeBackLast 58 = .ok (.aload_n 1, 1) := by decide +kernel
theorem dX0_takeBackLast_59 : decode cX0_takeBackLast 59 = .ok (.getfield 29, 3) := by decide +kernel
theorem dX0_takeBackLast_62 : decode cX0_takeBackLast 62 = .ok (.iload_n 3, 1) := by decide +kernel
theorem dX0_takeBackLast_63 : decode cX0_takeBackLast 63 = .ok (.aload_n 0, 1) := by decide +kernel
theorem dX0_takeBackLast_64 : decode cX0_takeBackLast 64 = .ok (.getfield 13, 3) := by decide +kernel
theorem dX0_takeBackLast_67 : decode cX0_takeBackLast 67 = .ok (.iload_n 2, 1) := by decide +kernel
theorem dX0_takeBackLast_68 : decode cX0_takeBackLast 68 = .ok (.iconst 5, 1) := by decide +kernel
theorem dX0_takeBackLast_69 : decode cX0_takeBackLast 69 = .ok (.iadd, 1) := by decide +kernel
theorem dX0_takeBackLast_70 : decode cX0_takeBackLast 70 = .ok (.iaload, 1) := by decide +kernel
theorem dX0_takeBackLast_71 : decode cX0_takeBackLast 71 = .ok (.iastore, 1) := by decide +kernel
theorem dX0_takeBackLast_72 : decode cX0_takeBackLast 72 = .ok (.aload_n 1, 1) := by decide +kernel
theorem dX0_takeBackLast_73 : decode cX0_takeBackLast 73 = .ok (.getfield 32, 3) := by decide +kernel
theorem dX0_takeBackLast_76 : decode cX0_takeBackLast 76 = .ok (.iload_n 3, 1) := by decide +kernel
theorem dX0_takeBackLast_77 : decode cX0_takeBackLast 77 = .ok (.aload_n 0, 1) := by decide +kernel
theorem dX0_takeBackLast_78 : decode cX0_takeBackLast 78 = .ok (.getfield 13, 3) := by decide +kernel
theorem dX0_takeBackLast_81 : decode cX0_takeBackLast 81 = .ok (.iload_n 2, 1) := by decide +kernel
theorem dX0_takeBackLast_82 : decode cX0_takeBackLast 82 = .ok (.bipush 6, 2) := by decide +kernel
theorem dX0_takeBackLast_84 : decode cX0_takeBackLast 84 = .ok (.iadd, 1) := by decide +kernel
theorem dX0_takeBackLast_85 : decode cX0_takeBackLast 85 = .ok (.iaload, 1) := by decide +kernel
theorem dX0_takeBackLast_86 : decode cX0_takeBackLast 86 = .ok (.iastore, 1) := by decide +kernel
theorem dX0_takeBackLast_87 : decode cX0_takeBackLast 87 = .ok (.aload_n 1, 1) := by decide +kernel
theorem dX0_takeBackLast_88 : decode cX0_takeBackLast 88 = .ok (.getfield 29, 3) := by decide +kernel
theorem dX0_takeBackLast_91 : decode cX0_takeBackLast 91 = .ok (.iload 4, 2) := by decide +kernel
theorem dX0_takeBackLast_93 : decode cX0_takeBackLast 93 = .ok (.aload_n 0, 1) := by decide +kernel
theorem dX0_takeBackLast_94 : decode cX0_takeBackLast 94 = .ok (.getfield 13, 3) := by decide +kernel
theorem dX0_takeBackLast_97 : decode cX0_takeBackLast 97 = .ok (.iload_n 2, 1) := by decide +kernel
theorem dX0_takeBackLast_98 : decode cX0_takeBackLast 98 = .ok (.bipush 7, 2) := by decide +kernel
theorem dX0_takeBackLast_100 : decode cX0_takeBackLast 100 = .ok (.iadd, 1) := by decide +kernel
theorem dX0_takeBackLast_101 : decode cX0_takeBackLast 101 = .ok (.iaload, 1) := by decide +kernel
theorem dX0_takeBackLast_102 : decode cX0_takeBackLast 102 = .ok (.iastore, 1) := by decide +kernel
theorem dX0_takeBackLast_103 : decode cX0_takeBackLast 103 = .ok (.aload_n 1, 1) := by decide +kernel
theorem dX0_takeBackLast_104 : decode cX0_takeBackLast 104 = .ok (.getfield 32, 3) := by decide +kernel
theorem dX0_takeBackLast_107 : decode cX0_takeBackLast 107 = .ok (.iload 4, 2) := by decide +kernel
theorem dX0_takeBackLast_109 : decode cX0_takeBackLast 109 = .ok (.aload_n 0, 1) := by decide +kernel
theorem dX0_takeBackLast_110 : decode cX0_takeBackLast 110 = .ok (.getfield 13, 3) := by decide +kernel
theorem dX0_takeBackLast_113 : decode cX0_takeBackLast 113 = .ok (.iload_n 2, 1) := by decide +kernel
theorem dX0_takeBackLast_114 : decode cX0_takeBackLast 114 = .ok (.bipush 8, 2) := by decide +kernel
theorem dX0_takeBackLast_116 : decode cX0_takeBackLast 116 = .ok (.iadd, 1) := by decide +kernel
theorem dX0_takeBackLast_117 : decode cX0_takeBackLast 117 = .ok (.iaload, 1) := by decide +kernel
theorem dX0_takeBackLast_118 : decode cX0_takeBackLast 118 = .ok (.iastore, 1) := by decide +kernel
theorem dX0_takeBackLast_119 : decode cX0_takeBackLast 119 = .ok (.return_, 1) := by decide +kernel
