theorem dX4_init_0 : decode cX4_init 0 = .ok (.aload_n 0, 1) := by decide +kernel
theorem dX4_init_1 : decode cX4_init 1 = .ok (.invokespecial 3, 3) := by decide +kernel
theorem dX4_init_4 : decode cX4_init 4 = .ok (.aload_n 0, 1) := by decide +kernel
theorem dX4_init_5 : decode cX4_init 5 = .ok (.new 9, 3) := by decide +kernel
theorem dX4_init_8 : decode cX4_init 8 = .ok (.dup, 1) := by decide +kernel
theorem dX4_init_9 : decode cX4_init 9 = .ok (.invokespecial 11, 3) := by decide +kernel
theorem dX4_init_12 : decode cX4_init 12 = .ok (.putfield 12, 3) := by decide +kernel
theorem dX4_init_15 : decode cX4_init 15 = .ok (.aload_n 0, 1) := by decide +kernel
theorem dX4_init_16 : decode cX4_init 16 = .ok (.bipush 6, 2) := by decide +kernel
theorem dX4_init_18 : decode cX4_init 18 = .ok (.newarray .int, 2) := by decide +kernel
theorem dX4_init_20 : decode cX4_init 20 = .ok (.putfield 18, 3) := by decide +kernel
theorem dX4_init_23 : decode cX4_init 23 = .ok (.aload_n 0, 1) := by decide +kernel
theorem dX4_init_24 : decode cX4_init 24 = .ok (.iconst 0, 1) := by decide +kernel
theorem dX4_init_25 : decode cX4_init 25 = .ok (.putfield 22, 3) := by decide +kernel
theorem dX4_init_28 : decode cX4_init 28 = .ok (.aload_n 0, 1) := by decide +kernel
theorem dX4_init_29 : decode cX4_init 29 = .ok (.iconst 0, 1) := by decide +kernel
theorem dX4_init_30 : decode cX4_init 30 = .ok (.putfield 26, 3) := by decide +kernel
theorem dX4_init_33 : decode cX4_init 33 = .ok (.aload_n 0, 1) := by decide +kernel
theorem dX4_init_34 : decode cX4_init 34 = .ok (.iconst 0, 1) := by decide +kernel
theorem dX4_init_35 : decode cX4_init 35 = .ok (.putfield 29, 3) := by decide +kernel
theorem dX4_init_38 : decode cX4_init 38 = .ok (.return_, 1) := by decide +kernel
theorem dX4_tryAll_0 : decode cX4_tryAll 0 = .ok (.aload_n 0, 1) := by decide +kernel
theorem dX4_tryAll_1 : decode cX4_tryAll 1 = .ok (.getfield 12, 3) := by decide +kernel
theorem dX4_tryAll_4 : decode cX4_tryAll 4 = .ok (.aload_n 1, 1) := by decide +kernel
theorem dX4_tryAll_5 : decode cX4_tryAll 5 = .ok (.invokevirtual 32, 3) := by decide +kernel
theorem dX4_tryAll_8 : decode cX4_tryAll 8 = .ok (.aload_n 0, 1) := by decide +kernel
theorem dX4_tryAll_9 : decode cX4_tryAll 9 = .ok (.iconst 0, 1) := by decide +kernel
theorem dX4_tryAll_10 : decode cX4_tryAll 10 = .ok (.putfield 22, 3) := by decide +kernel
theorem dX4_tryAll_13 : decode cX4_tryAll 13 = .ok (.aload_n 0, 1) := by decide +kernel
theorem dX4_tryAll_14 : decode cX4_tryAll 14 = .ok (.iconst 0, 1) := by decide +kernel
theorem dX4_tryAll_15 : decode cX4_tryAll 15 = .ok (.putfield 26, 3) := by decide +kernel
theorem dX4_tryAll_18 : decode cX4_tryAll 18 = .ok (.aload_n 0, 1) := by decide +kernel
theorem dX4_tryAll_19 : decode cX4_tryAll 19 = .ok (.iconst 0, 1) := by decide +kernel
theorem dX4_tryAll_20 : decode cX4_tryAll 20 = .ok (.putfield 29, 3) := by decide +kernel
theorem dX4_tryAll_23 : decode cX4_tryAll 23 = .ok (.iconst 0, 1) := by decide +kernel
theorem dX4_tryAll_24 : decode cX4_tryAll 24 = .ok (.istore_n 2, 1) := by decide +kernel
theorem dX4_tryAll_25 : decode cX4_tryAll 25 = .ok (.iconst 0, 1) := by decide +kernel
theorem dX4_tryAll_26 : decode cX4_tryAll 26 = .ok (.istore_n 3, 1) := by decide +kernel
theorem dX4_tryAll_27 : decode cX4_tryAll 27 = .ok (.iload_n 3, 1) := by decide +kernel
theorem dX4_tryAll_28 : decode cX4_tryAll 28 = .ok (.aload_n 0, 1) := by decide +kernel
theorem dX4_tryAll_29 : decode cX4_tryAll 29 = .ok (.getfield 12, 3) := by decide +kernel
theorem dX4_tryAll_32 : decode cX4_tryAll 32 = .ok (.getfield 36, 3) := by decide +kernel
theorem dX4_tryAll_35 : decode cX4_tryAll 35 = .ok (.if_icmp .ge 37, 3) := by decide +kernel
theorem dX4_tryAll_38 : decode cX4_tryAll 38 = .ok (.aload_n 0, 1) := by decide +kernel
theorem dX4_tryAll_39 : decode cX4_tryAll 39 = .ok (.getfield 12, 3) := by decide +kernel
theorem dX4_tryAll_42 : decode cX4_tryAll 42 = .ok (.getfield 39, 3) := by decide +kernel
theorem dX4_tryAll_45 : decode cX4_tryAll 45 = .ok (.iload_n 3, 1) := by decide +kernel
theorem dX4_tryAll_46 : decode cX4_tryAll 46 = .ok (.iaload, 1) := by decide +kernel
theorem dX4_tryAll_47 : decode cX4_tryAll 47 = .ok (.ifCond .le 19, 3) := by decide +kernel
theorem dX4_tryAll_50 : decode cX4_tryAll 50 = .ok (.iload_n 2, 1) := by decide +kernel
theorem dX4_tryAll_51 : decode cX4_tryAll 51 = .ok (.iconst 1, 1) := by decide +kernel
theorem dX4_tryAll_52 : decode cX4_tryAll 52 = .ok (.iload_n 3, 1) := by decide +kernel
theorem dX4_tryAll_53 : decode cX4_tryAll 53 = .ok (.ishl, 1) := by decide +kernel
theorem dX4_tryAll_54 : decode cX4_tryAll 54 = .ok (.ior, 1) := by decide +kernel
theorem dX4_tryAll_55 : decode cX4_tryAll 55 = .ok (.istore_n 2, 1) := by decide +kernel
theorem dX4_tryAll_56 : decode cX4_tryAll 56 = .ok (.aload_n 0, 1) := by decide +kernel
theorem dX4_tryAll_57 : decode cX4_tryAll 57 = .ok (.dup, 1) := by decide +kernel
theorem dX4_tryAll_58 : decode cX4_tryAll 58 = .ok (.getfield 22, 3) := by decide +kernel
theorem dX4_tryAll_61 : decode cX4_tryAll 61 = .ok (.iconst 1, 1) := by decide +kernel
theorem dX4_tryAll_62 : decode cX4_tryAll 62 = .ok (.iadd, 1) := by decide +kernel
theorem dX4_tryAll_63 : decode cX4_tryAll 63 = .ok (.putfield 22, 3) := by decide +kernel
theorem dX4_tryAll_66 : decode cX4_tryAll 66 = .ok (.iinc 3 1, 3) := by decide +kernel
theorem dX4_tryAll_69 : decode cX4_tryAll 69 = .ok (.goto (-42), 3) := by decide +kernel
theorem dX4_tryAll_72 : decode cX4_tryAll 72 = .ok (.aload_n 0, 1) := by decide +kernel
theorem dX4_tryAll_73 : decode cX4_tryAll 73 = .ok (.iload_n 2, 1) := by decide +kernel
theorem dX4_tryAll_74 : decode cX4_tryAll 74 = .ok (.iconst 0, 1) := by decide +kernel
theorem dX4_tryAll_75 : decode cX4_tryAll 75 = .ok (.invokevirtual 42, 3) := by decide +kernel
theorem dX4_tryAll_78 : decode cX4_tryAll 78 = .ok (.ireturn, 1) := by decide +kernel
theorem dX4_length_0 : decode cX4_length 0 = .ok (.aload_n 0, 1) := by decide +kernel
theorem dX4_length_1 : decode cX4_length 1 = .ok (.getfield 22, 3) := by decide +kernel
theorem dX4_length_4 : decode cX4_length 4 = .ok (.ireturn, 1) := by decide +kernel
theorem dX4_personAt_0 : decode cX4_personAt 0 = .ok (.aload_n 0, 1) := by decide +kernel
theorem dX4_personAt_1 : decode cX4_personAt 1 = .ok (.getfield 18, 3) := by decide +kernel
theorem dX4_personAt_4 : decode cX4_personAt 4 = .ok (.iload_n 1, 1) := by decide +kernel
theorem dX4_personAt_5 : decode cX4_personAt 5 = .ok (.iaload, 1) := by decide +kernel
theorem dX4_personAt_6 : decode cX4_personAt 6 = .ok (.ireturn, 1) := by decide +kernel
theorem dX4_most_0 : decode cX4_most 0 = .ok (.aload_n 0, 1) := by decide +kernel
theorem dX4_most_1 : decode cX4_most 1 = .ok (.getfield 29, 3) := by decide +kernel
theorem dX4_most_4 : decode cX4_most 4 = .ok (.ireturn, 1) := by decide +kernel
theorem dX4_tries_0 : decode cX4_tries 0 = .ok (.aload_n 0, 1) := by decide +kernel
theorem dX4_tries_1 : decode cX4_tries 1 = .ok (.getfield 26, 3) := by decide +kernel
theorem dX4_tries_4 : decode cX4_tries 4 = .ok (.ireturn, 1) := by decide +kernel
theorem dX4_isSpent_0 : decode cX4_isSpent 0 = .ok (.aload_n 0, 1) := by decide +kernel
theorem dX4_isSpent_1 : decode cX4_isSpent 1 = .ok (.getfield 26, 3) := by decide +kernel
theorem dX4_isSpent_4 : decode cX4_isSpent 4 = .ok (.sipush 20000, 3) := by decide +kernel
theorem dX4_isSpent_7 : decode cX4_isSpent 7 = .ok (.if_icmp .le 7, 3) := by decide +kernel
theorem dX4_isSpent_10 : decode cX4_isSpent 10 = .ok (.iconst 1, 1) := by decide +kernel
theorem dX4_isSpent_11 : decode cX4_isSpent 11 = .ok (.goto 4, 3) := by decide +kernel
theorem dX4_isSpent_14 : decode cX4_isSpent 14 = .ok (.iconst 0, 1) := by decide +kernel
theorem dX4_isSpent_15 : decode cX4_isSpent 15 = .ok (.ireturn, 1) := by decide +kernel
theorem dX4_tryRest_0 : decode cX4_tryRest 0 = .ok (.aload_n 0, 1) := by decide +kernel
theorem dX4_tryRest_1 : decode cX4_tryRest 1 = .ok (.aload_n 0, 1) := by decide +kernel
theorem dX4_tryRest_2 : decode cX4_tryRest 2 = .ok (.getfield 29, 3) := by decide +kernel
theorem dX4_tryRest_5 : decode cX4_tryRest 5 = .ok (.iload_n 2, 1) := by decide +kernel
theorem dX4_tryRest_6 : decode cX4_tryRest 6 = .ok (.invokestatic 46, 3) := by decide +kernel
theorem dX4_tryRest_9 : decode cX4_tryRest 9 = .ok (.putfield 29, 3) := by decide +kernel
theorem dX4_tryRest_12 : decode cX4_tryRest 12 = .ok (.iload_n 1, 1) := by decide +kernel
theorem dX4_tryRest_13 : decode cX4_tryRest 13 = .ok (.ifCond .ne 5, 3) := by decide +kernel
theorem dX4_tryRest_16 : decode cX4_tryRest 16 = .ok (.iconst 1, 1) := by decide +kernel
theorem dX4_tryRest_17 : decode cX4_tryRest 17 = .ok (.ireturn, 1) := by decide +kernel
theorem dX4_tryRest_18 : decode cX4_tryRest 18 = .ok (.iload_n 2, 1) := by decide +kernel
theorem dX4_tryRest_19 : decode cX4_tryRest 19 = .ok (.bipush 6, 2) := by decide +kernel
theorem dX4_tryRest_21 : decode cX4_tryRest 21 = .ok (.if_icmp .lt 5, 3) := by decide +kernel
theorem dX4_tryRest_24 : decode cX4_tryRest 24 = .ok (.iconst 0, 1) := by decide +kernel
theorem dX4_tryRest_25 : decode cX4_tryRest 25 = .ok (.ireturn, 1) := by decide +kernel
theorem dX4_tryRest_26 : decode cX4_tryRest 26 = .ok (.iconst 0, 1) := by decide +kernel
theorem dX4_tryRest_27 : decode cX4_tryRest 27 = .ok (.istore_n 3, 1) := by decide +kernel
theorem dX4_tryRest_28 : decode cX4_tryRest 28 = .ok (.iload_n 3, 1) := by decide +kernel
theorem dX4_tryRest_29 : decode cX4_tryRest 29 = .ok (.aload_n 0, 1) := by decide +kernel
theorem dX4_tryRest_30 : decode cX4_tryRest 30 = .ok (.getfield 12, 3) := by decide +kernel
theorem dX4_tryRest_33 : decode cX4_tryRest 33 = .ok (.getfield 36, 3) := by decide +kernel
theorem dX4_tryRest_36 : decode cX4_tryRest 36 = .ok (.if_icmp .ge 37, 3) := by decide +kernel
theorem dX4_tryRest_39 : decode cX4_tryRest 39 = .ok (.aload_n 0, 1) := by decide +kernel
theorem dX4_tryRest_40 : decode cX4_tryRest 40 = .ok (.invokevirtual 52, 3) := by decide +kernel
theorem dX4_tryRest_43 : decode cX4_tryRest 43 = .ok (.ifCond .ne 30, 3) := by decide +kernel
theorem dX4_tryRest_46 : decode cX4_tryRest 46 = .ok (.iload_n 1, 1) := by decide +kernel
theorem dX4_tryRest_47 : decode cX4_tryRest 47 = .ok (.iload_n 3, 1) := by decide +kernel
theorem dX4_tryRest_48 : decode cX4_tryRest 48 = .ok (.iushr, 1) := by decide +kernel
theorem dX4_tryRest_49 : decode cX4_tryRest 49 = .ok (.iconst 1, 1) := by decide +kernel
theorem dX4_tryRest_50 : decode cX4_tryRest 50 = .ok (.iand, 1) := by decide +kernel
theorem dX4_tryRest_51 : decode cX4_tryRest 51 = .ok (.iconst 1, 1) := by decide +kernel
theorem dX4_tryRest_52 : decode cX4_tryRest 52 = .ok (.if_icmp .ne 15, 3) := by decide +kernel
theorem dX4_tryRest_55 : decode cX4_tryRest 55 = .ok (.aload_n 0, 1) := by decide +kernel
theorem dX4_tryRest_56 : decode cX4_tryRest 56 = .ok (.iload_n 3, 1) := by decide +kernel
theorem dX4_tryRest_57 : decode cX4_tryRest 57 = .ok (.iload_n 1, 1) := by decide +kernel
theorem dX4_tryRest_58 : decode cX4_tryRest 58 = .ok (.iload_n 2, 1) := by decide +kernel
theorem dX4_tryRest_59 : decode cX4_tryRest 59 = .ok (.invokevirtual 56, 3) := by decide +kernel
theorem dX4_tryRest_62 : decode cX4_tryRest 62 = .ok (.ifCond .eq 5, 3) := by decide +kernel
theorem dX4_tryRest_65 : decode cX4_tryRest 65 = .ok (.iconst 1, 1) := by decide +kernel
theorem dX4_tryRest_66 : decode cX4_tryRest 66 = .ok (.ireturn, 1) := by decide +kernel
theorem dX4_tryRest_67 : decode cX4_tryRest 67 = .ok (.iinc 3 1, 3) := by decide +kernel
theorem dX4_tryRest_70 : decode cX4_tryRest 70 = .ok (.goto (-42), 3) := by decide +kernel
theorem dX4_tryRest_73 : decode cX4_tryRest 73 = .ok (.iconst 0, 1) := by decide +kernel
theorem dX4_tryRest_74 : decode cX4_tryRest 74 = .ok (.ireturn, 1) := by decide +kernel
theorem dX4_tryTurn_0 : decode cX4_tryTurn 0 = .ok (.aload_n 0, 1) := by decide +kernel
theorem dX4_tryTurn_1 : decode cX4_tryTurn 1 = .ok (.getfield 18, 3) := by decide +kernel
theorem dX4_tryTurn_4 : decode cX4_tryTurn 4 = .ok (.iload_n 3, 1) := by decide +kernel
theorem dX4_tryTurn_5 : decode cX4_tryTurn 5 = .ok (.iload_n 1, 1) := by decide +kernel
theorem dX4_tryTurn_6 : decode cX4_tryTurn 6 = .ok (.iastore, 1) := by decide +kernel
theorem dX4_tryTurn_7 : decode cX4_tryTurn 7 = .ok (.aload_n 0, 1) := by decide +kernel
theorem dX4_tryTurn_8 : decode cX4_tryTurn 8 = .ok (.getfield 12, 3) := by decide +kernel
theorem dX4_tryTurn_11 : decode cX4_tryTurn 11 = .ok (.iload_n 1, 1) := by decide +kernel
theorem dX4_tryTurn_12 : decode cX4_tryTurn 12 = .ok (.invokevirtual 60, 3) := by decide +kernel
theorem dX4_tryTurn_15 : decode cX4_tryTurn 15 = .ok (.istore 4, 2) := by decide +kernel
theorem dX4_tryTurn_17 : decode cX4_tryTurn 17 = .ok (.aload_n 0, 1) := by decide +kernel
theorem dX4_tryTurn_18 : decode cX4_tryTurn 18 = .ok (.getfield 12, 3) := by decide +kernel
theorem dX4_tryTurn_21 : decode cX4_tryTurn 21 = .ok (.iload_n 1, 1) := by decide +kernel
theorem dX4_tryTurn_22 : decode cX4_tryTurn 22 = .ok (.iconst (-1), 1) := by decide +kernel
theorem dX4_tryTurn_23 : decode cX4_tryTurn 23 = .ok (.invokevirtual 64, 3) := by decide +kernel
theorem dX4_tryTurn_26 : decode cX4_tryTurn 26 = .ok (.istore 5, 2) := by decide +kernel
theorem dX4_tryTurn_28 : decode cX4_tryTurn 28 = .ok (.iconst 0, 1) := by decide +kernel
theorem dX4_tryTurn_29 : decode cX4_tryTurn 29 = .ok (.istore 6, 2) := by decide +kernel
theorem dX4_tryTurn_31 : decode cX4_tryTurn 31 = .ok (.iload 6, 2) := by decide +kernel
theorem dX4_tryTurn_33 : decode cX4_tryTurn 33 = .ok (.sipush 4096, 3) := by decide +kernel
theorem dX4_tryTurn_36 : decode cX4_tryTurn 36 = .ok (.if_icmp .ge 114, 3) := by decide +kernel
theorem dX4_tryTurn_39 : decode cX4_tryTurn 39 = .ok (.iload 5, 2) := by decide +kernel
theorem dX4_tryTurn_41 : decode cX4_tryTurn 41 = .ok (.iconst (-1), 1) := by decide +kernel
theorem dX4_tryTurn_42 : decode cX4_tryTurn 42 = .ok (.if_icmp .eq 108, 3) := by decide +kernel
theorem dX4_tryTurn_45 : decode cX4_tryTurn 45 = .ok (.aload_n 0, 1) := by decide +kernel
theorem dX4_tryTurn_46 : decode cX4_tryTurn 46 = .ok (.dup, 1) := by decide +kernel
theorem dX4_tryTurn_47 : decode cX4_tryTurn 47 = .ok (.getfield 26, 3) := by decide +kernel
theorem dX4_tryTurn_50 : decode cX4_tryTurn 50 = .ok (.iconst 1, 1) := by decide +kernel
theorem dX4_tryTurn_51 : decode cX4_tryTurn 51 = .ok (.iadd, 1) := by decide +kernel
theorem dX4_tryTurn_52 : decode cX4_tryTurn 52 = .ok (.putfield 26, 3) := by decide +kernel
theorem dX4_tryTurn_55 : decode cX4_tryTurn 55 = .ok (.aload_n 0, 1) := by decide +kernel
theorem dX4_tryTurn_56 : decode cX4_tryTurn 56 = .ok (.invokevirtual 52, 3) := by decide +kernel
theorem dX4_tryTurn_59 : decode cX4_tryTurn 59 = .ok (.ifCond .eq 5, 3) := by decide +kernel
theorem dX4_tryTurn_62 : decode cX4_tryTurn 62 = .ok (.iconst 0, 1) := by decide +kernel
theorem dX4_tryTurn_63 : decode cX4_tryTurn 63 = .ok (.ireturn, 1) := by decide +kernel
theorem dX4_tryTurn_64 : decode cX4_tryTurn 64 = .ok (.aload_n 0, 1) := by decide +kernel
theorem dX4_tryTurn_65 : decode cX4_tryTurn 65 = .ok (.getfield 12, 3) := by decide +kernel
theorem dX4_tryTurn_68 : decode cX4_tryTurn 68 = .ok (.iload_n 1, 1) := by decide +kernel
theorem dX4_tryTurn_69 : decode cX4_tryTurn 69 = .ok (.iload 5, 2) := by decide +kernel
theorem dX4_tryTurn_71 : decode cX4_tryTurn 71 = .ok (.invokevirtual 67, 3) := by decide +kernel
theorem dX4_tryTurn_74 : decode cX4_tryTurn 74 = .ok (.istore 7, 2) := by decide +kernel
theorem dX4_tryTurn_76 : decode cX4_tryTurn 76 = .ok (.aload_n 0, 1) := by decide +kernel
theorem dX4_tryTurn_77 : decode cX4_tryTurn 77 = .ok (.getfield 12, 3) := by decide +kernel
theorem dX4_tryTurn_80 : decode cX4_tryTurn 80 = .ok (.iload_n 1, 1) := by decide +kernel
theorem dX4_tryTurn_81 : decode cX4_tryTurn 81 = .ok (.iload 5, 2) := by decide +kernel
theorem dX4_tryTurn_83 : decode cX4_tryTurn 83 = .ok (.iload 7, 2) := by decide +kernel
theorem dX4_tryTurn_85 : decode cX4_tryTurn 85 = .ok (.iload 4, 2) := by decide +kernel
theorem dX4_tryTurn_87 : decode cX4_tryTurn 87 = .ok (.invokevirtual 70, 3) := by decide +kernel
theorem dX4_tryTurn_90 : decode cX4_tryTurn 90 = .ok (.aload_n 0, 1) := by decide +kernel
theorem dX4_tryTurn_91 : decode cX4_tryTurn 91 = .ok (.iload_n 2, 1) := by decide +kernel
theorem dX4_tryTurn_92 : decode cX4_tryTurn 92 = .ok (.iconst 1, 1) := by decide +kernel
theorem dX4_tryTurn_93 : decode cX4_tryTurn 93 = .ok (.iload_n 1, 1) := by decide +kernel
theorem dX4_tryTurn_94 : decode cX4_tryTurn 94 = .ok (.ishl, 1) := by decide +kernel
theorem dX4_tryTurn_95 : decode cX4_tryTurn 95 = .ok (.iconst (-1), 1) := by decide +kernel
theorem dX4_tryTurn_96 : decode cX4_tryTurn 96 = .ok (.ixor, 1) := by decide +kernel
theorem dX4_tryTurn_97 : decode cX4_tryTurn 97 = .ok (.iand, 1) := by decide +kernel
theorem dX4_tryTurn_98 : decode cX4_tryTurn 98 = .ok (.iload_n 3, 1) := by decide +kernel
theorem dX4_tryTurn_99 : decode cX4_tryTurn 99 = .ok (.iconst 1, 1) := by decide +kernel
theorem dX4_tryTurn_100 : decode cX4_tryTurn 100 = .ok (.iadd, 1) := by decide +kernel
theorem dX4_tryTurn_101 : decode cX4_tryTurn 101 = .ok (.invokevirtual 42, 3) := by decide +kernel
theorem dX4_tryTurn_104 : decode cX4_tryTurn 104 = .ok (.ifCond .eq 5, 3) := by decide +kernel
theorem dX4_tryTurn_107 : decode cX4_tryTurn 107 = .ok (.iconst 1, 1) := by decide +kernel
theorem dX4_tryTurn_108 : decode cX4_tryTurn 108 = .ok (.ireturn, 1) := by decide +kernel
theorem dX4_tryTurn_109 : decode cX4_tryTurn 109 = .ok (.aload_n 0, 1) := by decide +kernel
theorem dX4_tryTurn_110 : decode cX4_tryTurn 110 = .ok (.getfield 12, 3) := by decide +kernel
theorem dX4_tryTurn_113 : decode cX4_tryTurn 113 = .ok (.iload 4, 2) := by decide +kernel
theorem dX4_tryTurn_115 : decode cX4_tryTurn 115 = .ok (.iload 5, 2) := by decide +kernel
theorem dX4_tryTurn_117 : decode cX4_tryTurn 117 = .ok (.iload 7, 2) := by decide +kernel
theorem dX4_tryTurn_119 : decode cX4_tryTurn 119 = .ok (.iload_n 1, 1) := by decide +kernel
theorem dX4_tryTurn_120 : decode cX4_tryTurn 120 = .ok (.invokevirtual 70, 3) := by decide +kernel
theorem dX4_tryTurn_123 : decode cX4_tryTurn 123 = .ok (.aload_n 0, 1) := by decide +kernel
theorem dX4_tryTurn_124 : decode cX4_tryTurn 124 = .ok (.invokevirtual 52, 3) := by decide +kernel
theorem dX4_tryTurn_127 : decode cX4_tryTurn 127 = .ok (.ifCond .eq 5, 3) := by decide +kernel
theorem dX4_tryTurn_130 : decode cX4_tryTurn 130 = .ok (.iconst 0, 1) := by decide +kernel
theorem dX4_tryTurn_131 : decode cX4_tryTurn 131 = .ok (.ireturn, 1) := by decide +kernel
theorem dX4_tryTurn_132 : decode cX4_tryTurn 132 = .ok (.aload_n 0, 1) := by decide +kernel
theorem dX4_tryTurn_133 : decode cX4_tryTurn 133 = .ok (.getfield 12, 3) := by decide +kernel
theorem dX4_tryTurn_136 : decode cX4_tryTurn 136 = .ok (.iload_n 1, 1) := by decide +kernel
theorem dX4_tryTurn_137 : decode cX4_tryTurn 137 = .ok (.iload 5, 2) := by decide +kernel
theorem dX4_tryTurn_139 : decode cX4_tryTurn 139 = .ok (.invokevirtual 64, 3) := by decide +kernel
theorem dX4_tryTurn_142 : decode cX4_tryTurn 142 = .ok (.istore 5, 2) := by decide +kernel
theorem dX4_tryTurn_144 : decode cX4_tryTurn 144 = .ok (.iinc 6 1, 3) := by decide +kernel
theorem dX4_tryTurn_147 : decode cX4_tryTurn 147 = .ok (.goto (-116), 3) := by decide +kernel
theorem dX4_tryTurn_150 : decode cX4_tryTurn 150 = .ok (.iconst 0, 1) := by decide +kernel
theorem dX4_tryTurn_151 : decode cX4_tryTurn 151 = .ok (.ireturn, 1) := by decide +kernel
