theorem dX2_init_0 : decode cX2_init 0 = .ok (.aload_n 0, 1) := by decide +kernel
theorem dX2_init_1 : decode cX2_init 1 = .ok (.invokespecial 3, 3) := by decide +kernel
theorem dX2_init_4 : decode cX2_init 4 = .ok (.aload_n 0, 1) := by decide +kernel
theorem dX2_init_5 : decode cX2_init 5 = .ok (.new 9, 3) := by decide +kernel
theorem dX2_init_8 : decode cX2_init 8 = .ok (.dup, 1) := by decide +kernel
theorem dX2_init_9 : decode cX2_init 9 = .ok (.invokespecial 11, 3) := by decide +kernel
theorem dX2_init_12 : decode cX2_init 12 = .ok (.putfield 12, 3) := by decide +kernel
theorem dX2_init_15 : decode cX2_init 15 = .ok (.aload_n 0, 1) := by decide +kernel
theorem dX2_init_16 : decode cX2_init 16 = .ok (.sipush 700, 3) := by decide +kernel
theorem dX2_init_19 : decode cX2_init 19 = .ok (.newarray .byte, 2) := by decide +kernel
theorem dX2_init_21 : decode cX2_init 21 = .ok (.putfield 18, 3) := by decide +kernel
theorem dX2_init_24 : decode cX2_init 24 = .ok (.aload_n 0, 1) := by decide +kernel
theorem dX2_init_25 : decode cX2_init 25 = .ok (.iconst 0, 1) := by decide +kernel
theorem dX2_init_26 : decode cX2_init 26 = .ok (.putfield 22, 3) := by decide +kernel
theorem dX2_init_29 : decode cX2_init 29 = .ok (.aload_n 0, 1) := by decide +kernel
theorem dX2_init_30 : decode cX2_init 30 = .ok (.iconst 0, 1) := by decide +kernel
theorem dX2_init_31 : decode cX2_init 31 = .ok (.putfield 26, 3) := by decide +kernel
theorem dX2_init_34 : decode cX2_init 34 = .ok (.aload_n 0, 1) := by decide +kernel
theorem dX2_init_35 : decode cX2_init 35 = .ok (.iconst 0, 1) := by decide +kernel
theorem dX2_init_36 : decode cX2_init 36 = .ok (.putfield 29, 3) := by decide +kernel
theorem dX2_init_39 : decode cX2_init 39 = .ok (.aload_n 0, 1) := by decide +kernel
theorem dX2_init_40 : decode cX2_init 40 = .ok (.iconst 0, 1) := by decide +kernel
theorem dX2_init_41 : decode cX2_init 41 = .ok (.putfield 33, 3) := by decide +kernel
theorem dX2_init_44 : decode cX2_init 44 = .ok (.aload_n 0, 1) := by decide +kernel
theorem dX2_init_45 : decode cX2_init 45 = .ok (.iconst 0, 1) := by decide +kernel
theorem dX2_init_46 : decode cX2_init 46 = .ok (.putfield 36, 3) := by decide +kernel
theorem dX2_init_49 : decode cX2_init 49 = .ok (.aload_n 0, 1) := by decide +kernel
theorem dX2_init_50 : decode cX2_init 50 = .ok (.iconst 0, 1) := by decide +kernel
theorem dX2_init_51 : decode cX2_init 51 = .ok (.putfield 39, 3) := by decide +kernel
theorem dX2_init_54 : decode cX2_init 54 = .ok (.aload_n 0, 1) := by decide +kernel
theorem dX2_init_55 : decode cX2_init 55 = .ok (.iconst 0, 1) := by decide +kernel
theorem dX2_init_56 : decode cX2_init 56 = .ok (.putfield 42, 3) := by decide +kernel
theorem dX2_init_59 : decode cX2_init 59 = .ok (.aload_n 0, 1) := by decide +kernel
theorem dX2_init_60 : decode cX2_init 60 = .ok (.iconst 0, 1) := by decide +kernel
theorem dX2_init_61 : decode cX2_init 61 = .ok (.putfield 45, 3) := by decide +kernel
theorem dX2_init_64 : decode cX2_init 64 = .ok (.aload_n 0, 1) := by decide +kernel
theorem dX2_init_65 : decode cX2_init 65 = .ok (.iconst 0, 1) := by decide +kernel
theorem dX2_init_66 : decode cX2_init 66 = .ok (.putfield 48, 3) := by decide +kernel
theorem dX2_init_69 : decode cX2_init 69 = .ok (.aload_n 0, 1) := by decide +kernel
theorem dX2_init_70 : decode cX2_init 70 = .ok (.iconst 0, 1) := by decide +kernel
theorem dX2_init_71 : decode cX2_init 71 = .ok (.putfield 51, 3) := by decide +kernel
theorem dX2_init_74 : decode cX2_init 74 = .ok (.aload_n 0, 1) := by decide +kernel
theorem dX2_init_75 : decode cX2_init 75 = .ok (.iconst 0, 1) := by decide +kernel
theorem dX2_init_76 : decode cX2_init 76 = .ok (.putfield 54, 3) := by decide +kernel
theorem dX2_init_79 : decode cX2_init 79 = .ok (.return_, 1) := by decide +kernel
theorem dX2_length_0 : decode cX2_length 0 = .ok (.aload_n 0, 1) := by decide +kernel
theorem dX2_length_1 : decode cX2_length 1 = .ok (.getfield 22, 3) := by decide +kernel
theorem dX2_length_4 : decode cX2_length 4 = .ok (.ireturn, 1) := by decide +kernel
theorem dX2_hasRoomFor_0 : decode cX2_hasRoomFor 0 = .ok (.aload_n 0, 1) := by decide +kernel
theorem dX2_hasRoomFor_1 : decode cX2_hasRoomFor 1 = .ok (.getfield 22, 3) := by decide +kernel
theorem dX2_hasRoomFor_4 : decode cX2_hasRoomFor 4 = .ok (.iload_n 1, 1) := by decide +kernel
theorem dX2_hasRoomFor_5 : decode cX2_hasRoomFor 5 = .ok (.iadd, 1) := by decide +kernel
theorem dX2_hasRoomFor_6 : decode cX2_hasRoomFor 6 = .ok (.sipush 700, 3) := by decide +kernel
theorem dX2_hasRoomFor_9 : decode cX2_hasRoomFor 9 = .ok (.if_icmp .gt 7, 3) := by decide +kernel
theorem dX2_hasRoomFor_12 : decode cX2_hasRoomFor 12 = .ok (.iconst 1, 1) := by decide +kernel
theorem dX2_hasRoomFor_13 : decode cX2_hasRoomFor 13 = .ok (.goto 4, 3) := by decide +kernel
theorem dX2_hasRoomFor_16 : decode cX2_hasRoomFor 16 = .ok (.iconst 0, 1) := by decide +kernel
theorem dX2_hasRoomFor_17 : decode cX2_hasRoomFor 17 = .ok (.ireturn, 1) := by decide +kernel
theorem dX2_putBytes_0 : decode cX2_putBytes 0 = .ok (.bipush 24, 2) := by decide +kernel
theorem dX2_putBytes_2 : decode cX2_putBytes 2 = .ok (.istore_n 2, 1) := by decide +kernel
theorem dX2_putBytes_3 : decode cX2_putBytes 3 = .ok (.iload_n 2, 1) := by decide +kernel
theorem dX2_putBytes_4 : decode cX2_putBytes 4 = .ok (.ifCond .lt 42, 3) := by decide +kernel
theorem dX2_putBytes_7 : decode cX2_putBytes 7 = .ok (.aload_n 0, 1) := by decide +kernel
theorem dX2_putBytes_8 : decode cX2_putBytes 8 = .ok (.getfield 22, 3) := by decide +kernel
theorem dX2_putBytes_11 : decode cX2_putBytes 11 = .ok (.sipush 700, 3) := by decide +kernel
theorem dX2_putBytes_14 : decode cX2_putBytes 14 = .ok (.if_icmp .ge 32, 3) := by decide +kernel
theorem dX2_putBytes_17 : decode cX2_putBytes 17 = .ok (.aload_n 0, 1) := by decide +kernel
theorem dX2_putBytes_18 : decode cX2_putBytes 18 = .ok (.getfield 18, 3) := by decide +kernel
theorem dX2_putBytes_21 : decode cX2_putBytes 21 = .ok (.aload_n 0, 1) := by decide +kernel
theorem dX2_putBytes_22 : decode cX2_putBytes 22 = .ok (.getfield 22, 3) := by decide +kernel
theorem dX2_putBytes_25 : decode cX2_putBytes 25 = .ok (.iload_n 1, 1) := by decide +kernel
theorem dX2_putBytes_26 : decode cX2_putBytes 26 = .ok (.iload_n 2, 1) := by decide +kernel
theorem dX2_putBytes_27 : decode cX2_putBytes 27 = .ok (.iushr, 1) := by decide +kernel
theorem dX2_putBytes_28 : decode cX2_putBytes 28 = .ok (.i2b, 1) := by decide +kernel
theorem dX2_putBytes_29 : decode cX2_putBytes 29 = .ok (.bastore, 1) := by decide +kernel
theorem dX2_putBytes_30 : decode cX2_putBytes 30 = .ok (.aload_n 0, 1) := by decide +kernel
theorem dX2_putBytes_31 : decode cX2_putBytes 31 = .ok (.dup, 1) := by decide +kernel
theorem dX2_putBytes_32 : decode cX2_putBytes 32 = .ok (.getfield 22, 3) := by decide +kernel
theorem dX2_putBytes_35 : decode cX2_putBytes 35 = .ok (.iconst 1, 1) := by decide +kernel
theorem dX2_putBytes_36 : decode cX2_putBytes 36 = .ok (.iadd, 1) := by decide +kernel
theorem dX2_putBytes_37 : decode cX2_putBytes 37 = .ok (.putfield 22, 3) := by decide +kernel
theorem dX2_putBytes_40 : decode cX2_putBytes 40 = .ok (.iinc 2 (-8), 3) := by decide +kernel
theorem dX2_putBytes_43 : decode cX2_putBytes 43 = .ok (.goto (-40), 3) := by decide +kernel
theorem dX2_putBytes_46 : decode cX2_putBytes 46 = .ok (.return_, 1) := by decide +kernel
theorem dX2_readTown_0 : decode cX2_readTown 0 = .ok (.aload_n 0, 1) := by decide +kernel
theorem dX2_readTown_1 : decode cX2_readTown 1 = .ok (.iload_n 1, 1) := by decide +kernel
theorem dX2_readTown_2 : decode cX2_readTown 2 = .ok (.aload_n 0, 1) := by decide +kernel
theorem dX2_readTown_3 : decode cX2_readTown 3 = .ok (.getfield 22, 3) := by decide +kernel
theorem dX2_readTown_6 : decode cX2_readTown 6 = .ok (.invokestatic 57, 3) := by decide +kernel
theorem dX2_readTown_9 : decode cX2_readTown 9 = .ok (.putfield 26, 3) := by decide +kernel
theorem dX2_readTown_12 : decode cX2_readTown 12 = .ok (.aload_n 0, 1) := by decide +kernel
theorem dX2_readTown_13 : decode cX2_readTown 13 = .ok (.iconst 0, 1) := by decide +kernel
theorem dX2_readTown_14 : decode cX2_readTown 14 = .ok (.putfield 22, 3) := by decide +kernel
theorem dX2_readTown_17 : decode cX2_readTown 17 = .ok (.aload_n 0, 1) := by decide +kernel
theorem dX2_readTown_18 : decode cX2_readTown 18 = .ok (.getfield 12, 3) := by decide +kernel
theorem dX2_readTown_21 : decode cX2_readTown 21 = .ok (.invokevirtual 63, 3) := by decide +kernel
theorem dX2_readTown_24 : decode cX2_readTown 24 = .ok (.aload_n 0, 1) := by decide +kernel
theorem dX2_readTown_25 : decode cX2_readTown 25 = .ok (.iconst 0, 1) := by decide +kernel
theorem dX2_readTown_26 : decode cX2_readTown 26 = .ok (.putfield 29, 3) := by decide +kernel
theorem dX2_readTown_29 : decode cX2_readTown 29 = .ok (.aload_n 0, 1) := by decide +kernel
theorem dX2_readTown_30 : decode cX2_readTown 30 = .ok (.iconst 0, 1) := by decide +kernel
theorem dX2_readTown_31 : decode cX2_readTown 31 = .ok (.putfield 33, 3) := by decide +kernel
theorem dX2_readTown_34 : decode cX2_readTown 34 = .ok (.aload_n 0, 1) := by decide +kernel
theorem dX2_readTown_35 : decode cX2_readTown 35 = .ok (.iconst 0, 1) := by decide +kernel
theorem dX2_readTown_36 : decode cX2_readTown 36 = .ok (.putfield 36, 3) := by decide +kernel
theorem dX2_readTown_39 : decode cX2_readTown 39 = .ok (.aload_n 0, 1) := by decide +kernel
theorem dX2_readTown_40 : decode cX2_readTown 40 = .ok (.iconst 0, 1) := by decide +kernel
theorem dX2_readTown_41 : decode cX2_readTown 41 = .ok (.putfield 45, 3) := by decide +kernel
theorem dX2_readTown_44 : decode cX2_readTown 44 = .ok (.aload_n 0, 1) := by decide +kernel
theorem dX2_readTown_45 : decode cX2_readTown 45 = .ok (.invokevirtual 66, 3) := by decide +kernel
theorem dX2_readTown_48 : decode cX2_readTown 48 = .ok (.iconst 0, 1) := by decide +kernel
theorem dX2_readTown_49 : decode cX2_readTown 49 = .ok (.istore_n 2, 1) := by decide +kernel
theorem dX2_readTown_50 : decode cX2_readTown 50 = .ok (.iload_n 2, 1) := by decide +kernel
theorem dX2_readTown_51 : decode cX2_readTown 51 = .ok (.sipush 700, 3) := by decide +kernel
theorem dX2_readTown_54 : decode cX2_readTown 54 = .ok (.if_icmp .ge 28, 3) := by decide +kernel
theorem dX2_readTown_57 : decode cX2_readTown 57 = .ok (.aload_n 0, 1) := by decide +kernel
theorem dX2_readTown_58 : decode cX2_readTown 58 = .ok (.getfield 39, 3) := by decide +kernel
theorem dX2_readTown_61 : decode cX2_readTown 61 = .ok (.ifCond .eq 21, 3) := by decide +kernel
theorem dX2_readTown_64 : decode cX2_readTown 64 = .ok (.aload_n 0, 1) := by decide +kernel
theorem dX2_readTown_65 : decode cX2_readTown 65 = .ok (.invokevirtual 69, 3) := by decide +kernel
theorem dX2_readTown_68 : decode cX2_readTown 68 = .ok (.ifCond .ne 8, 3) := by decide +kernel
theorem dX2_readTown_71 : decode cX2_readTown 71 = .ok (.aload_n 0, 1) := by decide +kernel
theorem dX2_readTown_72 : decode cX2_readTown 72 = .ok (.getfield 36, 3) := by decide +kernel
theorem dX2_readTown_75 : decode cX2_readTown 75 = .ok (.ireturn, 1) := by decide +kernel
theorem dX2_readTown_76 : decode cX2_readTown 76 = .ok (.iinc 2 1, 3) := by decide +kernel
theorem dX2_readTown_79 : decode cX2_readTown 79 = .ok (.goto (-29), 3) := by decide +kernel
theorem dX2_readTown_82 : decode cX2_readTown 82 = .ok (.aload_n 0, 1) := by decide +kernel
theorem dX2_readTown_83 : decode cX2_readTown 83 = .ok (.getfield 12, 3) := by decide +kernel
theorem dX2_readTown_86 : decode cX2_readTown 86 = .ok (.invokevirtual 73, 3) := by decide +kernel
theorem dX2_readTown_89 : decode cX2_readTown 89 = .ok (.iconst 0, 1) := by decide +kernel
theorem dX2_readTown_90 : decode cX2_readTown 90 = .ok (.ireturn, 1) := by decide +kernel
theorem dX2_place_0 : decode cX2_place 0 = .ok (.aload_n 0, 1) := by decide +kernel
theorem dX2_place_1 : decode cX2_place 1 = .ok (.getfield 42, 3) := by decide +kernel
theorem dX2_place_4 : decode cX2_place 4 = .ok (.ireturn, 1) := by decide +kernel
theorem dX2_readLine_0 : decode cX2_readLine 0 = .ok (.aload_n 0, 1) := by decide +kernel
theorem dX2_readLine_1 : decode cX2_readLine 1 = .ok (.ldc 76, 2) := by decide +kernel
theorem dX2_readLine_3 : decode cX2_readLine 3 = .ok (.invokevirtual 78, 3) := by decide +kernel
theorem dX2_readLine_6 : decode cX2_readLine 6 = .ok (.ifCond .eq 23, 3) := by decide +kernel
theorem dX2_readLine_9 : decode cX2_readLine 9 = .ok (.aload_n 0, 1) := by decide +kernel
theorem dX2_readLine_10 : decode cX2_readLine 10 = .ok (.invokevirtual 82, 3) := by decide +kernel
theorem dX2_readLine_13 : decode cX2_readLine 13 = .ok (.ifCond .eq 14, 3) := by decide +kernel
theorem dX2_readLine_16 : decode cX2_readLine 16 = .ok (.aload_n 0, 1) := by decide +kernel
theorem dX2_readLine_17 : decode cX2_readLine 17 = .ok (.invokevirtual 85, 3) := by decide +kernel
theorem dX2_readLine_20 : decode cX2_readLine 20 = .ok (.ifCond .eq 7, 3) := by decide +kernel
theorem dX2_readLine_23 : decode cX2_readLine 23 = .ok (.iconst 1, 1) := by decide +kernel
theorem dX2_readLine_24 : decode cX2_readLine 24 = .ok (.goto 4, 3) := by decide +kernel
theorem dX2_readLine_27 : decode cX2_readLine 27 = .ok (.iconst 0, 1) := by decide +kernel
theorem dX2_readLine_28 : decode cX2_readLine 28 = .ok (.ireturn, 1) := by decide +kernel
theorem dX2_readLine_29 : decode cX2_readLine 29 = .ok (.aload_n 0, 1) := by decide +kernel
theorem dX2_readLine_30 : decode cX2_readLine 30 = .ok (.ldc 88, 2) := by decide +kernel
theorem dX2_readLine_32 : decode cX2_readLine 32 = .ok (.invokevirtual 78, 3) := by decide +kernel
theorem dX2_readLine_35 : decode cX2_readLine 35 = .ok (.ifCond .eq 23, 3) := by decide +kernel
theorem dX2_readLine_38 : decode cX2_readLine 38 = .ok (.aload_n 0, 1) := by decide +kernel
theorem dX2_readLine_39 : decode cX2_readLine 39 = .ok (.invokevirtual 90, 3) := by decide +kernel
theorem dX2_readLine_42 : decode cX2_readLine 42 = .ok (.ifCond .eq 14, 3) := by decide +kernel
theorem dX2_readLine_45 : decode cX2_readLine 45 = .ok (.aload_n 0, 1) := by decide +kernel
theorem dX2_readLine_46 : decode cX2_readLine 46 = .ok (.invokevirtual 85, 3) := by decide +kernel
theorem dX2_readLine_49 : decode cX2_readLine 49 = .ok (.ifCond .eq 7, 3) := by decide +kernel
theorem dX2_readLine_52 : decode cX2_readLine 52 = .ok (.iconst 1, 1) := by decide +kernel
theorem dX2_readLine_53 : decode cX2_readLine 53 = .ok (.goto 4, 3) := by decide +kernel
theorem dX2_readLine_56 : decode cX2_readLine 56 = .ok (.iconst 0, 1) := by decide +kernel
theorem dX2_readLine_57 : decode cX2_readLine 57 = .ok (.ireturn, 1) := by decide +kernel
theorem dX2_readLine_58 : decode cX2_readLine 58 = .ok (.aload_n 0, 1) := by decide +kernel
theorem dX2_readLine_59 : decode cX2_readLine 59 = .ok (.ldc 93, 2) := by decide +kernel
theorem dX2_readLine_61 : decode cX2_readLine 61 = .ok (.invokevirtual 78, 3) := by decide +kernel
theorem dX2_readLine_64 : decode cX2_readLine 64 = .ok (.ifCond .eq 23, 3) := by decide +kernel
theorem dX2_readLine_67 : decode cX2_readLine 67 = .ok (.aload_n 0, 1) := by decide +kernel
theorem dX2_readLine_68 : decode cX2_readLine 68 = .ok (.invokevirtual 95, 3) := by decide +kernel
theorem dX2_readLine_71 : decode cX2_readLine 71 = .ok (.ifCond .eq 14, 3) := by decide +kernel
theorem dX2_readLine_74 : decode cX2_readLine 74 = .ok (.aload_n 0, 1) := by decide +kernel
theorem dX2_readLine_75 : decode cX2_readLine 75 = .ok (.invokevirtual 85, 3) := by decide +kernel
theorem dX2_readLine_78 : decode cX2_readLine 78 = .ok (.ifCond .eq 7, 3) := by decide +kernel
theorem dX2_readLine_81 : decode cX2_readLine 81 = .ok (.iconst 1, 1) := by decide +kernel
theorem dX2_readLine_82 : decode cX2_readLine 82 = .ok (.goto 4, 3) := by decide +kernel
theorem dX2_readLine_85 : decode cX2_readLine 85 = .ok (.iconst 0, 1) := by decide +kernel
theorem dX2_readLine_86 : decode cX2_readLine 86 = .ok (.ireturn, 1) := by decide +kernel
theorem dX2_readLine_87 : decode cX2_readLine 87 = .ok (.aload_n 0, 1) := by decide +kernel
theorem dX2_readLine_88 : decode cX2_readLine 88 = .ok (.ldc 98, 2) := by decide +kernel
theorem dX2_readLine_90 : decode cX2_readLine 90 = .ok (.invokevirtual 78, 3) := by decide +kernel
theorem dX2_readLine_93 : decode cX2_readLine 93 = .ok (.ifCond .eq 23, 3) := by decide +kernel
theorem dX2_readLine_96 : decode cX2_readLine 96 = .ok (.aload_n 0, 1) := by decide +kernel
theorem dX2_readLine_97 : decode cX2_readLine 97 = .ok (.invokevirtual 100, 3) := by decide +kernel
theorem dX2_readLine_100 : decode cX2_readLine 100 = .ok (.ifCond .eq 14, 3) := by decide +kernel
theorem dX2_readLine_103 : decode cX2_readLine 103 = .ok (.aload_n 0, 1) := by decide +kernel
theorem dX2_readLine_104 : decode cX2_readLine 104 = .ok (.invokevirtual 85, 3) := by decide +kernel
theorem dX2_readLine_107 : decode cX2_readLine 107 = .ok (.ifCond .eq 7, 3) := by decide +kernel
theorem dX2_readLine_110 : decode cX2_readLine 110 = .ok (.iconst 1, 1) := by decide +kernel
theorem dX2_readLine_111 : decode cX2_readLine 111 = .ok (.goto 4, 3) := by decide +kernel
theorem dX2_readLine_114 : decode cX2_readLine 114 = .ok (.iconst 0, 1) := by decide +kernel
theorem dX2_readLine_115 : decode cX2_readLine 115 = .ok (.ireturn, 1) := by decide +kernel
theorem dX2_readLine_116 : decode cX2_readLine 116 = .ok (.aload_n 0, 1) := by decide +kernel
theorem dX2_readLine_117 : decode cX2_readLine 117 = .ok (.ldc 103, 2) := by decide +kernel
theorem dX2_readLine_119 : decode cX2_readLine 119 = .ok (.invokevirtual 78, 3) := by decide +kernel
theorem dX2_readLine_122 : decode cX2_readLine 122 = .ok (.ifCond .eq 23, 3) := by decide +kernel
theorem dX2_readLine_125 : decode cX2_readLine 125 = .ok (.aload_n 0, 1) := by decide +kernel
theorem dX2_readLine_126 : decode cX2_readLine 126 = .ok (.invokevirtual 105, 3) := by decide +kernel
theorem dX2_readLine_129 : decode cX2_readLine 129 = .ok (.ifCond .eq 14, 3) := by decide +kernel
theorem dX2_readLine_132 : decode cX2_readLine 132 = .ok (.aload_n 0, 1) := by decide +kernel
theorem dX2_readLine_133 : decode cX2_readLine 133 = .ok (.invokevirtual 85, 3) := by decide +kernel
theorem dX2_readLine_136 : decode cX2_readLine 136 = .ok (.ifCond .eq 7, 3) := by decide +kernel
theorem dX2_readLine_139 : decode cX2_readLine 139 = .ok (.iconst 1, 1) := by decide +kernel
theorem dX2_readLine_140 : decode cX2_readLine 140 = .ok (.goto 4, 3) := by decide +kernel
theorem dX2_readLine_143 : decode cX2_readLine 143 = .ok (.iconst 0, 1) := by decide +kernel
theorem dX2_readLine_144 : decode cX2_readLine 144 = .ok (.ireturn, 1) := by decide +kernel
theorem dX2_readLine_145 : decode cX2_readLine 145 = .ok (.aload_n 0, 1) := by decide +kernel
theorem dX2_readLine_146 : decode cX2_readLine 146 = .ok (.iconst 1, 1) := by decide +kernel
theorem dX2_readLine_147 : decode cX2_readLine 147 = .ok (.invokevirtual 108, 3) := by decide +kernel
theorem dX2_readLine_150 : decode cX2_readLine 150 = .ok (.ireturn, 1) := by decide +kernel
theorem dX2_readPerson_0 : decode cX2_readPerson 0 = .ok (.aload_n 0, 1) := by decide +kernel
theorem dX2_readPerson_1 : decode cX2_readPerson 1 = .ok (.getfield 12, 3) := by decide +kernel
theorem dX2_readPerson_4 : decode cX2_readPerson 4 = .ok (.getfield 112, 3) := by decide +kernel
theorem dX2_readPerson_7 : decode cX2_readPerson 7 = .ok (.bipush 6, 2) := by decide +kernel
theorem dX2_readPerson_9 : decode cX2_readPerson 9 = .ok (.if_icmp .lt 9, 3) := by decide +kernel
theorem dX2_readPerson_12 : decode cX2_readPerson 12 = .ok (.aload_n 0, 1) := by decide +kernel
theorem dX2_readPerson_13 : decode cX2_readPerson 13 = .ok (.iconst 2, 1) := by decide +kernel
theorem dX2_readPerson_14 : decode cX2_readPerson 14 = .ok (.invokevirtual 108, 3) := by decide +kernel
theorem dX2_readPerson_17 : decode cX2_readPerson 17 = .ok (.ireturn, 1) := by decide +kernel
theorem dX2_readPerson_18 : decode cX2_readPerson 18 = .ok (.aload_n 0, 1) := by decide +kernel
theorem dX2_readPerson_19 : decode cX2_readPerson 19 = .ok (.invokevirtual 66, 3) := by decide +kernel
theorem dX2_readPerson_22 : decode cX2_readPerson 22 = .ok (.iconst 0, 1) := by decide +kernel
theorem dX2_readPerson_23 : decode cX2_readPerson 23 = .ok (.istore_n 1, 1) := by decide +kernel
theorem dX2_readPerson_24 : decode cX2_readPerson 24 = .ok (.aload_n 0, 1) := by decide +kernel
theorem dX2_readPerson_25 : decode cX2_readPerson 25 = .ok (.ldc 115, 2) := by decide +kernel
theorem dX2_readPerson_27 : decode cX2_readPerson 27 = .ok (.invokevirtual 117, 3) := by decide +kernel
theorem dX2_readPerson_30 : decode cX2_readPerson 30 = .ok (.ifCond .eq 20, 3) := by decide +kernel
theorem dX2_readPerson_33 : decode cX2_readPerson 33 = .ok (.aload_n 0, 1) := by decide +kernel
theorem dX2_readPerson_34 : decode cX2_readPerson 34 = .ok (.iconst 0, 1) := by decide +kernel
theorem dX2_readPerson_35 : decode cX2_readPerson 35 = .ok (.bipush 99, 2) := by decide +kernel
theorem dX2_readPerson_37 : decode cX2_readPerson 37 = .ok (.invokevirtual 120, 3) := by decide +kernel
theorem dX2_readPerson_40 : decode cX2_readPerson 40 = .ok (.ifCond .ne 5, 3) := by decide +kernel
theorem dX2_readPerson_43 : decode cX2_readPerson 43 = .ok (.iconst 0, 1) := by decide +kernel
theorem dX2_readPerson_44 : decode cX2_readPerson 44 = .ok (.ireturn, 1) := by decide +kernel
theorem dX2_readPerson_45 : decode cX2_readPerson 45 = .ok (.aload_n 0, 1) := by decide +kernel
theorem dX2_readPerson_46 : decode cX2_readPerson 46 = .ok (.getfield 54, 3) := by decide +kernel
theorem dX2_readPerson_49 : decode cX2_readPerson 49 = .ok (.istore_n 1, 1) := by decide +kernel
theorem dX2_readPerson_50 : decode cX2_readPerson 50 = .ok (.aload_n 0, 1) := by decide +kernel
theorem dX2_readPerson_51 : decode cX2_readPerson 51 = .ok (.invokevirtual 124, 3) := by decide +kernel
theorem dX2_readPerson_54 : decode cX2_readPerson 54 = .ok (.istore_n 2, 1) := by decide +kernel
theorem dX2_readPerson_55 : decode cX2_readPerson 55 = .ok (.iload_n 2, 1) := by decide +kernel
theorem dX2_readPerson_56 : decode cX2_readPerson 56 = .ok (.iconst (-1), 1) := by decide +kernel
theorem dX2_readPerson_57 : decode cX2_readPerson 57 = .ok (.if_icmp .ne 9, 3) := by decide +kernel
theorem dX2_readPerson_60 : decode cX2_readPerson 60 = .ok (.aload_n 0, 1) := by decide +kernel
theorem dX2_readPerson_61 : decode cX2_readPerson 61 = .ok (.iconst 1, 1) := by decide +kernel
theorem dX2_readPerson_62 : decode cX2_readPerson 62 = .ok (.invokevirtual 108, 3) := by decide +kernel
theorem dX2_readPerson_65 : decode cX2_readPerson 65 = .ok (.ireturn, 1) := by decide +kernel
theorem dX2_readPerson_66 : decode cX2_readPerson 66 = .ok (.aload_n 0, 1) := by decide +kernel
theorem dX2_readPerson_67 : decode cX2_readPerson 67 = .ok (.invokevirtual 66, 3) := by decide +kernel
theorem dX2_readPerson_70 : decode cX2_readPerson 70 = .ok (.iconst 0, 1) := by decide +kernel
theorem dX2_readPerson_71 : decode cX2_readPerson 71 = .ok (.istore_n 3, 1) := by decide +kernel
theorem dX2_readPerson_72 : decode cX2_readPerson 72 = .ok (.iload_n 2, 1) := by decide +kernel
theorem dX2_readPerson_73 : decode cX2_readPerson 73 = .ok (.iconst 3, 1) := by decide +kernel
theorem dX2_readPerson_74 : decode cX2_readPerson 74 = .ok (.if_icmp .eq 8, 3) := by decide +kernel
theorem dX2_readPerson_77 : decode cX2_readPerson 77 = .ok (.iload_n 2, 1) := by decide +kernel
theorem dX2_readPerson_78 : decode cX2_readPerson 78 = .ok (.iconst 4, 1) := by decide +kernel
theorem dX2_readPerson_79 : decode cX2_readPerson 79 = .ok (.if_icmp .ne 30, 3) := by decide +kernel
theorem dX2_readPerson_82 : decode cX2_readPerson 82 = .ok (.aload_n 0, 1) := by decide +kernel
theorem dX2_readPerson_83 : decode cX2_readPerson 83 = .ok (.iconst 0, 1) := by decide +kernel
theorem dX2_readPerson_84 : decode cX2_readPerson 84 = .ok (.iload_n 2, 1) := by decide +kernel
theorem dX2_readPerson_85 : decode cX2_readPerson 85 = .ok (.iconst 3, 1) := by decide +kernel
theorem dX2_readPerson_86 : decode cX2_readPerson 86 = .ok (.if_icmp .ne 8, 3) := by decide +kernel
theorem dX2_readPerson_89 : decode cX2_readPerson 89 = .ok (.bipush 11, 2) := by decide +kernel
theorem dX2_readPerson_91 : decode cX2_readPerson 91 = .ok (.goto 5, 3) := by decide +kernel
theorem dX2_readPerson_94 : decode cX2_readPerson 94 = .ok (.bipush 99, 2) := by decide +kernel
theorem dX2_readPerson_96 : decode cX2_readPerson 96 = .ok (.invokevirtual 120, 3) := by decide +kernel
theorem dX2_readPerson_99 : decode cX2_readPerson 99 = .ok (.ifCond .ne 5, 3) := by decide +kernel
theorem dX2_readPerson_102 : decode cX2_readPerson 102 = .ok (.iconst 0, 1) := by decide +kernel
theorem dX2_readPerson_103 : decode cX2_readPerson 103 = .ok (.ireturn, 1) := by decide +kernel
theorem dX2_readPerson_104 : decode cX2_readPerson 104 = .ok (.aload_n 0, 1) := by decide +kernel
theorem dX2_readPerson_105 : decode cX2_readPerson 105 = .ok (.getfield 54, 3) := by decide +kernel
theorem dX2_readPerson_108 : decode cX2_readPerson 108 = .ok (.istore_n 3, 1) := by decide +kernel
theorem dX2_readPerson_109 : decode cX2_readPerson 109 = .ok (.aload_n 0, 1) := by decide +kernel
theorem dX2_readPerson_110 : decode cX2_readPerson 110 = .ok (.getfield 12, 3) := by decide +kernel
theorem dX2_readPerson_113 : decode cX2_readPerson 113 = .ok (.iload_n 2, 1) := by decide +kernel
theorem dX2_readPerson_114 : decode cX2_readPerson 114 = .ok (.iload_n 3, 1) := by decide +kernel
theorem dX2_readPerson_115 : decode cX2_readPerson 115 = .ok (.iload_n 1, 1) := by decide +kernel
theorem dX2_readPerson_116 : decode cX2_readPerson 116 = .ok (.invokevirtual 128, 3) := by decide +kernel
theorem dX2_readPerson_119 : decode cX2_readPerson 119 = .ok (.iconst 1, 1) := by decide +kernel
theorem dX2_readPerson_120 : decode cX2_readPerson 120 = .ok (.ireturn, 1) := by decide +kernel
theorem dX2_kindTold_0 : decode cX2_kindTold 0 = .ok (.aload_n 0, 1) := by decide +kernel
theorem dX2_kindTold_1 : decode cX2_kindTold 1 = .ok (.ldc 132, 2) := by decide +kernel
theorem dX2_kindTold_3 : decode cX2_kindTold 3 = .ok (.invokevirtual 78, 3) := by decide +kernel
theorem dX2_kindTold_6 : decode cX2_kindTold 6 = .ok (.ifCond .eq 5, 3) := by decide +kernel
theorem dX2_kindTold_9 : decode cX2_kindTold 9 = .ok (.iconst 0, 1) := by decide +kernel
theorem dX2_kindTold_10 : decode cX2_kindTold 10 = .ok (.ireturn, 1) := by decide +kernel
theorem dX2_kindTold_11 : decode cX2_kindTold 11 = .ok (.aload_n 0, 1) := by decide +kernel
theorem dX2_kindTold_12 : decode cX2_kindTold 12 = .ok (.ldc 134, 2) := by decide +kernel
theorem dX2_kindTold_14 : decode cX2_kindTold 14 = .ok (.invokevirtual 78, 3) := by decide +kernel
theorem dX2_kindTold_17 : decode cX2_kindTold 17 = .ok (.ifCond .eq 5, 3) := by decide +kernel
theorem dX2_kindTold_20 : decode cX2_kindTold 20 = .ok (.iconst 1, 1) := by decide +kernel
theorem dX2_kindTold_21 : decode cX2_kindTold 21 = .ok (.ireturn, 1) := by decide +kernel
theorem dX2_kindTold_22 : decode cX2_kindTold 22 = .ok (.aload_n 0, 1) := by decide +kernel
theorem dX2_kindTold_23 : decode cX2_kindTold 23 = .ok (.ldc 136, 2) := by decide +kernel
theorem dX2_kindTold_25 : decode cX2_kindTold 25 = .ok (.invokevirtual 78, 3) := by decide +kernel
theorem dX2_kindTold_28 : decode cX2_kindTold 28 = .ok (.ifCond .eq 5, 3) := by decide +kernel
theorem dX2_kindTold_31 : decode cX2_kindTold 31 = .ok (.iconst 2, 1) := by decide +kernel
theorem dX2_kindTold_32 : decode cX2_kindTold 32 = .ok (.ireturn, 1) := by decide +kernel
theorem dX2_kindTold_33 : decode cX2_kindTold 33 = .ok (.aload_n 0, 1) := by decide +kernel
theorem dX2_kindTold_34 : decode cX2_kindTold 34 = .ok (.ldc 138, 2) := by decide +kernel
theorem dX2_kindTold_36 : decode cX2_kindTold 36 = .ok (.invokevirtual 78, 3) := by decide +kernel
theorem dX2_kindTold_39 : decode cX2_kindTold 39 = .ok (.ifCond .eq 5, 3) := by decide +kernel
theorem dX2_kindTold_42 : decode cX2_kindTold 42 = .ok (.iconst 3, 1) := by decide +kernel
theorem dX2_kindTold_43 : decode cX2_kindTold 43 = .ok (.ireturn, 1) := by decide +kernel
theorem dX2_kindTold_44 : decode cX2_kindTold 44 = .ok (.aload_n 0, 1) := by decide +kernel
theorem dX2_kindTold_45 : decode cX2_kindTold 45 = .ok (.ldc 140, 2) := by decide +kernel
theorem dX2_kindTold_47 : decode cX2_kindTold 47 = .ok (.invokevirtual 78, 3) := by decide +kernel
theorem dX2_kindTold_50 : decode cX2_kindTold 50 = .ok (.ifCond .eq 7, 3) := by decide +kernel
theorem dX2_kindTold_53 : decode cX2_kindTold 53 = .ok (.iconst 4, 1) := by decide +kernel
theorem dX2_kindTold_54 : decode cX2_kindTold 54 = .ok (.goto 4, 3) := by decide +kernel
theorem dX2_kindTold_57 : decode cX2_kindTold 57 = .ok (.iconst (-1), 1) := by decide +kernel
theorem dX2_kindTold_58 : decode cX2_kindTold 58 = .ok (.ireturn, 1) := by decide +kernel
theorem dX2_readThing_0 : decode cX2_readThing 0 = .ok (.aload_n 0, 1) := by decide +kernel
theorem dX2_readThing_1 : decode cX2_readThing 1 = .ok (.getfield 12, 3) := by decide +kernel
theorem dX2_readThing_4 : decode cX2_readThing 4 = .ok (.getfield 142, 3) := by decide +kernel
theorem dX2_readThing_7 : decode cX2_readThing 7 = .ok (.bipush 12, 2) := by decide +kernel
theorem dX2_readThing_9 : decode cX2_readThing 9 = .ok (.if_icmp .lt 9, 3) := by decide +kernel
theorem dX2_readThing_12 : decode cX2_readThing 12 = .ok (.aload_n 0, 1) := by decide +kernel
theorem dX2_readThing_13 : decode cX2_readThing 13 = .ok (.iconst 2, 1) := by decide +kernel
theorem dX2_readThing_14 : decode cX2_readThing 14 = .ok (.invokevirtual 108, 3) := by decide +kernel
theorem dX2_readThing_17 : decode cX2_readThing 17 = .ok (.ireturn, 1) := by decide +kernel
theorem dX2_readThing_18 : decode cX2_readThing 18 = .ok (.aload_n 0, 1) := by decide +kernel
theorem dX2_readThing_19 : decode cX2_readThing 19 = .ok (.invokevirtual 66, 3) := by decide +kernel
theorem dX2_readThing_22 : decode cX2_readThing 22 = .ok (.aload_n 0, 1) := by decide +kernel
theorem dX2_readThing_23 : decode cX2_readThing 23 = .ok (.iconst 1, 1) := by decide +kernel
theorem dX2_readThing_24 : decode cX2_readThing 24 = .ok (.bipush 99, 2) := by decide +kernel
theorem dX2_readThing_26 : decode cX2_readThing 26 = .ok (.invokevirtual 120, 3) := by decide +kernel
theorem dX2_readThing_29 : decode cX2_readThing 29 = .ok (.ifCond .ne 5, 3) := by decide +kernel
theorem dX2_readThing_32 : decode cX2_readThing 32 = .ok (.iconst 0, 1) := by decide +kernel
theorem dX2_readThing_33 : decode cX2_readThing 33 = .ok (.ireturn, 1) := by decide +kernel
theorem dX2_readThing_34 : decode cX2_readThing 34 = .ok (.aload_n 0, 1) := by decide +kernel
theorem dX2_readThing_35 : decode cX2_readThing 35 = .ok (.getfield 54, 3) := by decide +kernel
theorem dX2_readThing_38 : decode cX2_readThing 38 = .ok (.istore_n 1, 1) := by decide +kernel
theorem dX2_readThing_39 : decode cX2_readThing 39 = .ok (.aload_n 0, 1) := by decide +kernel
theorem dX2_readThing_40 : decode cX2_readThing 40 = .ok (.iconst 0, 1) := by decide +kernel
theorem dX2_readThing_41 : decode cX2_readThing 41 = .ok (.sipush 999, 3) := by decide +kernel
theorem dX2_readThing_44 : decode cX2_readThing 44 = .ok (.invokevirtual 120, 3) := by decide +kernel
theorem dX2_readThing_47 : decode cX2_readThing 47 = .ok (.ifCond .ne 5, 3) := by decide +kernel
theorem dX2_readThing_50 : decode cX2_readThing 50 = .ok (.iconst 0, 1) := by decide +kernel
theorem dX2_readThing_51 : decode cX2_readThing 51 = .ok (.ireturn, 1) := by decide +kernel
theorem dX2_readThing_52 : decode cX2_readThing 52 = .ok (.aload_n 0, 1) := by decide +kernel
theorem dX2_readThing_53 : decode cX2_readThing 53 = .ok (.getfield 54, 3) := by decide +kernel
theorem dX2_readThing_56 : decode cX2_readThing 56 = .ok (.istore_n 2, 1) := by decide +kernel
theorem dX2_readThing_57 : decode cX2_readThing 57 = .ok (.aload_n 0, 1) := by decide +kernel
theorem dX2_readThing_58 : decode cX2_readThing 58 = .ok (.iconst (-1), 1) := by decide +kernel
theorem dX2_readThing_59 : decode cX2_readThing 59 = .ok (.invokevirtual 145, 3) := by decide +kernel
theorem dX2_readThing_62 : decode cX2_readThing 62 = .ok (.ifCond .ne 5, 3) := by decide +kernel
theorem dX2_readThing_65 : decode cX2_readThing 65 = .ok (.iconst 0, 1) := by decide +kernel
theorem dX2_readThing_66 : decode cX2_readThing 66 = .ok (.ireturn, 1) := by decide +kernel
theorem dX2_readThing_67 : decode cX2_readThing 67 = .ok (.aload_n 0, 1) := by decide +kernel
theorem dX2_readThing_68 : decode cX2_readThing 68 = .ok (.getfield 54, 3) := by decide +kernel
theorem dX2_readThing_71 : decode cX2_readThing 71 = .ok (.istore_n 3, 1) := by decide +kernel
theorem dX2_readThing_72 : decode cX2_readThing 72 = .ok (.aload_n 0, 1) := by decide +kernel
theorem dX2_readThing_73 : decode cX2_readThing 73 = .ok (.getfield 12, 3) := by decide +kernel
theorem dX2_readThing_76 : decode cX2_readThing 76 = .ok (.iload_n 1, 1) := by decide +kernel
theorem dX2_readThing_77 : decode cX2_readThing 77 = .ok (.iload_n 2, 1) := by decide +kernel
theorem dX2_readThing_78 : decode cX2_readThing 78 = .ok (.iload_n 3, 1) := by decide +kernel
theorem dX2_readThing_79 : decode cX2_readThing 79 = .ok (.aload_n 0, 1) := by decide +kernel
theorem dX2_readThing_80 : decode cX2_readThing 80 = .ok (.ldc 148, 2) := by decide +kernel
theorem dX2_readThing_82 : decode cX2_readThing 82 = .ok (.invokevirtual 117, 3) := by decide +kernel
theorem dX2_readThing_85 : decode cX2_readThing 85 = .ok (.invokevirtual 150, 3) := by decide +kernel
theorem dX2_readThing_88 : decode cX2_readThing 88 = .ok (.iconst 1, 1) := by decide +kernel
theorem dX2_readThing_89 : decode cX2_readThing 89 = .ok (.ireturn, 1) := by decide +kernel
theorem dX2_readOwes_0 : decode cX2_readOwes 0 = .ok (.aload_n 0, 1) := by decide +kernel
theorem dX2_readOwes_1 : decode cX2_readOwes 1 = .ok (.invokevirtual 66, 3) := by decide +kernel
theorem dX2_readOwes_4 : decode cX2_readOwes 4 = .ok (.aload_n 0, 1) := by decide +kernel
theorem dX2_readOwes_5 : decode cX2_readOwes 5 = .ok (.getfield 39, 3) := by decide +kernel
theorem dX2_readOwes_8 : decode cX2_readOwes 8 = .ok (.iconst 2, 1) := by decide +kernel
theorem dX2_readOwes_9 : decode cX2_readOwes 9 = .ok (.if_icmp .ne 31, 3) := by decide +kernel
theorem dX2_readOwes_12 : decode cX2_readOwes 12 = .ok (.aload_n 0, 1) := by decide +kernel
theorem dX2_readOwes_13 : decode cX2_readOwes 13 = .ok (.invokevirtual 154, 3) := by decide +kernel
theorem dX2_readOwes_16 : decode cX2_readOwes 16 = .ok (.ifCond .eq 24, 3) := by decide +kernel
theorem dX2_readOwes_19 : decode cX2_readOwes 19 = .ok (.aload_n 0, 1) := by decide +kernel
theorem dX2_readOwes_20 : decode cX2_readOwes 20 = .ok (.getfield 12, 3) := by decide +kernel
theorem dX2_readOwes_23 : decode cX2_readOwes 23 = .ok (.getfield 157, 3) := by decide +kernel
theorem dX2_readOwes_26 : decode cX2_readOwes 26 = .ok (.aload_n 0, 1) := by decide +kernel
theorem dX2_readOwes_27 : decode cX2_readOwes 27 = .ok (.getfield 51, 3) := by decide +kernel
theorem dX2_readOwes_30 : decode cX2_readOwes 30 = .ok (.iaload, 1) := by decide +kernel
theorem dX2_readOwes_31 : decode cX2_readOwes 31 = .ok (.ifCond .eq 9, 3) := by decide +kernel
theorem dX2_readOwes_34 : decode cX2_readOwes 34 = .ok (.aload_n 0, 1) := by decide +kernel
theorem dX2_readOwes_35 : decode cX2_readOwes 35 = .ok (.iconst 4, 1) := by decide +kernel
theorem dX2_readOwes_36 : decode cX2_readOwes 36 = .ok (.invokevirtual 108, 3) := by decide +kernel
theorem dX2_readOwes_39 : decode cX2_readOwes 39 = .ok (.ireturn, 1) := by decide +kernel
theorem dX2_readOwes_40 : decode cX2_readOwes 40 = .ok (.aload_n 0, 1) := by decide +kernel
theorem dX2_readOwes_41 : decode cX2_readOwes 41 = .ok (.iconst (-1), 1) := by decide +kernel
theorem dX2_readOwes_42 : decode cX2_readOwes 42 = .ok (.invokevirtual 145, 3) := by decide +kernel
theorem dX2_readOwes_45 : decode cX2_readOwes 45 = .ok (.ifCond .ne 5, 3) := by decide +kernel
theorem dX2_readOwes_48 : decode cX2_readOwes 48 = .ok (.iconst 0, 1) := by decide +kernel
theorem dX2_readOwes_49 : decode cX2_readOwes 49 = .ok (.ireturn, 1) := by decide +kernel
theorem dX2_readOwes_50 : decode cX2_readOwes 50 = .ok (.aload_n 0, 1) := by decide +kernel
theorem dX2_readOwes_51 : decode cX2_readOwes 51 = .ok (.getfield 54, 3) := by decide +kernel
theorem dX2_readOwes_54 : decode cX2_readOwes 54 = .ok (.istore_n 1, 1) := by decide +kernel
theorem dX2_readOwes_55 : decode cX2_readOwes 55 = .ok (.aload_n 0, 1) := by decide +kernel
theorem dX2_readOwes_56 : decode cX2_readOwes 56 = .ok (.iconst 1, 1) := by decide +kernel
theorem dX2_readOwes_57 : decode cX2_readOwes 57 = .ok (.sipush 999, 3) := by decide +kernel
theorem dX2_readOwes_60 : decode cX2_readOwes 60 = .ok (.invokevirtual 120, 3) := by decide +kernel
theorem dX2_readOwes_63 : decode cX2_readOwes 63 = .ok (.ifCond .ne 5, 3) := by decide +kernel
theorem dX2_readOwes_66 : decode cX2_readOwes 66 = .ok (.iconst 0, 1) := by decide +kernel
theorem dX2_readOwes_67 : decode cX2_readOwes 67 = .ok (.ireturn, 1) := by decide +kernel
theorem dX2_readOwes_68 : decode cX2_readOwes 68 = .ok (.aload_n 0, 1) := by decide +kernel
theorem dX2_readOwes_69 : decode cX2_readOwes 69 = .ok (.getfield 12, 3) := by decide +kernel
theorem dX2_readOwes_72 : decode cX2_readOwes 72 = .ok (.getfield 157, 3) := by decide +kernel
theorem dX2_readOwes_75 : decode cX2_readOwes 75 = .ok (.iload_n 1, 1) := by decide +kernel
theorem dX2_readOwes_76 : decode cX2_readOwes 76 = .ok (.aload_n 0, 1) := by decide +kernel
theorem dX2_readOwes_77 : decode cX2_readOwes 77 = .ok (.getfield 54, 3) := by decide +kernel
theorem dX2_readOwes_80 : decode cX2_readOwes 80 = .ok (.iastore, 1) := by decide +kernel
theorem dX2_readOwes_81 : decode cX2_readOwes 81 = .ok (.aload_n 0, 1) := by decide +kernel
theorem dX2_readOwes_82 : decode cX2_readOwes 82 = .ok (.ldc 161, 2) := by decide +kernel
theorem dX2_readOwes_84 : decode cX2_readOwes 84 = .ok (.invokevirtual 117, 3) := by decide +kernel
theorem dX2_readOwes_87 : decode cX2_readOwes 87 = .ok (.ifCond .eq 26, 3) := by decide +kernel
theorem dX2_readOwes_90 : decode cX2_readOwes 90 = .ok (.aload_n 0, 1) := by decide +kernel
theorem dX2_readOwes_91 : decode cX2_readOwes 91 = .ok (.iload_n 1, 1) := by decide +kernel
theorem dX2_readOwes_92 : decode cX2_readOwes 92 = .ok (.invokevirtual 145, 3) := by decide +kernel
theorem dX2_readOwes_95 : decode cX2_readOwes 95 = .ok (.ifCond .ne 5, 3) := by decide +kernel
theorem dX2_readOwes_98 : decode cX2_readOwes 98 = .ok (.iconst 0, 1) := by decide +kernel
theorem dX2_readOwes_99 : decode cX2_readOwes 99 = .ok (.ireturn, 1) := by decide +kernel
theorem dX2_readOwes_100 : decode cX2_readOwes 100 = .ok (.aload_n 0, 1) := by decide +kernel
theorem dX2_readOwes_101 : decode cX2_readOwes 101 = .ok (.getfield 12, 3) := by decide +kernel
theorem dX2_readOwes_104 : decode cX2_readOwes 104 = .ok (.getfield 163, 3) := by decide +kernel
theorem dX2_readOwes_107 : decode cX2_readOwes 107 = .ok (.iload_n 1, 1) := by decide +kernel
theorem dX2_readOwes_108 : decode cX2_readOwes 108 = .ok (.aload_n 0, 1) := by decide +kernel
theorem dX2_readOwes_109 : decode cX2_readOwes 109 = .ok (.getfield 54, 3) := by decide +kernel
theorem dX2_readOwes_112 : decode cX2_readOwes 112 = .ok (.iastore, 1) := by decide +kernel
theorem dX2_readOwes_113 : decode cX2_readOwes 113 = .ok (.iconst 1, 1) := by decide +kernel
theorem dX2_readOwes_114 : decode cX2_readOwes 114 = .ok (.ireturn, 1) := by decide +kernel
theorem dX2_readLaw_0 : decode cX2_readLaw 0 = .ok (.aload_n 0, 1) := by decide +kernel
theorem dX2_readLaw_1 : decode cX2_readLaw 1 = .ok (.getfield 29, 3) := by decide +kernel
theorem dX2_readLaw_4 : decode cX2_readLaw 4 = .ok (.ifCond .eq 9, 3) := by decide +kernel
theorem dX2_readLaw_7 : decode cX2_readLaw 7 = .ok (.aload_n 0, 1) := by decide +kernel
theorem dX2_readLaw_8 : decode cX2_readLaw 8 = .ok (.iconst 5, 1) := by decide +kernel
theorem dX2_readLaw_9 : decode cX2_readLaw 9 = .ok (.invokevirtual 108, 3) := by decide +kernel
theorem dX2_readLaw_12 : decode cX2_readLaw 12 = .ok (.ireturn, 1) := by decide +kernel
theorem dX2_readLaw_13 : decode cX2_readLaw 13 = .ok (.aload_n 0, 1) := by decide +kernel
theorem dX2_readLaw_14 : decode cX2_readLaw 14 = .ok (.iconst 1, 1) := by decide +kernel
theorem dX2_readLaw_15 : decode cX2_readLaw 15 = .ok (.putfield 29, 3) := by decide +kernel
theorem dX2_readLaw_18 : decode cX2_readLaw 18 = .ok (.aload_n 0, 1) := by decide +kernel
theorem dX2_readLaw_19 : decode cX2_readLaw 19 = .ok (.invokevirtual 66, 3) := by decide +kernel
theorem dX2_readLaw_22 : decode cX2_readLaw 22 = .ok (.aload_n 0, 1) := by decide +kernel
theorem dX2_readLaw_23 : decode cX2_readLaw 23 = .ok (.ldc 166, 2) := by decide +kernel
theorem dX2_readLaw_25 : decode cX2_readLaw 25 = .ok (.invokevirtual 117, 3) := by decide +kernel
theorem dX2_readLaw_28 : decode cX2_readLaw 28 = .ok (.ifCond .eq 5, 3) := by decide +kernel
theorem dX2_readLaw_31 : decode cX2_readLaw 31 = .ok (.iconst 1, 1) := by decide +kernel
theorem dX2_readLaw_32 : decode cX2_readLaw 32 = .ok (.ireturn, 1) := by decide +kernel
theorem dX2_readLaw_33 : decode cX2_readLaw 33 = .ok (.aload_n 0, 1) := by decide +kernel
theorem dX2_readLaw_34 : decode cX2_readLaw 34 = .ok (.ldc 168, 2) := by decide +kernel
theorem dX2_readLaw_36 : decode cX2_readLaw 36 = .ok (.invokevirtual 117, 3) := by decide +kernel
theorem dX2_readLaw_39 : decode cX2_readLaw 39 = .ok (.ifCond .eq 13, 3) := by decide +kernel
theorem dX2_readLaw_42 : decode cX2_readLaw 42 = .ok (.aload_n 0, 1) := by decide +kernel
theorem dX2_readLaw_43 : decode cX2_readLaw 43 = .ok (.getfield 12, 3) := by decide +kernel
theorem dX2_readLaw_46 : decode cX2_readLaw 46 = .ok (.iconst 1, 1) := by decide +kernel
theorem dX2_readLaw_47 : decode cX2_readLaw 47 = .ok (.putfield 170, 3) := by decide +kernel
theorem dX2_readLaw_50 : decode cX2_readLaw 50 = .ok (.iconst 1, 1) := by decide +kernel
theorem dX2_readLaw_51 : decode cX2_readLaw 51 = .ok (.ireturn, 1) := by decide +kernel
theorem dX2_readLaw_52 : decode cX2_readLaw 52 = .ok (.aload_n 0, 1) := by decide +kernel
theorem dX2_readLaw_53 : decode cX2_readLaw 53 = .ok (.iconst 1, 1) := by decide +kernel
theorem dX2_readLaw_54 : decode cX2_readLaw 54 = .ok (.invokevirtual 108, 3) := by decide +kernel
theorem dX2_readLaw_57 : decode cX2_readLaw 57 = .ok (.ireturn, 1) := by decide +kernel
theorem dX2_readWithin_0 : decode cX2_readWithin 0 = .ok (.aload_n 0, 1) := by decide +kernel
theorem dX2_readWithin_1 : decode cX2_readWithin 1 = .ok (.getfield 33, 3) := by decide +kernel
theorem dX2_readWithin_4 : decode cX2_readWithin 4 = .ok (.ifCond .eq 9, 3) := by decide +kernel
theorem dX2_readWithin_7 : decode cX2_readWithin 7 = .ok (.aload_n 0, 1) := by decide +kernel
theorem dX2_readWithin_8 : decode cX2_readWithin 8 = .ok (.iconst 5, 1) := by decide +kernel
theorem dX2_readWithin_9 : decode cX2_readWithin 9 = .ok (.invokevirtual 108, 3) := by decide +kernel
theorem dX2_readWithin_12 : decode cX2_readWithin 12 = .ok (.ireturn, 1) := by decide +kernel
theorem dX2_readWithin_13 : decode cX2_readWithin 13 = .ok (.aload_n 0, 1) := by decide +kernel
theorem dX2_readWithin_14 : decode cX2_readWithin 14 = .ok (.iconst 1, 1) := by decide +kernel
theorem dX2_readWithin_15 : decode cX2_readWithin 15 = .ok (.putfield 33, 3) := by decide +kernel
theorem dX2_readWithin_18 : decode cX2_readWithin 18 = .ok (.aload_n 0, 1) := by decide +kernel
theorem dX2_readWithin_19 : decode cX2_readWithin 19 = .ok (.invokevirtual 66, 3) := by decide +kernel
theorem dX2_readWithin_22 : decode cX2_readWithin 22 = .ok (.aload_n 0, 1) := by decide +kernel
theorem dX2_readWithin_23 : decode cX2_readWithin 23 = .ok (.iconst 0, 1) := by decide +kernel
theorem dX2_readWithin_24 : decode cX2_readWithin 24 = .ok (.bipush 9, 2) := by decide +kernel
theorem dX2_readWithin_26 : decode cX2_readWithin 26 = .ok (.invokevirtual 120, 3) := by decide +kernel
theorem dX2_readWithin_29 : decode cX2_readWithin 29 = .ok (.ifCond .ne 5, 3) := by decide +kernel
theorem dX2_readWithin_32 : decode cX2_readWithin 32 = .ok (.iconst 0, 1) := by decide +kernel
theorem dX2_readWithin_33 : decode cX2_readWithin 33 = .ok (.ireturn, 1) := by decide +kernel
theorem dX2_readWithin_34 : decode cX2_readWithin 34 = .ok (.aload_n 0, 1) := by decide +kernel
theorem dX2_readWithin_35 : decode cX2_readWithin 35 = .ok (.getfield 12, 3) := by decide +kernel
theorem dX2_readWithin_38 : decode cX2_readWithin 38 = .ok (.aload_n 0, 1) := by decide +kernel
theorem dX2_readWithin_39 : decode cX2_readWithin 39 = .ok (.getfield 54, 3) := by decide +kernel
theorem dX2_readWithin_42 : decode cX2_readWithin 42 = .ok (.putfield 172, 3) := by decide +kernel
theorem dX2_readWithin_45 : decode cX2_readWithin 45 = .ok (.iconst 1, 1) := by decide +kernel
theorem dX2_readWithin_46 : decode cX2_readWithin 46 = .ok (.ireturn, 1) := by decide +kernel
theorem dX2_takeNumber_0 : decode cX2_takeNumber 0 = .ok (.aload_n 0, 1) := by decide +kernel
theorem dX2_takeNumber_1 : decode cX2_takeNumber 1 = .ok (.getfield 39, 3) := by decide +kernel
theorem dX2_takeNumber_4 : decode cX2_takeNumber 4 = .ok (.iconst 2, 1) := by decide +kernel
theorem dX2_takeNumber_5 : decode cX2_takeNumber 5 = .ok (.if_icmp .eq 9, 3) := by decide +kernel
theorem dX2_takeNumber_8 : decode cX2_takeNumber 8 = .ok (.aload_n 0, 1) := by decide +kernel
theorem dX2_takeNumber_9 : decode cX2_takeNumber 9 = .ok (.iconst 1, 1) := by decide +kernel
theorem dX2_takeNumber_10 : decode cX2_takeNumber 10 = .ok (.invokevirtual 108, 3) := by decide +kernel
theorem dX2_takeNumber_13 : decode cX2_takeNumber 13 = .ok (.ireturn, 1) := by decide +kernel
theorem dX2_takeNumber_14 : decode cX2_takeNumber 14 = .ok (.aload_n 0, 1) := by decide +kernel
theorem dX2_takeNumber_15 : decode cX2_takeNumber 15 = .ok (.getfield 48, 3) := by decide +kernel
theorem dX2_takeNumber_18 : decode cX2_takeNumber 18 = .ok (.iconst 4, 1) := by decide +kernel
theorem dX2_takeNumber_19 : decode cX2_takeNumber 19 = .ok (.if_icmp .gt 19, 3) := by decide +kernel
theorem dX2_takeNumber_22 : decode cX2_takeNumber 22 = .ok (.aload_n 0, 1) := by decide +kernel
theorem dX2_takeNumber_23 : decode cX2_takeNumber 23 = .ok (.getfield 51, 3) := by decide +kernel
theorem dX2_takeNumber_26 : decode cX2_takeNumber 26 = .ok (.iload_n 1, 1) := by decide +kernel
theorem dX2_takeNumber_27 : decode cX2_takeNumber 27 = .ok (.if_icmp .lt 11, 3) := by decide +kernel
theorem dX2_takeNumber_30 : decode cX2_takeNumber 30 = .ok (.aload_n 0, 1) := by decide +kernel
theorem dX2_takeNumber_31 : decode cX2_takeNumber 31 = .ok (.getfield 51, 3) := by decide +kernel
theorem dX2_takeNumber_34 : decode cX2_takeNumber 34 = .ok (.iload_n 2, 1) := by decide +kernel
theorem dX2_takeNumber_35 : decode cX2_takeNumber 35 = .ok (.if_icmp .le 9, 3) := by decide +kernel
theorem dX2_takeNumber_38 : decode cX2_takeNumber 38 = .ok (.aload_n 0, 1) := by decide +kernel
theorem dX2_takeNumber_39 : decode cX2_takeNumber 39 = .ok (.iconst 2, 1) := by decide +kernel
theorem dX2_takeNumber_40 : decode cX2_takeNumber 40 = .ok (.invokevirtual 108, 3) := by decide +kernel
theorem dX2_takeNumber_43 : decode cX2_takeNumber 43 = .ok (.ireturn, 1) := by decide +kernel
theorem dX2_takeNumber_44 : decode cX2_takeNumber 44 = .ok (.aload_n 0, 1) := by decide +kernel
theorem dX2_takeNumber_45 : decode cX2_takeNumber 45 = .ok (.aload_n 0, 1) := by decide +kernel
theorem dX2_takeNumber_46 : decode cX2_takeNumber 46 = .ok (.getfield 51, 3) := by decide +kernel
theorem dX2_takeNumber_49 : decode cX2_takeNumber 49 = .ok (.putfield 54, 3) := by decide +kernel
theorem dX2_takeNumber_52 : decode cX2_takeNumber 52 = .ok (.aload_n 0, 1) := by decide +kernel
theorem dX2_takeNumber_53 : decode cX2_takeNumber 53 = .ok (.invokevirtual 66, 3) := by decide +kernel
theorem dX2_takeNumber_56 : decode cX2_takeNumber 56 = .ok (.iconst 1, 1) := by decide +kernel
theorem dX2_takeNumber_57 : decode cX2_takeNumber 57 = .ok (.ireturn, 1) := by decide +kernel
theorem dX2_takePerson_0 : decode cX2_takePerson 0 = .ok (.aload_n 0, 1) := by decide +kernel
theorem dX2_takePerson_1 : decode cX2_takePerson 1 = .ok (.getfield 39, 3) := by decide +kernel
theorem dX2_takePerson_4 : decode cX2_takePerson 4 = .ok (.iconst 2, 1) := by decide +kernel
theorem dX2_takePerson_5 : decode cX2_takePerson 5 = .ok (.if_icmp .eq 9, 3) := by decide +kernel
theorem dX2_takePerson_8 : decode cX2_takePerson 8 = .ok (.aload_n 0, 1) := by decide +kernel
theorem dX2_takePerson_9 : decode cX2_takePerson 9 = .ok (.iconst 1, 1) := by decide +kernel
theorem dX2_takePerson_10 : decode cX2_takePerson 10 = .ok (.invokevirtual 108, 3) := by decide +kernel
theorem dX2_takePerson_13 : decode cX2_takePerson 13 = .ok (.ireturn, 1) := by decide +kernel
theorem dX2_takePerson_14 : decode cX2_takePerson 14 = .ok (.aload_n 0, 1) := by decide +kernel
theorem dX2_takePerson_15 : decode cX2_takePerson 15 = .ok (.getfield 48, 3) := by decide +kernel
theorem dX2_takePerson_18 : decode cX2_takePerson 18 = .ok (.iconst 4, 1) := by decide +kernel
theorem dX2_takePerson_19 : decode cX2_takePerson 19 = .ok (.if_icmp .le 9, 3) := by decide +kernel
theorem dX2_takePerson_22 : decode cX2_takePerson 22 = .ok (.aload_n 0, 1) := by decide +kernel
theorem dX2_takePerson_23 : decode cX2_takePerson 23 = .ok (.iconst 2, 1) := by decide +kernel
theorem dX2_takePerson_24 : decode cX2_takePerson 24 = .ok (.invokevirtual 108, 3) := by decide +kernel
theorem dX2_takePerson_27 : decode cX2_takePerson 27 = .ok (.ireturn, 1) := by decide +kernel
theorem dX2_takePerson_28 : decode cX2_takePerson 28 = .ok (.aload_n 0, 1) := by decide +kernel
theorem dX2_takePerson_29 : decode cX2_takePerson 29 = .ok (.invokevirtual 154, 3) := by decide +kernel
theorem dX2_takePerson_32 : decode cX2_takePerson 32 = .ok (.ifCond .ne 9, 3) := by decide +kernel
theorem dX2_takePerson_35 : decode cX2_takePerson 35 = .ok (.aload_n 0, 1) := by decide +kernel
theorem dX2_takePerson_36 : decode cX2_takePerson 36 = .ok (.iconst 3, 1) := by decide +kernel
theorem dX2_takePerson_37 : decode cX2_takePerson 37 = .ok (.invokevirtual 108, 3) := by decide +kernel
theorem dX2_takePerson_40 : decode cX2_takePerson 40 = .ok (.ireturn, 1) := by decide +kernel
theorem dX2_takePerson_41 : decode cX2_takePerson 41 = .ok (.aload_n 0, 1) := by decide +kernel
theorem dX2_takePerson_42 : decode cX2_takePerson 42 = .ok (.getfield 51, 3) := by decide +kernel
theorem dX2_takePerson_45 : decode cX2_takePerson 45 = .ok (.iload_n 1, 1) := by decide +kernel
theorem dX2_takePerson_46 : decode cX2_takePerson 46 = .ok (.if_icmp .ne 9, 3) := by decide +kernel
theorem dX2_takePerson_49 : decode cX2_takePerson 49 = .ok (.aload_n 0, 1) := by decide +kernel
theorem dX2_takePerson_50 : decode cX2_takePerson 50 = .ok (.iconst 4, 1) := by decide +kernel
theorem dX2_takePerson_51 : decode cX2_takePerson 51 = .ok (.invokevirtual 108, 3) := by decide +kernel
theorem dX2_takePerson_54 : decode cX2_takePerson 54 = .ok (.ireturn, 1) := by decide +kernel
theorem dX2_takePerson_55 : decode cX2_takePerson 55 = .ok (.aload_n 0, 1) := by decide +kernel
theorem dX2_takePerson_56 : decode cX2_takePerson 56 = .ok (.aload_n 0, 1) := by decide +kernel
theorem dX2_takePerson_57 : decode cX2_takePerson 57 = .ok (.getfield 51, 3) := by decide +kernel
theorem dX2_takePerson_60 : decode cX2_takePerson 60 = .ok (.putfield 54, 3) := by decide +kernel
theorem dX2_takePerson_63 : decode cX2_takePerson 63 = .ok (.aload_n 0, 1) := by decide +kernel
theorem dX2_takePerson_64 : decode cX2_takePerson 64 = .ok (.invokevirtual 66, 3) := by decide +kernel
theorem dX2_takePerson_67 : decode cX2_takePerson 67 = .ok (.iconst 1, 1) := by decide +kernel
theorem dX2_takePerson_68 : decode cX2_takePerson 68 = .ok (.ireturn, 1) := by decide +kernel
theorem dX2_personTold_0 : decode cX2_personTold 0 = .ok (.aload_n 0, 1) := by decide +kernel
theorem dX2_personTold_1 : decode cX2_personTold 1 = .ok (.getfield 48, 3) := by decide +kernel
theorem dX2_personTold_4 : decode cX2_personTold 4 = .ok (.iconst 4, 1) := by decide +kernel
theorem dX2_personTold_5 : decode cX2_personTold 5 = .ok (.if_icmp .gt 21, 3) := by decide +kernel
theorem dX2_personTold_8 : decode cX2_personTold 8 = .ok (.aload_n 0, 1) := by decide +kernel
theorem dX2_personTold_9 : decode cX2_personTold 9 = .ok (.getfield 51, 3) := by decide +kernel
theorem dX2_personTold_12 : decode cX2_personTold 12 = .ok (.aload_n 0, 1) := by decide +kernel
theorem dX2_personTold_13 : decode cX2_personTold 13 = .ok (.getfield 12, 3) := by decide +kernel
theorem dX2_personTold_16 : decode cX2_personTold 16 = .ok (.getfield 112, 3) := by decide +kernel
theorem dX2_personTold_19 : decode cX2_personTold 19 = .ok (.if_icmp .ge 7, 3) := by decide +kernel
theorem dX2_personTold_22 : decode cX2_personTold 22 = .ok (.iconst 1, 1) := by decide +kernel
theorem dX2_personTold_23 : decode cX2_personTold 23 = .ok (.goto 4, 3) := by decide +kernel
theorem dX2_personTold_26 : decode cX2_personTold 26 = .ok (.iconst 0, 1) := by decide +kernel
theorem dX2_personTold_27 : decode cX2_personTold 27 = .ok (.ireturn, 1) := by decide +kernel
theorem dX2_takeStop_0 : decode cX2_takeStop 0 = .ok (.aload_n 0, 1) := by decide +kernel
theorem dX2_takeStop_1 : decode cX2_takeStop 1 = .ok (.getfield 39, 3) := by decide +kernel
theorem dX2_takeStop_4 : decode cX2_takeStop 4 = .ok (.iconst 3, 1) := by decide +kernel
theorem dX2_takeStop_5 : decode cX2_takeStop 5 = .ok (.if_icmp .eq 9, 3) := by decide +kernel
theorem dX2_takeStop_8 : decode cX2_takeStop 8 = .ok (.aload_n 0, 1) := by decide +kernel
theorem dX2_takeStop_9 : decode cX2_takeStop 9 = .ok (.iconst 1, 1) := by decide +kernel
theorem dX2_takeStop_10 : decode cX2_takeStop 10 = .ok (.invokevirtual 108, 3) := by decide +kernel
theorem dX2_takeStop_13 : decode cX2_takeStop 13 = .ok (.ireturn, 1) := by decide +kernel
theorem dX2_takeStop_14 : decode cX2_takeStop 14 = .ok (.aload_n 0, 1) := by decide +kernel
theorem dX2_takeStop_15 : decode cX2_takeStop 15 = .ok (.invokevirtual 66, 3) := by decide +kernel
theorem dX2_takeStop_18 : decode cX2_takeStop 18 = .ok (.iconst 1, 1) := by decide +kernel
theorem dX2_takeStop_19 : decode cX2_takeStop 19 = .ok (.ireturn, 1) := by decide +kernel
theorem dX2_refuse_0 : decode cX2_refuse 0 = .ok (.aload_n 0, 1) := by decide +kernel
theorem dX2_refuse_1 : decode cX2_refuse 1 = .ok (.iload_n 1, 1) := by decide +kernel
theorem dX2_refuse_2 : decode cX2_refuse 2 = .ok (.putfield 36, 3) := by decide +kernel
theorem dX2_refuse_5 : decode cX2_refuse 5 = .ok (.iconst 0, 1) := by decide +kernel
theorem dX2_refuse_6 : decode cX2_refuse 6 = .ok (.ireturn, 1) := by decide +kernel
theorem dX2_skipWord_0 : decode cX2_skipWord 0 = .ok (.aload_n 0, 1) := by decide +kernel
theorem dX2_skipWord_1 : decode cX2_skipWord 1 = .ok (.aload_n 1, 1) := by decide +kernel
theorem dX2_skipWord_2 : decode cX2_skipWord 2 = .ok (.invokevirtual 78, 3) := by decide +kernel
theorem dX2_skipWord_5 : decode cX2_skipWord 5 = .ok (.istore_n 2, 1) := by decide +kernel
theorem dX2_skipWord_6 : decode cX2_skipWord 6 = .ok (.iload_n 2, 1) := by decide +kernel
theorem dX2_skipWord_7 : decode cX2_skipWord 7 = .ok (.ifCond .eq 7, 3) := by decide +kernel
theorem dX2_skipWord_10 : decode cX2_skipWord 10 = .ok (.aload_n 0, 1) := by decide +kernel
theorem dX2_skipWord_11 : decode cX2_skipWord 11 = .ok (.invokevirtual 66, 3) := by decide +kernel
theorem dX2_skipWord_14 : decode cX2_skipWord 14 = .ok (.iload_n 2, 1) := by decide +kernel
theorem dX2_skipWord_15 : decode cX2_skipWord 15 = .ok (.ireturn, 1) := by decide +kernel
theorem dX2_isWord_0 : decode cX2_isWord 0 = .ok (.aload_n 0, 1) := by decide +kernel
theorem dX2_isWord_1 : decode cX2_isWord 1 = .ok (.getfield 39, 3) := by decide +kernel
theorem dX2_isWord_4 : decode cX2_isWord 4 = .ok (.iconst 1, 1) := by decide +kernel
theorem dX2_isWord_5 : decode cX2_isWord 5 = .ok (.if_icmp .ne 19, 3) := by decide +kernel
theorem dX2_isWord_8 : decode cX2_isWord 8 = .ok (.aload_n 0, 1) := by decide +kernel
theorem dX2_isWord_9 : decode cX2_isWord 9 = .ok (.getfield 45, 3) := by decide +kernel
theorem dX2_isWord_12 : decode cX2_isWord 12 = .ok (.aload_n 0, 1) := by decide +kernel
theorem dX2_isWord_13 : decode cX2_isWord 13 = .ok (.getfield 42, 3) := by decide +kernel
theorem dX2_isWord_16 : decode cX2_isWord 16 = .ok (.isub, 1) := by decide +kernel
theorem dX2_isWord_17 : decode cX2_isWord 17 = .ok (.aload_n 1, 1) := by decide +kernel
theorem dX2_isWord_18 : decode cX2_isWord 18 = .ok (.invokevirtual 174, 3) := by decide +kernel
theorem dX2_isWord_21 : decode cX2_isWord 21 = .ok (.if_icmp .eq 5, 3) := by decide +kernel
theorem dX2_isWord_24 : decode cX2_isWord 24 = .ok (.iconst 0, 1) := by decide +kernel
theorem dX2_isWord_25 : decode cX2_isWord 25 = .ok (.ireturn, 1) := by decide +kernel
theorem dX2_isWord_26 : decode cX2_isWord 26 = .ok (.iconst 0, 1) := by decide +kernel
theorem dX2_isWord_27 : decode cX2_isWord 27 = .ok (.istore_n 2, 1) := by decide +kernel
theorem dX2_isWord_28 : decode cX2_isWord 28 = .ok (.iload_n 2, 1) := by decide +kernel
theorem dX2_isWord_29 : decode cX2_isWord 29 = .ok (.aload_n 1, 1) := by decide +kernel
theorem dX2_isWord_30 : decode cX2_isWord 30 = .ok (.invokevirtual 174, 3) := by decide +kernel
theorem dX2_isWord_33 : decode cX2_isWord 33 = .ok (.if_icmp .ge 30, 3) := by decide +kernel
theorem dX2_isWord_36 : decode cX2_isWord 36 = .ok (.aload_n 0, 1) := by decide +kernel
theorem dX2_isWord_37 : decode cX2_isWord 37 = .ok (.getfield 18, 3) := by decide +kernel
theorem dX2_isWord_40 : decode cX2_isWord 40 = .ok (.aload_n 0, 1) := by decide +kernel
theorem dX2_isWord_41 : decode cX2_isWord 41 = .ok (.getfield 42, 3) := by decide +kernel
theorem dX2_isWord_44 : decode cX2_isWord 44 = .ok (.iload_n 2, 1) := by decide +kernel
theorem dX2_isWord_45 : decode cX2_isWord 45 = .ok (.iadd, 1) := by decide +kernel
theorem dX2_isWord_46 : decode cX2_isWord 46 = .ok (.baload, 1) := by decide +kernel
theorem dX2_isWord_47 : decode cX2_isWord 47 = .ok (.aload_n 1, 1) := by decide +kernel
theorem dX2_isWord_48 : decode cX2_isWord 48 = .ok (.iload_n 2, 1) := by decide +kernel
theorem dX2_isWord_49 : decode cX2_isWord 49 = .ok (.invokevirtual 178, 3) := by decide +kernel
theorem dX2_isWord_52 : decode cX2_isWord 52 = .ok (.if_icmp .eq 5, 3) := by decide +kernel
theorem dX2_isWord_55 : decode cX2_isWord 55 = .ok (.iconst 0, 1) := by decide +kernel
theorem dX2_isWord_56 : decode cX2_isWord 56 = .ok (.ireturn, 1) := by decide +kernel
theorem dX2_isWord_57 : decode cX2_isWord 57 = .ok (.iinc 2 1, 3) := by decide +kernel
theorem dX2_isWord_60 : decode cX2_isWord 60 = .ok (.goto (-32), 3) := by decide +kernel
theorem dX2_isWord_63 : decode cX2_isWord 63 = .ok (.iconst 1, 1) := by decide +kernel
theorem dX2_isWord_64 : decode cX2_isWord 64 = .ok (.ireturn, 1) := by decide +kernel
theorem dX2_step_0 : decode cX2_step 0 = .ok (.aload_n 0, 1) := by decide +kernel
theorem dX2_step_1 : decode cX2_step 1 = .ok (.getfield 45, 3) := by decide +kernel
theorem dX2_step_4 : decode cX2_step 4 = .ok (.istore_n 1, 1) := by decide +kernel
theorem dX2_step_5 : decode cX2_step 5 = .ok (.iload_n 1, 1) := by decide +kernel
theorem dX2_step_6 : decode cX2_step 6 = .ok (.aload_n 0, 1) := by decide +kernel
theorem dX2_step_7 : decode cX2_step 7 = .ok (.getfield 26, 3) := by decide +kernel
theorem dX2_step_10 : decode cX2_step 10 = .ok (.if_icmp .ge 31, 3) := by decide +kernel
theorem dX2_step_13 : decode cX2_step 13 = .ok (.aload_n 0, 1) := by decide +kernel
theorem dX2_step_14 : decode cX2_step 14 = .ok (.getfield 18, 3) := by decide +kernel
theorem dX2_step_17 : decode cX2_step 17 = .ok (.iload_n 1, 1) := by decide +kernel
theorem dX2_step_18 : decode cX2_step 18 = .ok (.baload, 1) := by decide +kernel
theorem dX2_step_19 : decode cX2_step 19 = .ok (.bipush 32, 2) := by decide +kernel
theorem dX2_step_21 : decode cX2_step 21 = .ok (.if_icmp .eq 14, 3) := by decide +kernel
theorem dX2_step_24 : decode cX2_step 24 = .ok (.aload_n 0, 1) := by decide +kernel
theorem dX2_step_25 : decode cX2_step 25 = .ok (.getfield 18, 3) := by decide +kernel
theorem dX2_step_28 : decode cX2_step 28 = .ok (.iload_n 1, 1) := by decide +kernel
theorem dX2_step_29 : decode cX2_step 29 = .ok (.baload, 1) := by decide +kernel
theorem dX2_step_30 : decode cX2_step 30 = .ok (.bipush 10, 2) := by decide +kernel
theorem dX2_step_32 : decode cX2_step 32 = .ok (.if_icmp .ne 9, 3) := by decide +kernel
theorem dX2_step_35 : decode cX2_step 35 = .ok (.iinc 1 1, 3) := by decide +kernel
theorem dX2_step_38 : decode cX2_step 38 = .ok (.goto (-33), 3) := by decide +kernel
theorem dX2_step_41 : decode cX2_step 41 = .ok (.aload_n 0, 1) := by decide +kernel
theorem dX2_step_42 : decode cX2_step 42 = .ok (.iload_n 1, 1) := by decide +kernel
theorem dX2_step_43 : decode cX2_step 43 = .ok (.putfield 42, 3) := by decide +kernel
theorem dX2_step_46 : decode cX2_step 46 = .ok (.iload_n 1, 1) := by decide +kernel
theorem dX2_step_47 : decode cX2_step 47 = .ok (.aload_n 0, 1) := by decide +kernel
theorem dX2_step_48 : decode cX2_step 48 = .ok (.getfield 26, 3) := by decide +kernel
theorem dX2_step_51 : decode cX2_step 51 = .ok (.if_icmp .lt 16, 3) := by decide +kernel
theorem dX2_step_54 : decode cX2_step 54 = .ok (.aload_n 0, 1) := by decide +kernel
theorem dX2_step_55 : decode cX2_step 55 = .ok (.iconst 0, 1) := by decide +kernel
theorem dX2_step_56 : decode cX2_step 56 = .ok (.putfield 39, 3) := by decide +kernel
theorem dX2_step_59 : decode cX2_step 59 = .ok (.aload_n 0, 1) := by decide +kernel
theorem dX2_step_60 : decode cX2_step 60 = .ok (.iload_n 1, 1) := by decide +kernel
theorem dX2_step_61 : decode cX2_step 61 = .ok (.putfield 45, 3) := by decide +kernel
theorem dX2_step_64 : decode cX2_step 64 = .ok (.goto 62, 3) := by decide +kernel
theorem dX2_step_67 : decode cX2_step 67 = .ok (.aload_n 0, 1) := by decide +kernel
theorem dX2_step_68 : decode cX2_step 68 = .ok (.iload_n 1, 1) := by decide +kernel
theorem dX2_step_69 : decode cX2_step 69 = .ok (.invokevirtual 182, 3) := by decide +kernel
theorem dX2_step_72 : decode cX2_step 72 = .ok (.ifCond .eq 11, 3) := by decide +kernel
theorem dX2_step_75 : decode cX2_step 75 = .ok (.aload_n 0, 1) := by decide +kernel
theorem dX2_step_76 : decode cX2_step 76 = .ok (.iload_n 1, 1) := by decide +kernel
theorem dX2_step_77 : decode cX2_step 77 = .ok (.invokevirtual 185, 3) := by decide +kernel
theorem dX2_step_80 : decode cX2_step 80 = .ok (.goto 46, 3) := by decide +kernel
theorem dX2_step_83 : decode cX2_step 83 = .ok (.aload_n 0, 1) := by decide +kernel
theorem dX2_step_84 : decode cX2_step 84 = .ok (.iload_n 1, 1) := by decide +kernel
theorem dX2_step_85 : decode cX2_step 85 = .ok (.invokevirtual 189, 3) := by decide +kernel
theorem dX2_step_88 : decode cX2_step 88 = .ok (.ifCond .eq 11, 3) := by decide +kernel
theorem dX2_step_91 : decode cX2_step 91 = .ok (.aload_n 0, 1) := by decide +kernel
theorem dX2_step_92 : decode cX2_step 92 = .ok (.iload_n 1, 1) := by decide +kernel
theorem dX2_step_93 : decode cX2_step 93 = .ok (.invokevirtual 192, 3) := by decide +kernel
theorem dX2_step_96 : decode cX2_step 96 = .ok (.goto 30, 3) := by decide +kernel
theorem dX2_step_99 : decode cX2_step 99 = .ok (.aload_n 0, 1) := by decide +kernel
theorem dX2_step_100 : decode cX2_step 100 = .ok (.aload_n 0, 1) := by decide +kernel
theorem dX2_step_101 : decode cX2_step 101 = .ok (.getfield 18, 3) := by decide +kernel
theorem dX2_step_104 : decode cX2_step 104 = .ok (.iload_n 1, 1) := by decide +kernel
theorem dX2_step_105 : decode cX2_step 105 = .ok (.baload, 1) := by decide +kernel
theorem dX2_step_106 : decode cX2_step 106 = .ok (.bipush 59, 2) := by decide +kernel
theorem dX2_step_108 : decode cX2_step 108 = .ok (.if_icmp .ne 7, 3) := by decide +kernel
theorem dX2_step_111 : decode cX2_step 111 = .ok (.iconst 3, 1) := by decide +kernel
theorem dX2_step_112 : decode cX2_step 112 = .ok (.goto 4, 3) := by decide +kernel
theorem dX2_step_115 : decode cX2_step 115 = .ok (.iconst 4, 1) := by decide +kernel
theorem dX2_step_116 : decode cX2_step 116 = .ok (.putfield 39, 3) := by decide +kernel
theorem dX2_step_119 : decode cX2_step 119 = .ok (.aload_n 0, 1) := by decide +kernel
theorem dX2_step_120 : decode cX2_step 120 = .ok (.iload_n 1, 1) := by decide +kernel
theorem dX2_step_121 : decode cX2_step 121 = .ok (.iconst 1, 1) := by decide +kernel
theorem dX2_step_122 : decode cX2_step 122 = .ok (.iadd, 1) := by decide +kernel
theorem dX2_step_123 : decode cX2_step 123 = .ok (.putfield 45, 3) := by decide +kernel
theorem dX2_step_126 : decode cX2_step 126 = .ok (.return_, 1) := by decide +kernel
theorem dX2_stepWord_0 : decode cX2_stepWord 0 = .ok (.iload_n 1, 1) := by decide +kernel
theorem dX2_stepWord_1 : decode cX2_stepWord 1 = .ok (.istore_n 2, 1) := by decide +kernel
theorem dX2_stepWord_2 : decode cX2_stepWord 2 = .ok (.iload_n 2, 1) := by decide +kernel
theorem dX2_stepWord_3 : decode cX2_stepWord 3 = .ok (.aload_n 0, 1) := by decide +kernel
theorem dX2_stepWord_4 : decode cX2_stepWord 4 = .ok (.getfield 26, 3) := by decide +kernel
theorem dX2_stepWord_7 : decode cX2_stepWord 7 = .ok (.if_icmp .ge 17, 3) := by decide +kernel
theorem dX2_stepWord_10 : decode cX2_stepWord 10 = .ok (.aload_n 0, 1) := by decide +kernel
theorem dX2_stepWord_11 : decode cX2_stepWord 11 = .ok (.iload_n 2, 1) := by decide +kernel
theorem dX2_stepWord_12 : decode cX2_stepWord 12 = .ok (.invokevirtual 182, 3) := by decide +kernel
theorem dX2_stepWord_15 : decode cX2_stepWord 15 = .ok (.ifCond .eq 9, 3) := by decide +kernel
theorem dX2_stepWord_18 : decode cX2_stepWord 18 = .ok (.iinc 2 1, 3) := by decide +kernel
theorem dX2_stepWord_21 : decode cX2_stepWord 21 = .ok (.goto (-19), 3) := by decide +kernel
theorem dX2_stepWord_24 : decode cX2_stepWord 24 = .ok (.aload_n 0, 1) := by decide +kernel
theorem dX2_stepWord_25 : decode cX2_stepWord 25 = .ok (.iconst 1, 1) := by decide +kernel
theorem dX2_stepWord_26 : decode cX2_stepWord 26 = .ok (.putfield 39, 3) := by decide +kernel
theorem dX2_stepWord_29 : decode cX2_stepWord 29 = .ok (.aload_n 0, 1) := by decide +kernel
theorem dX2_stepWord_30 : decode cX2_stepWord 30 = .ok (.iload_n 2, 1) := by decide +kernel
theorem dX2_stepWord_31 : decode cX2_stepWord 31 = .ok (.putfield 45, 3) := by decide +kernel
theorem dX2_stepWord_34 : decode cX2_stepWord 34 = .ok (.return_, 1) := by decide +kernel
theorem dX2_stepNumber_0 : decode cX2_stepNumber 0 = .ok (.iload_n 1, 1) := by decide +kernel
theorem dX2_stepNumber_1 : decode cX2_stepNumber 1 = .ok (.istore_n 2, 1) := by decide +kernel
theorem dX2_stepNumber_2 : decode cX2_stepNumber 2 = .ok (.aload_n 0, 1) := by decide +kernel
theorem dX2_stepNumber_3 : decode cX2_stepNumber 3 = .ok (.iconst 0, 1) := by decide +kernel
theorem dX2_stepNumber_4 : decode cX2_stepNumber 4 = .ok (.putfield 51, 3) := by decide +kernel
theorem dX2_stepNumber_7 : decode cX2_stepNumber 7 = .ok (.iload_n 2, 1) := by decide +kernel
theorem dX2_stepNumber_8 : decode cX2_stepNumber 8 = .ok (.aload_n 0, 1) := by decide +kernel
theorem dX2_stepNumber_9 : decode cX2_stepNumber 9 = .ok (.getfield 26, 3) := by decide +kernel
theorem dX2_stepNumber_12 : decode cX2_stepNumber 12 = .ok (.if_icmp .ge 45, 3) := by decide +kernel
theorem dX2_stepNumber_15 : decode cX2_stepNumber 15 = .ok (.aload_n 0, 1) := by decide +kernel
theorem dX2_stepNumber_16 : decode cX2_stepNumber 16 = .ok (.iload_n 2, 1) := by decide +kernel
theorem dX2_stepNumber_17 : decode cX2_stepNumber 17 = .ok (.invokevirtual 189, 3) := by decide +kernel
theorem dX2_stepNumber_20 : decode cX2_stepNumber 20 = .ok (.ifCond .eq 37, 3) := by decide +kernel
theorem dX2_stepNumber_23 : decode cX2_stepNumber 23 = .ok (.iload_n 2, 1) := by decide +kernel
theorem dX2_stepNumber_24 : decode cX2_stepNumber 24 = .ok (.iload_n 1, 1) := by decide +kernel
theorem dX2_stepNumber_25 : decode cX2_stepNumber 25 = .ok (.isub, 1) := by decide +kernel
theorem dX2_stepNumber_26 : decode cX2_stepNumber 26 = .ok (.iconst 4, 1) := by decide +kernel
theorem dX2_stepNumber_27 : decode cX2_stepNumber 27 = .ok (.if_icmp .ge 24, 3) := by decide +kernel
theorem dX2_stepNumber_30 : decode cX2_stepNumber 30 = .ok (.aload_n 0, 1) := by decide +kernel
theorem dX2_stepNumber_31 : decode cX2_stepNumber 31 = .ok (.aload_n 0, 1) := by decide +kernel
theorem dX2_stepNumber_32 : decode cX2_stepNumber 32 = .ok (.getfield 51, 3) := by decide +kernel
theorem dX2_stepNumber_35 : decode cX2_stepNumber 35 = .ok (.bipush 10, 2) := by decide +kernel
theorem dX2_stepNumber_37 : decode cX2_stepNumber 37 = .ok (.imul, 1) := by decide +kernel
theorem dX2_stepNumber_38 : decode cX2_stepNumber 38 = .ok (.aload_n 0, 1) := by decide +kernel
theorem dX2_stepNumber_39 : decode cX2_stepNumber 39 = .ok (.getfield 18, 3) := by decide +kernel
theorem dX2_stepNumber_42 : decode cX2_stepNumber 42 = .ok (.iload_n 2, 1) := by decide +kernel
theorem dX2_stepNumber_43 : decode cX2_stepNumber 43 = .ok (.baload, 1) := by decide +kernel
theorem dX2_stepNumber_44 : decode cX2_stepNumber 44 = .ok (.iadd, 1) := by decide +kernel
theorem dX2_stepNumber_45 : decode cX2_stepNumber 45 = .ok (.bipush 48, 2) := by decide +kernel
theorem dX2_stepNumber_47 : decode cX2_stepNumber 47 = .ok (.isub, 1) := by decide +kernel
theorem dX2_stepNumber_48 : decode cX2_stepNumber 48 = .ok (.putfield 51, 3) := by decide +kernel
theorem dX2_stepNumber_51 : decode cX2_stepNumber 51 = .ok (.iinc 2 1, 3) := by decide +kernel
theorem dX2_stepNumber_54 : decode cX2_stepNumber 54 = .ok (.goto (-47), 3) := by decide +kernel
theorem dX2_stepNumber_57 : decode cX2_stepNumber 57 = .ok (.aload_n 0, 1) := by decide +kernel
theorem dX2_stepNumber_58 : decode cX2_stepNumber 58 = .ok (.iconst 2, 1) := by decide +kernel
theorem dX2_stepNumber_59 : decode cX2_stepNumber 59 = .ok (.putfield 39, 3) := by decide +kernel
theorem dX2_stepNumber_62 : decode cX2_stepNumber 62 = .ok (.aload_n 0, 1) := by decide +kernel
theorem dX2_stepNumber_63 : decode cX2_stepNumber 63 = .ok (.iload_n 2, 1) := by decide +kernel
theorem dX2_stepNumber_64 : decode cX2_stepNumber 64 = .ok (.iload_n 1, 1) := by decide +kernel
theorem dX2_stepNumber_65 : decode cX2_stepNumber 65 = .ok (.isub, 1) := by decide +kernel
theorem dX2_stepNumber_66 : decode cX2_stepNumber 66 = .ok (.putfield 48, 3) := by decide +kernel
theorem dX2_stepNumber_69 : decode cX2_stepNumber 69 = .ok (.aload_n 0, 1) := by decide +kernel
theorem dX2_stepNumber_70 : decode cX2_stepNumber 70 = .ok (.iload_n 2, 1) := by decide +kernel
theorem dX2_stepNumber_71 : decode cX2_stepNumber 71 = .ok (.putfield 45, 3) := by decide +kernel
theorem dX2_stepNumber_74 : decode cX2_stepNumber 74 = .ok (.return_, 1) := by decide +kernel
theorem dX2_isLetter_0 : decode cX2_isLetter 0 = .ok (.aload_n 0, 1) := by decide +kernel
theorem dX2_isLetter_1 : decode cX2_isLetter 1 = .ok (.getfield 18, 3) := by decide +kernel
theorem dX2_isLetter_4 : decode cX2_isLetter 4 = .ok (.iload_n 1, 1) := by decide +kernel
theorem dX2_isLetter_5 : decode cX2_isLetter 5 = .ok (.baload, 1) := by decide +kernel
theorem dX2_isLetter_6 : decode cX2_isLetter 6 = .ok (.bipush 97, 2) := by decide +kernel
theorem dX2_isLetter_8 : decode cX2_isLetter 8 = .ok (.if_icmp .lt 18, 3) := by decide +kernel
theorem dX2_isLetter_11 : decode cX2_isLetter 11 = .ok (.aload_n 0, 1) := by decide +kernel
theorem dX2_isLetter_12 : decode cX2_isLetter 12 = .ok (.getfield 18, 3) := by decide +kernel
theorem dX2_isLetter_15 : decode cX2_isLetter 15 = .ok (.iload_n 1, 1) := by decide +kernel
theorem dX2_isLetter_16 : decode cX2_isLetter 16 = .ok (.baload, 1) := by decide +kernel
theorem dX2_isLetter_17 : decode cX2_isLetter 17 = .ok (.bipush 122, 2) := by decide +kernel
theorem dX2_isLetter_19 : decode cX2_isLetter 19 = .ok (.if_icmp .gt 7, 3) := by decide +kernel
theorem dX2_isLetter_22 : decode cX2_isLetter 22 = .ok (.iconst 1, 1) := by decide +kernel
theorem dX2_isLetter_23 : decode cX2_isLetter 23 = .ok (.goto 4, 3) := by decide +kernel
theorem dX2_isLetter_26 : decode cX2_isLetter 26 = .ok (.iconst 0, 1) := by decide +kernel
theorem dX2_isLetter_27 : decode cX2_isLetter 27 = .ok (.ireturn, 1) := by decide +kernel
theorem dX2_isDigit_0 : decode cX2_isDigit 0 = .ok (.aload_n 0, 1) := by decide +kernel
theorem dX2_isDigit_1 : decode cX2_isDigit 1 = .ok (.getfield 18, 3) := by decide +kernel
theorem dX2_isDigit_4 : decode cX2_isDigit 4 = .ok (.iload_n 1, 1) := by decide +kernel
theorem dX2_isDigit_5 : decode cX2_isDigit 5 = .ok (.baload, 1) := by decide +kernel
theorem dX2_isDigit_6 : decode cX2_isDigit 6 = .ok (.bipush 48, 2) := by decide +kernel
theorem dX2_isDigit_8 : decode cX2_isDigit 8 = .ok (.if_icmp .lt 18, 3) := by decide +kernel
theorem dX2_isDigit_11 : decode cX2_isDigit 11 = .ok (.aload_n 0, 1) := by decide +kernel
theorem dX2_isDigit_12 : decode cX2_isDigit 12 = .ok (.getfield 18, 3) := by decide +kernel
theorem dX2_isDigit_15 : decode cX2_isDigit 15 = .ok (.iload_n 1, 1) := by decide +kernel
theorem dX2_isDigit_16 : decode cX2_isDigit 16 = .ok (.baload, 1) := by decide +kernel
theorem dX2_isDigit_17 : decode cX2_isDigit 17 = .ok (.bipush 57, 2) := by decide +kernel
theorem dX2_isDigit_19 : decode cX2_isDigit 19 = .ok (.if_icmp .gt 7, 3) := by decide +kernel
theorem dX2_isDigit_22 : decode cX2_isDigit 22 = .ok (.iconst 1, 1) := by decide +kernel
theorem dX2_isDigit_23 : decode cX2_isDigit 23 = .ok (.goto 4, 3) := by decide +kernel
theorem dX2_isDigit_26 : decode cX2_isDigit 26 = .ok (.iconst 0, 1) := by decide +kernel
theorem dX2_isDigit_27 : decode cX2_isDigit 27 = .ok (.ireturn, 1) := by decide +kernel
