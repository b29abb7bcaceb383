theorem dX5_init_0 : decode cX5_init 0 = .ok (.aload_n 0, 1) := by decide +kernel
theorem dX5_init_1 : decode cX5_init 1 = .ok (.invokespecial 1, 3) := by decide +kernel
theorem dX5_init_4 : decode cX5_init 4 = .ok (.aload_n 0, 1) := by decide +kernel
theorem dX5_init_5 : decode cX5_init 5 = .ok (.new 7, 3) := by decide +kernel
theorem dX5_init_8 : decode cX5_init 8 = .ok (.dup, 1) := by decide +kernel
theorem dX5_init_9 : decode cX5_init 9 = .ok (.invokespecial 9, 3) := by decide +kernel
theorem dX5_init_12 : decode cX5_init 12 = .ok (.putfield 10, 3) := by decide +kernel
theorem dX5_init_15 : decode cX5_init 15 = .ok (.aload_n 0, 1) := by decide +kernel
theorem dX5_init_16 : decode cX5_init 16 = .ok (.new 7, 3) := by decide +kernel
theorem dX5_init_19 : decode cX5_init 19 = .ok (.dup, 1) := by decide +kernel
theorem dX5_init_20 : decode cX5_init 20 = .ok (.invokespecial 9, 3) := by decide +kernel
theorem dX5_init_23 : decode cX5_init 23 = .ok (.putfield 16, 3) := by decide +kernel
theorem dX5_init_26 : decode cX5_init 26 = .ok (.aload_n 0, 1) := by decide +kernel
theorem dX5_init_27 : decode cX5_init 27 = .ok (.new 19, 3) := by decide +kernel
theorem dX5_init_30 : decode cX5_init 30 = .ok (.dup, 1) := by decide +kernel
theorem dX5_init_31 : decode cX5_init 31 = .ok (.invokespecial 21, 3) := by decide +kernel
theorem dX5_init_34 : decode cX5_init 34 = .ok (.putfield 22, 3) := by decide +kernel
theorem dX5_init_37 : decode cX5_init 37 = .ok (.aload_n 0, 1) := by decide +kernel
theorem dX5_init_38 : decode cX5_init 38 = .ok (.iconst 0, 1) := by decide +kernel
theorem dX5_init_39 : decode cX5_init 39 = .ok (.putfield 26, 3) := by decide +kernel
theorem dX5_init_42 : decode cX5_init 42 = .ok (.aload_n 0, 1) := by decide +kernel
theorem dX5_init_43 : decode cX5_init 43 = .ok (.iconst 0, 1) := by decide +kernel
theorem dX5_init_44 : decode cX5_init 44 = .ok (.putfield 30, 3) := by decide +kernel
theorem dX5_init_47 : decode cX5_init 47 = .ok (.aload_n 0, 1) := by decide +kernel
theorem dX5_init_48 : decode cX5_init 48 = .ok (.iconst 0, 1) := by decide +kernel
theorem dX5_init_49 : decode cX5_init 49 = .ok (.putfield 33, 3) := by decide +kernel
theorem dX5_init_52 : decode cX5_init 52 = .ok (.aload_n 0, 1) := by decide +kernel
theorem dX5_init_53 : decode cX5_init 53 = .ok (.new 7, 3) := by decide +kernel
theorem dX5_init_56 : decode cX5_init 56 = .ok (.dup, 1) := by decide +kernel
theorem dX5_init_57 : decode cX5_init 57 = .ok (.invokespecial 9, 3) := by decide +kernel
theorem dX5_init_60 : decode cX5_init 60 = .ok (.putfield 37, 3) := by decide +kernel
theorem dX5_init_63 : decode cX5_init 63 = .ok (.aload_n 0, 1) := by decide +kernel
theorem dX5_init_64 : decode cX5_init 64 = .ok (.new 19, 3) := by decide +kernel
theorem dX5_init_67 : decode cX5_init 67 = .ok (.dup, 1) := by decide +kernel
theorem dX5_init_68 : decode cX5_init 68 = .ok (.invokespecial 21, 3) := by decide +kernel
theorem dX5_init_71 : decode cX5_init 71 = .ok (.putfield 40, 3) := by decide +kernel
theorem dX5_init_74 : decode cX5_init 74 = .ok (.aload_n 0, 1) := by decide +kernel
theorem dX5_init_75 : decode cX5_init 75 = .ok (.iconst 0, 1) := by decide +kernel
theorem dX5_init_76 : decode cX5_init 76 = .ok (.putfield 43, 3) := by decide +kernel
theorem dX5_init_79 : decode cX5_init 79 = .ok (.aload_n 0, 1) := by decide +kernel
theorem dX5_init_80 : decode cX5_init 80 = .ok (.iconst 0, 1) := by decide +kernel
theorem dX5_init_81 : decode cX5_init 81 = .ok (.putfield 46, 3) := by decide +kernel
theorem dX5_init_84 : decode cX5_init 84 = .ok (.aload_n 0, 1) := by decide +kernel
theorem dX5_init_85 : decode cX5_init 85 = .ok (.new 49, 3) := by decide +kernel
theorem dX5_init_88 : decode cX5_init 88 = .ok (.dup, 1) := by decide +kernel
theorem dX5_init_89 : decode cX5_init 89 = .ok (.invokespecial 51, 3) := by decide +kernel
theorem dX5_init_92 : decode cX5_init 92 = .ok (.putfield 52, 3) := by decide +kernel
theorem dX5_init_95 : decode cX5_init 95 = .ok (.aload_n 0, 1) := by decide +kernel
theorem dX5_init_96 : decode cX5_init 96 = .ok (.iconst (-1), 1) := by decide +kernel
theorem dX5_init_97 : decode cX5_init 97 = .ok (.putfield 56, 3) := by decide +kernel
theorem dX5_init_100 : decode cX5_init 100 = .ok (.aload_n 0, 1) := by decide +kernel
theorem dX5_init_101 : decode cX5_init 101 = .ok (.new 59, 3) := by decide +kernel
theorem dX5_init_104 : decode cX5_init 104 = .ok (.dup, 1) := by decide +kernel
theorem dX5_init_105 : decode cX5_init 105 = .ok (.invokespecial 61, 3) := by decide +kernel
theorem dX5_init_108 : decode cX5_init 108 = .ok (.putfield 62, 3) := by decide +kernel
theorem dX5_init_111 : decode cX5_init 111 = .ok (.aload_n 0, 1) := by decide +kernel
theorem dX5_init_112 : decode cX5_init 112 = .ok (.bipush 6, 2) := by decide +kernel
theorem dX5_init_114 : decode cX5_init 114 = .ok (.newarray .int, 2) := by decide +kernel
theorem dX5_init_116 : decode cX5_init 116 = .ok (.putfield 66, 3) := by decide +kernel
theorem dX5_init_119 : decode cX5_init 119 = .ok (.aload_n 0, 1) := by decide +kernel
theorem dX5_init_120 : decode cX5_init 120 = .ok (.iconst 0, 1) := by decide +kernel
theorem dX5_init_121 : decode cX5_init 121 = .ok (.putfield 70, 3) := by decide +kernel
theorem dX5_init_124 : decode cX5_init 124 = .ok (.aload_n 0, 1) := by decide +kernel
theorem dX5_init_125 : decode cX5_init 125 = .ok (.aconst_null, 1) := by decide +kernel
theorem dX5_init_126 : decode cX5_init 126 = .ok (.putfield 73, 3) := by decide +kernel
theorem dX5_init_129 : decode cX5_init 129 = .ok (.aload_n 0, 1) := by decide +kernel
theorem dX5_init_130 : decode cX5_init 130 = .ok (.sipush 1000, 3) := by decide +kernel
theorem dX5_init_133 : decode cX5_init 133 = .ok (.newarray .int, 2) := by decide +kernel
theorem dX5_init_135 : decode cX5_init 135 = .ok (.putfield 77, 3) := by decide +kernel
theorem dX5_init_138 : decode cX5_init 138 = .ok (.aload_n 0, 1) := by decide +kernel
theorem dX5_init_139 : decode cX5_init 139 = .ok (.bipush 12, 2) := by decide +kernel
theorem dX5_init_141 : decode cX5_init 141 = .ok (.newarray .int, 2) := by decide +kernel
theorem dX5_init_143 : decode cX5_init 143 = .ok (.putfield 80, 3) := by decide +kernel
theorem dX5_init_146 : decode cX5_init 146 = .ok (.return_, 1) := by decide +kernel
theorem dX5_feed_0 : decode cX5_feed 0 = .ok (.aload_n 0, 1) := by decide +kernel
theorem dX5_feed_1 : decode cX5_feed 1 = .ok (.getfield 52, 3) := by decide +kernel
theorem dX5_feed_4 : decode cX5_feed 4 = .ok (.bipush 20, 2) := by decide +kernel
theorem dX5_feed_6 : decode cX5_feed 6 = .ok (.invokevirtual 83, 3) := by decide +kernel
theorem dX5_feed_9 : decode cX5_feed 9 = .ok (.ifCond .ne 5, 3) := by decide +kernel
theorem dX5_feed_12 : decode cX5_feed 12 = .ok (.iconst (-1), 1) := by decide +kernel
theorem dX5_feed_13 : decode cX5_feed 13 = .ok (.ireturn, 1) := by decide +kernel
theorem dX5_feed_14 : decode cX5_feed 14 = .ok (.aload_n 0, 1) := by decide +kernel
theorem dX5_feed_15 : decode cX5_feed 15 = .ok (.getfield 52, 3) := by decide +kernel
theorem dX5_feed_18 : decode cX5_feed 18 = .ok (.iload_n 1, 1) := by decide +kernel
theorem dX5_feed_19 : decode cX5_feed 19 = .ok (.invokevirtual 87, 3) := by decide +kernel
theorem dX5_feed_22 : decode cX5_feed 22 = .ok (.aload_n 0, 1) := by decide +kernel
theorem dX5_feed_23 : decode cX5_feed 23 = .ok (.getfield 52, 3) := by decide +kernel
theorem dX5_feed_26 : decode cX5_feed 26 = .ok (.iload_n 2, 1) := by decide +kernel
theorem dX5_feed_27 : decode cX5_feed 27 = .ok (.invokevirtual 87, 3) := by decide +kernel
theorem dX5_feed_30 : decode cX5_feed 30 = .ok (.aload_n 0, 1) := by decide +kernel
theorem dX5_feed_31 : decode cX5_feed 31 = .ok (.getfield 52, 3) := by decide +kernel
theorem dX5_feed_34 : decode cX5_feed 34 = .ok (.iload_n 3, 1) := by decide +kernel
theorem dX5_feed_35 : decode cX5_feed 35 = .ok (.invokevirtual 87, 3) := by decide +kernel
theorem dX5_feed_38 : decode cX5_feed 38 = .ok (.aload_n 0, 1) := by decide +kernel
theorem dX5_feed_39 : decode cX5_feed 39 = .ok (.getfield 52, 3) := by decide +kernel
theorem dX5_feed_42 : decode cX5_feed 42 = .ok (.iload 4, 2) := by decide +kernel
theorem dX5_feed_44 : decode cX5_feed 44 = .ok (.invokevirtual 87, 3) := by decide +kernel
theorem dX5_feed_47 : decode cX5_feed 47 = .ok (.aload_n 0, 1) := by decide +kernel
theorem dX5_feed_48 : decode cX5_feed 48 = .ok (.getfield 52, 3) := by decide +kernel
theorem dX5_feed_51 : decode cX5_feed 51 = .ok (.iload 5, 2) := by decide +kernel
theorem dX5_feed_53 : decode cX5_feed 53 = .ok (.invokevirtual 87, 3) := by decide +kernel
theorem dX5_feed_56 : decode cX5_feed 56 = .ok (.aload_n 0, 1) := by decide +kernel
theorem dX5_feed_57 : decode cX5_feed 57 = .ok (.getfield 52, 3) := by decide +kernel
theorem dX5_feed_60 : decode cX5_feed 60 = .ok (.invokevirtual 91, 3) := by decide +kernel
theorem dX5_feed_63 : decode cX5_feed 63 = .ok (.ireturn, 1) := by decide +kernel
theorem dX5_town_0 : decode cX5_town 0 = .ok (.iload_n 1, 1) := by decide +kernel
theorem dX5_town_1 : decode cX5_town 1 = .ok (.ifCond .lt 14, 3) := by decide +kernel
theorem dX5_town_4 : decode cX5_town 4 = .ok (.iload_n 1, 1) := by decide +kernel
theorem dX5_town_5 : decode cX5_town 5 = .ok (.aload_n 0, 1) := by decide +kernel
theorem dX5_town_6 : decode cX5_town 6 = .ok (.getfield 52, 3) := by decide +kernel
theorem dX5_town_9 : decode cX5_town 9 = .ok (.invokevirtual 91, 3) := by decide +kernel
theorem dX5_town_12 : decode cX5_town 12 = .ok (.if_icmp .le 11, 3) := by decide +kernel
theorem dX5_town_15 : decode cX5_town 15 = .ok (.new 95, 3) := by decide +kernel
theorem dX5_town_18 : decode cX5_town 18 = .ok (.dup, 1) := by decide +kernel
theorem dX5_town_19 : decode cX5_town 19 = .ok (.invokespecial 97, 3) := by decide +kernel
theorem dX5_town_22 : decode cX5_town 22 = .ok (.athrow, 1) := by decide +kernel
theorem dX5_town_23 : decode cX5_town 23 = .ok (.aload_n 0, 1) := by decide +kernel
theorem dX5_town_24 : decode cX5_town 24 = .ok (.getfield 52, 3) := by decide +kernel
theorem dX5_town_27 : decode cX5_town 27 = .ok (.iload_n 1, 1) := by decide +kernel
theorem dX5_town_28 : decode cX5_town 28 = .ok (.invokevirtual 98, 3) := by decide +kernel
theorem dX5_town_31 : decode cX5_town 31 = .ok (.istore_n 2, 1) := by decide +kernel
theorem dX5_town_32 : decode cX5_town 32 = .ok (.iload_n 2, 1) := by decide +kernel
theorem dX5_town_33 : decode cX5_town 33 = .ok (.ifCond .eq 26, 3) := by decide +kernel
theorem dX5_town_36 : decode cX5_town 36 = .ok (.aload_n 0, 1) := by decide +kernel
theorem dX5_town_37 : decode cX5_town 37 = .ok (.aload_n 0, 1) := by decide +kernel
theorem dX5_town_38 : decode cX5_town 38 = .ok (.getfield 52, 3) := by decide +kernel
theorem dX5_town_41 : decode cX5_town 41 = .ok (.invokevirtual 102, 3) := by decide +kernel
theorem dX5_town_44 : decode cX5_town 44 = .ok (.putfield 56, 3) := by decide +kernel
theorem dX5_town_47 : decode cX5_town 47 = .ok (.aload_n 0, 1) := by decide +kernel
theorem dX5_town_48 : decode cX5_town 48 = .ok (.dup, 1) := by decide +kernel
theorem dX5_town_49 : decode cX5_town 49 = .ok (.getfield 26, 3) := by decide +kernel
theorem dX5_town_52 : decode cX5_town 52 = .ok (.iconst 1, 1) := by decide +kernel
theorem dX5_town_53 : decode cX5_town 53 = .ok (.iadd, 1) := by decide +kernel
theorem dX5_town_54 : decode cX5_town 54 = .ok (.putfield 26, 3) := by decide +kernel
theorem dX5_town_57 : decode cX5_town 57 = .ok (.iload_n 2, 1) := by decide +kernel
theorem dX5_town_58 : decode cX5_town 58 = .ok (.ireturn, 1) := by decide +kernel
theorem dX5_town_59 : decode cX5_town 59 = .ok (.aload_n 0, 1) := by decide +kernel
theorem dX5_town_60 : decode cX5_town 60 = .ok (.iconst (-1), 1) := by decide +kernel
theorem dX5_town_61 : decode cX5_town 61 = .ok (.putfield 56, 3) := by decide +kernel
theorem dX5_town_64 : decode cX5_town 64 = .ok (.aload_n 0, 1) := by decide +kernel
theorem dX5_town_65 : decode cX5_town 65 = .ok (.getfield 10, 3) := by decide +kernel
theorem dX5_town_68 : decode cX5_town 68 = .ok (.aload_n 0, 1) := by decide +kernel
theorem dX5_town_69 : decode cX5_town 69 = .ok (.getfield 52, 3) := by decide +kernel
theorem dX5_town_72 : decode cX5_town 72 = .ok (.getfield 105, 3) := by decide +kernel
theorem dX5_town_75 : decode cX5_town 75 = .ok (.invokevirtual 106, 3) := by decide +kernel
theorem dX5_town_78 : decode cX5_town 78 = .ok (.aload_n 0, 1) := by decide +kernel
theorem dX5_town_79 : decode cX5_town 79 = .ok (.getfield 22, 3) := by decide +kernel
theorem dX5_town_82 : decode cX5_town 82 = .ok (.invokevirtual 110, 3) := by decide +kernel
theorem dX5_town_85 : decode cX5_town 85 = .ok (.aload_n 0, 1) := by decide +kernel
theorem dX5_town_86 : decode cX5_town 86 = .ok (.iconst 0, 1) := by decide +kernel
theorem dX5_town_87 : decode cX5_town 87 = .ok (.putfield 70, 3) := by decide +kernel
theorem dX5_town_90 : decode cX5_town 90 = .ok (.aload_n 0, 1) := by decide +kernel
theorem dX5_town_91 : decode cX5_town 91 = .ok (.iconst 0, 1) := by decide +kernel
theorem dX5_town_92 : decode cX5_town 92 = .ok (.putfield 33, 3) := by decide +kernel
theorem dX5_town_95 : decode cX5_town 95 = .ok (.iconst 0, 1) := by decide +kernel
theorem dX5_town_96 : decode cX5_town 96 = .ok (.ireturn, 1) := by decide +kernel
theorem dX5_fault_0 : decode cX5_fault 0 = .ok (.aload_n 0, 1) := by decide +kernel
theorem dX5_fault_1 : decode cX5_fault 1 = .ok (.getfield 56, 3) := by decide +kernel
theorem dX5_fault_4 : decode cX5_fault 4 = .ok (.ireturn, 1) := by decide +kernel
theorem dX5_count_0 : decode cX5_count 0 = .ok (.iload_n 1, 1) := by decide +kernel
theorem dX5_count_1 : decode cX5_count 1 = .ok (.tableswitch 117 0 8 #[51, 59, 67, 75, 83, 91, 99, 107, 112], 51) := by decide +kernel
theorem dX5_count_52 : decode cX5_count 52 = .ok (.aload_n 0, 1) := by decide +kernel
theorem dX5_count_53 : decode cX5_count 53 = .ok (.getfield 10, 3) := by decide +kernel
theorem dX5_count_56 : decode cX5_count 56 = .ok (.getfield 113, 3) := by decide +kernel
theorem dX5_count_59 : decode cX5_count 59 = .ok (.ireturn, 1) := by decide +kernel
theorem dX5_count_60 : decode cX5_count 60 = .ok (.aload_n 0, 1) := by decide +kernel
theorem dX5_count_61 : decode cX5_count 61 = .ok (.getfield 10, 3) := by decide +kernel
theorem dX5_count_64 : decode cX5_count 64 = .ok (.getfield 116, 3) := by decide +kernel
theorem dX5_count_67 : decode cX5_count 67 = .ok (.ireturn, 1) := by decide +kernel
theorem dX5_count_68 : decode cX5_count 68 = .ok (.aload_n 0, 1) := by decide +kernel
theorem dX5_count_69 : decode cX5_count 69 = .ok (.getfield 10, 3) := by decide +kernel
theorem dX5_count_72 : decode cX5_count 72 = .ok (.getfield 119, 3) := by decide +kernel
theorem dX5_count_75 : decode cX5_count 75 = .ok (.ireturn, 1) := by decide +kernel
theorem dX5_count_76 : decode cX5_count 76 = .ok (.aload_n 0, 1) := by decide +kernel
theorem dX5_count_77 : decode cX5_count 77 = .ok (.getfield 10, 3) := by decide +kernel
theorem dX5_count_80 : decode cX5_count 80 = .ok (.getfield 122, 3) := by decide +kernel
theorem dX5_count_83 : decode cX5_count 83 = .ok (.ireturn, 1) := by decide +kernel
theorem dX5_count_84 : decode cX5_count 84 = .ok (.aload_n 0, 1) := by decide +kernel
theorem dX5_count_85 : decode cX5_count 85 = .ok (.getfield 10, 3) := by decide +kernel
theorem dX5_count_88 : decode cX5_count 88 = .ok (.getfield 125, 3) := by decide +kernel
theorem dX5_count_91 : decode cX5_count 91 = .ok (.ireturn, 1) := by decide +kernel
theorem dX5_count_92 : decode cX5_count 92 = .ok (.aload_n 0, 1) := by decide +kernel
theorem dX5_count_93 : decode cX5_count 93 = .ok (.getfield 22, 3) := by decide +kernel
theorem dX5_count_96 : decode cX5_count 96 = .ok (.invokevirtual 128, 3) := by decide +kernel
theorem dX5_count_99 : decode cX5_count 99 = .ok (.ireturn, 1) := by decide +kernel
theorem dX5_count_100 : decode cX5_count 100 = .ok (.aload_n 0, 1) := by decide +kernel
theorem dX5_count_101 : decode cX5_count 101 = .ok (.getfield 52, 3) := by decide +kernel
theorem dX5_count_104 : decode cX5_count 104 = .ok (.invokevirtual 91, 3) := by decide +kernel
theorem dX5_count_107 : decode cX5_count 107 = .ok (.ireturn, 1) := by decide +kernel
theorem dX5_count_108 : decode cX5_count 108 = .ok (.aload_n 0, 1) := by decide +kernel
theorem dX5_count_109 : decode cX5_count 109 = .ok (.getfield 26, 3) := by decide +kernel
theorem dX5_count_112 : decode cX5_count 112 = .ok (.ireturn, 1) := by decide +kernel
theorem dX5_count_113 : decode cX5_count 113 = .ok (.aload_n 0, 1) := by decide +kernel
theorem dX5_count_114 : decode cX5_count 114 = .ok (.getfield 30, 3) := by decide +kernel
theorem dX5_count_117 : decode cX5_count 117 = .ok (.ireturn, 1) := by decide +kernel
theorem dX5_count_118 : decode cX5_count 118 = .ok (.new 129, 3) := by decide +kernel
theorem dX5_count_121 : decode cX5_count 121 = .ok (.dup, 1) := by decide +kernel
theorem dX5_count_122 : decode cX5_count 122 = .ok (.invokespecial 131, 3) := by decide +kernel
theorem dX5_count_125 : decode cX5_count 125 = .ok (.athrow, 1) := by decide +kernel
theorem dX5_person_0 : decode cX5_person 0 = .ok (.aload_n 0, 1) := by decide +kernel
theorem dX5_person_1 : decode cX5_person 1 = .ok (.iload_n 1, 1) := by decide +kernel
theorem dX5_person_2 : decode cX5_person 2 = .ok (.invokevirtual 132, 3) := by decide +kernel
theorem dX5_person_5 : decode cX5_person 5 = .ok (.iload_n 2, 1) := by decide +kernel
theorem dX5_person_6 : decode cX5_person 6 = .ok (.tableswitch 126 0 6 #[42, 52, 62, 72, 82, 92, 109], 42) := by decide +kernel
theorem dX5_person_48 : decode cX5_person 48 = .ok (.aload_n 0, 1) := by decide +kernel
theorem dX5_person_49 : decode cX5_person 49 = .ok (.getfield 10, 3) := by decide +kernel
theorem dX5_person_52 : decode cX5_person 52 = .ok (.getfield 135, 3) := by decide +kernel
theorem dX5_person_55 : decode cX5_person 55 = .ok (.iload_n 1, 1) := by decide +kernel
theorem dX5_person_56 : decode cX5_person 56 = .ok (.iaload, 1) := by decide +kernel
theorem dX5_person_57 : decode cX5_person 57 = .ok (.ireturn, 1) := by decide +kernel
theorem dX5_person_58 : decode cX5_person 58 = .ok (.aload_n 0, 1) := by decide +kernel
theorem dX5_person_59 : decode cX5_person 59 = .ok (.getfield 10, 3) := by decide +kernel
theorem dX5_person_62 : decode cX5_person 62 = .ok (.getfield 138, 3) := by decide +kernel
theorem dX5_person_65 : decode cX5_person 65 = .ok (.iload_n 1, 1) := by decide +kernel
theorem dX5_person_66 : decode cX5_person 66 = .ok (.iaload, 1) := by decide +kernel
theorem dX5_person_67 : decode cX5_person 67 = .ok (.ireturn, 1) := by decide +kernel
theorem dX5_person_68 : decode cX5_person 68 = .ok (.aload_n 0, 1) := by decide +kernel
theorem dX5_person_69 : decode cX5_person 69 = .ok (.getfield 10, 3) := by decide +kernel
theorem dX5_person_72 : decode cX5_person 72 = .ok (.getfield 141, 3) := by decide +kernel
theorem dX5_person_75 : decode cX5_person 75 = .ok (.iload_n 1, 1) := by decide +kernel
theorem dX5_person_76 : decode cX5_person 76 = .ok (.iaload, 1) := by decide +kernel
theorem dX5_person_77 : decode cX5_person 77 = .ok (.ireturn, 1) := by decide +kernel
theorem dX5_person_78 : decode cX5_person 78 = .ok (.aload_n 0, 1) := by decide +kernel
theorem dX5_person_79 : decode cX5_person 79 = .ok (.getfield 10, 3) := by decide +kernel
theorem dX5_person_82 : decode cX5_person 82 = .ok (.getfield 144, 3) := by decide +kernel
theorem dX5_person_85 : decode cX5_person 85 = .ok (.iload_n 1, 1) := by decide +kernel
theorem dX5_person_86 : decode cX5_person 86 = .ok (.iaload, 1) := by decide +kernel
theorem dX5_person_87 : decode cX5_person 87 = .ok (.ireturn, 1) := by decide +kernel
theorem dX5_person_88 : decode cX5_person 88 = .ok (.aload_n 0, 1) := by decide +kernel
theorem dX5_person_89 : decode cX5_person 89 = .ok (.getfield 10, 3) := by decide +kernel
theorem dX5_person_92 : decode cX5_person 92 = .ok (.getfield 147, 3) := by decide +kernel
theorem dX5_person_95 : decode cX5_person 95 = .ok (.iload_n 1, 1) := by decide +kernel
theorem dX5_person_96 : decode cX5_person 96 = .ok (.iaload, 1) := by decide +kernel
theorem dX5_person_97 : decode cX5_person 97 = .ok (.ireturn, 1) := by decide +kernel
theorem dX5_person_98 : decode cX5_person 98 = .ok (.aload_n 0, 1) := by decide +kernel
theorem dX5_person_99 : decode cX5_person 99 = .ok (.getfield 10, 3) := by decide +kernel
theorem dX5_person_102 : decode cX5_person 102 = .ok (.aload_n 0, 1) := by decide +kernel
theorem dX5_person_103 : decode cX5_person 103 = .ok (.getfield 10, 3) := by decide +kernel
theorem dX5_person_106 : decode cX5_person 106 = .ok (.getfield 147, 3) := by decide +kernel
theorem dX5_person_109 : decode cX5_person 109 = .ok (.iload_n 1, 1) := by decide +kernel
theorem dX5_person_110 : decode cX5_person 110 = .ok (.iaload, 1) := by decide +kernel
theorem dX5_person_111 : decode cX5_person 111 = .ok (.invokevirtual 150, 3) := by decide +kernel
theorem dX5_person_114 : decode cX5_person 114 = .ok (.ireturn, 1) := by decide +kernel
theorem dX5_person_115 : decode cX5_person 115 = .ok (.aload_n 0, 1) := by decide +kernel
theorem dX5_person_116 : decode cX5_person 116 = .ok (.getfield 10, 3) := by decide +kernel
theorem dX5_person_119 : decode cX5_person 119 = .ok (.aload_n 0, 1) := by decide +kernel
theorem dX5_person_120 : decode cX5_person 120 = .ok (.getfield 10, 3) := by decide +kernel
theorem dX5_person_123 : decode cX5_person 123 = .ok (.getfield 147, 3) := by decide +kernel
theorem dX5_person_126 : decode cX5_person 126 = .ok (.iload_n 1, 1) := by decide +kernel
theorem dX5_person_127 : decode cX5_person 127 = .ok (.iaload, 1) := by decide +kernel
theorem dX5_person_128 : decode cX5_person 128 = .ok (.invokevirtual 153, 3) := by decide +kernel
theorem dX5_person_131 : decode cX5_person 131 = .ok (.ireturn, 1) := by decide +kernel
theorem dX5_person_132 : decode cX5_person 132 = .ok (.new 129, 3) := by decide +kernel
theorem dX5_person_135 : decode cX5_person 135 = .ok (.dup, 1) := by decide +kernel
theorem dX5_person_136 : decode cX5_person 136 = .ok (.invokespecial 131, 3) := by decide +kernel
theorem dX5_person_139 : decode cX5_person 139 = .ok (.athrow, 1) := by decide +kernel
theorem dX5_thing_0 : decode cX5_thing 0 = .ok (.aload_n 0, 1) := by decide +kernel
theorem dX5_thing_1 : decode cX5_thing 1 = .ok (.iload_n 1, 1) := by decide +kernel
theorem dX5_thing_2 : decode cX5_thing 2 = .ok (.invokevirtual 156, 3) := by decide +kernel
theorem dX5_thing_5 : decode cX5_thing 5 = .ok (.iload_n 2, 1) := by decide +kernel
theorem dX5_thing_6 : decode cX5_thing 6 = .ok (.tableswitch 71 0 3 #[30, 40, 50, 59], 30) := by decide +kernel
theorem dX5_thing_36 : decode cX5_thing 36 = .ok (.aload_n 0, 1) := by decide +kernel
theorem dX5_thing_37 : decode cX5_thing 37 = .ok (.getfield 10, 3) := by decide +kernel
theorem dX5_thing_40 : decode cX5_thing 40 = .ok (.getfield 159, 3) := by decide +kernel
theorem dX5_thing_43 : decode cX5_thing 43 = .ok (.iload_n 1, 1) := by decide +kernel
theorem dX5_thing_44 : decode cX5_thing 44 = .ok (.iaload, 1) := by decide +kernel
theorem dX5_thing_45 : decode cX5_thing 45 = .ok (.ireturn, 1) := by decide +kernel
theorem dX5_thing_46 : decode cX5_thing 46 = .ok (.aload_n 0, 1) := by decide +kernel
theorem dX5_thing_47 : decode cX5_thing 47 = .ok (.getfield 10, 3) := by decide +kernel
theorem dX5_thing_50 : decode cX5_thing 50 = .ok (.getfield 162, 3) := by decide +kernel
theorem dX5_thing_53 : decode cX5_thing 53 = .ok (.iload_n 1, 1) := by decide +kernel
theorem dX5_thing_54 : decode cX5_thing 54 = .ok (.iaload, 1) := by decide +kernel
theorem dX5_thing_55 : decode cX5_thing 55 = .ok (.ireturn, 1) := by decide +kernel
theorem dX5_thing_56 : decode cX5_thing 56 = .ok (.aload_n 0, 1) := by decide +kernel
theorem dX5_thing_57 : decode cX5_thing 57 = .ok (.getfield 10, 3) := by decide +kernel
theorem dX5_thing_60 : decode cX5_thing 60 = .ok (.iload_n 1, 1) := by decide +kernel
theorem dX5_thing_61 : decode cX5_thing 61 = .ok (.invokevirtual 165, 3) := by decide +kernel
theorem dX5_thing_64 : decode cX5_thing 64 = .ok (.ireturn, 1) := by decide +kernel
theorem dX5_thing_65 : decode cX5_thing 65 = .ok (.aload_n 0, 1) := by decide +kernel
theorem dX5_thing_66 : decode cX5_thing 66 = .ok (.getfield 10, 3) := by decide +kernel
theorem dX5_thing_69 : decode cX5_thing 69 = .ok (.getfield 168, 3) := by decide +kernel
theorem dX5_thing_72 : decode cX5_thing 72 = .ok (.iload_n 1, 1) := by decide +kernel
theorem dX5_thing_73 : decode cX5_thing 73 = .ok (.iushr, 1) := by decide +kernel
theorem dX5_thing_74 : decode cX5_thing 74 = .ok (.iconst 1, 1) := by decide +kernel
theorem dX5_thing_75 : decode cX5_thing 75 = .ok (.iand, 1) := by decide +kernel
theorem dX5_thing_76 : decode cX5_thing 76 = .ok (.ireturn, 1) := by decide +kernel
theorem dX5_thing_77 : decode cX5_thing 77 = .ok (.new 129, 3) := by decide +kernel
theorem dX5_thing_80 : decode cX5_thing 80 = .ok (.dup, 1) := by decide +kernel
theorem dX5_thing_81 : decode cX5_thing 81 = .ok (.invokespecial 131, 3) := by decide +kernel
theorem dX5_thing_84 : decode cX5_thing 84 = .ok (.athrow, 1) := by decide +kernel
theorem dX5_give_0 : decode cX5_give 0 = .ok (.aload_n 0, 1) := by decide +kernel
theorem dX5_give_1 : decode cX5_give 1 = .ok (.getfield 10, 3) := by decide +kernel
theorem dX5_give_4 : decode cX5_give 4 = .ok (.iload_n 1, 1) := by decide +kernel
theorem dX5_give_5 : decode cX5_give 5 = .ok (.iload_n 2, 1) := by decide +kernel
theorem dX5_give_6 : decode cX5_give 6 = .ok (.iload_n 3, 1) := by decide +kernel
theorem dX5_give_7 : decode cX5_give 7 = .ok (.iload 4, 2) := by decide +kernel
theorem dX5_give_9 : decode cX5_give 9 = .ok (.invokevirtual 171, 3) := by decide +kernel
theorem dX5_give_12 : decode cX5_give 12 = .ok (.istore 5, 2) := by decide +kernel
theorem dX5_give_14 : decode cX5_give 14 = .ok (.iload 5, 2) := by decide +kernel
theorem dX5_give_16 : decode cX5_give 16 = .ok (.ifCond .ne 17, 3) := by decide +kernel
theorem dX5_give_19 : decode cX5_give 19 = .ok (.aload_n 0, 1) := by decide +kernel
theorem dX5_give_20 : decode cX5_give 20 = .ok (.getfield 22, 3) := by decide +kernel
theorem dX5_give_23 : decode cX5_give 23 = .ok (.invokevirtual 175, 3) := by decide +kernel
theorem dX5_give_26 : decode cX5_give 26 = .ok (.ifCond .eq 7, 3) := by decide +kernel
theorem dX5_give_29 : decode cX5_give 29 = .ok (.bipush 7, 2) := by decide +kernel
theorem dX5_give_31 : decode cX5_give 31 = .ok (.istore 5, 2) := by decide +kernel
theorem dX5_give_33 : decode cX5_give 33 = .ok (.iload 5, 2) := by decide +kernel
theorem dX5_give_35 : decode cX5_give 35 = .ok (.ifCond .eq 16, 3) := by decide +kernel
theorem dX5_give_38 : decode cX5_give 38 = .ok (.aload_n 0, 1) := by decide +kernel
theorem dX5_give_39 : decode cX5_give 39 = .ok (.dup, 1) := by decide +kernel
theorem dX5_give_40 : decode cX5_give 40 = .ok (.getfield 30, 3) := by decide +kernel
theorem dX5_give_43 : decode cX5_give 43 = .ok (.iconst 1, 1) := by decide +kernel
theorem dX5_give_44 : decode cX5_give 44 = .ok (.iadd, 1) := by decide +kernel
theorem dX5_give_45 : decode cX5_give 45 = .ok (.putfield 30, 3) := by decide +kernel
theorem dX5_give_48 : decode cX5_give 48 = .ok (.iload 5, 2) := by decide +kernel
theorem dX5_give_50 : decode cX5_give 50 = .ok (.ireturn, 1) := by decide +kernel
theorem dX5_give_51 : decode cX5_give 51 = .ok (.aload_n 0, 1) := by decide +kernel
theorem dX5_give_52 : decode cX5_give 52 = .ok (.iload_n 1, 1) := by decide +kernel
theorem dX5_give_53 : decode cX5_give 53 = .ok (.iload_n 2, 1) := by decide +kernel
theorem dX5_give_54 : decode cX5_give 54 = .ok (.iload_n 3, 1) := by decide +kernel
theorem dX5_give_55 : decode cX5_give 55 = .ok (.iload 4, 2) := by decide +kernel
theorem dX5_give_57 : decode cX5_give 57 = .ok (.invokevirtual 179, 3) := by decide +kernel
theorem dX5_give_60 : decode cX5_give 60 = .ok (.iconst 0, 1) := by decide +kernel
theorem dX5_give_61 : decode cX5_give 61 = .ok (.ireturn, 1) := by decide +kernel
theorem dX5_makeGiftByBook_0 : decode cX5_makeGiftByBook 0 = .ok (.aload_n 0, 1) := by decide +kernel
theorem dX5_makeGiftByBook_1 : decode cX5_makeGiftByBook 1 = .ok (.getfield 22, 3) := by decide +kernel
theorem dX5_makeGiftByBook_4 : decode cX5_makeGiftByBook 4 = .ok (.aload_n 0, 1) := by decide +kernel
theorem dX5_makeGiftByBook_5 : decode cX5_makeGiftByBook 5 = .ok (.getfield 10, 3) := by decide +kernel
theorem dX5_makeGiftByBook_8 : decode cX5_makeGiftByBook 8 = .ok (.iload_n 1, 1) := by decide +kernel
theorem dX5_makeGiftByBook_9 : decode cX5_makeGiftByBook 9 = .ok (.iload_n 2, 1) := by decide +kernel
theorem dX5_makeGiftByBook_10 : decode cX5_makeGiftByBook 10 = .ok (.iload_n 3, 1) := by decide +kernel
theorem dX5_makeGiftByBook_11 : decode cX5_makeGiftByBook 11 = .ok (.iload 4, 2) := by decide +kernel
theorem dX5_makeGiftByBook_13 : decode cX5_makeGiftByBook 13 = .ok (.invokevirtual 183, 3) := by decide +kernel
theorem dX5_makeGiftByBook_16 : decode cX5_makeGiftByBook 16 = .ok (.aload_n 0, 1) := by decide +kernel
theorem dX5_makeGiftByBook_17 : decode cX5_makeGiftByBook 17 = .ok (.getfield 10, 3) := by decide +kernel
theorem dX5_makeGiftByBook_20 : decode cX5_makeGiftByBook 20 = .ok (.iload_n 1, 1) := by decide +kernel
theorem dX5_makeGiftByBook_21 : decode cX5_makeGiftByBook 21 = .ok (.iload_n 2, 1) := by decide +kernel
theorem dX5_makeGiftByBook_22 : decode cX5_makeGiftByBook 22 = .ok (.iload_n 3, 1) := by decide +kernel
theorem dX5_makeGiftByBook_23 : decode cX5_makeGiftByBook 23 = .ok (.iload 4, 2) := by decide +kernel
theorem dX5_makeGiftByBook_25 : decode cX5_makeGiftByBook 25 = .ok (.invokevirtual 187, 3) := by decide +kernel
theorem dX5_makeGiftByBook_28 : decode cX5_makeGiftByBook 28 = .ok (.return_, 1) := by decide +kernel
theorem dX5_judge_0 : decode cX5_judge 0 = .ok (.aload_n 0, 1) := by decide +kernel
theorem dX5_judge_1 : decode cX5_judge 1 = .ok (.getfield 10, 3) := by decide +kernel
theorem dX5_judge_4 : decode cX5_judge 4 = .ok (.iload_n 1, 1) := by decide +kernel
theorem dX5_judge_5 : decode cX5_judge 5 = .ok (.iload_n 2, 1) := by decide +kernel
theorem dX5_judge_6 : decode cX5_judge 6 = .ok (.iload_n 3, 1) := by decide +kernel
theorem dX5_judge_7 : decode cX5_judge 7 = .ok (.iload 4, 2) := by decide +kernel
theorem dX5_judge_9 : decode cX5_judge 9 = .ok (.invokevirtual 171, 3) := by decide +kernel
theorem dX5_judge_12 : decode cX5_judge 12 = .ok (.ireturn, 1) := by decide +kernel
theorem dX5_undo_0 : decode cX5_undo 0 = .ok (.aload_n 0, 1) := by decide +kernel
theorem dX5_undo_1 : decode cX5_undo 1 = .ok (.getfield 22, 3) := by decide +kernel
theorem dX5_undo_4 : decode cX5_undo 4 = .ok (.invokevirtual 128, 3) := by decide +kernel
theorem dX5_undo_7 : decode cX5_undo 7 = .ok (.ifCond .ne 5, 3) := by decide +kernel
theorem dX5_undo_10 : decode cX5_undo 10 = .ok (.iconst (-1), 1) := by decide +kernel
theorem dX5_undo_11 : decode cX5_undo 11 = .ok (.ireturn, 1) := by decide +kernel
theorem dX5_undo_12 : decode cX5_undo 12 = .ok (.aload_n 0, 1) := by decide +kernel
theorem dX5_undo_13 : decode cX5_undo 13 = .ok (.getfield 22, 3) := by decide +kernel
theorem dX5_undo_16 : decode cX5_undo 16 = .ok (.aload_n 0, 1) := by decide +kernel
theorem dX5_undo_17 : decode cX5_undo 17 = .ok (.getfield 10, 3) := by decide +kernel
theorem dX5_undo_20 : decode cX5_undo 20 = .ok (.invokevirtual 190, 3) := by decide +kernel
theorem dX5_undo_23 : decode cX5_undo 23 = .ok (.aload_n 0, 1) := by decide +kernel
theorem dX5_undo_24 : decode cX5_undo 24 = .ok (.getfield 22, 3) := by decide +kernel
theorem dX5_undo_27 : decode cX5_undo 27 = .ok (.invokevirtual 128, 3) := by decide +kernel
theorem dX5_undo_30 : decode cX5_undo 30 = .ok (.ireturn, 1) := by decide +kernel
theorem dX5_gift_0 : decode cX5_gift 0 = .ok (.iload_n 1, 1) := by decide +kernel
theorem dX5_gift_1 : decode cX5_gift 1 = .ok (.ifCond .lt 23, 3) := by decide +kernel
theorem dX5_gift_4 : decode cX5_gift 4 = .ok (.iload_n 1, 1) := by decide +kernel
theorem dX5_gift_5 : decode cX5_gift 5 = .ok (.aload_n 0, 1) := by decide +kernel
theorem dX5_gift_6 : decode cX5_gift 6 = .ok (.getfield 22, 3) := by decide +kernel
theorem dX5_gift_9 : decode cX5_gift 9 = .ok (.invokevirtual 128, 3) := by decide +kernel
theorem dX5_gift_12 : decode cX5_gift 12 = .ok (.if_icmp .ge 12, 3) := by decide +kernel
theorem dX5_gift_15 : decode cX5_gift 15 = .ok (.iload_n 2, 1) := by decide +kernel
theorem dX5_gift_16 : decode cX5_gift 16 = .ok (.ifCond .lt 8, 3) := by decide +kernel
theorem dX5_gift_19 : decode cX5_gift 19 = .ok (.iload_n 2, 1) := by decide +kernel
theorem dX5_gift_20 : decode cX5_gift 20 = .ok (.iconst 4, 1) := by decide +kernel
theorem dX5_gift_21 : decode cX5_gift 21 = .ok (.if_icmp .le 11, 3) := by decide +kernel
theorem dX5_gift_24 : decode cX5_gift 24 = .ok (.new 129, 3) := by decide +kernel
theorem dX5_gift_27 : decode cX5_gift 27 = .ok (.dup, 1) := by decide +kernel
theorem dX5_gift_28 : decode cX5_gift 28 = .ok (.invokespecial 131, 3) := by decide +kernel
theorem dX5_gift_31 : decode cX5_gift 31 = .ok (.athrow, 1) := by decide +kernel
theorem dX5_gift_32 : decode cX5_gift 32 = .ok (.aload_n 0, 1) := by decide +kernel
theorem dX5_gift_33 : decode cX5_gift 33 = .ok (.getfield 22, 3) := by decide +kernel
theorem dX5_gift_36 : decode cX5_gift 36 = .ok (.iload_n 1, 1) := by decide +kernel
theorem dX5_gift_37 : decode cX5_gift 37 = .ok (.iload_n 2, 1) := by decide +kernel
theorem dX5_gift_38 : decode cX5_gift 38 = .ok (.invokevirtual 193, 3) := by decide +kernel
theorem dX5_gift_41 : decode cX5_gift 41 = .ok (.ireturn, 1) := by decide +kernel
theorem dX5_sets_0 : decode cX5_sets 0 = .ok (.aload_n 0, 1) := by decide +kernel
theorem dX5_sets_1 : decode cX5_sets 1 = .ok (.iload_n 1, 1) := by decide +kernel
theorem dX5_sets_2 : decode cX5_sets 2 = .ok (.invokevirtual 132, 3) := by decide +kernel
theorem dX5_sets_5 : decode cX5_sets 5 = .ok (.iconst 0, 1) := by decide +kernel
theorem dX5_sets_6 : decode cX5_sets 6 = .ok (.istore_n 2, 1) := by decide +kernel
theorem dX5_sets_7 : decode cX5_sets 7 = .ok (.aload_n 0, 1) := by decide +kernel
theorem dX5_sets_8 : decode cX5_sets 8 = .ok (.getfield 10, 3) := by decide +kernel
theorem dX5_sets_11 : decode cX5_sets 11 = .ok (.iload_n 1, 1) := by decide +kernel
theorem dX5_sets_12 : decode cX5_sets 12 = .ok (.iconst (-1), 1) := by decide +kernel
theorem dX5_sets_13 : decode cX5_sets 13 = .ok (.invokevirtual 197, 3) := by decide +kernel
theorem dX5_sets_16 : decode cX5_sets 16 = .ok (.istore_n 3, 1) := by decide +kernel
theorem dX5_sets_17 : decode cX5_sets 17 = .ok (.iconst 0, 1) := by decide +kernel
theorem dX5_sets_18 : decode cX5_sets 18 = .ok (.istore 4, 2) := by decide +kernel
theorem dX5_sets_20 : decode cX5_sets 20 = .ok (.iload 4, 2) := by decide +kernel
theorem dX5_sets_22 : decode cX5_sets 22 = .ok (.sipush 4096, 3) := by decide +kernel
theorem dX5_sets_25 : decode cX5_sets 25 = .ok (.if_icmp .ge 27, 3) := by decide +kernel
theorem dX5_sets_28 : decode cX5_sets 28 = .ok (.iload_n 3, 1) := by decide +kernel
theorem dX5_sets_29 : decode cX5_sets 29 = .ok (.iconst (-1), 1) := by decide +kernel
theorem dX5_sets_30 : decode cX5_sets 30 = .ok (.if_icmp .eq 22, 3) := by decide +kernel
theorem dX5_sets_33 : decode cX5_sets 33 = .ok (.iinc 2 1, 3) := by decide +kernel
theorem dX5_sets_36 : decode cX5_sets 36 = .ok (.aload_n 0, 1) := by decide +kernel
theorem dX5_sets_37 : decode cX5_sets 37 = .ok (.getfield 10, 3) := by decide +kernel
theorem dX5_sets_40 : decode cX5_sets 40 = .ok (.iload_n 1, 1) := by decide +kernel
theorem dX5_sets_41 : decode cX5_sets 41 = .ok (.iload_n 3, 1) := by decide +kernel
theorem dX5_sets_42 : decode cX5_sets 42 = .ok (.invokevirtual 197, 3) := by decide +kernel
theorem dX5_sets_45 : decode cX5_sets 45 = .ok (.istore_n 3, 1) := by decide +kernel
theorem dX5_sets_46 : decode cX5_sets 46 = .ok (.iinc 4 1, 3) := by decide +kernel
theorem dX5_sets_49 : decode cX5_sets 49 = .ok (.goto (-29), 3) := by decide +kernel
theorem dX5_sets_52 : decode cX5_sets 52 = .ok (.iload_n 2, 1) := by decide +kernel
theorem dX5_sets_53 : decode cX5_sets 53 = .ok (.ireturn, 1) := by decide +kernel
theorem dX5_choice_0 : decode cX5_choice 0 = .ok (.aload_n 0, 1) := by decide +kernel
theorem dX5_choice_1 : decode cX5_choice 1 = .ok (.iload_n 1, 1) := by decide +kernel
theorem dX5_choice_2 : decode cX5_choice 2 = .ok (.invokevirtual 132, 3) := by decide +kernel
theorem dX5_choice_5 : decode cX5_choice 5 = .ok (.aload_n 0, 1) := by decide +kernel
theorem dX5_choice_6 : decode cX5_choice 6 = .ok (.iload_n 2, 1) := by decide +kernel
theorem dX5_choice_7 : decode cX5_choice 7 = .ok (.iconst 2, 1) := by decide +kernel
theorem dX5_choice_8 : decode cX5_choice 8 = .ok (.invokevirtual 200, 3) := by decide +kernel
theorem dX5_choice_11 : decode cX5_choice 11 = .ok (.aload_n 0, 1) := by decide +kernel
theorem dX5_choice_12 : decode cX5_choice 12 = .ok (.getfield 10, 3) := by decide +kernel
theorem dX5_choice_15 : decode cX5_choice 15 = .ok (.iload_n 1, 1) := by decide +kernel
theorem dX5_choice_16 : decode cX5_choice 16 = .ok (.invokevirtual 204, 3) := by decide +kernel
theorem dX5_choice_19 : decode cX5_choice 19 = .ok (.istore_n 3, 1) := by decide +kernel
theorem dX5_choice_20 : decode cX5_choice 20 = .ok (.iload_n 3, 1) := by decide +kernel
theorem dX5_choice_21 : decode cX5_choice 21 = .ok (.iconst (-1), 1) := by decide +kernel
theorem dX5_choice_22 : decode cX5_choice 22 = .ok (.if_icmp .ne 5, 3) := by decide +kernel
theorem dX5_choice_25 : decode cX5_choice 25 = .ok (.iconst (-1), 1) := by decide +kernel
theorem dX5_choice_26 : decode cX5_choice 26 = .ok (.ireturn, 1) := by decide +kernel
theorem dX5_choice_27 : decode cX5_choice 27 = .ok (.iload_n 2, 1) := by decide +kernel
theorem dX5_choice_28 : decode cX5_choice 28 = .ok (.lookupswitch 40 #[(0, 28), (1, 30)], 28) := by decide +kernel
theorem dX5_choice_56 : decode cX5_choice 56 = .ok (.iload_n 3, 1) := by decide +kernel
theorem dX5_choice_57 : decode cX5_choice 57 = .ok (.ireturn, 1) := by decide +kernel
theorem dX5_choice_58 : decode cX5_choice 58 = .ok (.aload_n 0, 1) := by decide +kernel
theorem dX5_choice_59 : decode cX5_choice 59 = .ok (.getfield 10, 3) := by decide +kernel
theorem dX5_choice_62 : decode cX5_choice 62 = .ok (.iload_n 1, 1) := by decide +kernel
theorem dX5_choice_63 : decode cX5_choice 63 = .ok (.iload_n 3, 1) := by decide +kernel
theorem dX5_choice_64 : decode cX5_choice 64 = .ok (.invokevirtual 207, 3) := by decide +kernel
theorem dX5_choice_67 : decode cX5_choice 67 = .ok (.ireturn, 1) := by decide +kernel
theorem dX5_choice_68 : decode cX5_choice 68 = .ok (.aload_n 0, 1) := by decide +kernel
theorem dX5_choice_69 : decode cX5_choice 69 = .ok (.getfield 10, 3) := by decide +kernel
theorem dX5_choice_72 : decode cX5_choice 72 = .ok (.iload_n 1, 1) := by decide +kernel
theorem dX5_choice_73 : decode cX5_choice 73 = .ok (.invokevirtual 210, 3) := by decide +kernel
theorem dX5_choice_76 : decode cX5_choice 76 = .ok (.ireturn, 1) := by decide +kernel
theorem dX5_gap_0 : decode cX5_gap 0 = .ok (.aload_n 0, 1) := by decide +kernel
theorem dX5_gap_1 : decode cX5_gap 1 = .ok (.iload_n 1, 1) := by decide +kernel
theorem dX5_gap_2 : decode cX5_gap 2 = .ok (.invokevirtual 132, 3) := by decide +kernel
theorem dX5_gap_5 : decode cX5_gap 5 = .ok (.aload_n 0, 1) := by decide +kernel
theorem dX5_gap_6 : decode cX5_gap 6 = .ok (.getfield 10, 3) := by decide +kernel
theorem dX5_gap_9 : decode cX5_gap 9 = .ok (.getfield 141, 3) := by decide +kernel
theorem dX5_gap_12 : decode cX5_gap 12 = .ok (.iload_n 1, 1) := by decide +kernel
theorem dX5_gap_13 : decode cX5_gap 13 = .ok (.iaload, 1) := by decide +kernel
theorem dX5_gap_14 : decode cX5_gap 14 = .ok (.istore_n 2, 1) := by decide +kernel
theorem dX5_gap_15 : decode cX5_gap 15 = .ok (.iload_n 2, 1) := by decide +kernel
theorem dX5_gap_16 : decode cX5_gap 16 = .ok (.ifCond .ne 5, 3) := by decide +kernel
theorem dX5_gap_19 : decode cX5_gap 19 = .ok (.iconst (-1), 1) := by decide +kernel
theorem dX5_gap_20 : decode cX5_gap 20 = .ok (.ireturn, 1) := by decide +kernel
theorem dX5_gap_21 : decode cX5_gap 21 = .ok (.aload_n 0, 1) := by decide +kernel
theorem dX5_gap_22 : decode cX5_gap 22 = .ok (.getfield 10, 3) := by decide +kernel
theorem dX5_gap_25 : decode cX5_gap 25 = .ok (.iload_n 1, 1) := by decide +kernel
theorem dX5_gap_26 : decode cX5_gap 26 = .ok (.invokevirtual 213, 3) := by decide +kernel
theorem dX5_gap_29 : decode cX5_gap 29 = .ok (.istore_n 3, 1) := by decide +kernel
theorem dX5_gap_30 : decode cX5_gap 30 = .ok (.iload_n 3, 1) := by decide +kernel
theorem dX5_gap_31 : decode cX5_gap 31 = .ok (.iconst (-1), 1) := by decide +kernel
theorem dX5_gap_32 : decode cX5_gap 32 = .ok (.if_icmp .ne 7, 3) := by decide +kernel
theorem dX5_gap_35 : decode cX5_gap 35 = .ok (.iload_n 2, 1) := by decide +kernel
theorem dX5_gap_36 : decode cX5_gap 36 = .ok (.goto 16, 3) := by decide +kernel
theorem dX5_gap_39 : decode cX5_gap 39 = .ok (.iconst 0, 1) := by decide +kernel
theorem dX5_gap_40 : decode cX5_gap 40 = .ok (.iload_n 3, 1) := by decide +kernel
theorem dX5_gap_41 : decode cX5_gap 41 = .ok (.aload_n 0, 1) := by decide +kernel
theorem dX5_gap_42 : decode cX5_gap 42 = .ok (.getfield 10, 3) := by decide +kernel
theorem dX5_gap_45 : decode cX5_gap 45 = .ok (.getfield 122, 3) := by decide +kernel
theorem dX5_gap_48 : decode cX5_gap 48 = .ok (.isub, 1) := by decide +kernel
theorem dX5_gap_49 : decode cX5_gap 49 = .ok (.invokestatic 216, 3) := by decide +kernel
theorem dX5_gap_52 : decode cX5_gap 52 = .ok (.ireturn, 1) := by decide +kernel
theorem dX5_week_0 : decode cX5_week 0 = .ok (.aload_n 0, 1) := by decide +kernel
theorem dX5_week_1 : decode cX5_week 1 = .ok (.iload_n 1, 1) := by decide +kernel
theorem dX5_week_2 : decode cX5_week 2 = .ok (.iconst 2, 1) := by decide +kernel
theorem dX5_week_3 : decode cX5_week 3 = .ok (.invokevirtual 200, 3) := by decide +kernel
theorem dX5_week_6 : decode cX5_week 6 = .ok (.aload_n 0, 1) := by decide +kernel
theorem dX5_week_7 : decode cX5_week 7 = .ok (.getfield 62, 3) := by decide +kernel
theorem dX5_week_10 : decode cX5_week 10 = .ok (.aload_n 0, 1) := by decide +kernel
theorem dX5_week_11 : decode cX5_week 11 = .ok (.getfield 10, 3) := by decide +kernel
theorem dX5_week_14 : decode cX5_week 14 = .ok (.invokevirtual 221, 3) := by decide +kernel
theorem dX5_week_17 : decode cX5_week 17 = .ok (.istore_n 2, 1) := by decide +kernel
theorem dX5_week_18 : decode cX5_week 18 = .ok (.iload_n 2, 1) := by decide +kernel
theorem dX5_week_19 : decode cX5_week 19 = .ok (.ifCond .eq 7, 3) := by decide +kernel
theorem dX5_week_22 : decode cX5_week 22 = .ok (.aload_n 0, 1) := by decide +kernel
theorem dX5_week_23 : decode cX5_week 23 = .ok (.invokevirtual 225, 3) := by decide +kernel
theorem dX5_week_26 : decode cX5_week 26 = .ok (.aload_n 0, 1) := by decide +kernel
theorem dX5_week_27 : decode cX5_week 27 = .ok (.getfield 62, 3) := by decide +kernel
theorem dX5_week_30 : decode cX5_week 30 = .ok (.invokevirtual 228, 3) := by decide +kernel
theorem dX5_week_33 : decode cX5_week 33 = .ok (.ifCond .eq 6, 3) := by decide +kernel
theorem dX5_week_36 : decode cX5_week 36 = .ok (.bipush (-2), 2) := by decide +kernel
theorem dX5_week_38 : decode cX5_week 38 = .ok (.ireturn, 1) := by decide +kernel
theorem dX5_week_39 : decode cX5_week 39 = .ok (.iload_n 1, 1) := by decide +kernel
theorem dX5_week_40 : decode cX5_week 40 = .ok (.lookupswitch 46 #[(0, 28), (1, 38)], 28) := by decide +kernel
theorem dX5_week_68 : decode cX5_week 68 = .ok (.iload_n 2, 1) := by decide +kernel
theorem dX5_week_69 : decode cX5_week 69 = .ok (.ifCond .eq 7, 3) := by decide +kernel
theorem dX5_week_72 : decode cX5_week 72 = .ok (.iconst 1, 1) := by decide +kernel
theorem dX5_week_73 : decode cX5_week 73 = .ok (.goto 4, 3) := by decide +kernel
theorem dX5_week_76 : decode cX5_week 76 = .ok (.iconst 0, 1) := by decide +kernel
theorem dX5_week_77 : decode cX5_week 77 = .ok (.ireturn, 1) := by decide +kernel
theorem dX5_week_78 : decode cX5_week 78 = .ok (.aload_n 0, 1) := by decide +kernel
theorem dX5_week_79 : decode cX5_week 79 = .ok (.getfield 62, 3) := by decide +kernel
theorem dX5_week_82 : decode cX5_week 82 = .ok (.invokevirtual 231, 3) := by decide +kernel
theorem dX5_week_85 : decode cX5_week 85 = .ok (.ireturn, 1) := by decide +kernel
theorem dX5_week_86 : decode cX5_week 86 = .ok (.aload_n 0, 1) := by decide +kernel
theorem dX5_week_87 : decode cX5_week 87 = .ok (.getfield 62, 3) := by decide +kernel
theorem dX5_week_90 : decode cX5_week 90 = .ok (.invokevirtual 234, 3) := by decide +kernel
theorem dX5_week_93 : decode cX5_week 93 = .ok (.ireturn, 1) := by decide +kernel
theorem dX5_keepOrder_0 : decode cX5_keepOrder 0 = .ok (.aload_n 0, 1) := by decide +kernel
theorem dX5_keepOrder_1 : decode cX5_keepOrder 1 = .ok (.aload_n 0, 1) := by decide +kernel
theorem dX5_keepOrder_2 : decode cX5_keepOrder 2 = .ok (.getfield 62, 3) := by decide +kernel
theorem dX5_keepOrder_5 : decode cX5_keepOrder 5 = .ok (.invokevirtual 237, 3) := by decide +kernel
theorem dX5_keepOrder_8 : decode cX5_keepOrder 8 = .ok (.bipush 6, 2) := by decide +kernel
theorem dX5_keepOrder_10 : decode cX5_keepOrder 10 = .ok (.invokestatic 238, 3) := by decide +kernel
theorem dX5_keepOrder_13 : decode cX5_keepOrder 13 = .ok (.putfield 70, 3) := by decide +kernel
theorem dX5_keepOrder_16 : decode cX5_keepOrder 16 = .ok (.iconst 0, 1) := by decide +kernel
theorem dX5_keepOrder_17 : decode cX5_keepOrder 17 = .ok (.istore_n 1, 1) := by decide +kernel
theorem dX5_keepOrder_18 : decode cX5_keepOrder 18 = .ok (.iload_n 1, 1) := by decide +kernel
theorem dX5_keepOrder_19 : decode cX5_keepOrder 19 = .ok (.aload_n 0, 1) := by decide +kernel
theorem dX5_keepOrder_20 : decode cX5_keepOrder 20 = .ok (.getfield 70, 3) := by decide +kernel
theorem dX5_keepOrder_23 : decode cX5_keepOrder 23 = .ok (.if_icmp .ge 23, 3) := by decide +kernel
theorem dX5_keepOrder_26 : decode cX5_keepOrder 26 = .ok (.aload_n 0, 1) := by decide +kernel
theorem dX5_keepOrder_27 : decode cX5_keepOrder 27 = .ok (.getfield 66, 3) := by decide +kernel
theorem dX5_keepOrder_30 : decode cX5_keepOrder 30 = .ok (.iload_n 1, 1) := by decide +kernel
theorem dX5_keepOrder_31 : decode cX5_keepOrder 31 = .ok (.aload_n 0, 1) := by decide +kernel
theorem dX5_keepOrder_32 : decode cX5_keepOrder 32 = .ok (.getfield 62, 3) := by decide +kernel
theorem dX5_keepOrder_35 : decode cX5_keepOrder 35 = .ok (.iload_n 1, 1) := by decide +kernel
theorem dX5_keepOrder_36 : decode cX5_keepOrder 36 = .ok (.invokevirtual 241, 3) := by decide +kernel
theorem dX5_keepOrder_39 : decode cX5_keepOrder 39 = .ok (.iastore, 1) := by decide +kernel
theorem dX5_keepOrder_40 : decode cX5_keepOrder 40 = .ok (.iinc 1 1, 3) := by decide +kernel
theorem dX5_keepOrder_43 : decode cX5_keepOrder 43 = .ok (.goto (-25), 3) := by decide +kernel
theorem dX5_keepOrder_46 : decode cX5_keepOrder 46 = .ok (.return_, 1) := by decide +kernel
theorem dX5_order_0 : decode cX5_order 0 = .ok (.iload_n 1, 1) := by decide +kernel
theorem dX5_order_1 : decode cX5_order 1 = .ok (.ifCond .lt 11, 3) := by decide +kernel
theorem dX5_order_4 : decode cX5_order 4 = .ok (.iload_n 1, 1) := by decide +kernel
theorem dX5_order_5 : decode cX5_order 5 = .ok (.aload_n 0, 1) := by decide +kernel
theorem dX5_order_6 : decode cX5_order 6 = .ok (.getfield 70, 3) := by decide +kernel
theorem dX5_order_9 : decode cX5_order 9 = .ok (.if_icmp .lt 11, 3) := by decide +kernel
theorem dX5_order_12 : decode cX5_order 12 = .ok (.new 129, 3) := by decide +kernel
theorem dX5_order_15 : decode cX5_order 15 = .ok (.dup, 1) := by decide +kernel
theorem dX5_order_16 : decode cX5_order 16 = .ok (.invokespecial 131, 3) := by decide +kernel
theorem dX5_order_19 : decode cX5_order 19 = .ok (.athrow, 1) := by decide +kernel
theorem dX5_order_20 : decode cX5_order 20 = .ok (.aload_n 0, 1) := by decide +kernel
theorem dX5_order_21 : decode cX5_order 21 = .ok (.getfield 66, 3) := by decide +kernel
theorem dX5_order_24 : decode cX5_order 24 = .ok (.iload_n 1, 1) := by decide +kernel
theorem dX5_order_25 : decode cX5_order 25 = .ok (.iaload, 1) := by decide +kernel
theorem dX5_order_26 : decode cX5_order 26 = .ok (.ireturn, 1) := by decide +kernel
theorem dX5_get_0 : decode cX5_get 0 = .ok (.aload_n 0, 1) := by decide +kernel
theorem dX5_get_1 : decode cX5_get 1 = .ok (.iload_n 1, 1) := by decide +kernel
theorem dX5_get_2 : decode cX5_get 2 = .ok (.invokevirtual 132, 3) := by decide +kernel
theorem dX5_get_5 : decode cX5_get 5 = .ok (.aload_n 0, 1) := by decide +kernel
theorem dX5_get_6 : decode cX5_get 6 = .ok (.iload_n 2, 1) := by decide +kernel
theorem dX5_get_7 : decode cX5_get 7 = .ok (.invokevirtual 156, 3) := by decide +kernel
theorem dX5_get_10 : decode cX5_get 10 = .ok (.aload_n 0, 1) := by decide +kernel
theorem dX5_get_11 : decode cX5_get 11 = .ok (.getfield 73, 3) := by decide +kernel
theorem dX5_get_14 : decode cX5_get 14 = .ok (.ifnonnull 14, 3) := by decide +kernel
theorem dX5_get_17 : decode cX5_get 17 = .ok (.aload_n 0, 1) := by decide +kernel
theorem dX5_get_18 : decode cX5_get 18 = .ok (.new 244, 3) := by decide +kernel
theorem dX5_get_21 : decode cX5_get 21 = .ok (.dup, 1) := by decide +kernel
theorem dX5_get_22 : decode cX5_get 22 = .ok (.invokespecial 246, 3) := by decide +kernel
theorem dX5_get_25 : decode cX5_get 25 = .ok (.putfield 73, 3) := by decide +kernel
theorem dX5_get_28 : decode cX5_get 28 = .ok (.aload_n 0, 1) := by decide +kernel
theorem dX5_get_29 : decode cX5_get 29 = .ok (.getfield 73, 3) := by decide +kernel
theorem dX5_get_32 : decode cX5_get 32 = .ok (.aload_n 0, 1) := by decide +kernel
theorem dX5_get_33 : decode cX5_get 33 = .ok (.getfield 10, 3) := by decide +kernel
theorem dX5_get_36 : decode cX5_get 36 = .ok (.iload_n 1, 1) := by decide +kernel
theorem dX5_get_37 : decode cX5_get 37 = .ok (.iload_n 2, 1) := by decide +kernel
theorem dX5_get_38 : decode cX5_get 38 = .ok (.invokevirtual 247, 3) := by decide +kernel
theorem dX5_get_41 : decode cX5_get 41 = .ok (.ireturn, 1) := by decide +kernel
theorem dX5_cut_0 : decode cX5_cut 0 = .ok (.aload_n 0, 1) := by decide +kernel
theorem dX5_cut_1 : decode cX5_cut 1 = .ok (.iload_n 1, 1) := by decide +kernel
theorem dX5_cut_2 : decode cX5_cut 2 = .ok (.invokevirtual 132, 3) := by decide +kernel
theorem dX5_cut_5 : decode cX5_cut 5 = .ok (.aload_n 0, 1) := by decide +kernel
theorem dX5_cut_6 : decode cX5_cut 6 = .ok (.iload_n 2, 1) := by decide +kernel
theorem dX5_cut_7 : decode cX5_cut 7 = .ok (.iconst 1, 1) := by decide +kernel
theorem dX5_cut_8 : decode cX5_cut 8 = .ok (.invokevirtual 200, 3) := by decide +kernel
theorem dX5_cut_11 : decode cX5_cut 11 = .ok (.iconst 0, 1) := by decide +kernel
theorem dX5_cut_12 : decode cX5_cut 12 = .ok (.istore_n 3, 1) := by decide +kernel
theorem dX5_cut_13 : decode cX5_cut 13 = .ok (.iconst (-1), 1) := by decide +kernel
theorem dX5_cut_14 : decode cX5_cut 14 = .ok (.istore 4, 2) := by decide +kernel
theorem dX5_cut_16 : decode cX5_cut 16 = .ok (.aload_n 0, 1) := by decide +kernel
theorem dX5_cut_17 : decode cX5_cut 17 = .ok (.getfield 10, 3) := by decide +kernel
theorem dX5_cut_20 : decode cX5_cut 20 = .ok (.iload_n 1, 1) := by decide +kernel
theorem dX5_cut_21 : decode cX5_cut 21 = .ok (.invokevirtual 251, 3) := by decide +kernel
theorem dX5_cut_24 : decode cX5_cut 24 = .ok (.ifCond .eq 123, 3) := by decide +kernel
theorem dX5_cut_27 : decode cX5_cut 27 = .ok (.aload_n 0, 1) := by decide +kernel
theorem dX5_cut_28 : decode cX5_cut 28 = .ok (.getfield 10, 3) := by decide +kernel
theorem dX5_cut_31 : decode cX5_cut 31 = .ok (.iload_n 1, 1) := by decide +kernel
theorem dX5_cut_32 : decode cX5_cut 32 = .ok (.iconst (-1), 1) := by decide +kernel
theorem dX5_cut_33 : decode cX5_cut 33 = .ok (.invokevirtual 197, 3) := by decide +kernel
theorem dX5_cut_36 : decode cX5_cut 36 = .ok (.iconst (-1), 1) := by decide +kernel
theorem dX5_cut_37 : decode cX5_cut 37 = .ok (.if_icmp .ne 110, 3) := by decide +kernel
theorem dX5_cut_40 : decode cX5_cut 40 = .ok (.iconst 0, 1) := by decide +kernel
